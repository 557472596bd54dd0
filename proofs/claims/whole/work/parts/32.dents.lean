/-! dents as mathematics: how many sets of the first K pieces weigh in a place (in every place) what is told; which is least -/
def n_one (s : gS) (p : Nat) : Nat → Int → Nat
  | 0, d => if d = 0 then 1 else 0
  | K + 1, d => n_one s p K d + (if g_wh s K = p then n_one s p K (d - g_w s K) else 0)
def n_pr (f : Nat → Nat) : Nat → Nat
  | 0 => 1
  | n + 1 => n_pr f n * f n
def n_all (s : gS) : Nat → (Nat → Int) → Nat
  | 0, d => n_pr (fun p => if d p = 0 then 1 else 0) 6
  | K + 1, d => n_all s K d + (if g_wh s K < 6 then n_all s K (fun p => if p = g_wh s K then d p - g_w s K else d p) else 0)
theorem n_pr_cong {f g : Nat → Nat} : ∀ {n : Nat}, (∀ p, p < n → f p = g p) → n_pr f n = n_pr g n
  | 0, _ => rfl
  | n + 1, h => by
    show n_pr f n * f n = n_pr g n * g n
    rw [n_pr_cong (fun p hp => h p (by omega)), h n (by omega)]
theorem n_pr_upd {f g h : Nat → Nat} {q : Nat} (e : ∀ p, p ≠ q → f p = g p ∧ h p = g p) (eq : f q = g q + h q) : ∀ {n : Nat}, q < n → n_pr f n = n_pr g n + n_pr h n
  | 0, hq => absurd hq (Nat.not_lt_zero q)
  | n + 1, hq => by
    show n_pr f n * f n = n_pr g n * g n + n_pr h n * h n
    by_cases z : q = n
    · subst z
      rw [n_pr_cong (f := f) (g := g) (fun p hp => (e p (by omega)).1), n_pr_cong (f := h) (g := g) (fun p hp => (e p (by omega)).2), eq, Nat.mul_add]
    · rw [n_pr_upd e eq (show q < n by omega), (e n (by omega)).1, (e n (by omega)).2, Nat.add_mul]
theorem n_pr_0 (d : Nat → Int) : ∀ n : Nat, n_pr (fun p => if d p = 0 then 1 else 0) n = if ∀ p, p < n → d p = 0 then 1 else 0
  | 0 => by rw [if_pos (fun p hp => absurd hp (Nat.not_lt_zero p))]; rfl
  | n + 1 => by
    show n_pr (fun p => if d p = 0 then 1 else 0) n * (if d n = 0 then 1 else 0) = _
    rw [n_pr_0 d n]
    by_cases a : ∀ p, p < n → d p = 0
    · rw [if_pos a]
      by_cases b : d n = 0
      · rw [if_pos b, if_pos (fun p hp => by rcases (show p < n ∨ p = n by omega) with z | z; exact a p z; rw [z]; exact b)]
      · rw [if_neg b, if_neg (fun z => b (z n (by omega)))]
    · rw [if_neg a, Nat.zero_mul, if_neg (fun z => a (fun p hp => z p (by omega)))]
/-- the places are independent -/
theorem n_prod (s : gS) : ∀ (K : Nat) (d : Nat → Int), n_all s K d = n_pr (fun p => n_one s p K (d p)) 6
  | 0, d => rfl
  | K + 1, d => by
    show n_all s K d + (if g_wh s K < 6 then n_all s K (fun p => if p = g_wh s K then d p - g_w s K else d p) else 0) = _
    by_cases hq : g_wh s K < 6
    · rw [if_pos hq, n_prod s K d, n_prod s K]
      refine (n_pr_upd (q := g_wh s K) (fun p hp => ⟨?_, ?_⟩) ?_ hq).symm
      · show n_one s p K (d p) + (if g_wh s K = p then n_one s p K (d p - g_w s K) else 0) = n_one s p K (d p)
        rw [if_neg (fun z => hp z.symm), Nat.add_zero]
      · show n_one s p K (if p = g_wh s K then d p - g_w s K else d p) = n_one s p K (d p)
        rw [if_neg hp]
      · show n_one s (g_wh s K) K (d (g_wh s K)) + (if g_wh s K = g_wh s K then n_one s (g_wh s K) K (d (g_wh s K) - g_w s K) else 0) = n_one s (g_wh s K) K (d (g_wh s K)) + n_one s (g_wh s K) K (if g_wh s K = g_wh s K then d (g_wh s K) - g_w s K else d (g_wh s K))
        rw [if_pos rfl, if_pos rfl]
    · rw [if_neg hq, Nat.add_zero, n_prod s K d]
      refine n_pr_cong (fun p hp => ?_)
      show n_one s p K (d p) = n_one s p K (d p) + (if g_wh s K = p then n_one s p K (d p - g_w s K) else 0)
      rw [if_neg (by omega), Nat.add_zero]
def o_or (a b : Option Nat) : Option Nat := match a with
  | some x => some x
  | none => b
def l_one (s : gS) (p : Nat) : Nat → Int → Option Nat
  | 0, d => if d = 0 then some 0 else none
  | K + 1, d => o_or (l_one s p K d) (if g_wh s K = p then (l_one s p K (d - g_w s K)).map (· + 2 ^ K) else none)
def o_add (a b : Option Nat) : Option Nat := match a, b with
  | some x, some y => some (x + y)
  | _, _ => none
def o_sum (f : Nat → Option Nat) : Nat → Option Nat
  | 0 => some 0
  | n + 1 => o_add (o_sum f n) (f n)
def l_all (s : gS) : Nat → (Nat → Int) → Option Nat
  | 0, d => o_sum (fun p => if d p = 0 then some 0 else none) 6
  | K + 1, d => o_or (l_all s K d) (if g_wh s K < 6 then (l_all s K (fun p => if p = g_wh s K then d p - g_w s K else d p)).map (· + 2 ^ K) else none)
theorem o_sum_cong {f g : Nat → Option Nat} : ∀ {n : Nat}, (∀ p, p < n → f p = g p) → o_sum f n = o_sum g n
  | 0, _ => rfl
  | n + 1, h => by
    show o_add (o_sum f n) (f n) = o_add (o_sum g n) (g n)
    rw [o_sum_cong (fun p hp => h p (by omega)), h n (by omega)]
theorem o_law1 (a b c : Option Nat) (k : Nat) : o_add a (o_or b (c.map (· + k))) = o_or (o_add a b) ((o_add a c).map (· + k)) := by
  cases a <;> cases b <;> cases c <;> simp [o_add, o_or, Nat.add_assoc]
theorem o_law2 (a b c : Option Nat) (k : Nat) : o_add (o_or a (b.map (· + k))) c = o_or (o_add a c) ((o_add b c).map (· + k)) := by
  cases a <;> cases b <;> cases c <;> simp [o_add, o_or]
  omega
theorem o_sum_upd {f g h : Nat → Option Nat} {q k : Nat} (e : ∀ p, p ≠ q → f p = g p ∧ h p = g p) (eq : f q = o_or (g q) ((h q).map (· + k))) : ∀ {n : Nat}, q < n → o_sum f n = o_or (o_sum g n) ((o_sum h n).map (· + k))
  | 0, hq => absurd hq (Nat.not_lt_zero q)
  | n + 1, hq => by
    show o_add (o_sum f n) (f n) = o_or (o_add (o_sum g n) (g n)) ((o_add (o_sum h n) (h n)).map (· + k))
    by_cases z : q = n
    · subst z
      rw [o_sum_cong (f := f) (g := g) (fun p hp => (e p (by omega)).1), o_sum_cong (f := h) (g := g) (fun p hp => (e p (by omega)).2), eq, o_law1]
    · rw [o_sum_upd e eq (show q < n by omega), (e n (by omega)).1, (e n (by omega)).2, o_law2]
theorem o_sum_0 (d : Nat → Int) : ∀ n : Nat, o_sum (fun p => if d p = 0 then some 0 else none) n = if ∀ p, p < n → d p = 0 then some 0 else none
  | 0 => by rw [if_pos (fun p hp => absurd hp (Nat.not_lt_zero p))]; rfl
  | n + 1 => by
    show o_add (o_sum (fun p => if d p = 0 then some 0 else none) n) (if d n = 0 then some 0 else none) = _
    rw [o_sum_0 d n]
    by_cases a : ∀ p, p < n → d p = 0
    · rw [if_pos a]
      by_cases b : d n = 0
      · rw [if_pos b, if_pos (fun p hp => by rcases (show p < n ∨ p = n by omega) with z | z; exact a p z; rw [z]; exact b)]; rfl
      · rw [if_neg b, if_neg (fun z => b (z n (by omega)))]; rfl
    · rw [if_neg a]
      show none = _
      rw [if_neg (fun z => a (fun p hp => z p (by omega)))]
/-- the least set is that of the places' least -/
theorem l_osum (s : gS) : ∀ (K : Nat) (d : Nat → Int), l_all s K d = o_sum (fun p => l_one s p K (d p)) 6
  | 0, d => rfl
  | K + 1, d => by
    show o_or (l_all s K d) (if g_wh s K < 6 then (l_all s K (fun p => if p = g_wh s K then d p - g_w s K else d p)).map (· + 2 ^ K) else none) = _
    have nor : ∀ a : Option Nat, o_or a none = a := fun a => by cases a <;> rfl
    by_cases hq : g_wh s K < 6
    · rw [if_pos hq, l_osum s K d, l_osum s K]
      refine (o_sum_upd (q := g_wh s K) (fun p hp => ⟨?_, ?_⟩) ?_ hq).symm
      · show o_or (l_one s p K (d p)) (if g_wh s K = p then (l_one s p K (d p - g_w s K)).map (· + 2 ^ K) else none) = l_one s p K (d p)
        rw [if_neg (fun z => hp z.symm), nor]
      · show l_one s p K (if p = g_wh s K then d p - g_w s K else d p) = l_one s p K (d p)
        rw [if_neg hp]
      · show o_or (l_one s (g_wh s K) K (d (g_wh s K))) (if g_wh s K = g_wh s K then (l_one s (g_wh s K) K (d (g_wh s K) - g_w s K)).map (· + 2 ^ K) else none) = o_or (l_one s (g_wh s K) K (d (g_wh s K))) ((l_one s (g_wh s K) K (if g_wh s K = g_wh s K then d (g_wh s K) - g_w s K else d (g_wh s K))).map (· + 2 ^ K))
        rw [if_pos rfl, if_pos rfl]
    · rw [if_neg hq, nor, l_osum s K d]
      refine o_sum_cong (fun p hp => ?_)
      show l_one s p K (d p) = o_or (l_one s p K (d p)) (if g_wh s K = p then (l_one s p K (d p - g_w s K)).map (· + 2 ^ K) else none)
      rw [if_neg (by omega), nor]
/-- there is a least one if there is one -/
theorem l_n (s : gS) (p : Nat) : ∀ (K : Nat) (d : Int), l_one s p K d = none ↔ n_one s p K d = 0
  | 0, d => by
    show (if d = 0 then some 0 else none) = none ↔ (if d = 0 then 1 else 0) = 0
    by_cases e : d = 0
    · rw [if_pos e, if_pos e]; exact ⟨fun z => absurd z (by simp), fun z => absurd z (by omega)⟩
    · rw [if_neg e, if_neg e]; exact ⟨fun _ => rfl, fun _ => rfl⟩
  | K + 1, d => by
    show o_or (l_one s p K d) (if g_wh s K = p then (l_one s p K (d - g_w s K)).map (· + 2 ^ K) else none) = none ↔ n_one s p K d + (if g_wh s K = p then n_one s p K (d - g_w s K) else 0) = 0
    have h1 := l_n s p K d
    have h2 := l_n s p K (d - g_w s K)
    by_cases e : g_wh s K = p
    · rw [if_pos e, if_pos e]
      cases z : l_one s p K d with
      | some x =>
        rw [z] at h1
        exact ⟨fun y => absurd y (by simp [o_or]), fun y => absurd (h1.mpr (by omega)) (by simp)⟩
      | none =>
        have y := h1.mp z
        rw [y, Nat.zero_add, ← h2]
        cases l_one s p K (d - g_w s K) <;> simp [o_or]
    · rw [if_neg e, if_neg e, Nat.add_zero, ← h1]
      cases l_one s p K d <;> simp [o_or]
