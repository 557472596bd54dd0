/-! the least sets of the places, joined: their bits lie apart -/
theorem n_or {a b : Nat} (ha : a < 4096) (hb : b < 4096) (h : a &&& b = 0) : a + b = a ||| b := by
  have h1 : BitVec.ofNat 32 a &&& BitVec.ofNat 32 b = 0#32 := by
    rw [← BitVec.ofNat_and, h]
  have h2 := BitVec.add_eq_or_of_and_eq_zero _ _ h1
  have h3 : a ||| b < 2 ^ 12 := Nat.or_lt_two_pow (by omega) (by omega)
  have h4 := congrArg BitVec.toNat h2
  rw [BitVec.toNat_add, BitVec.toNat_or, BitVec.toNat_ofNat, BitVec.toNat_ofNat, Nat.mod_eq_of_lt (show a < 2 ^ 32 by omega), Nat.mod_eq_of_lt (show b < 2 ^ 32 by omega), Nat.mod_eq_of_lt (by omega)] at h4
  exact h4
theorem l_ebits (s : gS) (p : Nat) : ∀ (K : Nat) (d : Int) (x : Nat), l_one s p K d = some x → x < 2 ^ K ∧ ∀ j, x.testBit j = true → g_wh s j = p
  | 0, d, x, h => by
    have h2 : (if d = 0 then some 0 else none) = some x := h
    by_cases e : d = 0
    · rw [if_pos e] at h2
      have e2 := Option.some.inj h2
      subst e2
      exact ⟨by decide, fun j hj => absurd hj (by simp)⟩
    · rw [if_neg e] at h2; exact absurd h2 (by simp)
  | K + 1, d, x, h => by
    have hp2 : 2 ^ (K + 1) = 2 ^ K + 2 ^ K := by rw [Nat.pow_succ]; omega
    have h2 : o_or (l_one s p K d) (if g_wh s K = p then (l_one s p K (d - g_w s K)).map (· + 2 ^ K) else none) = some x := h
    cases z : l_one s p K d with
    | some y =>
      rw [z] at h2
      have e2 : y = x := Option.some.inj h2
      subst e2
      have q := l_ebits s p K d y z
      exact ⟨by omega, q.2⟩
    | none =>
      rw [z] at h2
      have h3 : (if g_wh s K = p then (l_one s p K (d - g_w s K)).map (· + 2 ^ K) else none) = some x := h2
      by_cases e : g_wh s K = p
      · rw [if_pos e] at h3
        cases z2 : l_one s p K (d - g_w s K) with
        | none => rw [z2] at h3; exact absurd h3 (by simp)
        | some y =>
          rw [z2] at h3
          have e3 : y + 2 ^ K = x := Option.some.inj h3
          have e4 : x = 2 ^ K + y := by omega
          subst e4
          have q := l_ebits s p K (d - g_w s K) y z2
          refine ⟨by omega, fun j hj => ?_⟩
          rw [e_tb q.1] at hj
          by_cases a : j < K
          · rw [if_pos a] at hj; exact q.2 j hj
          · rw [if_neg a] at hj
            by_cases b : j = K
            · rw [b]; exact e
            · rw [if_neg b] at hj; exact absurd hj (by decide)
      · rw [if_neg e] at h3; exact absurd h3 (by simp)
def l_acc (s : gS) (d : Nat → Int) (i : Nat) : Nat := fb_sm (fun p => (l_one s p (g_n s) (d p)).getD 0) i
theorem l_ebits0 {s : gS} (h : gInv s) (p : Nat) (d : Int) : (l_one s p (g_n s) d).getD 0 < 4096 ∧ ∀ j, ((l_one s p (g_n s) d).getD 0).testBit j = true → g_wh s j = p := by
  cases z : l_one s p (g_n s) d with
  | none => exact ⟨by decide, fun j hj => absurd hj (by simp)⟩
  | some x =>
    have q := l_ebits s p _ d x z
    have : 2 ^ g_n s ≤ 2 ^ 12 := Nat.pow_le_pow_right (by decide) h.1
    exact ⟨by show x < 4096; omega, q.2⟩
theorem l_accs {s : gS} (h : gInv s) (d : Nat → Int) : ∀ i, l_acc s d i < 4096 ∧ (∀ j, (l_acc s d i).testBit j = true → g_wh s j < i) ∧ l_acc s d (i + 1) = l_acc s d i ||| (l_one s i (g_n s) (d i)).getD 0 := by
    intro i
    have go : ∀ i, l_acc s d i < 4096 ∧ (∀ j, (l_acc s d i).testBit j = true → g_wh s j < i) := by
      intro i
      induction i with
      | zero => exact ⟨(show 0 < 4096 by decide), fun j hj => absurd hj (by show ¬ (Nat.testBit 0 j = true); simp)⟩
      | succ i ih =>
        have q := l_ebits0 h i (d i)
        have e0 : l_acc s d i &&& (l_one s i (g_n s) (d i)).getD 0 = 0 := by
          apply Nat.eq_of_testBit_eq
          intro j
          rw [Nat.testBit_and, Nat.zero_testBit]
          cases u : (l_acc s d i).testBit j with
          | false => rfl
          | true =>
            cases v : ((l_one s i (g_n s) (d i)).getD 0).testBit j with
            | false => rfl
            | true => have := ih.2 j u; have := q.2 j v; omega
        have e1 : l_acc s d (i + 1) = l_acc s d i ||| (l_one s i (g_n s) (d i)).getD 0 := n_or ih.1 q.1 e0
        rw [e1]
        refine ⟨Nat.or_lt_two_pow (n := 12) (by omega) (by omega), fun j hj => ?_⟩
        rw [Nat.testBit_or, Bool.or_eq_true] at hj
        rcases hj with u | u
        · have := ih.2 j u; omega
        · have := q.2 j u; omega
    have ih := go i
    have q := l_ebits0 h i (d i)
    have e0 : l_acc s d i &&& (l_one s i (g_n s) (d i)).getD 0 = 0 := by
      apply Nat.eq_of_testBit_eq
      intro j
      rw [Nat.testBit_and, Nat.zero_testBit]
      cases u : (l_acc s d i).testBit j with
      | false => rfl
      | true =>
        cases v : ((l_one s i (g_n s) (d i)).getD 0).testBit j with
        | false => rfl
        | true => have := ih.2 j u; have := q.2 j v; omega
    exact ⟨ih.1, ih.2, n_or ih.1 q.1 e0⟩
/-- where the product isn't none, the joined sets are the least -/
theorem l_accx (s : gS) (d : Nat → Int) : ∀ i, (n_pr (fun p => n_one s p (g_n s) (d p)) i ≠ 0 → o_sum (fun p => l_one s p (g_n s) (d p)) i = some (l_acc s d i)) ∧ (n_pr (fun p => n_one s p (g_n s) (d p)) i = 0 → o_sum (fun p => l_one s p (g_n s) (d p)) i = none)
  | 0 => ⟨fun _ => rfl, fun z => absurd z (by show ¬ (1 = 0); decide)⟩
  | i + 1 => by
    obtain ⟨a, b⟩ := l_accx s d i
    have q := l_n s i (g_n s) (d i)
    show (n_pr (fun p => n_one s p (g_n s) (d p)) i * n_one s i (g_n s) (d i) ≠ 0 → o_add (o_sum (fun p => l_one s p (g_n s) (d p)) i) (l_one s i (g_n s) (d i)) = some (l_acc s d i + (l_one s i (g_n s) (d i)).getD 0)) ∧ (n_pr (fun p => n_one s p (g_n s) (d p)) i * n_one s i (g_n s) (d i) = 0 → o_add (o_sum (fun p => l_one s p (g_n s) (d p)) i) (l_one s i (g_n s) (d i)) = none)
    by_cases u : n_pr (fun p => n_one s p (g_n s) (d p)) i = 0
    · rw [b u, u, Nat.zero_mul]
      exact ⟨fun z => absurd rfl z, fun _ => by cases l_one s i (g_n s) (d i) <;> rfl⟩
    · rw [a u]
      cases z : l_one s i (g_n s) (d i) with
      | none =>
        rw [q.mp z, Nat.mul_zero]
        exact ⟨fun y => absurd rfl y, fun _ => rfl⟩
      | some x =>
        refine ⟨fun _ => rfl, fun y => ?_⟩
        rcases Nat.mul_eq_zero.mp y with w | w
        · exact absurd w u
        · rw [q.mpr w] at z; exact absurd z (by simp)
