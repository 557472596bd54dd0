/-! each town has its own: the fewest pieces astray -/
def w_c (c p : Nat) : Nat := c / 2 ^ (2 * p) % 4
def w_has (a : Nat → Nat) : Nat → Nat
  | 0 => 0
  | p + 1 => w_has a p ||| 2 ^ a p
def w_j (s : gS) (a : Nat → Nat) (w j : Nat) : Nat := if g_wh s j < w ∧ g_ow s j < 4 ∧ a (g_wh s j) ≠ g_ow s j then 1 else 0
def w_cost (s : gS) (a : Nat → Nat) (w k : Nat) : Nat := fb_sm (w_j s a w) k
def w_aj (s : gS) (p t j : Nat) : Nat := if g_wh s j = p ∧ g_ow s j ≠ t ∧ g_ow s j ≠ 4 then 1 else 0
def w_as (s : gS) (p t k : Nat) : Nat := fb_sm (w_aj s p t) k
def w_m (s : gS) : Nat → Nat
  | 0 => 0
  | k + 1 => w_m s k ||| (if g_wh s k < 6 ∧ g_ow s k < 4 then 2 ^ g_ow s k else 0)
abbrev w_ok (s : gS) (x : Nat) : Prop := x &&& w_m s (g_n s) = w_m s (g_n s)
def w_min (s : gS) : Nat → Nat
  | 0 => 12
  | c + 1 => if w_ok s (w_has (w_c c) 6) ∧ w_cost s (w_c c) 6 (g_n s) < w_min s c then w_cost s (w_c c) 6 (g_n s) else w_min s c
theorem w_c4 (c p : Nat) : w_c c p < 4 := Nat.mod_lt _ (by decide)
theorem w_p16 {t : Nat} (h : t < 4) : 2 ^ t < 2 ^ 4 := Nat.pow_lt_pow_right (by decide) h
theorem w_has_lt {a : Nat → Nat} (h : ∀ p, a p < 4) : ∀ p, w_has a p < 2 ^ 4
  | 0 => by show 0 < 16; decide
  | p + 1 => Nat.or_lt_two_pow (w_has_lt h p) (w_p16 (h p))
theorem w_has_cong {a b : Nat → Nat} : ∀ {w : Nat}, (∀ p, p < w → a p = b p) → w_has a w = w_has b w
  | 0, _ => rfl
  | w + 1, h => by
    show w_has a w ||| 2 ^ a w = w_has b w ||| 2 ^ b w
    rw [w_has_cong (fun p hp => h p (by omega)), h w (by omega)]
theorem w_cost_cong {s : gS} {a b : Nat → Nat} {w k : Nat} (h : ∀ p, p < w → a p = b p) : w_cost s a w k = w_cost s b w k := by
  refine fb_sm_cong (fun j _ => ?_)
  unfold w_j
  by_cases e : g_wh s j < w
  · rw [h _ e]
  · rw [if_neg (fun z => e z.1), if_neg (fun z => e z.1)]
theorem w_cost_le (s : gS) (a : Nat → Nat) (w k : Nat) : w_cost s a w k ≤ k := by
  have := fb_sm_bound (f := w_j s a w) (c := 1) (n := k) (fun j _ => by unfold w_j; split <;> omega)
  unfold w_cost; omega
theorem w_as_le (s : gS) (p t k : Nat) : w_as s p t k ≤ k := by
  have := fb_sm_bound (f := w_aj s p t) (c := 1) (n := k) (fun j _ => by unfold w_aj; split <;> omega)
  unfold w_as; omega
theorem w_cost_succ {s : gS} (hI : gInv s) (a : Nat → Nat) (w : Nat) : w_cost s a (w + 1) (g_n s) = w_cost s a w (g_n s) + w_as s w (a w) (g_n s) := by
  unfold w_cost w_as
  rw [← fb_sm_add]
  refine fb_sm_cong (fun j hj => ?_)
  have ho := ow_le hI hj
  unfold w_j w_aj
  rcases (show g_wh s j < w ∨ g_wh s j = w ∨ w < g_wh s j by omega) with e | e | e
  · rw [if_neg (c := g_wh s j = w ∧ _) (fun z => by omega)]
    by_cases q : g_ow s j < 4 ∧ a (g_wh s j) ≠ g_ow s j
    · rw [if_pos ⟨by omega, q⟩, if_pos ⟨e, q⟩]
    · rw [if_neg (fun z => q z.2), if_neg (fun z => q z.2)]
  · rw [if_neg (c := g_wh s j < w ∧ _) (fun z => by omega)]
    by_cases q : g_ow s j < 4 ∧ a w ≠ g_ow s j
    · rw [if_pos ⟨by omega, q.1, by rw [e]; exact q.2⟩, if_pos ⟨e, fun z => q.2 z.symm, by omega⟩]
    · rw [if_neg (fun z => q ⟨z.2.1, by have := z.2.2; rw [e] at this; exact this⟩), if_neg (fun z => q ⟨by have := z.2.2; omega, fun y => z.2.1 y.symm⟩)]
  · rw [if_neg (fun z => by omega), if_neg (fun z => by omega), if_neg (fun z => by omega)]
theorem w_m_lt {s : gS} : ∀ k, w_m s k < 2 ^ 4
  | 0 => by show 0 < 16; decide
  | k + 1 => by
    refine Nat.or_lt_two_pow (w_m_lt k) ?_
    split
    · rename_i z; exact w_p16 z.2
    · decide
theorem w_code (a : Nat → Nat) (h : ∀ p, a p < 4) : ∃ c, c < 4096 ∧ ∀ p, p < 6 → w_c c p = a p := by
  have h0 := h 0
  have h1 := h 1
  have h2 := h 2
  have h3 := h 3
  have h4 := h 4
  have h5 := h 5
  refine ⟨a 0 + 4 * a 1 + 16 * a 2 + 64 * a 3 + 256 * a 4 + 1024 * a 5, by omega, fun p hp => ?_⟩
  rcases (show p = 0 ∨ p = 1 ∨ p = 2 ∨ p = 3 ∨ p = 4 ∨ p = 5 by omega) with e | e | e | e | e | e <;> subst e <;> unfold w_c
  · rw [show (2 : Nat) ^ (2 * 0) = 1 from rfl]; omega
  · rw [show (2 : Nat) ^ (2 * 1) = 4 from rfl]; omega
  · rw [show (2 : Nat) ^ (2 * 2) = 16 from rfl]; omega
  · rw [show (2 : Nat) ^ (2 * 3) = 64 from rfl]; omega
  · rw [show (2 : Nat) ^ (2 * 4) = 256 from rfl]; omega
  · rw [show (2 : Nat) ^ (2 * 5) = 1024 from rfl]; omega
theorem w_min_le (s : gS) : ∀ K c, c < K → w_ok s (w_has (w_c c) 6) → w_min s K ≤ w_cost s (w_c c) 6 (g_n s)
  | 0, c, h, _ => absurd h (Nat.not_lt_zero c)
  | K + 1, c, h, hk => by
    show (if w_ok s (w_has (w_c K) 6) ∧ w_cost s (w_c K) 6 (g_n s) < w_min s K then w_cost s (w_c K) 6 (g_n s) else w_min s K) ≤ _
    rcases (show c = K ∨ c < K by omega) with e | e
    · subst e
      by_cases q : w_cost s (w_c c) 6 (g_n s) < w_min s c
      · rw [if_pos ⟨hk, q⟩]; exact Nat.le_refl _
      · rw [if_neg (fun z => q z.2)]; omega
    · have := w_min_le s K c e hk
      split <;> omega
theorem w_min_get (s : gS) : ∀ K, w_min s K = 12 ∨ ∃ c, c < K ∧ w_ok s (w_has (w_c c) 6) ∧ w_cost s (w_c c) 6 (g_n s) = w_min s K
  | 0 => Or.inl rfl
  | K + 1 => by
    have h := w_min_get s K
    by_cases q : w_ok s (w_has (w_c K) 6) ∧ w_cost s (w_c K) 6 (g_n s) < w_min s K
    · have e : w_min s (K + 1) = w_cost s (w_c K) 6 (g_n s) := if_pos q
      exact Or.inr ⟨K, by omega, q.1, e.symm⟩
    · have e : w_min s (K + 1) = w_min s K := if_neg q
      rw [e]
      rcases h with h | ⟨c, hc, h2⟩
      · exact Or.inl h
      · exact Or.inr ⟨c, by omega, h2⟩
theorem w_sub15 {m : Nat} (h : m < 2 ^ 4) : 15 &&& m = m := by
  rw [Nat.and_comm, show (15 : Nat) = 2 ^ 4 - 1 from rfl, Nat.and_two_pow_sub_one_eq_mod, Nat.mod_eq_of_lt h]
theorem w_unique {s : gS} (hI : gInv s) {R : Nat} (h1 : ∀ a : Nat → Nat, (∀ p, a p < 4) → w_ok s (w_has a 6) → R ≤ w_cost s a 6 (g_n s)) (h2 : R < 1000 → ∃ a : Nat → Nat, (∀ p, a p < 4) ∧ w_ok s (w_has a 6) ∧ w_cost s a 6 (g_n s) = R) : R = w_min s 4096 := by
  have h12 := hI.n12
  have v : w_ok s (w_has (w_c 228) 6) := by
    have e : w_has (w_c 228) 6 = 15 := by decide
    unfold w_ok; rw [e]; exact w_sub15 (w_m_lt _)
  have r1 := h1 (w_c 228) (w_c4 228) v
  have r2 := w_cost_le s (w_c 228) 6 (g_n s)
  have le1 : R ≤ w_min s 4096 := by
    rcases w_min_get s 4096 with e | ⟨c, _, hk, e⟩
    · omega
    · have := h1 (w_c c) (w_c4 c) hk; omega
  obtain ⟨a, ha, hk, e⟩ := h2 (by omega)
  obtain ⟨c, hc, hca⟩ := w_code a ha
  have le2 := w_min_le s 4096 c hc (by rw [w_has_cong hca]; exact hk)
  rw [w_cost_cong hca] at le2
  omega
/-- the class' table behind w places -/
def w_T (s : gS) (w : Nat) (F : Nat → Nat) : Prop := (∀ a : Nat → Nat, (∀ p, a p < 4) → F (w_has a w) ≤ w_cost s a w (g_n s)) ∧ (∀ x, x < 16 → F x ≤ 1000) ∧ ∀ x, x < 16 → F x < 1000 → ∃ a : Nat → Nat, (∀ p, a p < 4) ∧ w_has a w = x ∧ w_cost s a w (g_n s) = F x
/-- the next table, when the towns below t are through, and of t the sets below x -/
def w_U (s : gS) (w : Nat) (F : Nat → Nat) (t x : Nat) (N : Nat → Nat) : Prop := (∀ u y, u < 4 → y < 16 → (u < t ∨ u = t ∧ y < x) → N (y ||| 2 ^ u) ≤ F y + w_as s w u (g_n s)) ∧ (∀ y, y < 16 → N y ≤ 1000) ∧ ∀ y, y < 16 → N y < 1000 → ∃ u v, u < 4 ∧ v < 16 ∧ F v < 1000 ∧ v ||| 2 ^ u = y ∧ N y = F v + w_as s w u (g_n s)
def w_n (F N : Nat → Nat) (g x A : Nat) : Nat → Nat := fun y => if y = g then (if F x + A < N g then F x + A else N g) else N y
theorem w_U_0 (s : gS) (w : Nat) (F : Nat → Nat) : w_U s w F 0 0 (fun _ => 1000) := ⟨fun u y _ _ h => by omega, fun _ _ => Nat.le_refl _, fun y _ h => absurd h (show ¬ (1000 : Nat) < 1000 by decide)⟩
theorem w_U_t {s : gS} {w : Nat} {F N : Nat → Nat} {t : Nat} (h : w_U s w F t 16 N) : w_U s w F (t + 1) 0 N := ⟨fun u y hu hy hh => h.1 u y hu hy (by omega), h.2.1, h.2.2⟩
theorem w_U_x {s : gS} {w : Nat} {F N : Nat → Nat} {t x : Nat} (h : w_U s w F t x N) (ht : t < 4) (hx : x < 16) : w_U s w F t (x + 1) (w_n F N (x ||| 2 ^ t) x (w_as s w t (g_n s))) := by
  have hg : x ||| 2 ^ t < 16 := Nat.or_lt_two_pow (n := 4) hx (w_p16 ht)
  refine ⟨fun u y hu hy hh => ?_, fun y hy => ?_, fun y hy hN => ?_⟩
  · unfold w_n
    by_cases q : y = x ∧ u = t
    · obtain ⟨q1, q2⟩ := q
      subst q1 q2
      rw [if_pos rfl]; split <;> omega
    · have h0 := h.1 u y hu hy (by omega)
      by_cases e : y ||| 2 ^ u = x ||| 2 ^ t
      · rw [if_pos e, ← e]; split <;> omega
      · rw [if_neg e]; exact h0
  · unfold w_n
    have h0 := h.2.1 y hy
    have h1 := h.2.1 _ hg
    split
    · split <;> omega
    · exact h0
  · unfold w_n at hN ⊢
    have h1 := h.2.1 _ hg
    by_cases e : y = x ||| 2 ^ t
    · rw [if_pos e] at hN ⊢
      by_cases q : F x + w_as s w t (g_n s) < N (x ||| 2 ^ t)
      · rw [if_pos q] at hN ⊢
        exact ⟨t, x, ht, hx, by omega, e.symm, rfl⟩
      · rw [if_neg q] at hN ⊢
        rw [e]
        exact h.2.2 _ hg hN
    · rw [if_neg e] at hN ⊢
      exact h.2.2 y hy hN
theorem w_T_0 (s : gS) : w_T s 0 (fun x => if x = 0 then 0 else 1000) := by
  refine ⟨fun a _ => by show (if (0 : Nat) = 0 then 0 else 1000) ≤ _; rw [if_pos rfl]; omega, fun x _ => by show (if x = 0 then 0 else 1000) ≤ 1000; split <;> omega, fun x hx h => ?_⟩
  have h0 : x = 0 := by
    by_cases e : x = 0
    · exact e
    · exact absurd (show (if x = 0 then 0 else 1000) < 1000 from h) (by rw [if_neg e]; decide)
  subst h0
  refine ⟨fun _ => 0, fun _ => by show 0 < 4; decide, rfl, ?_⟩
  show w_cost s (fun _ => 0) 0 (g_n s) = 0
  unfold w_cost
  rw [fb_sm_cong (f := w_j s (fun _ => 0) 0) (g := fun _ => 0) (fun j _ => if_neg (fun z => absurd z.1 (Nat.not_lt_zero _))), fb_sm_const]
  omega
theorem w_T_succ {s : gS} (hI : gInv s) {w : Nat} {F N : Nat → Nat} (hT : w_T s w F) (h : w_U s w F 4 0 N) : w_T s (w + 1) N := by
  refine ⟨fun a ha => ?_, h.2.1, fun y hy hN => ?_⟩
  · rw [w_cost_succ hI]
    have h1 := h.1 (a w) (w_has a w) (ha w) (w_has_lt ha w) (Or.inl (ha w))
    have h2 := hT.1 a ha
    show N (w_has a w ||| 2 ^ a w) ≤ _
    omega
  · obtain ⟨u, v, hu, hv, hF, e, eN⟩ := h.2.2 y hy hN
    obtain ⟨a, ha, ea, ec⟩ := hT.2.2 v hv hF
    have hb : ∀ p, p < w → (fun p => if p = w then u else a p) p = a p := fun p hp => if_neg (by omega)
    refine ⟨fun p => if p = w then u else a p, fun p => ?_, ?_, ?_⟩
    · show (if p = w then u else a p) < 4
      split
      · exact hu
      · exact ha p
    · show w_has (fun p => if p = w then u else a p) w ||| 2 ^ (if w = w then u else a w) = y
      rw [w_has_cong hb, if_pos rfl, ea]; exact e
    · rw [w_cost_succ hI, w_cost_cong hb, ec, eN]
      show F v + w_as s w (if w = w then u else a w) (g_n s) = _
      rw [if_pos rfl]
/-- the least of the table over the sets that have the towns -/
def w_r (F : Nat → Nat) (m : Nat) : Nat → Nat
  | 0 => 1000
  | K + 1 => if K &&& m = m then (if F K < w_r F m K then F K else w_r F m K) else w_r F m K
theorem w_r_le (F : Nat → Nat) (m : Nat) : ∀ K x, x < K → x &&& m = m → w_r F m K ≤ F x
  | 0, x, h, _ => absurd h (Nat.not_lt_zero x)
  | K + 1, x, h, hx => by
    show (if K &&& m = m then (if F K < w_r F m K then F K else w_r F m K) else w_r F m K) ≤ _
    rcases (show x = K ∨ x < K by omega) with e | e
    · subst e
      rw [if_pos hx]; split <;> omega
    · have := w_r_le F m K x e hx
      split
      · split <;> omega
      · exact this
theorem w_r_1000 (F : Nat → Nat) (m : Nat) : ∀ K, w_r F m K ≤ 1000
  | 0 => Nat.le_refl _
  | K + 1 => by
    have := w_r_1000 F m K
    show (if K &&& m = m then (if F K < w_r F m K then F K else w_r F m K) else w_r F m K) ≤ _
    split
    · split <;> omega
    · exact this
theorem w_r_get (F : Nat → Nat) (m : Nat) : ∀ K, w_r F m K < 1000 → ∃ x, x < K ∧ x &&& m = m ∧ w_r F m K = F x
  | 0, h => absurd h (by show ¬ 1000 < 1000; decide)
  | K + 1, h => by
    have h0 : (if K &&& m = m then (if F K < w_r F m K then F K else w_r F m K) else w_r F m K) < 1000 := h
    show ∃ x, x < K + 1 ∧ x &&& m = m ∧ (if K &&& m = m then (if F K < w_r F m K then F K else w_r F m K) else w_r F m K) = F x
    by_cases q : K &&& m = m
    · rw [if_pos q] at h0 ⊢
      by_cases e : F K < w_r F m K
      · rw [if_pos e]; exact ⟨K, by omega, q, rfl⟩
      · rw [if_neg e] at h0 ⊢
        obtain ⟨x, hx, h2⟩ := w_r_get F m K h0
        exact ⟨x, by omega, h2⟩
    · rw [if_neg q] at h0 ⊢
      obtain ⟨x, hx, h2⟩ := w_r_get F m K h0
      exact ⟨x, by omega, h2⟩
theorem w_last {s : gS} (hI : gInv s) {F : Nat → Nat} (hT : w_T s 6 F) : w_r F (w_m s (g_n s)) 16 = w_min s 4096 := by
  refine w_unique hI (fun a ha hk => ?_) (fun h => ?_)
  · exact Nat.le_trans (w_r_le F _ 16 _ (w_has_lt ha 6) hk) (hT.1 a ha)
  · obtain ⟨x, hx, hk, e⟩ := w_r_get F _ 16 h
    obtain ⟨a, ha, ea, ec⟩ := hT.2.2 x hx (by omega)
    exact ⟨a, ha, by rw [ea]; exact hk, by rw [ec, e]⟩
def sp_own (X : xS) : Int32 × xS := (nI (w_min (x_g X) 4096), X)
theorem xi_own {X : xS} (h : xInv X) : xInv (sp_own X).2 := h
