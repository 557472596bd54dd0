/-! all subsets of a set, one after another -/
def e_it (m : Nat) : Nat → Nat
  | 0 => 0
  | i + 1 => e_nx m (e_it m i)
/-- the first N steps go through all of m and end at m -/
def e_H (m N : Nat) : Prop := 0 < N ∧ (∀ i, i + 1 < N → e_it m i < m) ∧ e_it m (N - 1) = m
theorem e_le {m N : Nat} (h : e_H m N) {i : Nat} (hi : i < N) : e_it m i ≤ m := by
  by_cases e : i + 1 < N
  · exact Nat.le_of_lt (h.2.1 i e)
  · rw [show i = N - 1 by omega, h.2.2]; exact Nat.le_refl _
theorem e_A {K m N : Nat} (hK : K < 12) (hm : m < 2 ^ K) (h : e_H m N) : ∀ i, i < N → e_it (2 ^ K + m) i = e_it m i
  | 0, _ => rfl
  | i + 1, hi => by
    show e_nx (2 ^ K + m) (e_it (2 ^ K + m) i) = e_nx m (e_it m i)
    rw [e_A hK hm h i (by omega), e_nx_a hK hm (h.2.1 i hi)]
theorem e_C {K m N : Nat} (hK : K < 12) (hm : m < 2 ^ K) (h : e_H m N) : ∀ i, i < N → e_it (2 ^ K + m) (N + i) = 2 ^ K + e_it m i
  | 0, _ => by
    have e : N + 0 = (N - 1) + 1 := by have := h.1; omega
    rw [e]
    show e_nx (2 ^ K + m) (e_it (2 ^ K + m) (N - 1)) = 2 ^ K + 0
    rw [e_A hK hm h (N - 1) (by have := h.1; omega), h.2.2, e_nx_b hK hm]; rfl
  | i + 1, hi => by
    show e_nx (2 ^ K + m) (e_it (2 ^ K + m) (N + i)) = 2 ^ K + e_nx m (e_it m i)
    rw [e_C hK hm h i (by omega), e_nx_c hK hm (h.2.1 i hi)]
theorem e_H_s {K m N : Nat} (hK : K < 12) (hm : m < 2 ^ K) (h : e_H m N) : e_H (2 ^ K + m) (N + N) := by
  have h0 := h.1
  refine ⟨by omega, fun i hi => ?_, ?_⟩
  · by_cases e : i < N
    · rw [e_A hK hm h i e]; have := e_le h e; omega
    · have e2 : i = N + (i - N) := by omega
      rw [e2, e_C hK hm h (i - N) (by omega)]
      have := h.2.1 (i - N) (by omega)
      omega
  · have e2 : N + N - 1 = N + (N - 1) := by omega
    rw [e2, e_C hK hm h (N - 1) (by omega), h.2.2]
def e_m (s : gS) (p K : Nat) : Nat := fb_sm (fun j => if g_wh s j = p then 2 ^ j else 0) K
def e_c (s : gS) (p K : Nat) : Nat := fb_sm (fun j => if g_wh s j = p then 1 else 0) K
def e_w (s : gS) (x K : Nat) : Nat := fb_sm (fun j => if x.testBit j = true then g_w s j else 0) K
theorem e_m_lt (s : gS) (p K : Nat) : e_m s p K < 2 ^ K := fb_pow_lt _ (fun j => by split <;> simp) K
theorem e_w_lo {s : gS} {x K : Nat} (h : x < 2 ^ K) : e_w s x (K + 1) = e_w s x K := by
  show e_w s x K + (if x.testBit K = true then g_w s K else 0) = e_w s x K
  rw [if_neg (by rw [Nat.testBit_lt_two_pow h]; decide), Nat.add_zero]
theorem e_w_hi {s : gS} {y K : Nat} (h : y < 2 ^ K) : e_w s (2 ^ K + y) (K + 1) = e_w s y K + g_w s K := by
  show e_w s (2 ^ K + y) K + (if (2 ^ K + y).testBit K = true then g_w s K else 0) = _
  rw [if_pos (m_bit h), show e_w s (2 ^ K + y) K = e_w s y K from fb_sm_cong (fun j hj => by rw [Nat.testBit_two_pow_add_gt hj])]
theorem e_m_t {s : gS} {p K : Nat} (h : g_wh s K = p) : e_m s p (K + 1) = 2 ^ K + e_m s p K ∧ 2 ^ e_c s p (K + 1) = 2 ^ e_c s p K + 2 ^ e_c s p K := by
  constructor
  · show e_m s p K + (if g_wh s K = p then 2 ^ K else 0) = _
    rw [if_pos h]; omega
  · show 2 ^ (e_c s p K + (if g_wh s K = p then 1 else 0)) = _
    rw [if_pos h, Nat.pow_succ]; omega
theorem e_m_f {s : gS} {p K : Nat} (h : ¬ g_wh s K = p) : e_m s p (K + 1) = e_m s p K ∧ e_c s p (K + 1) = e_c s p K := by
  constructor
  · show e_m s p K + (if g_wh s K = p then 2 ^ K else 0) = _
    rw [if_neg h]; omega
  · show e_c s p K + (if g_wh s K = p then 1 else 0) = _
    rw [if_neg h]; omega
theorem e_all (s : gS) (p : Nat) : ∀ K, K ≤ 12 → e_H (e_m s p K) (2 ^ e_c s p K)
  | 0, _ => ⟨(show 0 < 1 by decide), fun i hi => by have : i + 1 < 1 := hi; omega, rfl⟩
  | K + 1, hK => by
    have ih := e_all s p K (by omega)
    by_cases h : g_wh s K = p
    · rw [(e_m_t h).1, (e_m_t h).2]; exact e_H_s (by omega) (e_m_lt s p K) ih
    · rw [(e_m_f h).1, (e_m_f h).2]; exact ih
/-- how many of the steps weigh what is told -/
theorem e_count (s : gS) (p : Nat) : ∀ (K : Nat) (d : Int) (f : Nat → Nat), K ≤ 12 → (∀ i, i < 2 ^ e_c s p K → ((e_w s (e_it (e_m s p K) i) K : Int) = d → f i = 1) ∧ (¬ (e_w s (e_it (e_m s p K) i) K : Int) = d → f i = 0)) → fb_sm f (2 ^ e_c s p K) = n_one s p K d
  | 0, d, f, _, hf => by
    have e0 := hf 0 (show 0 < 1 by decide)
    have w0 : e_w s (e_it (e_m s p 0) 0) 0 = 0 := rfl
    rw [w0] at e0
    show 0 + f 0 = (if d = 0 then 1 else 0)
    by_cases z : d = 0
    · rw [if_pos z, e0.1 z.symm]
    · rw [if_neg z, e0.2 (fun y => z y.symm)]
  | K + 1, d, f, hK, hf => by
    have ih := e_all s p K (by omega)
    have hm := e_m_lt s p K
    show _ = n_one s p K d + (if g_wh s K = p then n_one s p K (d - g_w s K) else 0)
    by_cases h : g_wh s K = p
    · rw [(e_m_t h).1, (e_m_t h).2] at hf
      have c1 := e_count s p K d f (by omega) (fun i hi => by
        have q := hf i (by omega)
        rw [e_A (by omega) hm ih i hi, e_w_lo (Nat.lt_of_le_of_lt (e_le ih hi) hm)] at q
        exact q)
      have c2 := e_count s p K (d - g_w s K) (fun i => f (2 ^ e_c s p K + i)) (by omega) (fun i hi => by
        have q := hf (2 ^ e_c s p K + i) (by omega)
        rw [e_C (by omega) hm ih i hi, e_w_hi (Nat.lt_of_le_of_lt (e_le ih hi) hm)] at q
        exact ⟨fun z => q.1 (by omega), fun z => q.2 (by omega)⟩)
      rw [(e_m_t h).2, if_pos h, fb_sm_split, c1, c2]
    · rw [(e_m_f h).1, (e_m_f h).2] at hf
      rw [(e_m_f h).2, if_neg h, Nat.add_zero]
      refine e_count s p K d f (by omega) (fun i hi => ?_)
      have q := hf i hi
      rw [e_w_lo (Nat.lt_of_le_of_lt (e_le ih hi) hm)] at q
      exact q
/-- the first of the steps that weighs what is told is the least set -/
theorem e_least (s : gS) (p : Nat) : ∀ (K : Nat) (d : Int), K ≤ 12 → (∀ x, l_one s p K d = some x → ∃ i, i < 2 ^ e_c s p K ∧ e_it (e_m s p K) i = x ∧ (e_w s x K : Int) = d ∧ ∀ k, k < i → ¬ (e_w s (e_it (e_m s p K) k) K : Int) = d) ∧ (l_one s p K d = none → ∀ k, k < 2 ^ e_c s p K → ¬ (e_w s (e_it (e_m s p K) k) K : Int) = d)
  | 0, d, _ => by
    show (∀ x, (if d = 0 then some 0 else none) = some x → _) ∧ ((if d = 0 then some 0 else none) = none → _)
    by_cases z : d = 0
    · rw [if_pos z]
      refine ⟨fun x hx => ⟨0, (show 0 < 1 by decide), ?_, ?_, fun k hk => absurd hk (Nat.not_lt_zero k)⟩, fun y => absurd y (by simp)⟩
      · exact Option.some.inj hx
      · exact z.symm
    · rw [if_neg z]
      exact ⟨fun x hx => absurd hx (by simp), fun _ k hk y => z y.symm⟩
  | K + 1, d, hK => by
    have ih := e_all s p K (by omega)
    have hm := e_m_lt s p K
    obtain ⟨a1, a2⟩ := e_least s p K d (by omega)
    have nor : ∀ a : Option Nat, o_or a none = a := fun a => by cases a <;> rfl
    have e : l_one s p (K + 1) d = o_or (l_one s p K d) (if g_wh s K = p then (l_one s p K (d - g_w s K)).map (· + 2 ^ K) else none) := rfl
    have lo : ∀ i, i < 2 ^ e_c s p K → e_w s (e_it (e_m s p K) i) (K + 1) = e_w s (e_it (e_m s p K) i) K := fun i hi => e_w_lo (Nat.lt_of_le_of_lt (e_le ih hi) hm)
    by_cases h : g_wh s K = p
    · obtain ⟨b1, b2⟩ := e_least s p K (d - g_w s K) (by omega)
      rw [e, if_pos h, (e_m_t h).1, (e_m_t h).2]
      have A := e_A (by omega : K < 12) hm ih
      have C := e_C (by omega : K < 12) hm ih
      cases ha : l_one s p K d with
      | some x0 =>
        obtain ⟨i, hi, c1, c2, c3⟩ := a1 x0 ha
        refine ⟨fun x hx => ?_, fun y => absurd y (by simp [o_or])⟩
        have e3 : x0 = x := Option.some.inj hx
        subst e3
        refine ⟨i, by omega, by rw [A i hi, c1], by rw [← c1, lo i hi, c1]; exact c2, fun k hk => ?_⟩
        rw [A k (by omega), lo k (by omega)]; exact c3 k hk
      | none =>
        have cn := a2 ha
        cases hb : l_one s p K (d - g_w s K) with
        | some z0 =>
          obtain ⟨i, hi, c1, c2, c3⟩ := b1 z0 hb
          refine ⟨fun x hx => ?_, fun y => absurd y (by simp [o_or])⟩
          have e3 : z0 + 2 ^ K = x := Option.some.inj hx
          have e4 : x = 2 ^ K + z0 := by omega
          subst e4
          have hz : z0 < 2 ^ K := by rw [← c1]; exact Nat.lt_of_le_of_lt (e_le ih hi) hm
          refine ⟨2 ^ e_c s p K + i, by omega, by rw [C i hi, c1], by rw [e_w_hi hz]; omega, fun k hk => ?_⟩
          by_cases hl : k < 2 ^ e_c s p K
          · rw [A k hl, lo k hl]; exact cn k hl
          · obtain ⟨r, hr, e5⟩ : ∃ r, r < i ∧ k = 2 ^ e_c s p K + r := ⟨k - 2 ^ e_c s p K, by omega, by omega⟩
            subst e5
            rw [C r (by omega), e_w_hi (Nat.lt_of_le_of_lt (e_le ih (by omega)) hm)]
            have := c3 r hr
            omega
        | none =>
          have cb := b2 hb
          refine ⟨fun x hx => absurd hx (by simp [o_or]), fun _ k hk => ?_⟩
          by_cases hl : k < 2 ^ e_c s p K
          · rw [A k hl, lo k hl]; exact cn k hl
          · obtain ⟨r, hr, e5⟩ : ∃ r, r < 2 ^ e_c s p K ∧ k = 2 ^ e_c s p K + r := ⟨k - 2 ^ e_c s p K, by omega, by omega⟩
            subst e5
            rw [C r hr, e_w_hi (Nat.lt_of_le_of_lt (e_le ih hr) hm)]
            have := cb r hr
            omega
    · rw [e, if_neg h, nor, (e_m_f h).1, (e_m_f h).2]
      refine ⟨fun x hx => ?_, fun y k hk => by rw [lo k hk]; exact a2 y k hk⟩
      obtain ⟨i, hi, c1, c2, c3⟩ := a1 x hx
      exact ⟨i, hi, c1, by rw [← c1, lo i hi, c1]; exact c2, fun k hk => by rw [lo k (by omega)]; exact c3 k hk⟩
