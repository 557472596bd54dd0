/-! the next subset of a set, as the class steps -/
def e_nx (m y : Nat) : Nat := (y + 4294967296 - m) &&& m
theorem e_tb {K m j : Nat} (h : m < 2 ^ K) : (2 ^ K + m).testBit j = if j < K then m.testBit j else if j = K then true else false := by
  by_cases a : j < K
  · rw [if_pos a, Nat.testBit_two_pow_add_gt a]
  · rw [if_neg a]
    by_cases b : j = K
    · rw [if_pos b, b]; exact m_bit h
    · rw [if_neg b]
      refine Nat.testBit_lt_two_pow ?_
      have : 2 ^ (K + 1) ≤ 2 ^ j := Nat.pow_le_pow_right (by decide) (by omega)
      rw [Nat.pow_succ] at this
      omega
theorem e_and {K m D : Nat} (h : m < 2 ^ K) : D &&& (2 ^ K + m) = (if D.testBit K = true then 2 ^ K else 0) + (D &&& m) := by
  have hz : D &&& m < 2 ^ K := Nat.lt_of_le_of_lt Nat.and_le_right h
  apply Nat.eq_of_testBit_eq
  intro j
  rw [Nat.testBit_and, e_tb h]
  by_cases t : D.testBit K = true
  · rw [if_pos t, e_tb hz, Nat.testBit_and]
    by_cases a : j < K
    · rw [if_pos a, if_pos a]
    · rw [if_neg a, if_neg a]
      by_cases b : j = K
      · rw [if_pos b, b, t]; rfl
      · rw [if_neg b, Bool.and_false]
  · rw [if_neg t, Nat.zero_add, Nat.testBit_and]
    by_cases a : j < K
    · rw [if_pos a]
    · rw [if_neg a]
      have hm : m.testBit j = false := Nat.testBit_lt_two_pow (Nat.lt_of_lt_of_le h (Nat.pow_le_pow_right (by decide) (by omega)))
      rw [hm, Bool.and_false]
      by_cases b : j = K
      · rw [if_pos b, b]
        cases q : D.testBit K with
        | true => exact absurd q t
        | false => rfl
      · rw [if_neg b, Bool.and_false]
theorem e_low {K m D : Nat} (h : m < 2 ^ K) : D &&& m = (D % 2 ^ K) &&& m := by
  apply Nat.eq_of_testBit_eq
  intro j
  rw [Nat.testBit_and, Nat.testBit_and, Nat.testBit_mod_two_pow]
  by_cases a : j < K
  · simp [a]
  · have hm : m.testBit j = false := Nat.testBit_lt_two_pow (Nat.lt_of_lt_of_le h (Nat.pow_le_pow_right (by decide) (by omega)))
    rw [hm, Bool.and_false, Bool.and_false]
theorem e_bit {K D : Nat} : (D.testBit K = true) ↔ D / 2 ^ K % 2 = 1 := by
  rw [Nat.testBit_eq_decide_div_mod_eq]; simp
/-- the numbers behind the steps -/
theorem e_num {K m y : Nat} (hK : K < 12) (hm : m < 2 ^ K) (hy : y < 2 ^ K) :
    (y < m → (y + 4294967296 - (2 ^ K + m)) % 2 ^ K = (y + 4294967296 - m) % 2 ^ K ∧ (y + 4294967296 - (2 ^ K + m)) / 2 ^ K % 2 = 0 ∧ (y + 4294967296 - m) / 2 ^ K % 2 = 1) ∧
    (4294967296 - 2 ^ K) % 2 ^ K = 0 ∧ (4294967296 - 2 ^ K) / 2 ^ K % 2 = 1 ∧ 4294967296 % 2 ^ K = 0 ∧ 4294967296 / 2 ^ K % 2 = 0 := by
  rcases (show K = 0 ∨ K = 1 ∨ K = 2 ∨ K = 3 ∨ K = 4 ∨ K = 5 ∨ K = 6 ∨ K = 7 ∨ K = 8 ∨ K = 9 ∨ K = 10 ∨ K = 11 by omega) with rfl | rfl | rfl | rfl | rfl | rfl | rfl | rfl | rfl | rfl | rfl | rfl <;> refine ⟨fun h => ⟨?_, ?_, ?_⟩, ?_, ?_, ?_, ?_⟩ <;> omega
/-- within the lower sets the step is theirs -/
theorem e_nx_a {K m y : Nat} (hK : K < 12) (hm : m < 2 ^ K) (hy : y < m) : e_nx (2 ^ K + m) y = e_nx m y := by
  have n := (e_num hK hm (Nat.lt_trans hy hm)).1 hy
  unfold e_nx
  rw [e_and hm, if_neg (fun z => by rw [e_bit] at z; omega), Nat.zero_add, e_low (K := K) hm, n.1, ← e_low (K := K) hm]
theorem e_nx_b {K m : Nat} (hK : K < 12) (hm : m < 2 ^ K) : e_nx (2 ^ K + m) m = 2 ^ K := by
  have n := (e_num hK hm hm).2
  have e : m + 4294967296 - (2 ^ K + m) = 4294967296 - 2 ^ K := by omega
  unfold e_nx
  rw [e, e_and hm, if_pos (e_bit.mpr n.2.1), e_low (K := K) hm, n.1, Nat.zero_and]
  rfl
theorem e_nx_c {K m y : Nat} (hK : K < 12) (hm : m < 2 ^ K) (hy : y < m) : e_nx (2 ^ K + m) (2 ^ K + y) = 2 ^ K + e_nx m y := by
  have n := (e_num hK hm (Nat.lt_trans hy hm)).1 hy
  have e : 2 ^ K + y + 4294967296 - (2 ^ K + m) = y + 4294967296 - m := by omega
  unfold e_nx
  rw [e, e_and hm, if_pos (e_bit.mpr n.2.2)]
theorem e_nx_d {K m : Nat} (hK : K < 12) (hm : m < 2 ^ K) : e_nx (2 ^ K + m) (2 ^ K + m) = 0 := by
  have n := (e_num hK hm hm).2
  have e : 2 ^ K + m + 4294967296 - (2 ^ K + m) = 4294967296 := by omega
  unfold e_nx
  rw [e, e_and hm, if_neg (fun z => by rw [e_bit] at z; omega), e_low (K := K) hm, n.2.2.1, Nat.zero_and]
