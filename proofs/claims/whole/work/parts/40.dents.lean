/-! the pieces in places as one set -/
def a_all (s : gS) (K : Nat) : Nat := fb_sm (fun j => if g_wh s j < 6 then 2 ^ j else 0) K
theorem a_all_lt (s : gS) (K : Nat) : a_all s K < 2 ^ K := fb_pow_lt _ (fun j => by split <;> simp) K
theorem a_all_b (s : gS) : ∀ (K j : Nat), (a_all s K).testBit j = true ↔ j < K ∧ g_wh s j < 6
  | 0, j => by
    have e : a_all s 0 = 0 := rfl
    rw [e, Nat.zero_testBit]
    exact ⟨fun z => absurd z (by decide), fun z => absurd z.1 (Nat.not_lt_zero j)⟩
  | K + 1, j => by
    have ih := a_all_b s K j
    have e : a_all s (K + 1) = a_all s K + (if g_wh s K < 6 then 2 ^ K else 0) := rfl
    by_cases h : g_wh s K < 6
    · rw [e, if_pos h, Nat.add_comm, e_tb (a_all_lt s K)]
      by_cases a : j < K
      · rw [if_pos a, ih]; exact ⟨fun z => ⟨by omega, z.2⟩, fun z => ⟨a, z.2⟩⟩
      · rw [if_neg a]
        by_cases b : j = K
        · rw [if_pos b, b]; exact ⟨fun _ => ⟨by omega, h⟩, fun _ => rfl⟩
        · rw [if_neg b]; exact ⟨fun z => absurd z (by decide), fun z => by omega⟩
    · rw [e, if_neg h, Nat.add_zero, ih]
      exact ⟨fun z => ⟨by omega, z.2⟩, fun z => ⟨by
        rcases (show j < K ∨ j = K by omega) with q | q
        · exact q
        · rw [q] at z; exact absurd z.2 h, z.2⟩⟩
theorem a_not {x a : Nat} (hx : x < 4096) (ha : a < 4096) : nI x &&& (nI a ^^^ (-1)) = 0 ↔ ∀ j, x.testBit j = true → a.testBit j = true := by
  have e : nI x &&& (nI a ^^^ (-1)) = nI (x &&& (a ^^^ 4294967295)) := by
    apply Int32.toBitVec_inj.1
    show BitVec.ofNat 32 x &&& (BitVec.ofNat 32 a ^^^ BitVec.ofNat 32 4294967295) = BitVec.ofNat 32 (x &&& (a ^^^ 4294967295))
    rw [BitVec.ofNat_and, BitVec.ofNat_xor]
  have hle : x &&& (a ^^^ 4294967295) ≤ x := Nat.and_le_left
  rw [e, pm_eqI, nI_toInt (by omega), pm_t0]
  have e1 : ∀ j, j < 32 → (4294967295 : Nat).testBit j = true := by decide +kernel
  constructor
  · intro h j hj
    have h0 : x &&& (a ^^^ 4294967295) = 0 := by omega
    have h1 := congrArg (fun z => Nat.testBit z j) h0
    have hj32 : j < 32 := Classical.byContradiction fun z => by
      have : x.testBit j = false := Nat.testBit_lt_two_pow (Nat.lt_of_lt_of_le (show x < 2 ^ 12 by omega) (Nat.pow_le_pow_right (by decide) (by omega)))
      rw [this] at hj; exact absurd hj (by decide)
    have h2 : (x.testBit j && (a.testBit j ^^ (4294967295 : Nat).testBit j)) = false := by
      have h3 : (x &&& (a ^^^ 4294967295)).testBit j = (0 : Nat).testBit j := h1
      rw [Nat.testBit_and, Nat.testBit_xor, Nat.zero_testBit] at h3
      exact h3
    rw [hj, e1 j hj32] at h2
    cases q : a.testBit j with
    | true => rfl
    | false => rw [q] at h2; exact absurd h2 (by decide)
  · intro h
    have h0 : x &&& (a ^^^ 4294967295) = 0 := by
      apply Nat.eq_of_testBit_eq
      intro j
      rw [Nat.testBit_and, Nat.testBit_xor, Nat.zero_testBit]
      cases q : x.testBit j with
      | false => rfl
      | true =>
        have hj32 : j < 32 := Classical.byContradiction fun z => by
          have : x.testBit j = false := Nat.testBit_lt_two_pow (Nat.lt_of_lt_of_le (show x < 2 ^ 12 by omega) (Nat.pow_le_pow_right (by decide) (by omega)))
          rw [this] at q; exact absurd q (by decide)
        rw [h j q, e1 j hj32]; rfl
    rw [h0]; rfl
/-- a set among all is one of pieces in places -/
theorem a_sub {s : gS} (h : gInv s) {x : Nat} (hx : x ≤ a_all s (g_n s)) : nI x &&& (nI (a_all s (g_n s)) ^^^ (-1)) = 0 ↔ ∀ j, j < g_n s → x.testBit j = true → g_wh s j < 6 := by
  have hl := a_all_lt s (g_n s)
  have h2 : 2 ^ g_n s ≤ 2 ^ 12 := Nat.pow_le_pow_right (by decide) h.1
  rw [a_not (by omega) (by omega)]
  constructor
  · intro z j hj hb
    exact ((a_all_b s (g_n s) j).mp (z j hb)).2
  · intro z j hb
    have hj : j < g_n s := Classical.byContradiction fun w => by
      have : x.testBit j = false := Nat.testBit_lt_two_pow (Nat.lt_of_lt_of_le (show x < 2 ^ g_n s by omega) (Nat.pow_le_pow_right (by decide) (by omega)))
      rw [this] at hb; exact absurd hb (by decide)
    exact (a_all_b s (g_n s) j).mpr ⟨hj, z j hj hb⟩
/-- behind all there is none that fits -/
theorem a_end {s : gS} {d : Nat → Int} {x : Nat} (hx : a_all s (g_n s) < x) (h2 : x < 2 ^ g_n s) : ¬ m_ok s d (g_n s) x := by
  intro z
  have : x ≤ a_all s (g_n s) := Nat.le_of_testBit (fun j hj => by
    have hjn : j < g_n s := Classical.byContradiction fun w => by
      have : x.testBit j = false := Nat.testBit_lt_two_pow (Nat.lt_of_lt_of_le h2 (Nat.pow_le_pow_right (by decide) (by omega)))
      rw [this] at hj; exact absurd hj (by decide)
    exact (a_all_b s (g_n s) j).mpr ⟨hjn, z.1 j hjn hj⟩)
  omega
