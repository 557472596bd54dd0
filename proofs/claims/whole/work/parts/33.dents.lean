/-! the sets that the reference tries: which of them fit what is told, how many, which is the first -/
def m_ss (s : gS) (p x K : Nat) : Nat := fb_sm (fun j => if g_wh s j = p ∧ x.testBit j = true then g_w s j else 0) K
def m_ok (s : gS) (d : Nat → Int) (K x : Nat) : Prop := (∀ j, j < K → x.testBit j = true → g_wh s j < 6) ∧ ∀ p, p < 6 → (m_ss s p x K : Int) = d p
theorem m_ss_lo {s : gS} {p x K : Nat} (h : x < 2 ^ K) : m_ss s p x (K + 1) = m_ss s p x K := by
  show m_ss s p x K + (if g_wh s K = p ∧ x.testBit K = true then g_w s K else 0) = m_ss s p x K
  rw [if_neg (fun z => by rw [Nat.testBit_lt_two_pow h] at z; exact absurd z.2 (by decide)), Nat.add_zero]
theorem m_bit {y K : Nat} (h : y < 2 ^ K) : (2 ^ K + y).testBit K = true := by
  rw [Nat.testBit_two_pow_add_eq, Nat.testBit_lt_two_pow h]; rfl
theorem m_ss_hi {s : gS} {p y K : Nat} (h : y < 2 ^ K) : m_ss s p (2 ^ K + y) (K + 1) = m_ss s p y K + (if g_wh s K = p then g_w s K else 0) := by
  show m_ss s p (2 ^ K + y) K + (if g_wh s K = p ∧ (2 ^ K + y).testBit K = true then g_w s K else 0) = _
  have e : m_ss s p (2 ^ K + y) K = m_ss s p y K := fb_sm_cong (fun j hj => by rw [Nat.testBit_two_pow_add_gt hj])
  rw [e]
  by_cases z : g_wh s K = p
  · rw [if_pos z, if_pos ⟨z, m_bit h⟩]
  · rw [if_neg z, if_neg (fun q => z q.1)]
theorem m_ok_lo {s : gS} {d : Nat → Int} {K x : Nat} (h : x < 2 ^ K) : m_ok s d (K + 1) x ↔ m_ok s d K x := by
  constructor
  · intro z
    exact ⟨fun j hj => z.1 j (by omega), fun p hp => by rw [← m_ss_lo h]; exact z.2 p hp⟩
  · intro z
    refine ⟨fun j hj hb => ?_, fun p hp => by rw [m_ss_lo h]; exact z.2 p hp⟩
    rcases (show j < K ∨ j = K by omega) with q | q
    · exact z.1 j q hb
    · rw [q, Nat.testBit_lt_two_pow h] at hb; exact absurd hb (by decide)
theorem m_ok_hi {s : gS} {d : Nat → Int} {K y : Nat} (h : y < 2 ^ K) : m_ok s d (K + 1) (2 ^ K + y) ↔ g_wh s K < 6 ∧ m_ok s (fun p => if p = g_wh s K then d p - g_w s K else d p) K y := by
  constructor
  · intro z
    refine ⟨z.1 K (by omega) (m_bit h), fun j hj hb => z.1 j (by omega) (by rw [Nat.testBit_two_pow_add_gt hj]; exact hb), fun p hp => ?_⟩
    have q := z.2 p hp
    rw [m_ss_hi h] at q
    show (m_ss s p y K : Int) = if p = g_wh s K then d p - g_w s K else d p
    by_cases e : g_wh s K = p
    · rw [if_pos e] at q; rw [if_pos e.symm]; omega
    · rw [if_neg e] at q; rw [if_neg (fun r => e r.symm)]; omega
  · intro z
    refine ⟨fun j hj hb => ?_, fun p hp => ?_⟩
    · rcases (show j < K ∨ j = K by omega) with q | q
      · exact z.2.1 j q (by rw [Nat.testBit_two_pow_add_gt q] at hb; exact hb)
      · rw [q]; exact z.1
    · have q : (m_ss s p y K : Int) = if p = g_wh s K then d p - g_w s K else d p := z.2.2 p hp
      rw [m_ss_hi h]
      by_cases e : g_wh s K = p
      · rw [if_pos e.symm] at q; rw [if_pos e]; omega
      · rw [if_neg (fun r => e r.symm)] at q; rw [if_neg e]; omega
/-- as many as the first K pieces allow -/
theorem m_count (s : gS) : ∀ (K : Nat) (d : Nat → Int) (f : Nat → Nat), (∀ x, x < 2 ^ K → (m_ok s d K x → f x = 1) ∧ (¬ m_ok s d K x → f x = 0)) → fb_sm f (2 ^ K) = n_all s K d
  | 0, d, f, hf => by
    have e0 := hf 0 (by decide)
    show 0 + f 0 = n_all s 0 d
    rw [Nat.zero_add]
    by_cases z : ∀ p, p < 6 → d p = 0
    · rw [show n_all s 0 d = 1 from (n_pr_0 d 6).trans (if_pos z)]; exact e0.1 ⟨fun j hj => absurd hj (Nat.not_lt_zero j), fun p hp => (z p hp).symm⟩
    · rw [show n_all s 0 d = 0 from (n_pr_0 d 6).trans (if_neg z)]; exact e0.2 (fun y => z (fun p hp => (y.2 p hp).symm))
  | K + 1, d, f, hf => by
    have e2 : 2 ^ (K + 1) = 2 ^ K + 2 ^ K := by rw [Nat.pow_succ]; omega
    rw [e2, fb_sm_split, m_count s K d f (fun x hx => ?_)]
    · show _ = n_all s K d + (if g_wh s K < 6 then n_all s K (fun p => if p = g_wh s K then d p - g_w s K else d p) else 0)
      congr 1
      by_cases hq : g_wh s K < 6
      · rw [if_pos hq]
        refine m_count s K _ _ (fun y hy => ?_)
        have q := hf (2 ^ K + y) (by omega)
        have r := m_ok_hi (s := s) (d := d) hy
        exact ⟨fun z => q.1 (r.mpr ⟨hq, z⟩), fun z => q.2 (fun w => z (r.mp w).2)⟩
      · rw [if_neg hq, fb_sm_cong (g := fun _ => 0) (fun y hy => (hf (2 ^ K + y) (by omega)).2 (fun w => hq ((m_ok_hi hy).mp w).1)), fb_sm_const, Nat.mul_zero]
    · have q := hf x (by omega)
      have r := m_ok_lo (s := s) (d := d) hx
      exact ⟨fun z => q.1 (r.mpr z), fun z => q.2 (fun w => z (r.mp w))⟩
/-- the least of them -/
theorem m_least (s : gS) : ∀ (K : Nat) (d : Nat → Int), (∀ x, l_all s K d = some x → x < 2 ^ K ∧ m_ok s d K x ∧ ∀ y, y < x → ¬ m_ok s d K y) ∧ (l_all s K d = none → ∀ y, y < 2 ^ K → ¬ m_ok s d K y)
  | 0, d => by
    by_cases z : ∀ p, p < 6 → d p = 0
    · rw [show l_all s 0 d = some 0 from (o_sum_0 d 6).trans (if_pos z)]
      refine ⟨fun x hx => ?_, fun h => absurd h (by simp)⟩
      have e := Option.some.inj hx
      subst e
      exact ⟨by decide, ⟨fun j hj => absurd hj (Nat.not_lt_zero j), fun p hp => (z p hp).symm⟩, fun y hy => absurd hy (Nat.not_lt_zero y)⟩
    · rw [show l_all s 0 d = none from (o_sum_0 d 6).trans (if_neg z)]
      exact ⟨fun x hx => absurd hx (by simp), fun _ y hy w => z (fun p hp => by
        have q := w.2 p hp
        exact q.symm)⟩
  | K + 1, d => by
    have e2 : 2 ^ (K + 1) = 2 ^ K + 2 ^ K := by rw [Nat.pow_succ]; omega
    obtain ⟨a1, a2⟩ := m_least s K d
    obtain ⟨b1, b2⟩ := m_least s K (fun p => if p = g_wh s K then d p - g_w s K else d p)
    have e : l_all s (K + 1) d = o_or (l_all s K d) (if g_wh s K < 6 then (l_all s K (fun p => if p = g_wh s K then d p - g_w s K else d p)).map (· + 2 ^ K) else none) := rfl
    rw [e, e2]
    cases ha : l_all s K d with
    | some x0 =>
      obtain ⟨c1, c2, c3⟩ := a1 x0 ha
      refine ⟨fun x hx => ?_, fun h => absurd h (by simp [o_or])⟩
      have e3 : x0 = x := Option.some.inj hx
      subst e3
      exact ⟨by omega, (m_ok_lo c1).mpr c2, fun y hy w => c3 y hy ((m_ok_lo (by omega)).mp w)⟩
    | none =>
      have c := a2 ha
      have lo : ∀ y, y < 2 ^ K → ¬ m_ok s d (K + 1) y := fun y hy w => c y hy ((m_ok_lo hy).mp w)
      have sp : ∀ y, y < 2 ^ K + 2 ^ K → ¬ y < 2 ^ K → ∃ z, z < 2 ^ K ∧ y = 2 ^ K + z := fun y h1 h2 => ⟨y - 2 ^ K, by omega, by omega⟩
      by_cases hq : g_wh s K < 6
      · rw [if_pos hq]
        cases hb : l_all s K (fun p => if p = g_wh s K then d p - g_w s K else d p) with
        | some z0 =>
          obtain ⟨c1, c2, c3⟩ := b1 z0 hb
          refine ⟨fun x hx => ?_, fun h => absurd h (by simp [o_or])⟩
          have e3 : z0 + 2 ^ K = x := Option.some.inj hx
          have e4 : x = 2 ^ K + z0 := by omega
          subst e4
          refine ⟨by omega, (m_ok_hi c1).mpr ⟨hq, c2⟩, fun y hy w => ?_⟩
          by_cases hl : y < 2 ^ K
          · exact lo y hl w
          · obtain ⟨z, hz, e5⟩ := sp y (by omega) hl
            subst e5
            exact c3 z (by omega) ((m_ok_hi hz).mp w).2
        | none =>
          refine ⟨fun x hx => absurd hx (by simp [o_or]), fun _ y hy w => ?_⟩
          by_cases hl : y < 2 ^ K
          · exact lo y hl w
          · obtain ⟨z, hz, e5⟩ := sp y hy hl
            subst e5
            exact b2 hb z hz ((m_ok_hi hz).mp w).2
      · rw [if_neg hq]
        refine ⟨fun x hx => absurd hx (by simp [o_or]), fun _ y hy w => ?_⟩
        by_cases hl : y < 2 ^ K
        · exact lo y hl w
        · obtain ⟨z, hz, e5⟩ := sp y hy hl
          subst e5
          exact hq ((m_ok_hi hz).mp w).1
