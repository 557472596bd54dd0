/-! numbers -/
theorem pm_inc1 (i : Nat) : nI i + Int32.ofInt 1 = nI (i + 1) := (nI_succ i).symm
theorem pm_dec1 (i : Nat) : nI (i + 1) + Int32.ofInt (-1) = nI i := pk_m1 i
theorem pm_t0 : (0 : Int32).toInt = 0 := by decide
theorem pm_t1 : (1 : Int32).toInt = 1 := by decide
theorem pm_tm1 : (-1 : Int32).toInt = -1 := by decide
theorem pm_eqI (a b : Int32) : a = b ↔ a.toInt = b.toInt := Int32.toInt_inj.symm
theorem pm_ltI (a b : Int32) : a < b ↔ a.toInt < b.toInt := Int32.lt_iff_toInt_lt
theorem pm_leI (a b : Int32) : a ≤ b ↔ a.toInt ≤ b.toInt := Int32.le_iff_toInt_le
theorem pm_i1 : (1 : Int32) = nI 1 := by decide
theorem pm_out1 {x : Int32} (h0 : ¬ x = nI 0) : x.toInt < 0 ∨ 0 < x.toInt := by
  simp only [pm_eqI, nI_toInt (show 0 < 2 ^ 31 by decide)] at h0; omega
theorem pm_outN {x : Int32} (m : Nat) (hm : m < 2 ^ 31) (h : ∀ k : Nat, k < m → ¬ x = nI k) : x.toInt < 0 ∨ (m : Int) - 1 < x.toInt := by
  rcases Int.lt_or_le x.toInt 0 with q | q
  · exact Or.inl q
  · rcases Int.lt_or_le ((m : Int) - 1) x.toInt with r | r
    · exact Or.inr r
    · refine absurd ?_ (h x.toInt.toNat (by omega))
      rw [pm_eqI, nI_toInt (by omega)]; omega
theorem pm_out3 {x : Int32} (h0 : ¬ x = nI 0) (h1 : ¬ x = nI 1) (h2 : ¬ x = nI 2) : x.toInt < 0 ∨ 2 < x.toInt := by
  have := pm_outN (x := x) 3 (by decide) (fun k hk => by rcases (show k = 0 ∨ k = 1 ∨ k = 2 by omega) with rfl | rfl | rfl <;> assumption)
  omega
theorem pm_out4 {x : Int32} (h0 : ¬ x = nI 0) (h1 : ¬ x = nI 1) (h2 : ¬ x = nI 2) (h3 : ¬ x = nI 3) : x.toInt < 0 ∨ 3 < x.toInt := by
  have := pm_outN (x := x) 4 (by decide) (fun k hk => by rcases (show k = 0 ∨ k = 1 ∨ k = 2 ∨ k = 3 by omega) with rfl | rfl | rfl | rfl <;> assumption)
  omega
theorem pm_out5 {x : Int32} (h0 : ¬ x = nI 0) (h1 : ¬ x = nI 1) (h2 : ¬ x = nI 2) (h3 : ¬ x = nI 3) (h4 : ¬ x = nI 4) : x.toInt < 0 ∨ 4 < x.toInt := by
  have := pm_outN (x := x) 5 (by decide) (fun k hk => by rcases (show k = 0 ∨ k = 1 ∨ k = 2 ∨ k = 3 ∨ k = 4 by omega) with rfl | rfl | rfl | rfl | rfl <;> assumption)
  omega
theorem pm_out6 {x : Int32} (h0 : ¬ x = nI 0) (h1 : ¬ x = nI 1) (h2 : ¬ x = nI 2) (h3 : ¬ x = nI 3) (h4 : ¬ x = nI 4) (h5 : ¬ x = nI 5) : x.toInt < 0 ∨ 5 < x.toInt := by
  have := pm_outN (x := x) 6 (by decide) (fun k hk => by rcases (show k = 0 ∨ k = 1 ∨ k = 2 ∨ k = 3 ∨ k = 4 ∨ k = 5 by omega) with rfl | rfl | rfl | rfl | rfl | rfl <;> assumption)
  omega
/-! what the pieces are: how many; kind, weight, town, where of each; the stacks, the top first; senses; how often awake -/
abbrev gS : Type := Nat × (Nat → Nat) × (Nat → Nat) × (Nat → Nat) × (Nat → Nat) × (Nat → List Nat) × (Nat → Nat) × Int32
def g_n (s : gS) : Nat := s.1
def g_kd (s : gS) : Nat → Nat := s.2.1
def g_wt (s : gS) : Nat → Nat := s.2.2.1
def g_tw (s : gS) : Nat → Nat := s.2.2.2.1
def g_wh (s : gS) : Nat → Nat := s.2.2.2.2.1
def g_st (s : gS) : Nat → List Nat := s.2.2.2.2.2.1
def g_sn (s : gS) : Nat → Nat := s.2.2.2.2.2.2.1
def g_aw (s : gS) : Int32 := s.2.2.2.2.2.2.2
/-- what is as told -/
def gInv (s : gS) : Prop := g_n s ≤ 12 ∧ (∀ j, j < g_n s → g_kd s j < 4 ∧ 1 ≤ g_wt s j ∧ g_wt s j ≤ 99 ∧ g_tw s j < 4 ∧ g_wh s j ≤ 7) ∧ ∀ p, p < 6 → g_sn s p ≤ 99 ∧ (g_st s p).Nodup ∧ ∀ a, a ∈ g_st s p ↔ a < g_n s ∧ g_wh s a = p
/-- a chain of pieces from the top down -/
def gCh (b : Nat → Int32) : List Nat → Int32 → Prop
  | [], t => t = nI 12
  | a :: l, t => t = nI a ∧ gCh b l (b a)
/-- the object Gold at g (its rows behind it) holds the pieces s -/
def GR (I : pm_I) (g : Nat) (s : gS) : Prop := I g 7 = nI (g_n s) ∧ I g 8 = g_aw s ∧ (∀ j, j < g_n s → I (g + 1) j = nI (g_kd s j) ∧ I (g + 2) j = nI (g_wt s j) ∧ I (g + 3) j = nI (g_tw s j) ∧ I (g + 4) j = nI (g_wh s j)) ∧ ∀ p, p < 6 → gCh (I (g + 5)) (g_st s p) (I (g + 6) p) ∧ I (g + 7) p = nI (g_sn s p)
theorem GR.n {I : pm_I} {s : gS} (h : GR I 1 s) : I 1 7 = nI (g_n s) := h.1
theorem GR.aw {I : pm_I} {s : gS} (h : GR I 1 s) : I 1 8 = g_aw s := h.2.1
theorem GR.kd {I : pm_I} {s : gS} (h : GR I 1 s) {j : Nat} (hj : j < g_n s) : I 2 j = nI (g_kd s j) := (h.2.2.1 j hj).1
theorem GR.wt {I : pm_I} {s : gS} (h : GR I 1 s) {j : Nat} (hj : j < g_n s) : I 3 j = nI (g_wt s j) := (h.2.2.1 j hj).2.1
theorem GR.tw {I : pm_I} {s : gS} (h : GR I 1 s) {j : Nat} (hj : j < g_n s) : I 4 j = nI (g_tw s j) := (h.2.2.1 j hj).2.2.1
theorem GR.wh {I : pm_I} {s : gS} (h : GR I 1 s) {j : Nat} (hj : j < g_n s) : I 5 j = nI (g_wh s j) := (h.2.2.1 j hj).2.2.2
theorem GR.ch {I : pm_I} {s : gS} (h : GR I 1 s) {p : Nat} (hp : p < 6) : gCh (I 6) (g_st s p) (I 7 p) := (h.2.2.2 p hp).1
theorem GR.sn {I : pm_I} {s : gS} (h : GR I 1 s) {p : Nat} (hp : p < 6) : I 8 p = nI (g_sn s p) := (h.2.2.2 p hp).2
/-- what a piece weighs -/
def g_w (s : gS) (j : Nat) : Nat := g_wt s j + if g_kd s j = 1 then 2 else 0
/-- whose it is -/
def g_ow (s : gS) (j : Nat) : Nat := if g_kd s j = 2 then 4 else g_tw s j
/-- the top of a place -/
def g_top (s : gS) (p : Nat) : Nat := (g_st s p).headD 12
def g_load (s : gS) (p : Nat) : Nat := fb_sm (fun j => if g_wh s j = p then g_w s j else 0) (g_n s)
def g_loads (s : gS) : Nat := fb_sm (g_load s) 6
/-- what of the bag is an owner's -/
def g_bag (s : gS) (o : Nat) : Nat := fb_sm (fun j => if g_wh s j = 6 ∧ g_ow s j = o then g_w s j else 0) (g_n s)
/-- the pieces somewhere, as bits -/
def g_set (s : gS) (p : Nat) : Nat := fb_sm (fun j => if g_wh s j = p then 2 ^ j else 0) (g_n s)
def g_cnt (s : gS) (p : Nat) : Nat := fb_sm (fun j => if g_wh s j = p then 1 else 0) (g_n s)
/-- what a set weighs -/
def g_wset (s : gS) (m : Nat) : Nat := fb_sm (fun j => if m.testBit j then g_w s j else 0) (g_n s)
/-- how many lie on a piece -/
def g_off (s : gS) (j : Nat) : Nat := if g_wh s j < 6 then (g_st s (g_wh s j)).idxOf j else 0
/-- a number for a truth -/
def b1 (c : Prop) [Decidable c] : Int32 := if c then nI 1 else nI 0
theorem b1_0 {c : Prop} [Decidable c] : b1 c = 0 ↔ ¬ c := by
  unfold b1; split <;> rename_i h
  · exact ⟨fun q => absurd q (by decide), fun q => absurd h q⟩
  · exact ⟨fun _ => h, fun _ => by decide⟩
theorem b1_t {c : Prop} [Decidable c] (h : c) : nI 1 = b1 c := by unfold b1; rw [if_pos h]
theorem b1_f {c : Prop} [Decidable c] (h : ¬ c) : nI 0 = b1 c := by unfold b1; rw [if_neg h]
theorem b1_z {c : Prop} [Decidable c] : narrow .boolean (.int (b1 c)) = .int (b1 c) := by unfold b1; split <;> rfl
theorem gInv.n12 {s : gS} (h : gInv s) : g_n s ≤ 12 := h.1
theorem gInv.w {s : gS} (h : gInv s) {j : Nat} (hj : j < g_n s) : g_w s j ≤ 101 := by
  have h1 := (h.2.1 j hj).2.2.1
  unfold g_w; split <;> omega
theorem gCh_top {b : Nat → Int32} {l : List Nat} {t : Int32} (h : gCh b l t) : t = nI (l.headD 12) := by
  cases l with
  | nil => exact h
  | cons a l => exact h.1
theorem g_pow {i : Nat} (h : i < 12) : nI 1 <<< (nI i &&& 31) = nI (2 ^ i) := (by decide +kernel : ∀ i, i < 12 → nI 1 <<< (nI i &&& 31) = nI (2 ^ i)) i h
theorem g_orb {a i : Nat} (h : a < 2 ^ i) (hi : i < 12) : nI a ||| (nI 1 <<< (nI i &&& 31)) = nI (a + 2 ^ i) := by
  rw [g_pow hi, fa_or]
  congr 1
  rw [Nat.or_comm]
  have := Nat.two_pow_add_eq_or_of_lt h 1
  rw [Nat.mul_one] at this
  omega
theorem g_bit {m j : Nat} (hm : m < 2 ^ 31) (hj : j < 31) : nI m >>> (nI j &&& 31) &&& nI 1 = nI (m / 2 ^ j % 2) := by
  have e1 : ((nI j &&& 31).toBitVec.smod 32).toNat = j := (by decide +kernel : ∀ n, n < 31 → ((nI n &&& 31).toBitVec.smod 32).toNat = n) j hj
  rw [pk_shrN hm _ j e1]
  have h2 : m / 2 ^ j < 2 ^ 32 := Nat.lt_of_le_of_lt (Nat.div_le_self _ _) (by omega)
  rw [pk_andN h2 1 (by decide)]
theorem g_tb (m j : Nat) : (m / 2 ^ j % 2 = 0) ↔ m.testBit j = false := by
  rw [Nat.testBit_eq_decide_div_mod_eq]
  simp
theorem fb_pow_lt (f : Nat → Nat) (h : ∀ j, f j ≤ 2 ^ j) : ∀ n, fb_sm f n < 2 ^ n
  | 0 => by show 0 < 1; decide
  | n + 1 => by
    have h1 := fb_pow_lt f h n
    have h2 := h n
    rw [fb_sm_succ, Nat.pow_succ]; omega
theorem gInv.mem {s : gS} (h : gInv s) {p a : Nat} (hp : p < 6) : a ∈ g_st s p ↔ a < g_n s ∧ g_wh s a = p := (h.2.2 p hp).2.2 a
/-- no more in a stack than pieces -/
theorem gInv.len {s : gS} (h : gInv s) {p : Nat} (hp : p < 6) : (g_st s p).length ≤ g_n s := by
  have h1 := List.Nodup.length_le_of_subset (l₂ := List.range (g_n s)) (h.2.2 p hp).2.1 (fun a ha => List.mem_range.mpr ((h.mem hp).mp ha).1)
  rw [List.length_range] at h1
  exact h1
theorem GR.cht {I : pm_I} {s : gS} (h : GR I 1 s) {p : Nat} (hp : p < 6) : gCh (I 6) (g_st s p) (nI (g_top s p)) := by
  have h1 := h.ch hp
  have h2 : I 7 p = nI (g_top s p) := gCh_top h1
  rw [h2] at h1; exact h1
def g_pc (m : Nat) : Nat := fb_sm (fun k => m / 2 ^ k % 2) 12
theorem g_pc_set (c : Nat → Prop) [DecidablePred c] : ∀ n, n ≤ 12 → g_pc (fb_sm (fun j => if c j then 2 ^ j else 0) n) = fb_sm (fun j => if c j then 1 else 0) n := by
  have bit : ∀ n k, fb_sm (fun j => if c j then 2 ^ j else 0) n / 2 ^ k % 2 = if k < n ∧ c k then 1 else 0 := by
    intro n
    induction n with
    | zero => intro k; show 0 / 2 ^ k % 2 = _; simp
    | succ n ih =>
      intro k
      have hlt : fb_sm (fun j => if c j then 2 ^ j else 0) n < 2 ^ n := fb_pow_lt _ (fun j => by split <;> simp) n
      have h1 := ih k
      rw [fb_sm_succ]
      by_cases hc : c n
      · rw [if_pos hc]
        rcases Nat.lt_trichotomy k n with q | q | q
        · have e : 2 ^ n = 2 ^ k * (2 * 2 ^ (n - k - 1)) := by rw [← Nat.mul_assoc, ← Nat.pow_succ, ← Nat.pow_add]; congr 1; omega
          rw [e, Nat.add_mul_div_left _ _ (Nat.two_pow_pos k), Nat.add_mul_mod_self_left, h1]
          simp only [show (k < n ∧ c k) ↔ (k < n + 1 ∧ c k) from ⟨fun z => ⟨by omega, z.2⟩, fun z => ⟨q, z.2⟩⟩]
        · subst q
          rw [Nat.add_div_right _ (Nat.two_pow_pos k), Nat.div_eq_of_lt hlt, if_pos ⟨by omega, hc⟩]
        · have : fb_sm (fun j => if c j then 2 ^ j else 0) n + 2 ^ n < 2 ^ k := Nat.lt_of_lt_of_le (by omega : _ < 2 ^ n * 2) (by rw [← Nat.pow_succ]; exact Nat.pow_le_pow_right (by decide) q)
          rw [Nat.div_eq_of_lt this, if_neg (by omega)]
      · rw [if_neg hc, Nat.add_zero, h1]
        by_cases e : k = n
        · subst e; rw [if_neg (by omega), if_neg (fun z => hc z.2)]
        · simp only [show (k < n ∧ c k) ↔ (k < n + 1 ∧ c k) from ⟨fun z => ⟨by omega, z.2⟩, fun z => ⟨by omega, z.2⟩⟩]
  intro n hn
  have e : g_pc (fb_sm (fun j => if c j then 2 ^ j else 0) n) = fb_sm (fun k => if k < n ∧ c k then 1 else 0) 12 := fb_sm_cong (fun k _ => bit n k)
  rw [e, show 12 = n + (12 - n) by omega, fb_sm_split]
  have z1 : fb_sm (fun k => if k < n ∧ c k then 1 else 0) n = fb_sm (fun j => if c j then 1 else 0) n := fb_sm_cong (fun k hk => by simp [hk])
  have z2 : fb_sm (fun k => (fun k => if k < n ∧ c k then 1 else 0) (n + k)) (12 - n) = fb_sm (fun _ => 0) (12 - n) := fb_sm_cong (fun k _ => by simp; omega)
  rw [z1, z2, fb_sm_const]; simp
theorem g_pc_g {s : gS} (h : gInv s) (p : Nat) : g_pc (g_set s p) = g_cnt s p := g_pc_set (fun j => g_wh s j = p) _ h.1
theorem g_set_lt (s : gS) (p : Nat) : g_set s p < 2 ^ g_n s := fb_pow_lt _ (fun j => by split <;> simp) _
theorem g_set_4096 {s : gS} (h : gInv s) (p : Nat) : g_set s p < 4096 := Nat.lt_of_lt_of_le (g_set_lt s p) (Nat.pow_le_pow_right (by decide) h.1)
theorem g_load_le {s : gS} (h : gInv s) (p : Nat) : g_load s p ≤ 1212 := by
  have h1 : g_load s p ≤ g_n s * 101 := by
    unfold g_load
    refine fb_sm_bound (fun k hk => ?_)
    have := h.w hk
    split <;> omega
  have := h.1
  omega
