theorem h_same (s : gS) (c : Nat) : g_n (s_do s c) = g_n s ∧ g_kd (s_do s c) = g_kd s ∧ g_wt (s_do s c) = g_wt s ∧ g_sn (s_do s c) = g_sn s := by
  unfold s_do
  split
  · exact ⟨rfl, rfl, rfl, rfl⟩
  · split
    · exact ⟨rfl, rfl, rfl, rfl⟩
    · split <;> exact ⟨rfl, rfl, rfl, rfl⟩
theorem h_gw (s : gS) (c j : Nat) : g_w (s_do s c) j = g_w s j := by
  obtain ⟨_, e1, e2, _⟩ := h_same s c
  unfold g_w; rw [e1, e2]
theorem h_ix_cons {i x : Nat} (h : x ≠ i) (l : List Nat) : (x :: l).idxOf i = l.idxOf i + 1 := by
  rw [List.idxOf_cons, show (x == i) = false by simp [h], cond_false]
theorem h_ix_tail {i : Nat} {l : List Nat} (h : l.head? ≠ some i) : l.idxOf i ≤ l.tail.idxOf i + 1 := by
  cases l with
  | nil => show (List.idxOf i []) ≤ List.idxOf i [] + 1; omega
  | cons a t =>
    rw [h_ix_cons (fun z => h (by rw [← z]; rfl))]; exact Nat.le_refl _
theorem h_off0 {s : gS} (hI : gInv s) {i : Nat} (hi : i < g_n s) (hw : g_wh s i < 6) (ht : g_top s (g_wh s i) = i) : g_off s i = 0 := by
  have hm : i ∈ g_st s (g_wh s i) := (hI.mem hw).mpr ⟨hi, rfl⟩
  unfold g_off
  rw [if_pos hw]
  unfold g_top at ht
  cases hl : g_st s (g_wh s i) with
  | nil => rw [hl] at hm; exact absurd hm (by simp)
  | cons a l =>
    rw [hl] at ht
    rw [show a = i from ht, List.idxOf_cons_self]
theorem h_off0' {s : gS} (hI : gInv s) {i : Nat} (hi : i < g_n s) (hw : g_wh s i < 6) (h0 : g_off s i = 0) : g_top s (g_wh s i) = i := by
  have hm : i ∈ g_st s (g_wh s i) := (hI.mem hw).mpr ⟨hi, rfl⟩
  unfold g_off at h0
  rw [if_pos hw] at h0
  unfold g_top
  cases hl : g_st s (g_wh s i) with
  | nil => rw [hl] at hm; exact absurd hm (by simp)
  | cons a l =>
    rw [hl] at h0
    by_cases e : a = i
    · exact e
    · rw [h_ix_cons e] at h0; omega
theorem h_off {i : Nat} : ∀ (r : Nat) (s : gS) (q : List Nat), gInv s → i < g_n s → g_wh s i < 6 → h_f i r s = some q → g_off s i < r + 1
  | 0, s, q, hI, hi, hw, h => by
    rw [h_f_eq] at h
    obtain ⟨c, t, _, ht, e⟩ := h_fst_get _ _ _ h
    by_cases v : h_B s i c
    · rw [h_off0 hI hi hw v.2.2.2.2]; decide
    · rw [h_at_0 v] at ht; exact absurd ht (by simp)
  | r + 1, s, q, hI, hi, hw, h => by
    rw [h_f_eq] at h
    obtain ⟨c, t, _, ht, e⟩ := h_fst_get _ _ _ h
    by_cases v : h_V s c
    · rw [h_at_s v] at ht
      rcases h_eff hI v.ok v.can hi hw with ⟨_, z, _⟩ | ⟨z1, l, z2, z3⟩
      · rw [h_off0 hI hi hw z]; omega
      · have hI' := gInv_do hI v.ok v.can
        have ih := h_off r (s_do s c) t hI' (by rw [(h_same s c).1]; exact hi) (by rw [z1]; exact hw) ht
        unfold g_off at ih ⊢
        rw [z1, if_pos hw, z2] at ih
        rw [if_pos hw]
        rcases z3 with z | ⟨x, zx, z, _⟩ | ⟨_, _, zh, z | ⟨x, zx, z⟩⟩
        · rw [z] at ih; omega
        · rw [z, h_ix_cons zx] at ih; omega
        · rw [z] at ih; have := h_ix_tail zh; omega
        · rw [z, h_ix_cons zx] at ih; have := h_ix_tail zh; omega
    · rw [h_at_V v] at ht; exact absurd ht (by simp)
theorem h_wh {s : gS} (hI : gInv s) {i c : Nat} (hi : i < g_n s) (hw : g_wh s i < 6) (v : h_V s c) (hb : ¬ h_B s i c) : g_wh (s_do s c) i < 6 := by
  rcases h_eff hI v.ok v.can hi hw with ⟨z1, z2, z3⟩ | ⟨z1, _⟩
  · have h4 := v.1
    have h3 : a_h c = 3 := by
      rcases (show a_h c = 0 ∨ a_h c = 2 ∨ a_h c = 3 by omega) with e | e | e
      · exact absurd ⟨v, Or.inl e, hw, z1, z2⟩ hb
      · exact absurd ⟨v, Or.inr e, hw, z1, z2⟩ hb
      · exact e
    rw [s_do_3 h3]
    show (if i = g_top s (a_p c) then a_o c else (if i = g_top s (a_p c) then 6 else g_wh s i)) < 6
    rw [z1, z2, if_pos rfl]
    exact (v.2.2.2.1 h3).1
  · rw [z1]; exact hw
/-- an act that neither brings a piece into the bag nor takes one from where the piece lies doesn't help the last act -/
theorem h_help {s : gS} (hI : gInv s) {i c : Nat} (hi : i < g_n s) (hw : g_wh s i < 6) (hN : h_f i 0 s = none) (v : h_V s c) (hh : a_h c = 1 ∨ a_h c = 3 ∧ a_p c ≠ g_wh s i) : h_f i 0 (s_do s c) = none := by
  cases e : h_f i 0 (s_do s c) with
  | none => rfl
  | some q =>
    exfalso
    rw [h_f_eq] at e
    obtain ⟨d, t, _, ht, _⟩ := h_fst_get _ _ _ e
    have hb : h_B (s_do s c) i d := by
      refine Classical.byContradiction (fun z => ?_)
      rw [h_at_0 z] at ht; exact absurd ht (by simp)
    obtain ⟨vd, b1, b2, b3, b4⟩ := hb
    obtain ⟨s1, s2, s3, s4⟩ := h_same s c
    have hst : g_wh (s_do s c) i = g_wh s i ∧ g_st (s_do s c) (g_wh s i) = g_st s (g_wh s i) := by
      rcases h_eff hI v.ok v.can hi hw with ⟨z1, z2, z3⟩ | ⟨z1, l, z2, z3 | ⟨x, zx, z3, _⟩ | ⟨z3, z4, _⟩⟩
      · rcases hh with hh | hh
        · exact absurd hh z3
        · exact absurd z1 hh.2
      · exact ⟨z1, by rw [z2, z3]⟩
      · rw [z1] at b4
        unfold g_top at b4
        rw [z2, z3] at b4
        exact absurd b4 zx
      · rcases hh with hh | hh
        · exact absurd hh z4
        · exact absurd z3 hh.2
    obtain ⟨w1, w2⟩ := hst
    have htop : g_top (s_do s c) (g_wh s i) = g_top s (g_wh s i) := by unfold g_top; rw [w2]
    have h6 : ∀ j, g_wh (s_do s c) j = 6 → g_wh s j = 6 := fun j hj => by
      have o2 := v.2.1
      rcases hh with hh | ⟨hh, _⟩
      · rw [s_do_1 hh] at hj
        have hj2 : (if j = a_o c then a_p c else g_wh s j) = 6 := hj
        by_cases z : j = a_o c
        · rw [if_pos z] at hj2; omega
        · rw [if_neg z] at hj2; exact hj2
      · have o4 := (v.2.2.2.1 hh).1
        rw [s_do_3 hh] at hj
        have hj2 : (if j = g_top s (a_p c) then a_o c else (if j = g_top s (a_p c) then 6 else g_wh s j)) = 6 := hj
        by_cases z : j = g_top s (a_p c)
        · rw [if_pos z] at hj2; omega
        · rw [if_neg z, if_neg z] at hj2; exact hj2
    rw [w1] at b3 b4
    have e1 : a_in (s_do s c) d = a_in s d := by unfold a_in; rw [h_gw]
    have e2 : a_out (s_do s c) d = a_out s d := by unfold a_out; rw [h_gw, b3, htop]
    have vd2 : h_V s d := by
      obtain ⟨v1, v2, v3, v4, v5, ⟨v6, v7⟩, v8⟩ := vd
      refine ⟨v1, v2, fun z => by rw [← s1]; exact v3 z, v4, v5, ⟨?_, ?_⟩, fun z => v8 ?_⟩
      · rcases v6 with z | z
        · exact Or.inl z
        · right; rw [b3, w2] at z; rw [b3]; exact z
      · rcases v7 with z | z | z
        · exact Or.inl z
        · exact Or.inr (Or.inl z)
        · exact Or.inr (Or.inr (h6 _ z))
      · show g_sn (s_do s c) (a_p d) < (a_in (s_do s c) d - a_out (s_do s c) d) + (a_out (s_do s c) d - a_in (s_do s c) d) ∨ a_h d = 3 ∧ g_sn (s_do s c) (a_o d) < a_out (s_do s c) d
        rw [e1, e2, s4]; exact z
    have hn := h_f_none hI hN d
    rw [h_at_1 ⟨vd2, b1, hw, b3, by rw [← htop]; exact b4⟩] at hn
    exact absurd hn (by simp)
/-! the last act -/
theorem h_0_no {s : gS} {i : Nat} (h : ¬ (g_wh s i < 6 ∧ g_top s (g_wh s i) = i)) : h_f i 0 s = none := by
  rw [h_f_eq, h_fst_to (b := 3600) (Nat.zero_le _) (fun c _ _ => h_at_0 (fun z => h ⟨z.2.2.1, z.2.2.2.2⟩)), h_fst_end (Nat.le_refl _)]
theorem h_0_l {s : gS} (hI : gInv s) {i : Nat} (hi : i < g_n s) (hw : g_wh s i < 6) (ht : g_top s (g_wh s i) = i) : h_f i 0 s = h_fst (h_at i 0 s) (3600 - 100 * g_wh s i) (100 * g_wh s i) ∧ a_can s (100 * g_wh s i) ∧ (h_B s i (100 * g_wh s i) ↔ ¬ a_felt s (100 * g_wh s i)) ∧ (¬ h_B s i (100 * g_wh s i) → h_f i 0 s = h_fst (h_at i 0 s) (3600 - (2000 + 100 * g_wh s i + 0)) (2000 + 100 * g_wh s i + 0)) := by
  have hm : i ∈ g_st s (g_wh s i) := (hI.mem hw).mpr ⟨hi, rfl⟩
  have hne : g_st s (g_wh s i) ≠ [] := fun z => by rw [z] at hm; exact absurd hm (by simp)
  obtain ⟨k1, k2, k3⟩ := h_code (h := 0) (p := g_wh s i) (o := 0) (by omega) (by omega)
  rw [show 1000 * 0 + 100 * g_wh s i + 0 = 100 * g_wh s i by omega] at k1 k2 k3
  have hc : a_can s (100 * g_wh s i) := ⟨Or.inr (by rw [k2]; exact hne), Or.inl k1⟩
  have lt1 : ∀ c, c < 100 * g_wh s i → ¬ h_B s i c := fun c hlt z => by
    have z1 := z.2.2.2.1
    have z2 : c / 100 % 10 = g_wh s i := z1
    omega
  refine ⟨?_, hc, ⟨fun z => z.1.2.2.2.2.2.2, fun z => ⟨⟨by omega, by omega, fun y => by omega, fun y => by omega, fun _ => k3, hc, z⟩, Or.inl k1, hw, k2, ht⟩⟩, fun hb => ?_⟩
  · rw [h_f_eq, h_fst_to (b := 100 * g_wh s i) (Nat.zero_le _) (fun c _ hlt => h_at_0 (lt1 c hlt))]
  · rw [h_f_eq, h_fst_to (b := 2000 + 100 * g_wh s i + 0) (Nat.zero_le _) (fun c _ hlt => h_at_0 (fun z => ?_))]
    obtain ⟨v, z1, _, z3, _⟩ := z
    have z4 : c / 100 % 10 = g_wh s i := z3
    rcases z1 with z1 | z1
    · have z5 := v.2.2.2.2.1 z1
      have z6 := h_decode c (by omega)
      rw [z1, z3, z5] at z6
      exact hb (by rw [show 100 * g_wh s i = c by omega]; exact ⟨v, Or.inl z1, by omega, z3, ht⟩)
    · have z7 : c / 1000 = 2 := z1
      omega
theorem h_0_s {s : gS} {i k : Nat} (h12 : g_n s ≤ 12) (hk : k < g_n s) (hw : g_wh s i < 6) (ht : g_top s (g_wh s i) = i) : a_ok s (2000 + 100 * g_wh s i + k) ∧ (h_B s i (2000 + 100 * g_wh s i + k) ↔ a_can s (2000 + 100 * g_wh s i + k) ∧ ¬ a_felt s (2000 + 100 * g_wh s i + k)) := by
  obtain ⟨k1, k2, k3⟩ := h_code (h := 2) (p := g_wh s i) (o := k) (by omega) (by omega)
  rw [show 1000 * 2 + 100 * g_wh s i + k = 2000 + 100 * g_wh s i + k by omega] at k1 k2 k3
  exact ⟨⟨by omega, by omega, fun _ => by omega, fun z => by omega⟩, fun z => z.1.2.2.2.2.2, fun z => ⟨⟨by omega, by omega, fun _ => by omega, fun y => by omega, fun y => by omega, z⟩, Or.inr k1, hw, k2, ht⟩⟩
theorem h_0_e {s : gS} {i : Nat} (hw : g_wh s i < 6) : h_fst (h_at i 0 s) (3600 - (2000 + 100 * g_wh s i + g_n s)) (2000 + 100 * g_wh s i + g_n s) = none := by
  by_cases hb : 2000 + 100 * g_wh s i + g_n s ≤ 3600
  · rw [h_fst_to hb (fun c h1 _ => h_at_0 (fun z => ?_)), h_fst_end (Nat.le_refl _)]
    obtain ⟨v, z1, _, z3, _⟩ := z
    have z4 : c / 100 % 10 = g_wh s i := z3
    rcases z1 with z1 | z1
    · have z5 : c / 1000 = 0 := z1
      omega
    · have z5 := v.2.2.1 (Or.inr z1)
      have z6 : c / 1000 = 2 := z1
      have z7 : c % 100 < g_n s := z5
      omega
  · exact h_fst_end (by omega)
/-! the next act -/
def h_nx (s : gS) : Nat → Nat → Nat
  | 0, c => c
  | k + 1, c => if h_V s c then c else h_nx s k (c + 1)
theorem h_nx_sp (s : gS) : ∀ k c, c ≤ h_nx s k c ∧ h_nx s k c ≤ c + k ∧ (h_nx s k c < c + k → h_V s (h_nx s k c)) ∧ ∀ b, c ≤ b → b < h_nx s k c → ¬ h_V s b
  | 0, c => ⟨Nat.le_refl _, Nat.le_refl _, fun h => absurd h (by show ¬ c < c + 0; omega), fun b h1 h2 => absurd h2 (by show ¬ b < c; omega)⟩
  | k + 1, c => by
    by_cases v : h_V s c
    · have e : h_nx s (k + 1) c = c := if_pos v
      rw [e]
      exact ⟨Nat.le_refl _, by omega, fun _ => v, fun b h1 h2 => by omega⟩
    · have e : h_nx s (k + 1) c = h_nx s k (c + 1) := if_neg v
      obtain ⟨i1, i2, i3, i4⟩ := h_nx_sp s k (c + 1)
      rw [e]
      refine ⟨by omega, by omega, fun z => i3 (by omega), fun b h1 h2 => ?_⟩
      rcases (show b = c ∨ c + 1 ≤ b by omega) with z | z
      · rw [z]; exact v
      · exact i4 b z h2
theorem h_nx_to {s : gS} {i r c : Nat} : h_fst (h_at i r s) (3600 - c) c = h_fst (h_at i r s) (3600 - h_nx s (3600 - c) c) (h_nx s (3600 - c) c) := by
  obtain ⟨i1, i2, i3, i4⟩ := h_nx_sp s (3600 - c) c
  exact h_fst_to i1 (fun b h1 h2 => h_at_V (i4 b h1 h2))
/-! the answer -/
def h_find (s : gS) (i : Nat) : Option (List Nat) := if g_wh s i = 6 then some [] else match h_f i 0 s with
  | some q => some q
  | none => match h_f i 1 s with
    | some q => some q
    | none => h_f i 2 s
def d_had (s : gS) (i : Nat) (k : Int32) : Int32 := match h_find s i with
  | none => -4
  | some q => if nI q.length ≤ k then -4 else if k < 0 then nI q.length else nI (q.getD (nt k) 0)
def sp_had (X : xS) (i k : Int32) : Int32 × xS := if ¬ (isPc X i ∧ iR k (-1) 2) then (-1, X) else if g_wh (x_g X) (nt i) = 7 then (-2, X) else (d_had (x_g X) (nt i) k, X)
theorem xi_had {X : xS} {i k : Int32} (h : xInv X) : xInv (sp_had X i k).2 := by
  unfold sp_had
  split
  · exact h
  · split <;> exact h
