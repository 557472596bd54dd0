set_option maxRecDepth 100000 in
set_option maxHeartbeats 4000000 in
theorem c_isIn {I : pm_I} {L : pm_L} {x A B : Int32} {a b : Int} (ha : A.toInt = a) (hb : B.toInt = b) : PC 0 0 0 yX9_isIn cX9_isIn 3 (some (.boolean)) [.int x, .int A, .int B] GG I L (QR GG I L (b1 (iR x a b))) := by
  refine PC.of [some (.int x), some (.int A), some (.int B)] (by decide) (Nat.le_of_ble_eq_true rfl) rfl (fun l P => ?_)
  refine pm_iload_n (pc := 0) dX9_isIn_0 rfl ?_
  refine pm_iload_n (pc := 1) dX9_isIn_1 rfl ?_
  refine pm_icmp_lt (pc := 2) (tgt := 14) dX9_isIn_2 rfl (fun h2 => ?_) (fun h2 => ?_)
  · refine pm_iconst (pc := 14) (v := nI 0) dX9_isIn_14 (by decide) ?_
    refine pm_zret (pc := 15) (by decide) rfl (Nat.le_refl _) (Nat.le_refl _) dX9_isIn_15 ?_
    exact QR.r (by first | exact b1_t (by rw [pm_ltI] at *; omega) | exact b1_f (by rw [pm_ltI] at *; omega))
  · refine pm_iload_n (pc := 5) dX9_isIn_5 rfl ?_
    refine pm_iload_n (pc := 6) dX9_isIn_6 rfl ?_
    refine pm_icmp_gt (pc := 7) (tgt := 14) dX9_isIn_7 rfl (fun h7 => ?_) (fun h7 => ?_)
    · refine pm_iconst (pc := 14) (v := nI 0) dX9_isIn_14 (by decide) ?_
      refine pm_zret (pc := 15) (by decide) rfl (Nat.le_refl _) (Nat.le_refl _) dX9_isIn_15 ?_
      exact QR.r (by first | exact b1_t (by rw [pm_ltI] at *; omega) | exact b1_f (by rw [pm_ltI] at *; omega))
    · refine pm_iconst (pc := 10) (v := nI 1) dX9_isIn_10 (by decide) ?_
      refine pm_goto (pc := 11) (tgt := 15) dX9_isIn_11 rfl ?_
      refine pm_zret (pc := 15) (by decide) rfl (Nat.le_refl _) (Nat.le_refl _) dX9_isIn_15 ?_
      exact QR.r (by first | exact b1_t (by rw [pm_ltI] at *; omega) | exact b1_f (by rw [pm_ltI] at *; omega))
theorem c_isPl {I : pm_I} {L : pm_L} {x : Int32} : PC 0 0 0 yX9_isPlace cX9_isPlace 1 (some (.boolean)) [.int x] GG I L (QR GG I L (b1 (iR x 0 5))) := by
  have h := c_isPlace (I := I) (L := L) (x := x)
  rw [b1_congr (q := iR x 0 5) (by rw [pm_leI, pm_ltI, nI_toInt (by decide), pm_t0]; constructor <;> intro z <;> exact ⟨by omega, by omega⟩)] at h
  exact h
theorem c_isPc {I : pm_I} {L : pm_L} {s : gS} {x : Int32} (hG : GR I 1 s) (hI : gInv s) : PC 0 0 0 yX2_isPiece cX2_isPiece 2 (some (.boolean)) [.ref 1, .int x] GG I L (QR GG I L (b1 (iR x 0 ((g_n s : Int) - 1)))) := by
  have h12 := hI.n12
  by_cases h : iR x 0 ((g_n s : Int) - 1)
  · obtain ⟨j, hj, rfl⟩ := iR_of (b := g_n s - 1) (by omega) ⟨h.1, by have := h.1; have := h.2; omega⟩
    have hj' : j < g_n s := by have := h.1; have := h.2; omega
    have h2 := c_isPiece (L := L) hG.n hI.n12 hj'
    rw [b1_t h] at h2; exact h2
  · have h2 := c_isPieceN (I := I) (L := L) (x := x) hG.n hI.n12 (by rw [pm_ltI, pm_leI, nI_toInt (by omega), pm_t0]; by_cases z : x.toInt < 0; exact Or.inl z; exact Or.inr (Classical.byContradiction fun y => h ⟨by omega, by omega⟩))
    rw [b1_f h] at h2; exact h2
theorem isPc_of {X : xS} (hX : xInv X) {x : Int32} (h : isPc X x) : ∃ j : Nat, j < g_n (x_g X) ∧ j < 12 ∧ x = nI j := by
  have h12 := hX.s.n12
  obtain ⟨j, hj, e⟩ := iR_of (b := g_n (x_g X) - 1) (by omega) ⟨h.1, by have := h.1; have := h.2; omega⟩
  exact ⟨j, by have := h.1; have := h.2; omega, by have := h.1; have := h.2; omega, e⟩
theorem isPl_of {x : Int32} (h : isPl x) : ∃ j : Nat, j < 6 ∧ x = nI j := by
  obtain ⟨j, hj, e⟩ := iR_of (b := 5) (by decide) h
  exact ⟨j, by omega, e⟩
theorem isPc_nI {X : xS} (hX : xInv X) {j : Nat} (h : j < g_n (x_g X)) : isPc X (nI j) := by
  have h12 := hX.s.n12
  have := (iR_nI (b := g_n (x_g X) - 1) (show j < 2 ^ 31 by omega)).mpr (by omega)
  exact ⟨this.1, by have := this.2; omega⟩
theorem isPl_nI {j : Nat} (h : j < 6) : isPl (nI j) := (iR_nI (b := 5) (by omega)).mpr (by omega)
theorem b1_nt {c : Prop} [Decidable c] (h : b1 c ≠ 0) : c := Classical.byContradiction fun z => h (b1_0.mpr z)
theorem b1_nf {c : Prop} [Decidable c] (h : b1 c = 0) : ¬ c := b1_0.mp h
theorem d_told_0 {s : gS} {j : Nat} : d_told s j (nI 0) = nI (g_kd s j) := if_pos rfl
theorem d_told_1 {s : gS} {j : Nat} : d_told s j (nI 1) = nI (g_w s j) := by unfold d_told; rw [if_neg (by decide), if_pos rfl]
theorem d_told_2 {s : gS} {j : Nat} : d_told s j (nI 2) = nI (g_ow s j) := by unfold d_told; rw [if_neg (by decide), if_neg (by decide), if_pos rfl]
theorem d_told_3 {s : gS} {j : Nat} : d_told s j (nI 3) = nI (g_wh s j) := by unfold d_told; rw [if_neg (by decide), if_neg (by decide), if_neg (by decide), if_pos rfl]
theorem d_told_4 {s : gS} {j : Nat} : d_told s j (nI 4) = nI (g_off s j) := by unfold d_told; rw [if_neg (by decide), if_neg (by decide), if_neg (by decide), if_neg (by decide), if_pos rfl]
theorem d_told_x {s : gS} {j : Nat} {w : Int32} (h0 : ¬ w = nI 0) (h1 : ¬ w = nI 1) (h2 : ¬ w = nI 2) (h3 : ¬ w = nI 3) (h4 : ¬ w = nI 4) : d_told s j w = -1 := by unfold d_told; rw [if_neg h0, if_neg h1, if_neg h2, if_neg h3, if_neg h4]
theorem d_of_0 {s : gS} {j : Nat} : d_of s j (nI 0) = nI (g_load s j) := if_pos rfl
theorem d_of_1 {s : gS} {j : Nat} : d_of s j (nI 1) = nI (g_st s j).length := by unfold d_of; rw [if_neg (by decide), if_pos rfl]
theorem d_of_2 {s : gS} {j : Nat} : d_of s j (nI 2) = nI (g_sn s j) := by unfold d_of; rw [if_neg (by decide), if_neg (by decide), if_pos rfl]
theorem d_of_3 {s : gS} {j : Nat} : d_of s j (nI 3) = nI (g_top s j) := by unfold d_of; rw [if_neg (by decide), if_neg (by decide), if_neg (by decide), if_pos rfl]
theorem d_of_x {s : gS} {j : Nat} {w : Int32} (h0 : ¬ w = nI 0) (h1 : ¬ w = nI 1) (h2 : ¬ w = nI 2) (h3 : ¬ w = nI 3) : d_of s j w = -1 := by unfold d_of; rw [if_neg h0, if_neg h1, if_neg h2, if_neg h3]
theorem d_count_0 {s : gS} : d_count s (nI 0) = nI (g_n s) := if_pos rfl
theorem d_count_1 {s : gS} : d_count s (nI 1) = nI (g_cnt s 6) := by unfold d_count; rw [if_neg (by decide), if_pos rfl]
theorem d_count_2 {s : gS} : d_count s (nI 2) = nI (g_cnt s 7) := by unfold d_count; rw [if_neg (by decide), if_neg (by decide), if_pos rfl]
theorem d_count_3 {s : gS} : d_count s (nI 3) = g_aw s := by unfold d_count; rw [if_neg (by decide), if_neg (by decide), if_neg (by decide), if_pos rfl]
theorem d_count_4 {s : gS} : d_count s (nI 4) = nI (g_loads s) := by unfold d_count; rw [if_neg (by decide), if_neg (by decide), if_neg (by decide), if_neg (by decide), if_pos rfl]
theorem d_count_5 {s : gS} : d_count s (nI 5) = nI (g_load s 6) := by unfold d_count; rw [if_neg (by decide), if_neg (by decide), if_neg (by decide), if_neg (by decide), if_neg (by decide), if_pos rfl]
theorem d_count_x {s : gS} {w : Int32} (h0 : ¬ w = nI 0) (h1 : ¬ w = nI 1) (h2 : ¬ w = nI 2) (h3 : ¬ w = nI 3) (h4 : ¬ w = nI 4) (h5 : ¬ w = nI 5) : d_count s w = -1 := by unfold d_count; rw [if_neg h0, if_neg h1, if_neg h2, if_neg h3, if_neg h4, if_neg h5]
theorem sp_lift_t {X : xS} {p : Nat} (hp : p < 6) : sp_lift X (nI p) = sp_act X (100 * p) := by unfold sp_lift; rw [if_pos (isPl_nI hp), nt_nI (by omega)]
theorem sp_swap_t {X : xS} (hX : xInv X) {p i : Nat} (hp : p < 6) (hi : i < g_n (x_g X)) : sp_swap X (nI p) (nI i) = sp_act X (2000 + 100 * p + i) := by have := hX.s.n12; unfold sp_swap; rw [if_pos ⟨isPc_nI hX hi, isPl_nI hp⟩, nt_nI (by omega), nt_nI (by omega)]
theorem sp_push_t {X : xS} {p q : Nat} (hp : p < 6) (hq : q < 6) (hne : nI p ≠ nI q) : sp_push X (nI p) (nI q) = sp_act X (3000 + 100 * p + q) := by unfold sp_push; rw [if_pos ⟨isPl_nI hp, isPl_nI hq, hne⟩, nt_nI (by omega), nt_nI (by omega)]
def s_lay (s : gS) (i p : Nat) : Int32 := if (s_try s (1000 + 100 * p + i)).1 = 0 then nI (g_load (s_try s (1000 + 100 * p + i)).2 p) else (s_try s (1000 + 100 * p + i)).1
theorem sp_lay_t {X : xS} (hX : xInv X) {p i : Nat} (hp : p < 6) (hi : i < g_n (x_g X)) : sp_lay X (nI i) (nI p) = (s_lay (x_g X) i p, xg X (s_try (x_g X) (1000 + 100 * p + i)).2) := by have := hX.s.n12; unfold sp_lay s_lay; rw [if_pos ⟨isPc_nI hX hi, isPl_nI hp⟩, nt_nI (show i < 2 ^ 31 by omega), nt_nI (show p < 2 ^ 31 by omega)]
theorem a_h_of {h p o : Nat} (hp : p < 10) (ho : o < 100) : a_h (1000 * h + 100 * p + o) = h := by unfold a_h; omega
theorem a_p_of {h p o : Nat} (hp : p < 10) (ho : o < 100) : a_p (1000 * h + 100 * p + o) = p := by unfold a_p; omega
theorem a_o_of {h p o : Nat} (ho : o < 100) : a_o (1000 * h + 100 * p + o) = o := by unfold a_o; omega
theorem a_ok_of {s : gS} {h p o : Nat} (hh : h < 4) (hp : p < 6) (ho : o < 100) (h1 : h = 1 ∨ h = 2 → o < g_n s) (h2 : h = 3 → o < 6 ∧ o ≠ p) : a_ok s (1000 * h + 100 * p + o) := by
  refine ⟨by rw [a_h_of (by omega) ho]; exact hh, by rw [a_p_of (by omega) ho]; exact hp, fun z => ?_, fun z => ?_⟩
  · rw [a_h_of (by omega) ho] at z; rw [a_o_of ho]; exact h1 z
  · rw [a_h_of (by omega) ho] at z; rw [a_o_of ho, a_p_of (by omega) ho]; exact h2 z
theorem a_ok0 {s : gS} {p : Nat} (hp : p < 6) : a_ok s (100 * p) := by
  have h := a_ok_of (s := s) (h := 0) (p := p) (o := 0) (by decide) hp (by decide) (fun z => by omega) (fun z => by omega)
  rwa [show 1000 * 0 + 100 * p + 0 = 100 * p by omega] at h
theorem a_ok1 {s : gS} {p i : Nat} (hp : p < 6) (hi : i < g_n s) (h12 : g_n s ≤ 12) : a_ok s (1000 + 100 * p + i) := a_ok_of (h := 1) (by decide) hp (by omega) (fun _ => hi) (fun z => by omega)
theorem a_ok2 {s : gS} {p i : Nat} (hp : p < 6) (hi : i < g_n s) (h12 : g_n s ≤ 12) : a_ok s (2000 + 100 * p + i) := a_ok_of (h := 2) (by decide) hp (by omega) (fun _ => hi) (fun z => by omega)
theorem a_ok3 {s : gS} {p q : Nat} (hp : p < 6) (hq : q < 6) (hne : q ≠ p) : a_ok s (3000 + 100 * p + q) := a_ok_of (h := 3) (by decide) hp (by omega) (fun z => by omega) (fun _ => ⟨hq, hne⟩)
theorem m_try_0 {s : gS} {h p o : Nat} (hp : p < 10) (ho : o < 100) (hh : h ≠ 1) (e : (s_try s (1000 * h + 100 * p + o)).1 = 0) : m_try s (1000 * h + 100 * p + o) = nI (g_top s p) := by
  unfold m_try a_res; rw [if_pos e, a_h_of hp ho, if_neg hh, a_p_of hp ho]
theorem m_try_n {s : gS} {c : Nat} (e : ¬ (s_try s c).1 = 0) : m_try s c = (s_try s c).1 := if_neg e
set_option maxRecDepth 100000 in
set_option maxHeartbeats 4000000 in
theorem x_told {I : pm_I} {L : pm_L} {X : xS} (hR : XR I L X) (hX : xInv X) {x w : Int32} : PC 3 0 0 yX9_told cX9_told 3 (some (.int)) [.ref 0, .int x, .int w] GG I L (XQ I L (sp_told X x w).1 (sp_told X x w).2) := by
  have hG := hR.1
  have hI := hX.s
  have h12 := hI.n12
  refine PC.of [some (.ref 0), some (.int x), some (.int w)] (by decide) (Nat.le_of_ble_eq_true rfl) rfl (fun l P => ?_)
  refine pm_aload_n (pc := 0) dX9_told_0 rfl ?_
  refine pm_getr (pc := 1) (ci := 7) (C0 := RX9) (T := TX9) (N := 9) (j := 0) rfl rfl in_X9 (by decide) wf_X9_10 rfl dX9_told_1 ?_
  refine pm_iload_n (pc := 4) dX9_told_4 rfl ?_
  refine pm_cVR (pc := 5) dX9_told_5 (c_isPc hG hI) wq_X2_isPiece wm_X9_73 wi_X2_isPiece ws_X2_isPiece rfl rfl ⟨Nat.le_of_ble_eq_true rfl, Nat.le_of_ble_eq_true rfl⟩ ⟨Nat.le_of_ble_eq_true rfl, Nat.le_of_ble_eq_true rfl⟩ rfl (Nat.le_of_ble_eq_true rfl) ?_
  refine pm_if_ne (pc := 8) (tgt := 13) dX9_told_8 rfl (fun h8 => ?_) (fun h8 => ?_)
  · obtain ⟨j, hj, hj2, rfl⟩ := isPc_of hX (b1_nt h8)
    refine pm_iload_n (pc := 13) dX9_told_13 rfl ?_
    by_cases hs14_0 : w = nI 0
    · rw [hs14_0]
      refine pm_tableIn (pc := 14) (tgt := 48) dX9_told_14 (by decide) (by decide) (by rfl) rfl ?_
      refine pm_aload_n (pc := 48) dX9_told_48 rfl ?_
      refine pm_getr (pc := 49) (ci := 7) (C0 := RX9) (T := TX9) (N := 9) (j := 0) rfl rfl in_X9 (by decide) wf_X9_10 rfl dX9_told_49 ?_
      refine pm_iload_n (pc := 52) dX9_told_52 rfl ?_
      refine pm_cVR (pc := 53) dX9_told_53 (c_kindOf hG hI hj) wq_X2_kindOf wm_X9_76 wi_X2_kindOf ws_X2_kindOf rfl rfl ⟨Nat.le_of_ble_eq_true rfl, Nat.le_of_ble_eq_true rfl⟩ ⟨Nat.le_of_ble_eq_true rfl, Nat.le_of_ble_eq_true rfl⟩ rfl (Nat.le_of_ble_eq_true rfl) ?_
      refine pm_iret (pc := 56) rfl (Nat.le_refl _) (Nat.le_refl _) dX9_told_56 ?_
      rw [show sp_told X (nI j) (nI 0) = (_, X) from if_pos (isPc_nI hX hj), nt_nI (by omega)]
      exact XQ.r d_told_0.symm hR xF.rf
    by_cases hs14_1 : w = nI 1
    · rw [hs14_1]
      refine pm_tableIn (pc := 14) (tgt := 57) dX9_told_14 (by decide) (by decide) (by rfl) rfl ?_
      refine pm_aload_n (pc := 57) dX9_told_57 rfl ?_
      refine pm_getr (pc := 58) (ci := 7) (C0 := RX9) (T := TX9) (N := 9) (j := 0) rfl rfl in_X9 (by decide) wf_X9_10 rfl dX9_told_58 ?_
      refine pm_iload_n (pc := 61) dX9_told_61 rfl ?_
      refine pm_cVR (pc := 62) dX9_told_62 (c_weighs hG hI hj) wq_X2_weighs wm_X9_80 wi_X2_weighs ws_X2_weighs rfl rfl ⟨Nat.le_of_ble_eq_true rfl, Nat.le_of_ble_eq_true rfl⟩ ⟨Nat.le_of_ble_eq_true rfl, Nat.le_of_ble_eq_true rfl⟩ rfl (Nat.le_of_ble_eq_true rfl) ?_
      refine pm_iret (pc := 65) rfl (Nat.le_refl _) (Nat.le_refl _) dX9_told_65 ?_
      rw [show sp_told X (nI j) (nI 1) = (_, X) from if_pos (isPc_nI hX hj), nt_nI (by omega)]
      exact XQ.r d_told_1.symm hR xF.rf
    by_cases hs14_2 : w = nI 2
    · rw [hs14_2]
      refine pm_tableIn (pc := 14) (tgt := 66) dX9_told_14 (by decide) (by decide) (by rfl) rfl ?_
      refine pm_aload_n (pc := 66) dX9_told_66 rfl ?_
      refine pm_getr (pc := 67) (ci := 7) (C0 := RX9) (T := TX9) (N := 9) (j := 0) rfl rfl in_X9 (by decide) wf_X9_10 rfl dX9_told_67 ?_
      refine pm_iload_n (pc := 70) dX9_told_70 rfl ?_
      refine pm_cVR (pc := 71) dX9_told_71 (c_ownerOf hG hI hj) wq_X2_ownerOf wm_X9_83 wi_X2_ownerOf ws_X2_ownerOf rfl rfl ⟨Nat.le_of_ble_eq_true rfl, Nat.le_of_ble_eq_true rfl⟩ ⟨Nat.le_of_ble_eq_true rfl, Nat.le_of_ble_eq_true rfl⟩ rfl (Nat.le_of_ble_eq_true rfl) ?_
      refine pm_iret (pc := 74) rfl (Nat.le_refl _) (Nat.le_refl _) dX9_told_74 ?_
      rw [show sp_told X (nI j) (nI 2) = (_, X) from if_pos (isPc_nI hX hj), nt_nI (by omega)]
      exact XQ.r d_told_2.symm hR xF.rf
    by_cases hs14_3 : w = nI 3
    · rw [hs14_3]
      refine pm_tableIn (pc := 14) (tgt := 75) dX9_told_14 (by decide) (by decide) (by rfl) rfl ?_
      refine pm_aload_n (pc := 75) dX9_told_75 rfl ?_
      refine pm_getr (pc := 76) (ci := 7) (C0 := RX9) (T := TX9) (N := 9) (j := 0) rfl rfl in_X9 (by decide) wf_X9_10 rfl dX9_told_76 ?_
      refine pm_iload_n (pc := 79) dX9_told_79 rfl ?_
      refine pm_cVR (pc := 80) dX9_told_80 (c_placeOf hG hI hj) wq_X2_placeOf wm_X9_86 wi_X2_placeOf ws_X2_placeOf rfl rfl ⟨Nat.le_of_ble_eq_true rfl, Nat.le_of_ble_eq_true rfl⟩ ⟨Nat.le_of_ble_eq_true rfl, Nat.le_of_ble_eq_true rfl⟩ rfl (Nat.le_of_ble_eq_true rfl) ?_
      refine pm_iret (pc := 83) rfl (Nat.le_refl _) (Nat.le_refl _) dX9_told_83 ?_
      rw [show sp_told X (nI j) (nI 3) = (_, X) from if_pos (isPc_nI hX hj), nt_nI (by omega)]
      exact XQ.r d_told_3.symm hR xF.rf
    by_cases hs14_4 : w = nI 4
    · rw [hs14_4]
      refine pm_tableIn (pc := 14) (tgt := 84) dX9_told_14 (by decide) (by decide) (by rfl) rfl ?_
      refine pm_aload_n (pc := 84) dX9_told_84 rfl ?_
      refine pm_getr (pc := 85) (ci := 7) (C0 := RX9) (T := TX9) (N := 9) (j := 0) rfl rfl in_X9 (by decide) wf_X9_10 rfl dX9_told_85 ?_
      refine pm_iload_n (pc := 88) dX9_told_88 rfl ?_
      refine pm_cVR (pc := 89) dX9_told_89 (c_offOf hG hI hj) wq_X2_offOf wm_X9_89 wi_X2_offOf ws_X2_offOf rfl rfl ⟨Nat.le_of_ble_eq_true rfl, Nat.le_of_ble_eq_true rfl⟩ ⟨Nat.le_of_ble_eq_true rfl, Nat.le_of_ble_eq_true rfl⟩ rfl (Nat.le_of_ble_eq_true rfl) ?_
      refine pm_iret (pc := 92) rfl (Nat.le_refl _) (Nat.le_refl _) dX9_told_92 ?_
      rw [show sp_told X (nI j) (nI 4) = (_, X) from if_pos (isPc_nI hX hj), nt_nI (by omega)]
      exact XQ.r d_told_4.symm hR xF.rf
    refine pm_tableOut (pc := 14) (tgt := 93) dX9_told_14 (pm_out5 hs14_0 hs14_1 hs14_2 hs14_3 hs14_4) rfl ?_
    refine pm_iconst (pc := 93) (v := (-1)) dX9_told_93 (by decide) ?_
    refine pm_iret (pc := 94) rfl (Nat.le_refl _) (Nat.le_refl _) dX9_told_94 ?_
    rw [show sp_told X (nI j) w = (_, X) from if_pos (isPc_nI hX hj), nt_nI (by omega)]
    exact XQ.r (d_told_x hs14_0 hs14_1 hs14_2 hs14_3 hs14_4).symm hR xF.rf
  · refine pm_iconst (pc := 11) (v := (-1)) dX9_told_11 (by decide) ?_
    refine pm_iret (pc := 12) rfl (Nat.le_refl _) (Nat.le_refl _) dX9_told_12 ?_
    rw [show sp_told X x w = (-1, X) from if_neg (b1_nf h8)]
    exact XQ.r rfl hR xF.rf
set_option maxRecDepth 100000 in
set_option maxHeartbeats 4000000 in
theorem x_of {I : pm_I} {L : pm_L} {X : xS} (hR : XR I L X) (hX : xInv X) {x w : Int32} : PC 4 0 0 yX9_of cX9_of 3 (some (.int)) [.ref 0, .int x, .int w] GG I L (XQ I L (sp_of X x w).1 (sp_of X x w).2) := by
  have hG := hR.1
  have hI := hX.s
  have h12 := hI.n12
  refine PC.of [some (.ref 0), some (.int x), some (.int w)] (by decide) (Nat.le_of_ble_eq_true rfl) rfl (fun l P => ?_)
  refine pm_iload_n (pc := 0) dX9_of_0 rfl ?_
  refine pm_cSR (pc := 1) dX9_of_1 (c_isPl) wq_X9_isPlace wm_X9_92 wt_X9_isPlace ⟨Nat.le_of_ble_eq_true rfl, Nat.le_of_ble_eq_true rfl⟩ ⟨Nat.le_of_ble_eq_true rfl, Nat.le_of_ble_eq_true rfl⟩ rfl (Nat.le_of_ble_eq_true rfl) ?_
  refine pm_if_ne (pc := 4) (tgt := 9) dX9_of_4 rfl (fun h4 => ?_) (fun h4 => ?_)
  · obtain ⟨p, hp, rfl⟩ := isPl_of (b1_nt h4)
    refine pm_iload_n (pc := 9) dX9_of_9 rfl ?_
    by_cases hs10_0 : w = nI 0
    · rw [hs10_0]
      refine pm_tableIn (pc := 10) (tgt := 40) dX9_of_10 (by decide) (by decide) (by rfl) rfl ?_
      refine pm_aload_n (pc := 40) dX9_of_40 rfl ?_
      refine pm_getr (pc := 41) (ci := 7) (C0 := RX9) (T := TX9) (N := 9) (j := 0) rfl rfl in_X9 (by decide) wf_X9_10 rfl dX9_of_41 ?_
      refine pm_iload_n (pc := 44) dX9_of_44 rfl ?_
      refine pm_cVR (pc := 45) dX9_of_45 (c_loadIn hG hI (by omega)) wq_X2_loadIn wm_X9_95 wi_X2_loadIn ws_X2_loadIn rfl rfl ⟨Nat.le_of_ble_eq_true rfl, Nat.le_of_ble_eq_true rfl⟩ ⟨Nat.le_of_ble_eq_true rfl, Nat.le_of_ble_eq_true rfl⟩ rfl (Nat.le_of_ble_eq_true rfl) ?_
      refine pm_iret (pc := 48) rfl (Nat.le_refl _) (Nat.le_refl _) dX9_of_48 ?_
      rw [show sp_of X (nI p) (nI 0) = (_, X) from if_pos (isPl_nI hp), nt_nI (by omega)]
      exact XQ.r (by rw [d_of_0]) hR xF.rf
    by_cases hs10_1 : w = nI 1
    · rw [hs10_1]
      refine pm_tableIn (pc := 10) (tgt := 49) dX9_of_10 (by decide) (by decide) (by rfl) rfl ?_
      refine pm_aload_n (pc := 49) dX9_of_49 rfl ?_
      refine pm_getr (pc := 50) (ci := 7) (C0 := RX9) (T := TX9) (N := 9) (j := 0) rfl rfl in_X9 (by decide) wf_X9_10 rfl dX9_of_50 ?_
      refine pm_iload_n (pc := 53) dX9_of_53 rfl ?_
      refine pm_cVR (pc := 54) dX9_of_54 (c_piecesIn hG hI (by omega)) wq_X2_piecesIn wm_X9_98 wi_X2_piecesIn ws_X2_piecesIn rfl rfl ⟨Nat.le_of_ble_eq_true rfl, Nat.le_of_ble_eq_true rfl⟩ ⟨Nat.le_of_ble_eq_true rfl, Nat.le_of_ble_eq_true rfl⟩ rfl (Nat.le_of_ble_eq_true rfl) ?_
      refine pm_iret (pc := 57) rfl (Nat.le_refl _) (Nat.le_refl _) dX9_of_57 ?_
      rw [show sp_of X (nI p) (nI 1) = (_, X) from if_pos (isPl_nI hp), nt_nI (by omega)]
      exact XQ.r (by rw [d_of_1, g_cnt_len hI hp]) hR xF.rf
    by_cases hs10_2 : w = nI 2
    · rw [hs10_2]
      refine pm_tableIn (pc := 10) (tgt := 58) dX9_of_10 (by decide) (by decide) (by rfl) rfl ?_
      refine pm_aload_n (pc := 58) dX9_of_58 rfl ?_
      refine pm_getr (pc := 59) (ci := 7) (C0 := RX9) (T := TX9) (N := 9) (j := 0) rfl rfl in_X9 (by decide) wf_X9_10 rfl dX9_of_59 ?_
      refine pm_iload_n (pc := 62) dX9_of_62 rfl ?_
      refine pm_cVR (pc := 63) dX9_of_63 (c_senseOf hG hI hp) wq_X2_senseOf wm_X9_101 wi_X2_senseOf ws_X2_senseOf rfl rfl ⟨Nat.le_of_ble_eq_true rfl, Nat.le_of_ble_eq_true rfl⟩ ⟨Nat.le_of_ble_eq_true rfl, Nat.le_of_ble_eq_true rfl⟩ rfl (Nat.le_of_ble_eq_true rfl) ?_
      refine pm_iret (pc := 66) rfl (Nat.le_refl _) (Nat.le_refl _) dX9_of_66 ?_
      rw [show sp_of X (nI p) (nI 2) = (_, X) from if_pos (isPl_nI hp), nt_nI (by omega)]
      exact XQ.r (by rw [d_of_2]) hR xF.rf
    by_cases hs10_3 : w = nI 3
    · rw [hs10_3]
      refine pm_tableIn (pc := 10) (tgt := 67) dX9_of_10 (by decide) (by decide) (by rfl) rfl ?_
      refine pm_aload_n (pc := 67) dX9_of_67 rfl ?_
      refine pm_getr (pc := 68) (ci := 7) (C0 := RX9) (T := TX9) (N := 9) (j := 0) rfl rfl in_X9 (by decide) wf_X9_10 rfl dX9_of_68 ?_
      refine pm_iload_n (pc := 71) dX9_of_71 rfl ?_
      refine pm_cVR (pc := 72) dX9_of_72 (c_topOf hG hI hp) wq_X2_topOf wm_X9_104 wi_X2_topOf ws_X2_topOf rfl rfl ⟨Nat.le_of_ble_eq_true rfl, Nat.le_of_ble_eq_true rfl⟩ ⟨Nat.le_of_ble_eq_true rfl, Nat.le_of_ble_eq_true rfl⟩ rfl (Nat.le_of_ble_eq_true rfl) ?_
      refine pm_iret (pc := 75) rfl (Nat.le_refl _) (Nat.le_refl _) dX9_of_75 ?_
      rw [show sp_of X (nI p) (nI 3) = (_, X) from if_pos (isPl_nI hp), nt_nI (by omega)]
      exact XQ.r (by rw [d_of_3]) hR xF.rf
    refine pm_tableOut (pc := 10) (tgt := 76) dX9_of_10 (pm_out4 hs10_0 hs10_1 hs10_2 hs10_3) rfl ?_
    refine pm_iconst (pc := 76) (v := (-1)) dX9_of_76 (by decide) ?_
    refine pm_iret (pc := 77) rfl (Nat.le_refl _) (Nat.le_refl _) dX9_of_77 ?_
    rw [show sp_of X (nI p) w = (_, X) from if_pos (isPl_nI hp), nt_nI (by omega)]
    exact XQ.r (d_of_x hs10_0 hs10_1 hs10_2 hs10_3).symm hR xF.rf
  · refine pm_iconst (pc := 7) (v := (-1)) dX9_of_7 (by decide) ?_
    refine pm_iret (pc := 8) rfl (Nat.le_refl _) (Nat.le_refl _) dX9_of_8 ?_
    rw [show sp_of X x w = (-1, X) from if_neg (b1_nf h4)]
    exact XQ.r rfl hR xF.rf
set_option maxRecDepth 100000 in
set_option maxHeartbeats 4000000 in
theorem x_count {I : pm_I} {L : pm_L} {X : xS} (hR : XR I L X) (hX : xInv X) {w : Int32} : PC 4 0 0 yX9_count cX9_count 2 (some (.int)) [.ref 0, .int w] GG I L (XQ I L (sp_count X w).1 (sp_count X w).2) := by
  have hG := hR.1
  have hI := hX.s
  have h12 := hI.n12
  refine PC.of [some (.ref 0), some (.int w)] (by decide) (Nat.le_of_ble_eq_true rfl) rfl (fun l P => ?_)
  refine pm_iload_n (pc := 0) dX9_count_0 rfl ?_
  by_cases hs1_0 : w = nI 0
  · rw [hs1_0]
    refine pm_tableIn (pc := 1) (tgt := 40) dX9_count_1 (by decide) (by decide) (by rfl) rfl ?_
    refine pm_aload_n (pc := 40) dX9_count_40 rfl ?_
    refine pm_getr (pc := 41) (ci := 7) (C0 := RX9) (T := TX9) (N := 9) (j := 0) rfl rfl in_X9 (by decide) wf_X9_10 rfl dX9_count_41 ?_
    refine pm_cVR (pc := 44) dX9_count_44 (c_pieces hG) wq_X2_pieces wm_X9_126 wi_X2_pieces ws_X2_pieces rfl rfl ⟨Nat.le_of_ble_eq_true rfl, Nat.le_of_ble_eq_true rfl⟩ ⟨Nat.le_of_ble_eq_true rfl, Nat.le_of_ble_eq_true rfl⟩ rfl (Nat.le_of_ble_eq_true rfl) ?_
    refine pm_iret (pc := 47) rfl (Nat.le_refl _) (Nat.le_refl _) dX9_count_47 ?_
    exact XQ.r d_count_0.symm hR xF.rf
  by_cases hs1_1 : w = nI 1
  · rw [hs1_1]
    refine pm_tableIn (pc := 1) (tgt := 48) dX9_count_1 (by decide) (by decide) (by rfl) rfl ?_
    refine pm_aload_n (pc := 48) dX9_count_48 rfl ?_
    refine pm_getr (pc := 49) (ci := 7) (C0 := RX9) (T := TX9) (N := 9) (j := 0) rfl rfl in_X9 (by decide) wf_X9_10 rfl dX9_count_49 ?_
    refine pm_bipush (pc := 52) (v := nI 6) dX9_count_52 (by decide) ?_
    refine pm_cVR (pc := 54) dX9_count_54 (c_piecesIn hG hI (by omega)) wq_X2_piecesIn wm_X9_98 wi_X2_piecesIn ws_X2_piecesIn rfl rfl ⟨Nat.le_of_ble_eq_true rfl, Nat.le_of_ble_eq_true rfl⟩ ⟨Nat.le_of_ble_eq_true rfl, Nat.le_of_ble_eq_true rfl⟩ rfl (Nat.le_of_ble_eq_true rfl) ?_
    refine pm_iret (pc := 57) rfl (Nat.le_refl _) (Nat.le_refl _) dX9_count_57 ?_
    exact XQ.r d_count_1.symm hR xF.rf
  by_cases hs1_2 : w = nI 2
  · rw [hs1_2]
    refine pm_tableIn (pc := 1) (tgt := 58) dX9_count_1 (by decide) (by decide) (by rfl) rfl ?_
    refine pm_aload_n (pc := 58) dX9_count_58 rfl ?_
    refine pm_getr (pc := 59) (ci := 7) (C0 := RX9) (T := TX9) (N := 9) (j := 0) rfl rfl in_X9 (by decide) wf_X9_10 rfl dX9_count_59 ?_
    refine pm_bipush (pc := 62) (v := nI 7) dX9_count_62 (by decide) ?_
    refine pm_cVR (pc := 64) dX9_count_64 (c_piecesIn hG hI (by omega)) wq_X2_piecesIn wm_X9_98 wi_X2_piecesIn ws_X2_piecesIn rfl rfl ⟨Nat.le_of_ble_eq_true rfl, Nat.le_of_ble_eq_true rfl⟩ ⟨Nat.le_of_ble_eq_true rfl, Nat.le_of_ble_eq_true rfl⟩ rfl (Nat.le_of_ble_eq_true rfl) ?_
    refine pm_iret (pc := 67) rfl (Nat.le_refl _) (Nat.le_refl _) dX9_count_67 ?_
    exact XQ.r d_count_2.symm hR xF.rf
  by_cases hs1_3 : w = nI 3
  · rw [hs1_3]
    refine pm_tableIn (pc := 1) (tgt := 68) dX9_count_1 (by decide) (by decide) (by rfl) rfl ?_
    refine pm_aload_n (pc := 68) dX9_count_68 rfl ?_
    refine pm_getr (pc := 69) (ci := 7) (C0 := RX9) (T := TX9) (N := 9) (j := 0) rfl rfl in_X9 (by decide) wf_X9_10 rfl dX9_count_69 ?_
    refine pm_cVR (pc := 72) dX9_count_72 (c_timesAwake hG) wq_X2_timesAwake wm_X9_137 wi_X2_timesAwake ws_X2_timesAwake rfl rfl ⟨Nat.le_of_ble_eq_true rfl, Nat.le_of_ble_eq_true rfl⟩ ⟨Nat.le_of_ble_eq_true rfl, Nat.le_of_ble_eq_true rfl⟩ rfl (Nat.le_of_ble_eq_true rfl) ?_
    refine pm_iret (pc := 75) rfl (Nat.le_refl _) (Nat.le_refl _) dX9_count_75 ?_
    exact XQ.r d_count_3.symm hR xF.rf
  by_cases hs1_4 : w = nI 4
  · rw [hs1_4]
    refine pm_tableIn (pc := 1) (tgt := 76) dX9_count_1 (by decide) (by decide) (by rfl) rfl ?_
    refine pm_aload_n (pc := 76) dX9_count_76 rfl ?_
    refine pm_getr (pc := 77) (ci := 7) (C0 := RX9) (T := TX9) (N := 9) (j := 0) rfl rfl in_X9 (by decide) wf_X9_10 rfl dX9_count_77 ?_
    refine pm_cVR (pc := 80) dX9_count_80 (c_loadInPlaces hG hI) wq_X2_loadInPlaces wm_X9_140 wi_X2_loadInPlaces ws_X2_loadInPlaces rfl rfl ⟨Nat.le_of_ble_eq_true rfl, Nat.le_of_ble_eq_true rfl⟩ ⟨Nat.le_of_ble_eq_true rfl, Nat.le_of_ble_eq_true rfl⟩ rfl (Nat.le_of_ble_eq_true rfl) ?_
    refine pm_iret (pc := 83) rfl (Nat.le_refl _) (Nat.le_refl _) dX9_count_83 ?_
    exact XQ.r d_count_4.symm hR xF.rf
  by_cases hs1_5 : w = nI 5
  · rw [hs1_5]
    refine pm_tableIn (pc := 1) (tgt := 84) dX9_count_1 (by decide) (by decide) (by rfl) rfl ?_
    refine pm_aload_n (pc := 84) dX9_count_84 rfl ?_
    refine pm_getr (pc := 85) (ci := 7) (C0 := RX9) (T := TX9) (N := 9) (j := 0) rfl rfl in_X9 (by decide) wf_X9_10 rfl dX9_count_85 ?_
    refine pm_bipush (pc := 88) (v := nI 6) dX9_count_88 (by decide) ?_
    refine pm_cVR (pc := 90) dX9_count_90 (c_loadIn hG hI (by omega)) wq_X2_loadIn wm_X9_95 wi_X2_loadIn ws_X2_loadIn rfl rfl ⟨Nat.le_of_ble_eq_true rfl, Nat.le_of_ble_eq_true rfl⟩ ⟨Nat.le_of_ble_eq_true rfl, Nat.le_of_ble_eq_true rfl⟩ rfl (Nat.le_of_ble_eq_true rfl) ?_
    refine pm_iret (pc := 93) rfl (Nat.le_refl _) (Nat.le_refl _) dX9_count_93 ?_
    exact XQ.r d_count_5.symm hR xF.rf
  refine pm_tableOut (pc := 1) (tgt := 94) dX9_count_1 (pm_out6 hs1_0 hs1_1 hs1_2 hs1_3 hs1_4 hs1_5) rfl ?_
  refine pm_iconst (pc := 94) (v := (-1)) dX9_count_94 (by decide) ?_
  refine pm_iret (pc := 95) rfl (Nat.le_refl _) (Nat.le_refl _) dX9_count_95 ?_
  exact XQ.r (d_count_x hs1_0 hs1_1 hs1_2 hs1_3 hs1_4 hs1_5).symm hR xF.rf
set_option maxRecDepth 100000 in
set_option maxHeartbeats 4000000 in
theorem x_sense {I : pm_I} {L : pm_L} {X : xS} (hR : XR I L X) (hX : xInv X) {x v : Int32} : PC 2 0 0 yX9_sense cX9_sense 4 (some (.int)) [.ref 0, .int x, .int v] GG I L (XQ I L (sp_sense X x v).1 (sp_sense X x v).2) := by
  have hG := hR.1
  have hI := hX.s
  have h12 := hI.n12
  refine PC.of [some (.ref 0), some (.int x), some (.int v), none] (by decide) (Nat.le_of_ble_eq_true rfl) rfl (fun l P => ?_)
  refine pm_iload_n (pc := 0) dX9_sense_0 rfl ?_
  refine pm_cSR (pc := 1) dX9_sense_1 (c_isPl) wq_X9_isPlace wm_X9_92 wt_X9_isPlace ⟨Nat.le_of_ble_eq_true rfl, Nat.le_of_ble_eq_true rfl⟩ ⟨Nat.le_of_ble_eq_true rfl, Nat.le_of_ble_eq_true rfl⟩ rfl (Nat.le_of_ble_eq_true rfl) ?_
  refine pm_if_eq (pc := 4) (tgt := 17) dX9_sense_4 rfl (fun h4 => ?_) (fun h4 => ?_)
  · refine pm_iconst (pc := 17) (v := (-1)) dX9_sense_17 (by decide) ?_
    refine pm_iret (pc := 18) rfl (Nat.le_refl _) (Nat.le_refl _) dX9_sense_18 ?_
    first | (rw [show sp_sense X x v = (-1, X) from if_neg (fun z => b1_nf h4 z.1)]; exact XQ.r rfl hR xF.rf) | (rw [show sp_sense X (nI p) v = (-1, X) from if_neg (fun z => b1_nf h14 z.2)]; exact XQ.r rfl hR xF.rf)
  · obtain ⟨p, hp, rfl⟩ := isPl_of (b1_nt h4)
    refine pm_iload_n (pc := 7) dX9_sense_7 rfl ?_
    refine pm_iconst (pc := 8) (v := nI 0) dX9_sense_8 (by decide) ?_
    refine pm_bipush (pc := 9) (v := nI 99) dX9_sense_9 (by decide) ?_
    refine pm_cSR (pc := 11) dX9_sense_11 (c_isIn (a := 0) (b := 99) (by decide) (by decide)) wq_X9_isIn wm_X9_61 wt_X9_isIn ⟨Nat.le_of_ble_eq_true rfl, Nat.le_of_ble_eq_true rfl⟩ ⟨Nat.le_of_ble_eq_true rfl, Nat.le_of_ble_eq_true rfl⟩ rfl (Nat.le_of_ble_eq_true rfl) ?_
    refine pm_if_ne (pc := 14) (tgt := 19) dX9_sense_14 rfl (fun h14 => ?_) (fun h14 => ?_)
    · obtain ⟨u, hu, rfl⟩ := iR_of (b := 99) (by decide) (b1_nt h14)
      refine pm_aload_n (pc := 19) dX9_sense_19 rfl ?_
      refine pm_getr (pc := 20) (ci := 7) (C0 := RX9) (T := TX9) (N := 9) (j := 0) rfl rfl in_X9 (by decide) wf_X9_10 rfl dX9_sense_20 ?_
      refine pm_iload_n (pc := 23) dX9_sense_23 rfl ?_
      refine pm_cVR (pc := 24) dX9_sense_24 (c_senseOf hG hI hp) wq_X2_senseOf wm_X9_101 wi_X2_senseOf ws_X2_senseOf rfl rfl ⟨Nat.le_of_ble_eq_true rfl, Nat.le_of_ble_eq_true rfl⟩ ⟨Nat.le_of_ble_eq_true rfl, Nat.le_of_ble_eq_true rfl⟩ rfl (Nat.le_of_ble_eq_true rfl) ?_
      refine pm_istore_n (pc := 27) dX9_sense_27 (by decide) rfl ?_
      refine pm_aload_n (pc := 28) dX9_sense_28 rfl ?_
      refine pm_getr (pc := 29) (ci := 7) (C0 := RX9) (T := TX9) (N := 9) (j := 0) rfl rfl in_X9 (by decide) wf_X9_10 rfl dX9_sense_29 ?_
      refine pm_iload_n (pc := 32) dX9_sense_32 rfl ?_
      refine pm_iload_n (pc := 33) dX9_sense_33 rfl ?_
      refine pm_cVV (pc := 34) dX9_sense_34 (c_becomeFine hG hp) wq_X2_becomeFine wm_X9_107 wi_X2_becomeFine ws_X2_becomeFine rfl rfl ⟨Nat.le_of_ble_eq_true rfl, Nat.le_of_ble_eq_true rfl⟩ ⟨Nat.le_of_ble_eq_true rfl, Nat.le_of_ble_eq_true rfl⟩ rfl (Nat.le_of_ble_eq_true rfl) (fun I34 L34 q34 => ?_)
      obtain ⟨q1, q2⟩ := q34
      subst q2
      refine pm_iload_n (pc := 37) dX9_sense_37 rfl ?_
      refine pm_iret (pc := 38) rfl (Nat.le_refl _) (Nat.le_refl _) dX9_sense_38 ?_
      rw [show sp_sense X (nI p) (nI u) = (_, _) from if_pos ⟨isPl_nI hp, (iR_nI (b := 99) (by omega)).mpr hu⟩, nt_nI (by omega), nt_nI (by omega)]
      exact XQ.r rfl (hR.g q1) q1.2.x
    · refine pm_iconst (pc := 17) (v := (-1)) dX9_sense_17 (by decide) ?_
      refine pm_iret (pc := 18) rfl (Nat.le_refl _) (Nat.le_refl _) dX9_sense_18 ?_
      first | (rw [show sp_sense X x v = (-1, X) from if_neg (fun z => b1_nf h4 z.1)]; exact XQ.r rfl hR xF.rf) | (rw [show sp_sense X (nI p) v = (-1, X) from if_neg (fun z => b1_nf h14 z.2)]; exact XQ.r rfl hR xF.rf)
set_option maxRecDepth 100000 in
set_option maxHeartbeats 4000000 in
theorem x_lift {I : pm_I} {L : pm_L} {X : xS} (hR : XR I L X) (hX : xInv X) {x : Int32} : PC 5 0 0 yX9_lift cX9_lift 4 (some (.int)) [.ref 0, .int x] GG I L (XQ I L (sp_lift X x).1 (sp_lift X x).2) := by
  have hG := hR.1
  have hI := hX.s
  have h12 := hI.n12
  refine PC.of [some (.ref 0), some (.int x), none, none] (by decide) (Nat.le_of_ble_eq_true rfl) rfl (fun l P => ?_)
  refine pm_iload_n (pc := 0) dX9_lift_0 rfl ?_
  refine pm_cSR (pc := 1) dX9_lift_1 (c_isPl) wq_X9_isPlace wm_X9_92 wt_X9_isPlace ⟨Nat.le_of_ble_eq_true rfl, Nat.le_of_ble_eq_true rfl⟩ ⟨Nat.le_of_ble_eq_true rfl, Nat.le_of_ble_eq_true rfl⟩ rfl (Nat.le_of_ble_eq_true rfl) ?_
  refine pm_if_ne (pc := 4) (tgt := 9) dX9_lift_4 rfl (fun h4 => ?_) (fun h4 => ?_)
  · obtain ⟨p, hp, rfl⟩ := isPl_of (b1_nt h4)
    rw [sp_lift_t hp, show 100 * p = 1000 * 0 + 100 * p + 0 by omega]
    refine pm_aload_n (pc := 9) dX9_lift_9 rfl ?_
    refine pm_getr (pc := 10) (ci := 7) (C0 := RX9) (T := TX9) (N := 9) (j := 0) rfl rfl in_X9 (by decide) wf_X9_10 rfl dX9_lift_10 ?_
    refine pm_iload_n (pc := 13) dX9_lift_13 rfl ?_
    refine pm_cVR (pc := 14) dX9_lift_14 (c_topOf hG hI hp) wq_X2_topOf wm_X9_104 wi_X2_topOf ws_X2_topOf rfl rfl ⟨Nat.le_of_ble_eq_true rfl, Nat.le_of_ble_eq_true rfl⟩ ⟨Nat.le_of_ble_eq_true rfl, Nat.le_of_ble_eq_true rfl⟩ rfl (Nat.le_of_ble_eq_true rfl) ?_
    refine pm_istore_n (pc := 17) dX9_lift_17 (by decide) rfl ?_
    refine pm_aload_n (pc := 18) dX9_lift_18 rfl ?_
    refine pm_getr (pc := 19) (ci := 7) (C0 := RX9) (T := TX9) (N := 9) (j := 0) rfl rfl in_X9 (by decide) wf_X9_10 rfl dX9_lift_19 ?_
    refine pm_iconst (pc := 22) (v := nI 0) dX9_lift_22 (by decide) ?_
    refine pm_iload_n (pc := 23) dX9_lift_23 rfl ?_
    refine pm_iconst (pc := 24) (v := nI 0) dX9_lift_24 (by decide) ?_
    refine pm_cSR (pc := 25) dX9_lift_25 (c_code (h := 0) (p := p) (o := 0)) wq_X0_code wm_X9_145 wt_X0_code ⟨Nat.le_of_ble_eq_true rfl, Nat.le_of_ble_eq_true rfl⟩ ⟨Nat.le_of_ble_eq_true rfl, Nat.le_of_ble_eq_true rfl⟩ rfl (Nat.le_of_ble_eq_true rfl) ?_
    refine pm_cVI (pc := 28) dX9_lift_28 (c_tryAct hG hI (a_ok_of (s := x_g X) (h := 0) (p := p) (o := 0) (by decide) hp (by decide) (fun z => by omega) (fun z => by omega))) wq_X2_tryAct wm_X9_149 wi_X2_tryAct ws_X2_tryAct rfl rfl ⟨Nat.le_of_ble_eq_true rfl, Nat.le_of_ble_eq_true rfl⟩ ⟨Nat.le_of_ble_eq_true rfl, Nat.le_of_ble_eq_true rfl⟩ rfl (Nat.le_of_ble_eq_true rfl) (fun r28 I28 L28 q28 => ?_)
    obtain ⟨q1, q2, q3⟩ := q28
    subst q3
    refine pm_istore_n (pc := 31) dX9_lift_31 (by decide) rfl ?_
    refine pm_iload_n (pc := 32) dX9_lift_32 rfl ?_
    refine pm_if_ne (pc := 33) (tgt := 40) dX9_lift_33 rfl (fun h33 => ?_) (fun h33 => ?_)
    · refine pm_iload_n (pc := 40) dX9_lift_40 rfl ?_
      refine pm_iret (pc := 41) rfl (Nat.le_refl _) (Nat.le_refl _) dX9_lift_41 ?_
      first | exact XQ.r (m_try_n (fun z => h33 (q1.trans z))).symm.symm.symm (hR.g q2) q2.2.x | exact XQ.r (by rw [q1] at h33 ⊢; exact (m_try_n h33).symm) (hR.g q2) q2.2.x | exact XQ.r (by rw [q1] at h33; exact (m_try_0 (by omega) (by omega) (by decide) h33).symm) (hR.g q2) q2.2.x
    · refine pm_iload_n (pc := 36) dX9_lift_36 rfl ?_
      refine pm_goto (pc := 37) (tgt := 41) dX9_lift_37 rfl ?_
      refine pm_iret (pc := 41) rfl (Nat.le_refl _) (Nat.le_refl _) dX9_lift_41 ?_
      first | exact XQ.r (m_try_n (fun z => h33 (q1.trans z))).symm.symm.symm (hR.g q2) q2.2.x | exact XQ.r (by rw [q1] at h33 ⊢; exact (m_try_n h33).symm) (hR.g q2) q2.2.x | exact XQ.r (by rw [q1] at h33; exact (m_try_0 (by omega) (by omega) (by decide) h33).symm) (hR.g q2) q2.2.x
  · refine pm_iconst (pc := 7) (v := (-1)) dX9_lift_7 (by decide) ?_
    refine pm_iret (pc := 8) rfl (Nat.le_refl _) (Nat.le_refl _) dX9_lift_8 ?_
    rw [show sp_lift X x = (-1, X) from if_neg (b1_nf h4)]
    exact XQ.r rfl hR xF.rf
set_option maxRecDepth 100000 in
set_option maxHeartbeats 4000000 in
theorem x_lay {I : pm_I} {L : pm_L} {X : xS} (hR : XR I L X) (hX : xInv X) {x y : Int32} : PC 5 0 0 yX9_lay cX9_lay 4 (some (.int)) [.ref 0, .int x, .int y] GG I L (XQ I L (sp_lay X x y).1 (sp_lay X x y).2) := by
  have hG := hR.1
  have hI := hX.s
  have h12 := hI.n12
  refine PC.of [some (.ref 0), some (.int x), some (.int y), none] (by decide) (Nat.le_of_ble_eq_true rfl) rfl (fun l P => ?_)
  refine pm_aload_n (pc := 0) dX9_lay_0 rfl ?_
  refine pm_getr (pc := 1) (ci := 7) (C0 := RX9) (T := TX9) (N := 9) (j := 0) rfl rfl in_X9 (by decide) wf_X9_10 rfl dX9_lay_1 ?_
  refine pm_iload_n (pc := 4) dX9_lay_4 rfl ?_
  refine pm_cVR (pc := 5) dX9_lay_5 (c_isPc hG hI) wq_X2_isPiece wm_X9_73 wi_X2_isPiece ws_X2_isPiece rfl rfl ⟨Nat.le_of_ble_eq_true rfl, Nat.le_of_ble_eq_true rfl⟩ ⟨Nat.le_of_ble_eq_true rfl, Nat.le_of_ble_eq_true rfl⟩ rfl (Nat.le_of_ble_eq_true rfl) ?_
  refine pm_if_eq (pc := 8) (tgt := 18) dX9_lay_8 rfl (fun h8 => ?_) (fun h8 => ?_)
  · refine pm_iconst (pc := 18) (v := (-1)) dX9_lay_18 (by decide) ?_
    refine pm_iret (pc := 19) rfl (Nat.le_refl _) (Nat.le_refl _) dX9_lay_19 ?_
    first | (rw [show sp_lay X x y = (-1, X) from if_neg (fun z => b1_nf h8 z.1)]; exact XQ.r rfl hR xF.rf) | (rw [show sp_lay X (nI i) y = (-1, X) from if_neg (fun z => b1_nf h15 z.2)]; exact XQ.r rfl hR xF.rf)
  · obtain ⟨i, hi, hi2, rfl⟩ := isPc_of hX (b1_nt h8)
    refine pm_iload_n (pc := 11) dX9_lay_11 rfl ?_
    refine pm_cSR (pc := 12) dX9_lay_12 (c_isPl) wq_X9_isPlace wm_X9_92 wt_X9_isPlace ⟨Nat.le_of_ble_eq_true rfl, Nat.le_of_ble_eq_true rfl⟩ ⟨Nat.le_of_ble_eq_true rfl, Nat.le_of_ble_eq_true rfl⟩ rfl (Nat.le_of_ble_eq_true rfl) ?_
    refine pm_if_ne (pc := 15) (tgt := 20) dX9_lay_15 rfl (fun h15 => ?_) (fun h15 => ?_)
    · obtain ⟨p, hp, rfl⟩ := isPl_of (b1_nt h15)
      rw [sp_lay_t hX hp hi]
      refine pm_aload_n (pc := 20) dX9_lay_20 rfl ?_
      refine pm_getr (pc := 21) (ci := 7) (C0 := RX9) (T := TX9) (N := 9) (j := 0) rfl rfl in_X9 (by decide) wf_X9_10 rfl dX9_lay_21 ?_
      refine pm_iconst (pc := 24) (v := nI 1) dX9_lay_24 (by decide) ?_
      refine pm_iload_n (pc := 25) dX9_lay_25 rfl ?_
      refine pm_iload_n (pc := 26) dX9_lay_26 rfl ?_
      refine pm_cSR (pc := 27) dX9_lay_27 (c_code (h := 1) (p := p) (o := i)) wq_X0_code wm_X9_145 wt_X0_code ⟨Nat.le_of_ble_eq_true rfl, Nat.le_of_ble_eq_true rfl⟩ ⟨Nat.le_of_ble_eq_true rfl, Nat.le_of_ble_eq_true rfl⟩ rfl (Nat.le_of_ble_eq_true rfl) ?_
      refine pm_cVI (pc := 30) dX9_lay_30 (c_tryAct hG hI (a_ok1 (s := x_g X) hp hi h12)) wq_X2_tryAct wm_X9_149 wi_X2_tryAct ws_X2_tryAct rfl rfl ⟨Nat.le_of_ble_eq_true rfl, Nat.le_of_ble_eq_true rfl⟩ ⟨Nat.le_of_ble_eq_true rfl, Nat.le_of_ble_eq_true rfl⟩ rfl (Nat.le_of_ble_eq_true rfl) (fun r30 I30 L30 q30 => ?_)
      obtain ⟨q1, q2, q3⟩ := q30
      subst q3
      refine pm_istore_n (pc := 33) dX9_lay_33 (by decide) rfl ?_
      refine pm_iload_n (pc := 34) dX9_lay_34 rfl ?_
      refine pm_if_ne (pc := 35) (tgt := 49) dX9_lay_35 rfl (fun h35 => ?_) (fun h35 => ?_)
      · refine pm_iload_n (pc := 49) dX9_lay_49 rfl ?_
        refine pm_iret (pc := 50) rfl (Nat.le_refl _) (Nat.le_refl _) dX9_lay_50 ?_
        first | exact XQ.r (by rw [q1] at h35 ⊢; exact (if_neg h35).symm) (hR.g q2) q2.2.x | exact XQ.r (by rw [q1] at h35; exact (if_pos h35).symm) (hR.g q2) q2.2.x
      · refine pm_aload_n (pc := 38) dX9_lay_38 rfl ?_
        refine pm_getr (pc := 39) (ci := 7) (C0 := RX9) (T := TX9) (N := 9) (j := 0) rfl rfl in_X9 (by decide) wf_X9_10 rfl dX9_lay_39 ?_
        refine pm_iload_n (pc := 42) dX9_lay_42 rfl ?_
        refine pm_cVR (pc := 43) dX9_lay_43 (c_loadIn q2.1 (gInv_try hI (a_ok1 (s := x_g X) hp hi h12)) (by omega)) wq_X2_loadIn wm_X9_95 wi_X2_loadIn ws_X2_loadIn rfl rfl ⟨Nat.le_of_ble_eq_true rfl, Nat.le_of_ble_eq_true rfl⟩ ⟨Nat.le_of_ble_eq_true rfl, Nat.le_of_ble_eq_true rfl⟩ rfl (Nat.le_of_ble_eq_true rfl) ?_
        refine pm_goto (pc := 46) (tgt := 50) dX9_lay_46 rfl ?_
        refine pm_iret (pc := 50) rfl (Nat.le_refl _) (Nat.le_refl _) dX9_lay_50 ?_
        first | exact XQ.r (by rw [q1] at h35 ⊢; exact (if_neg h35).symm) (hR.g q2) q2.2.x | exact XQ.r (by rw [q1] at h35; exact (if_pos h35).symm) (hR.g q2) q2.2.x
    · refine pm_iconst (pc := 18) (v := (-1)) dX9_lay_18 (by decide) ?_
      refine pm_iret (pc := 19) rfl (Nat.le_refl _) (Nat.le_refl _) dX9_lay_19 ?_
      first | (rw [show sp_lay X x y = (-1, X) from if_neg (fun z => b1_nf h8 z.1)]; exact XQ.r rfl hR xF.rf) | (rw [show sp_lay X (nI i) y = (-1, X) from if_neg (fun z => b1_nf h15 z.2)]; exact XQ.r rfl hR xF.rf)
set_option maxRecDepth 100000 in
set_option maxHeartbeats 4000000 in
theorem x_swap {I : pm_I} {L : pm_L} {X : xS} (hR : XR I L X) (hX : xInv X) {x y : Int32} : PC 5 0 0 yX9_swap cX9_swap 5 (some (.int)) [.ref 0, .int x, .int y] GG I L (XQ I L (sp_swap X x y).1 (sp_swap X x y).2) := by
  have hG := hR.1
  have hI := hX.s
  have h12 := hI.n12
  refine PC.of [some (.ref 0), some (.int x), some (.int y), none, none] (by decide) (Nat.le_of_ble_eq_true rfl) rfl (fun l P => ?_)
  refine pm_iload_n (pc := 0) dX9_swap_0 rfl ?_
  refine pm_cSR (pc := 1) dX9_swap_1 (c_isPl) wq_X9_isPlace wm_X9_92 wt_X9_isPlace ⟨Nat.le_of_ble_eq_true rfl, Nat.le_of_ble_eq_true rfl⟩ ⟨Nat.le_of_ble_eq_true rfl, Nat.le_of_ble_eq_true rfl⟩ rfl (Nat.le_of_ble_eq_true rfl) ?_
  refine pm_if_eq (pc := 4) (tgt := 18) dX9_swap_4 rfl (fun h4 => ?_) (fun h4 => ?_)
  · refine pm_iconst (pc := 18) (v := (-1)) dX9_swap_18 (by decide) ?_
    refine pm_iret (pc := 19) rfl (Nat.le_refl _) (Nat.le_refl _) dX9_swap_19 ?_
    first | (rw [show sp_swap X x y = (-1, X) from if_neg (fun z => b1_nf h4 z.2)]; exact XQ.r rfl hR xF.rf) | (rw [show sp_swap X (nI p) y = (-1, X) from if_neg (fun z => b1_nf h15 z.1)]; exact XQ.r rfl hR xF.rf)
  · obtain ⟨p, hp, rfl⟩ := isPl_of (b1_nt h4)
    refine pm_aload_n (pc := 7) dX9_swap_7 rfl ?_
    refine pm_getr (pc := 8) (ci := 7) (C0 := RX9) (T := TX9) (N := 9) (j := 0) rfl rfl in_X9 (by decide) wf_X9_10 rfl dX9_swap_8 ?_
    refine pm_iload_n (pc := 11) dX9_swap_11 rfl ?_
    refine pm_cVR (pc := 12) dX9_swap_12 (c_isPc hG hI) wq_X2_isPiece wm_X9_73 wi_X2_isPiece ws_X2_isPiece rfl rfl ⟨Nat.le_of_ble_eq_true rfl, Nat.le_of_ble_eq_true rfl⟩ ⟨Nat.le_of_ble_eq_true rfl, Nat.le_of_ble_eq_true rfl⟩ rfl (Nat.le_of_ble_eq_true rfl) ?_
    refine pm_if_ne (pc := 15) (tgt := 20) dX9_swap_15 rfl (fun h15 => ?_) (fun h15 => ?_)
    · obtain ⟨i, hi, hi2, rfl⟩ := isPc_of hX (b1_nt h15)
      rw [sp_swap_t hX hp hi]
      refine pm_aload_n (pc := 20) dX9_swap_20 rfl ?_
      refine pm_getr (pc := 21) (ci := 7) (C0 := RX9) (T := TX9) (N := 9) (j := 0) rfl rfl in_X9 (by decide) wf_X9_10 rfl dX9_swap_21 ?_
      refine pm_iload_n (pc := 24) dX9_swap_24 rfl ?_
      refine pm_cVR (pc := 25) dX9_swap_25 (c_topOf hG hI hp) wq_X2_topOf wm_X9_104 wi_X2_topOf ws_X2_topOf rfl rfl ⟨Nat.le_of_ble_eq_true rfl, Nat.le_of_ble_eq_true rfl⟩ ⟨Nat.le_of_ble_eq_true rfl, Nat.le_of_ble_eq_true rfl⟩ rfl (Nat.le_of_ble_eq_true rfl) ?_
      refine pm_istore_n (pc := 28) dX9_swap_28 (by decide) rfl ?_
      refine pm_aload_n (pc := 29) dX9_swap_29 rfl ?_
      refine pm_getr (pc := 30) (ci := 7) (C0 := RX9) (T := TX9) (N := 9) (j := 0) rfl rfl in_X9 (by decide) wf_X9_10 rfl dX9_swap_30 ?_
      refine pm_iconst (pc := 33) (v := nI 2) dX9_swap_33 (by decide) ?_
      refine pm_iload_n (pc := 34) dX9_swap_34 rfl ?_
      refine pm_iload_n (pc := 35) dX9_swap_35 rfl ?_
      refine pm_cSR (pc := 36) dX9_swap_36 (c_code (h := 2) (p := p) (o := i)) wq_X0_code wm_X9_145 wt_X0_code ⟨Nat.le_of_ble_eq_true rfl, Nat.le_of_ble_eq_true rfl⟩ ⟨Nat.le_of_ble_eq_true rfl, Nat.le_of_ble_eq_true rfl⟩ rfl (Nat.le_of_ble_eq_true rfl) ?_
      refine pm_cVI (pc := 39) dX9_swap_39 (c_tryAct hG hI (a_ok2 (s := x_g X) hp hi h12)) wq_X2_tryAct wm_X9_149 wi_X2_tryAct ws_X2_tryAct rfl rfl ⟨Nat.le_of_ble_eq_true rfl, Nat.le_of_ble_eq_true rfl⟩ ⟨Nat.le_of_ble_eq_true rfl, Nat.le_of_ble_eq_true rfl⟩ rfl (Nat.le_of_ble_eq_true rfl) (fun r39 I39 L39 q39 => ?_)
      obtain ⟨q1, q2, q3⟩ := q39
      subst q3
      refine pm_istore (pc := 42) dX9_swap_42 (by decide) rfl ?_
      refine pm_iload (pc := 44) dX9_swap_44 rfl ?_
      refine pm_if_ne (pc := 46) (tgt := 53) dX9_swap_46 rfl (fun h46 => ?_) (fun h46 => ?_)
      · refine pm_iload (pc := 53) dX9_swap_53 rfl ?_
        refine pm_iret (pc := 55) rfl (Nat.le_refl _) (Nat.le_refl _) dX9_swap_55 ?_
        first | exact XQ.r (by rw [q1] at h46 ⊢; exact (m_try_n h46).symm) (hR.g q2) q2.2.x | exact XQ.r (by rw [q1] at h46; exact (m_try_0 (h := 2) (by omega) (by omega) (by decide) h46).symm) (hR.g q2) q2.2.x
      · refine pm_iload_n (pc := 49) dX9_swap_49 rfl ?_
        refine pm_goto (pc := 50) (tgt := 55) dX9_swap_50 rfl ?_
        refine pm_iret (pc := 55) rfl (Nat.le_refl _) (Nat.le_refl _) dX9_swap_55 ?_
        first | exact XQ.r (by rw [q1] at h46 ⊢; exact (m_try_n h46).symm) (hR.g q2) q2.2.x | exact XQ.r (by rw [q1] at h46; exact (m_try_0 (h := 2) (by omega) (by omega) (by decide) h46).symm) (hR.g q2) q2.2.x
    · refine pm_iconst (pc := 18) (v := (-1)) dX9_swap_18 (by decide) ?_
      refine pm_iret (pc := 19) rfl (Nat.le_refl _) (Nat.le_refl _) dX9_swap_19 ?_
      first | (rw [show sp_swap X x y = (-1, X) from if_neg (fun z => b1_nf h4 z.2)]; exact XQ.r rfl hR xF.rf) | (rw [show sp_swap X (nI p) y = (-1, X) from if_neg (fun z => b1_nf h15 z.1)]; exact XQ.r rfl hR xF.rf)
set_option maxRecDepth 100000 in
set_option maxHeartbeats 4000000 in
theorem x_push {I : pm_I} {L : pm_L} {X : xS} (hR : XR I L X) (hX : xInv X) {x y : Int32} : PC 5 0 0 yX9_push cX9_push 5 (some (.int)) [.ref 0, .int x, .int y] GG I L (XQ I L (sp_push X x y).1 (sp_push X x y).2) := by
  have hG := hR.1
  have hI := hX.s
  have h12 := hI.n12
  refine PC.of [some (.ref 0), some (.int x), some (.int y), none, none] (by decide) (Nat.le_of_ble_eq_true rfl) rfl (fun l P => ?_)
  refine pm_iload_n (pc := 0) dX9_push_0 rfl ?_
  refine pm_cSR (pc := 1) dX9_push_1 (c_isPl) wq_X9_isPlace wm_X9_92 wt_X9_isPlace ⟨Nat.le_of_ble_eq_true rfl, Nat.le_of_ble_eq_true rfl⟩ ⟨Nat.le_of_ble_eq_true rfl, Nat.le_of_ble_eq_true rfl⟩ rfl (Nat.le_of_ble_eq_true rfl) ?_
  refine pm_if_eq (pc := 4) (tgt := 19) dX9_push_4 rfl (fun h4 => ?_) (fun h4 => ?_)
  · refine pm_iconst (pc := 19) (v := (-1)) dX9_push_19 (by decide) ?_
    refine pm_iret (pc := 20) rfl (Nat.le_refl _) (Nat.le_refl _) dX9_push_20 ?_
    first | (rw [show sp_push X x y = (-1, X) from if_neg (fun z => b1_nf h4 z.1)]; exact XQ.r rfl hR xF.rf) | (rw [show sp_push X (nI p) y = (-1, X) from if_neg (fun z => b1_nf h11 z.2.1)]; exact XQ.r rfl hR xF.rf) | (rw [show sp_push X (nI p) (nI q) = (-1, X) from if_neg (fun z => z.2.2 h16)]; exact XQ.r rfl hR xF.rf)
  · obtain ⟨p, hp, rfl⟩ := isPl_of (b1_nt h4)
    refine pm_iload_n (pc := 7) dX9_push_7 rfl ?_
    refine pm_cSR (pc := 8) dX9_push_8 (c_isPl) wq_X9_isPlace wm_X9_92 wt_X9_isPlace ⟨Nat.le_of_ble_eq_true rfl, Nat.le_of_ble_eq_true rfl⟩ ⟨Nat.le_of_ble_eq_true rfl, Nat.le_of_ble_eq_true rfl⟩ rfl (Nat.le_of_ble_eq_true rfl) ?_
    refine pm_if_eq (pc := 11) (tgt := 19) dX9_push_11 rfl (fun h11 => ?_) (fun h11 => ?_)
    · refine pm_iconst (pc := 19) (v := (-1)) dX9_push_19 (by decide) ?_
      refine pm_iret (pc := 20) rfl (Nat.le_refl _) (Nat.le_refl _) dX9_push_20 ?_
      first | (rw [show sp_push X x y = (-1, X) from if_neg (fun z => b1_nf h4 z.1)]; exact XQ.r rfl hR xF.rf) | (rw [show sp_push X (nI p) y = (-1, X) from if_neg (fun z => b1_nf h11 z.2.1)]; exact XQ.r rfl hR xF.rf) | (rw [show sp_push X (nI p) (nI q) = (-1, X) from if_neg (fun z => z.2.2 h16)]; exact XQ.r rfl hR xF.rf)
    · obtain ⟨q, hq, rfl⟩ := isPl_of (b1_nt h11)
      refine pm_iload_n (pc := 14) dX9_push_14 rfl ?_
      refine pm_iload_n (pc := 15) dX9_push_15 rfl ?_
      refine pm_icmp_ne (pc := 16) (tgt := 21) dX9_push_16 rfl (fun h16 => ?_) (fun h16 => ?_)
      · rw [sp_push_t hp hq h16]
        refine pm_aload_n (pc := 21) dX9_push_21 rfl ?_
        refine pm_getr (pc := 22) (ci := 7) (C0 := RX9) (T := TX9) (N := 9) (j := 0) rfl rfl in_X9 (by decide) wf_X9_10 rfl dX9_push_22 ?_
        refine pm_iload_n (pc := 25) dX9_push_25 rfl ?_
        refine pm_cVR (pc := 26) dX9_push_26 (c_topOf hG hI hp) wq_X2_topOf wm_X9_104 wi_X2_topOf ws_X2_topOf rfl rfl ⟨Nat.le_of_ble_eq_true rfl, Nat.le_of_ble_eq_true rfl⟩ ⟨Nat.le_of_ble_eq_true rfl, Nat.le_of_ble_eq_true rfl⟩ rfl (Nat.le_of_ble_eq_true rfl) ?_
        refine pm_istore_n (pc := 29) dX9_push_29 (by decide) rfl ?_
        refine pm_aload_n (pc := 30) dX9_push_30 rfl ?_
        refine pm_getr (pc := 31) (ci := 7) (C0 := RX9) (T := TX9) (N := 9) (j := 0) rfl rfl in_X9 (by decide) wf_X9_10 rfl dX9_push_31 ?_
        refine pm_iconst (pc := 34) (v := nI 3) dX9_push_34 (by decide) ?_
        refine pm_iload_n (pc := 35) dX9_push_35 rfl ?_
        refine pm_iload_n (pc := 36) dX9_push_36 rfl ?_
        refine pm_cSR (pc := 37) dX9_push_37 (c_code (h := 3) (p := p) (o := q)) wq_X0_code wm_X9_145 wt_X0_code ⟨Nat.le_of_ble_eq_true rfl, Nat.le_of_ble_eq_true rfl⟩ ⟨Nat.le_of_ble_eq_true rfl, Nat.le_of_ble_eq_true rfl⟩ rfl (Nat.le_of_ble_eq_true rfl) ?_
        refine pm_cVI (pc := 40) dX9_push_40 (c_tryAct hG hI (a_ok3 (s := x_g X) hp hq (fun z => h16 (by rw [z])))) wq_X2_tryAct wm_X9_149 wi_X2_tryAct ws_X2_tryAct rfl rfl ⟨Nat.le_of_ble_eq_true rfl, Nat.le_of_ble_eq_true rfl⟩ ⟨Nat.le_of_ble_eq_true rfl, Nat.le_of_ble_eq_true rfl⟩ rfl (Nat.le_of_ble_eq_true rfl) (fun r40 I40 L40 q40 => ?_)
        obtain ⟨q1, q2, q3⟩ := q40
        subst q3
        refine pm_istore (pc := 43) dX9_push_43 (by decide) rfl ?_
        refine pm_iload (pc := 45) dX9_push_45 rfl ?_
        refine pm_if_ne (pc := 47) (tgt := 54) dX9_push_47 rfl (fun h47 => ?_) (fun h47 => ?_)
        · refine pm_iload (pc := 54) dX9_push_54 rfl ?_
          refine pm_iret (pc := 56) rfl (Nat.le_refl _) (Nat.le_refl _) dX9_push_56 ?_
          first | exact XQ.r (by rw [q1] at h47 ⊢; exact (m_try_n h47).symm) (hR.g q2) q2.2.x | exact XQ.r (by rw [q1] at h47; exact (m_try_0 (h := 3) (by omega) (by omega) (by decide) h47).symm) (hR.g q2) q2.2.x
        · refine pm_iload_n (pc := 50) dX9_push_50 rfl ?_
          refine pm_goto (pc := 51) (tgt := 56) dX9_push_51 rfl ?_
          refine pm_iret (pc := 56) rfl (Nat.le_refl _) (Nat.le_refl _) dX9_push_56 ?_
          first | exact XQ.r (by rw [q1] at h47 ⊢; exact (m_try_n h47).symm) (hR.g q2) q2.2.x | exact XQ.r (by rw [q1] at h47; exact (m_try_0 (h := 3) (by omega) (by omega) (by decide) h47).symm) (hR.g q2) q2.2.x
      · refine pm_iconst (pc := 19) (v := (-1)) dX9_push_19 (by decide) ?_
        refine pm_iret (pc := 20) rfl (Nat.le_refl _) (Nat.le_refl _) dX9_push_20 ?_
        first | (rw [show sp_push X x y = (-1, X) from if_neg (fun z => b1_nf h4 z.1)]; exact XQ.r rfl hR xF.rf) | (rw [show sp_push X (nI p) y = (-1, X) from if_neg (fun z => b1_nf h11 z.2.1)]; exact XQ.r rfl hR xF.rf) | (rw [show sp_push X (nI p) (nI q) = (-1, X) from if_neg (fun z => z.2.2 h16)]; exact XQ.r rfl hR xF.rf)
set_option maxRecDepth 100000 in
set_option maxHeartbeats 4000000 in
theorem x_turn {I : pm_I} {L : pm_L} {X : xS} (hR : XR I L X) (hX : xInv X) : PC 5 0 0 yX9_turn cX9_turn 1 (some (.int)) [.ref 0] GG I L (XQ I L (sp_turn X).1 (sp_turn X).2) := by
  have hG := hR.1
  have hI := hX.s
  have h12 := hI.n12
  refine PC.of [some (.ref 0)] (by decide) (Nat.le_of_ble_eq_true rfl) rfl (fun l P => ?_)
  refine pm_aload_n (pc := 0) dX9_turn_0 rfl ?_
  refine pm_getr (pc := 1) (ci := 7) (C0 := RX9) (T := TX9) (N := 9) (j := 0) rfl rfl in_X9 (by decide) wf_X9_10 rfl dX9_turn_1 ?_
  refine pm_cVV (pc := 4) dX9_turn_4 (c_turnOver hG hI) wq_X2_turnOver wm_X9_152 wi_X2_turnOver ws_X2_turnOver rfl rfl ⟨Nat.le_of_ble_eq_true rfl, Nat.le_of_ble_eq_true rfl⟩ ⟨Nat.le_of_ble_eq_true rfl, Nat.le_of_ble_eq_true rfl⟩ rfl (Nat.le_of_ble_eq_true rfl) (fun I4 L4 q4 => ?_)
  obtain ⟨q1, q2⟩ := q4
  subst q2
  refine pm_aload_n (pc := 7) dX9_turn_7 rfl ?_
  refine pm_getr (pc := 8) (ci := 7) (C0 := RX9) (T := TX9) (N := 9) (j := 0) rfl rfl in_X9 (by decide) wf_X9_10 rfl dX9_turn_8 ?_
  refine pm_cVR (pc := 11) dX9_turn_11 (c_piecesInPlaces q1.1 (gInv_turn hI)) wq_X2_piecesInPlaces wm_X9_155 wi_X2_piecesInPlaces ws_X2_piecesInPlaces rfl rfl ⟨Nat.le_of_ble_eq_true rfl, Nat.le_of_ble_eq_true rfl⟩ ⟨Nat.le_of_ble_eq_true rfl, Nat.le_of_ble_eq_true rfl⟩ rfl (Nat.le_of_ble_eq_true rfl) ?_
  refine pm_iret (pc := 14) rfl (Nat.le_refl _) (Nat.le_refl _) dX9_turn_14 ?_
  refine XQ.r ?_ (hR.g q1) q1.2.x
  have k := g_tot_n (gInv_turn hI)
  have e : g_tot (s_turn (x_g X)) = g_tot (x_g X) := by
    rw [g_tot_eq hI, g_tot_eq (gInv_turn hI)]
    refine fb_sm_cong (fun k hk => ?_)
    show (if (if g_wh (x_g X) k < 6 then 5 - g_wh (x_g X) k else g_wh (x_g X) k) < 6 then 1 else 0) = _
    by_cases z : g_wh (x_g X) k < 6
    · rw [if_pos z, if_pos z, if_pos (by omega)]
    · rw [if_neg z, if_neg z]
  have k2 : g_n (s_turn (x_g X)) = g_n (x_g X) := rfl
  rw [pk_sub (by omega), pk_sub (by omega)]
  show nI _ = nI _
  congr 1
  omega
theorem sp_piece_t {X : xS} {k w t p : Nat} (hk : k ≤ 3) (hw : 1 ≤ w ∧ w ≤ 99) (ht : t ≤ 3) (hp : p ≤ 6) : sp_piece X (nI k) (nI w) (nI t) (nI p) = if g_n (x_g X) = 12 then (-3, X) else (nI (g_n (x_g X)), xg X (s_add (x_g X) k w t p)) := by
  unfold sp_piece
  rw [if_neg (fun z => z ⟨(iR_nI (b := 3) (by omega)).mpr hk, ⟨by rw [nI_toInt (by omega)]; omega, by rw [nI_toInt (by omega)]; omega⟩, (iR_nI (b := 3) (by omega)).mpr ht, (iR_nI (b := 6) (by omega)).mpr hp⟩), nt_nI (by omega), nt_nI (by omega), nt_nI (by omega), nt_nI (by omega)]
theorem iR1_of {x : Int32} {b : Nat} (hb : b < 2 ^ 31) (h : iR x 1 b) : ∃ j : Nat, 1 ≤ j ∧ j ≤ b ∧ x = nI j := by
  obtain ⟨j, hj, e⟩ := iR_of hb ⟨by have := h.1; omega, h.2⟩
  subst e
  exact ⟨j, by have := h.1; rw [nI_toInt (by omega)] at this; omega, hj, rfl⟩
set_option maxRecDepth 100000 in
set_option maxHeartbeats 4000000 in
theorem c_isTown {I : pm_I} {L : pm_L} {x : Int32} : PC 0 0 0 yX9_isTown cX9_isTown 1 (some (.boolean)) [.int x] GG I L (QR GG I L (b1 (iR x 0 3))) := by
  refine PC.of [some (.int x)] (by decide) (Nat.le_of_ble_eq_true rfl) rfl (fun l P => ?_)
  refine pm_iload_n (pc := 0) dX9_isTown_0 rfl ?_
  refine pm_if_lt (pc := 1) (tgt := 13) dX9_isTown_1 rfl (fun h1 => ?_) (fun h1 => ?_)
  · refine pm_iconst (pc := 13) (v := nI 0) dX9_isTown_13 (by decide) ?_
    refine pm_zret (pc := 14) (by decide) rfl (Nat.le_refl _) (Nat.le_refl _) dX9_isTown_14 ?_
    refine QR.r (by first | exact b1_t (by simp (disch := omega) only [pm_ltI, pm_leI, nI_toInt, pm_t0] at *; omega) | exact b1_f (by simp (disch := omega) only [pm_ltI, pm_leI, nI_toInt, pm_t0] at *; omega))
  · refine pm_iload_n (pc := 4) dX9_isTown_4 rfl ?_
    refine pm_iconst (pc := 5) (v := nI 4) dX9_isTown_5 (by decide) ?_
    refine pm_icmp_ge (pc := 6) (tgt := 13) dX9_isTown_6 rfl (fun h6 => ?_) (fun h6 => ?_)
    · refine pm_iconst (pc := 13) (v := nI 0) dX9_isTown_13 (by decide) ?_
      refine pm_zret (pc := 14) (by decide) rfl (Nat.le_refl _) (Nat.le_refl _) dX9_isTown_14 ?_
      refine QR.r (by first | exact b1_t (by simp (disch := omega) only [pm_ltI, pm_leI, nI_toInt, pm_t0] at *; omega) | exact b1_f (by simp (disch := omega) only [pm_ltI, pm_leI, nI_toInt, pm_t0] at *; omega))
    · refine pm_iconst (pc := 9) (v := nI 1) dX9_isTown_9 (by decide) ?_
      refine pm_goto (pc := 10) (tgt := 14) dX9_isTown_10 rfl ?_
      refine pm_zret (pc := 14) (by decide) rfl (Nat.le_refl _) (Nat.le_refl _) dX9_isTown_14 ?_
      refine QR.r (by first | exact b1_t (by simp (disch := omega) only [pm_ltI, pm_leI, nI_toInt, pm_t0] at *; omega) | exact b1_f (by simp (disch := omega) only [pm_ltI, pm_leI, nI_toInt, pm_t0] at *; omega))
set_option maxRecDepth 100000 in
set_option maxHeartbeats 4000000 in
theorem x_piece {I : pm_I} {L : pm_L} {X : xS} (hR : XR I L X) (hX : xInv X) {k w t p : Int32} : PC 3 0 0 yX9_piece cX9_piece 5 (some (.int)) [.ref 0, .int k, .int w, .int t, .int p] GG I L (XQ I L (sp_piece X k w t p).1 (sp_piece X k w t p).2) := by
  have hG := hR.1
  have hI := hX.s
  have h12 := hI.n12
  refine PC.of [some (.ref 0), some (.int k), some (.int w), some (.int t), some (.int p)] (by decide) (Nat.le_of_ble_eq_true rfl) rfl (fun l P => ?_)
  refine pm_iload_n (pc := 0) dX9_piece_0 rfl ?_
  refine pm_iconst (pc := 1) (v := nI 0) dX9_piece_1 (by decide) ?_
  refine pm_iconst (pc := 2) (v := nI 3) dX9_piece_2 (by decide) ?_
  refine pm_cSR (pc := 3) dX9_piece_3 (c_isIn (a := 0) (b := 3) (by decide) (by decide)) wq_X9_isIn wm_X9_61 wt_X9_isIn ⟨Nat.le_of_ble_eq_true rfl, Nat.le_of_ble_eq_true rfl⟩ ⟨Nat.le_of_ble_eq_true rfl, Nat.le_of_ble_eq_true rfl⟩ rfl (Nat.le_of_ble_eq_true rfl) ?_
  refine pm_if_eq (pc := 6) (tgt := 37) dX9_piece_6 rfl (fun h6 => ?_) (fun h6 => ?_)
  · refine pm_iconst (pc := 37) (v := (-1)) dX9_piece_37 (by decide) ?_
    refine pm_iret (pc := 38) rfl (Nat.le_refl _) (Nat.le_refl _) dX9_piece_38 ?_
    first | (rw [show sp_piece X k w t p = (-1, X) from if_pos (fun z => b1_nf h6 z.1)]; exact XQ.r rfl hR xF.rf) | (rw [show sp_piece X k w t p = (-1, X) from if_pos (fun z => b1_nf h16 z.2.1)]; exact XQ.r rfl hR xF.rf) | (rw [show sp_piece X k w t p = (-1, X) from if_pos (fun z => b1_nf h23 z.2.2.1)]; exact XQ.r rfl hR xF.rf) | (rw [show sp_piece X k w t p = (-1, X) from if_pos (fun z => b1_nf h34 z.2.2.2)]; exact XQ.r rfl hR xF.rf)
  · refine pm_iload_n (pc := 9) dX9_piece_9 rfl ?_
    refine pm_iconst (pc := 10) (v := nI 1) dX9_piece_10 (by decide) ?_
    refine pm_bipush (pc := 11) (v := nI 99) dX9_piece_11 (by decide) ?_
    refine pm_cSR (pc := 13) dX9_piece_13 (c_isIn (a := 1) (b := 99) (by decide) (by decide)) wq_X9_isIn wm_X9_61 wt_X9_isIn ⟨Nat.le_of_ble_eq_true rfl, Nat.le_of_ble_eq_true rfl⟩ ⟨Nat.le_of_ble_eq_true rfl, Nat.le_of_ble_eq_true rfl⟩ rfl (Nat.le_of_ble_eq_true rfl) ?_
    refine pm_if_eq (pc := 16) (tgt := 37) dX9_piece_16 rfl (fun h16 => ?_) (fun h16 => ?_)
    · refine pm_iconst (pc := 37) (v := (-1)) dX9_piece_37 (by decide) ?_
      refine pm_iret (pc := 38) rfl (Nat.le_refl _) (Nat.le_refl _) dX9_piece_38 ?_
      first | (rw [show sp_piece X k w t p = (-1, X) from if_pos (fun z => b1_nf h6 z.1)]; exact XQ.r rfl hR xF.rf) | (rw [show sp_piece X k w t p = (-1, X) from if_pos (fun z => b1_nf h16 z.2.1)]; exact XQ.r rfl hR xF.rf) | (rw [show sp_piece X k w t p = (-1, X) from if_pos (fun z => b1_nf h23 z.2.2.1)]; exact XQ.r rfl hR xF.rf) | (rw [show sp_piece X k w t p = (-1, X) from if_pos (fun z => b1_nf h34 z.2.2.2)]; exact XQ.r rfl hR xF.rf)
    · refine pm_iload_n (pc := 19) dX9_piece_19 rfl ?_
      refine pm_cSR (pc := 20) dX9_piece_20 (c_isTown) wq_X9_isTown wm_X9_65 wt_X9_isTown ⟨Nat.le_of_ble_eq_true rfl, Nat.le_of_ble_eq_true rfl⟩ ⟨Nat.le_of_ble_eq_true rfl, Nat.le_of_ble_eq_true rfl⟩ rfl (Nat.le_of_ble_eq_true rfl) ?_
      refine pm_if_eq (pc := 23) (tgt := 37) dX9_piece_23 rfl (fun h23 => ?_) (fun h23 => ?_)
      · refine pm_iconst (pc := 37) (v := (-1)) dX9_piece_37 (by decide) ?_
        refine pm_iret (pc := 38) rfl (Nat.le_refl _) (Nat.le_refl _) dX9_piece_38 ?_
        first | (rw [show sp_piece X k w t p = (-1, X) from if_pos (fun z => b1_nf h6 z.1)]; exact XQ.r rfl hR xF.rf) | (rw [show sp_piece X k w t p = (-1, X) from if_pos (fun z => b1_nf h16 z.2.1)]; exact XQ.r rfl hR xF.rf) | (rw [show sp_piece X k w t p = (-1, X) from if_pos (fun z => b1_nf h23 z.2.2.1)]; exact XQ.r rfl hR xF.rf) | (rw [show sp_piece X k w t p = (-1, X) from if_pos (fun z => b1_nf h34 z.2.2.2)]; exact XQ.r rfl hR xF.rf)
      · refine pm_iload (pc := 26) dX9_piece_26 rfl ?_
        refine pm_iconst (pc := 28) (v := nI 0) dX9_piece_28 (by decide) ?_
        refine pm_bipush (pc := 29) (v := nI 6) dX9_piece_29 (by decide) ?_
        refine pm_cSR (pc := 31) dX9_piece_31 (c_isIn (a := 0) (b := 6) (by decide) (by decide)) wq_X9_isIn wm_X9_61 wt_X9_isIn ⟨Nat.le_of_ble_eq_true rfl, Nat.le_of_ble_eq_true rfl⟩ ⟨Nat.le_of_ble_eq_true rfl, Nat.le_of_ble_eq_true rfl⟩ rfl (Nat.le_of_ble_eq_true rfl) ?_
        refine pm_if_ne (pc := 34) (tgt := 39) dX9_piece_34 rfl (fun h34 => ?_) (fun h34 => ?_)
        · obtain ⟨k, hk, rfl⟩ := iR_of (b := 3) (by decide) (b1_nt h6)
          obtain ⟨w, hw1, hw, rfl⟩ := iR1_of (b := 99) (by decide) (b1_nt h16)
          obtain ⟨t, ht, rfl⟩ := iR_of (b := 3) (by decide) (b1_nt h23)
          obtain ⟨p, hp, rfl⟩ := iR_of (b := 6) (by decide) (b1_nt h34)
          rw [sp_piece_t hk ⟨hw1, hw⟩ ht hp]
          by_cases hn : g_n (x_g X) = 12
          · rw [if_pos hn]
            refine pm_aload_n (pc := 39) dX9_piece_39 rfl ?_
            refine pm_getr (pc := 40) (ci := 7) (C0 := RX9) (T := TX9) (N := 9) (j := 0) rfl rfl in_X9 (by decide) wf_X9_10 rfl dX9_piece_40 ?_
            refine pm_iload_n (pc := 43) dX9_piece_43 rfl ?_
            refine pm_iload_n (pc := 44) dX9_piece_44 rfl ?_
            refine pm_iload_n (pc := 45) dX9_piece_45 rfl ?_
            refine pm_iload (pc := 46) dX9_piece_46 rfl ?_
            refine pm_cVR (pc := 48) dX9_piece_48 (c_addF hG hn) wq_X2_add wm_X9_69 wi_X2_add ws_X2_add rfl rfl ⟨Nat.le_of_ble_eq_true rfl, Nat.le_of_ble_eq_true rfl⟩ ⟨Nat.le_of_ble_eq_true rfl, Nat.le_of_ble_eq_true rfl⟩ rfl (Nat.le_of_ble_eq_true rfl) ?_
            refine pm_iret (pc := 51) rfl (Nat.le_refl _) (Nat.le_refl _) dX9_piece_51 ?_
            exact XQ.r rfl hR xF.rf
          · rw [if_neg hn]
            by_cases h6 : p < 6
            · refine pm_aload_n (pc := 39) dX9_piece_39 rfl ?_
              refine pm_getr (pc := 40) (ci := 7) (C0 := RX9) (T := TX9) (N := 9) (j := 0) rfl rfl in_X9 (by decide) wf_X9_10 rfl dX9_piece_40 ?_
              refine pm_iload_n (pc := 43) dX9_piece_43 rfl ?_
              refine pm_iload_n (pc := 44) dX9_piece_44 rfl ?_
              refine pm_iload_n (pc := 45) dX9_piece_45 rfl ?_
              refine pm_iload (pc := 46) dX9_piece_46 rfl ?_
              refine pm_cVI (pc := 48) dX9_piece_48 (c_add hG hI (by omega) (by omega) ⟨hw1, hw⟩ (by omega) h6) wq_X2_add wm_X9_69 wi_X2_add ws_X2_add rfl rfl ⟨Nat.le_of_ble_eq_true rfl, Nat.le_of_ble_eq_true rfl⟩ ⟨Nat.le_of_ble_eq_true rfl, Nat.le_of_ble_eq_true rfl⟩ rfl (Nat.le_of_ble_eq_true rfl) (fun r48 I48 L48 q48 => ?_)
              obtain ⟨q1, q2, q3⟩ := q48
              subst q3
              refine pm_iret (pc := 51) rfl (Nat.le_refl _) (Nat.le_refl _) dX9_piece_51 ?_
              exact XQ.r q1 (hR.g q2) q2.2.x
            · have e6 : p = 6 := by omega
              subst e6
              refine pm_aload_n (pc := 39) dX9_piece_39 rfl ?_
              refine pm_getr (pc := 40) (ci := 7) (C0 := RX9) (T := TX9) (N := 9) (j := 0) rfl rfl in_X9 (by decide) wf_X9_10 rfl dX9_piece_40 ?_
              refine pm_iload_n (pc := 43) dX9_piece_43 rfl ?_
              refine pm_iload_n (pc := 44) dX9_piece_44 rfl ?_
              refine pm_iload_n (pc := 45) dX9_piece_45 rfl ?_
              refine pm_iload (pc := 46) dX9_piece_46 rfl ?_
              refine pm_cVI (pc := 48) dX9_piece_48 (c_add6 hG hI (by omega) (by omega) ⟨hw1, hw⟩ (by omega)) wq_X2_add wm_X9_69 wi_X2_add ws_X2_add rfl rfl ⟨Nat.le_of_ble_eq_true rfl, Nat.le_of_ble_eq_true rfl⟩ ⟨Nat.le_of_ble_eq_true rfl, Nat.le_of_ble_eq_true rfl⟩ rfl (Nat.le_of_ble_eq_true rfl) (fun r48 I48 L48 q48 => ?_)
              obtain ⟨q1, q2, q3⟩ := q48
              subst q3
              refine pm_iret (pc := 51) rfl (Nat.le_refl _) (Nat.le_refl _) dX9_piece_51 ?_
              exact XQ.r q1 (hR.g q2) q2.2.x
        · refine pm_iconst (pc := 37) (v := (-1)) dX9_piece_37 (by decide) ?_
          refine pm_iret (pc := 38) rfl (Nat.le_refl _) (Nat.le_refl _) dX9_piece_38 ?_
          first | (rw [show sp_piece X k w t p = (-1, X) from if_pos (fun z => b1_nf h6 z.1)]; exact XQ.r rfl hR xF.rf) | (rw [show sp_piece X k w t p = (-1, X) from if_pos (fun z => b1_nf h16 z.2.1)]; exact XQ.r rfl hR xF.rf) | (rw [show sp_piece X k w t p = (-1, X) from if_pos (fun z => b1_nf h23 z.2.2.1)]; exact XQ.r rfl hR xF.rf) | (rw [show sp_piece X k w t p = (-1, X) from if_pos (fun z => b1_nf h34 z.2.2.2)]; exact XQ.r rfl hR xF.rf)
set_option maxRecDepth 100000 in
set_option maxHeartbeats 4000000 in
theorem c_isLane {I : pm_I} {L : pm_L} {x : Int32} : PC 1 0 0 yX9_isLane cX9_isLane 1 (some (.boolean)) [.int x] GG I L (QR GG I L (b1 (iR x 0 2))) := by
  refine PC.of [some (.int x)] (by decide) (Nat.le_of_ble_eq_true rfl) rfl (fun l P => ?_)
  refine pm_iload_n (pc := 0) dX9_isLane_0 rfl ?_
  refine pm_iconst (pc := 1) (v := nI 0) dX9_isLane_1 (by decide) ?_
  refine pm_iconst (pc := 2) (v := nI 2) dX9_isLane_2 (by decide) ?_
  refine pm_cSR (pc := 3) dX9_isLane_3 (c_isIn (a := 0) (b := 2) (by decide) (by decide)) wq_X9_isIn wm_X9_61 wt_X9_isIn ⟨Nat.le_of_ble_eq_true rfl, Nat.le_of_ble_eq_true rfl⟩ ⟨Nat.le_of_ble_eq_true rfl, Nat.le_of_ble_eq_true rfl⟩ rfl (Nat.le_of_ble_eq_true rfl) ?_
  refine pm_zret (pc := 6) b1_z rfl (Nat.le_refl _) (Nat.le_refl _) dX9_isLane_6 ?_
  exact QR.r rfl
set_option maxRecDepth 100000 in
set_option maxHeartbeats 4000000 in
theorem c_isPart {I : pm_I} {L : pm_L} {x : Int32} : PC 1 0 0 yX9_isPart cX9_isPart 1 (some (.boolean)) [.int x] GG I L (QR GG I L (b1 (iR x 0 1))) := by
  refine PC.of [some (.int x)] (by decide) (Nat.le_of_ble_eq_true rfl) rfl (fun l P => ?_)
  refine pm_iload_n (pc := 0) dX9_isPart_0 rfl ?_
  refine pm_iconst (pc := 1) (v := nI 0) dX9_isPart_1 (by decide) ?_
  refine pm_iconst (pc := 2) (v := nI 1) dX9_isPart_2 (by decide) ?_
  refine pm_cSR (pc := 3) dX9_isPart_3 (c_isIn (a := 0) (b := 1) (by decide) (by decide)) wq_X9_isIn wm_X9_61 wt_X9_isIn ⟨Nat.le_of_ble_eq_true rfl, Nat.le_of_ble_eq_true rfl⟩ ⟨Nat.le_of_ble_eq_true rfl, Nat.le_of_ble_eq_true rfl⟩ rfl (Nat.le_of_ble_eq_true rfl) ?_
  refine pm_zret (pc := 6) b1_z rfl (Nat.le_refl _) (Nat.le_refl _) dX9_isPart_6 ?_
  exact QR.r rfl
theorem XR.i {I I' : pm_I} {L : pm_L} {X : xS} (h : XR I L X) (h1 : GR I' 9 (x_g X)) (h2 : I' 0 2 = nI 1) (h3 : ∀ a : Nat, (1 ≤ a ∧ a < 9) ∨ 17 ≤ a → I' a = I a) : XR I' L (xi X (x_g X)) := by
  refine ⟨?_, ⟨h2, h1⟩, ?_, fun q hq => ⟨?_, (h.2.2.2 q hq).2⟩⟩
  · have h0 := h.1
    show GR I' 1 (x_g X)
    unfold GR at h0 ⊢
    simp only [h3 1 (by omega), h3 (1 + 1) (by omega), h3 (1 + 2) (by omega), h3 (1 + 3) (by omega), h3 (1 + 4) (by omega), h3 (1 + 5) (by omega), h3 (1 + 6) (by omega), h3 (1 + 7) (by omega)]
    exact h0
  · have h1 := h.2.2.1
    show XT I' (x_t X)
    unfold XT at h1 ⊢
    rw [h3 22 (by omega), h3 23 (by omega)]; exact h1
  · have h1 := (h.2.2.2 q hq).1
    show XS I' q (x_s X q)
    unfold XS at h1 ⊢
    rw [h3 (32 + 2 * q) (by omega)]; exact h1
set_option maxRecDepth 100000 in
set_option maxHeartbeats 4000000 in
theorem x_image {I : pm_I} {L : pm_L} {X : xS} (hR : XR I L X) (hX : xInv X) : PC 2 0 0 yX9_image cX9_image 1 (some (.int)) [.ref 0] GG I L (XQ I L (sp_image X).1 (sp_image X).2) := by
  have hG := hR.1
  have hI := hX.s
  have h12 := hI.n12
  refine PC.of [some (.ref 0)] (by decide) (Nat.le_of_ble_eq_true rfl) rfl (fun l P => ?_)
  refine pm_aload_n (pc := 0) dX9_image_0 rfl ?_
  refine pm_getr (pc := 1) (ci := 7) (C0 := RX9) (T := TX9) (N := 9) (j := 1) rfl rfl in_X9 (by decide) wf_X9_16 rfl dX9_image_1 ?_
  refine pm_aload_n (pc := 4) dX9_image_4 rfl ?_
  refine pm_getr (pc := 5) (ci := 7) (C0 := RX9) (T := TX9) (N := 9) (j := 0) rfl rfl in_X9 (by decide) wf_X9_10 rfl dX9_image_5 ?_
  refine pm_cVV (pc := 8) dX9_image_8 (c_likeK hG hI) wq_X2_becomeLike wm_X9_196 wi_X2_becomeLike ws_X2_becomeLike rfl rfl ⟨Nat.le_of_ble_eq_true rfl, Nat.le_of_ble_eq_true rfl⟩ ⟨Nat.le_of_ble_eq_true rfl, Nat.le_of_ble_eq_true rfl⟩ rfl (Nat.le_of_ble_eq_true rfl) (fun I8 L8 q8 => ?_)
  obtain ⟨q1, q2, q3⟩ := q8
  subst q3
  refine pm_aload_n (pc := 11) dX9_image_11 rfl ?_
  refine pm_iconst (pc := 12) (v := nI 1) dX9_image_12 (by decide) ?_
  refine pm_put (pc := 13) (ci := 7) (C0 := RX9) (T := TX9) (N := 9) (j := 2) (ty := .boolean) rfl rfl in_X9 tyX9 tyX9_ok nmX9 (by decide) wf_X9_200 rfl rfl (by decide +kernel) rfl rfl dX9_image_13 ?_
  refine pm_iconst (pc := 16) (v := nI 1) dX9_image_16 (by decide) ?_
  refine pm_iret (pc := 17) rfl (Nat.le_refl _) (Nat.le_refl _) dX9_image_17 ?_
  refine XQ.r rfl (XR.i hR ?_ ((congrFun pm_us 2).trans pk_us) (fun a ha => (pm_un (by omega)).trans (q2 a (by omega)))) (fun a ha => ⟨(pm_un (by omega)).trans (q2 a (by omega)), rfl⟩)
  unfold GR at q1 ⊢
  simp only [pm_un (show 9 ≠ 0 by decide), pm_un (show 9 + 1 ≠ 0 by decide), pm_un (show 9 + 2 ≠ 0 by decide), pm_un (show 9 + 3 ≠ 0 by decide), pm_un (show 9 + 4 ≠ 0 by decide), pm_un (show 9 + 5 ≠ 0 by decide), pm_un (show 9 + 6 ≠ 0 by decide), pm_un (show 9 + 7 ≠ 0 by decide)]
  exact q1
set_option maxRecDepth 100000 in
set_option maxHeartbeats 4000000 in
theorem x_restoreN {I : pm_I} {L : pm_L} {X : xS} (hR : XR I L X) (hX : xInv X) (hz : x_i X = none) : PC 2 0 0 yX9_restore cX9_restore 1 (some (.int)) [.ref 0] GG I L (XQ I L (sp_restore X).1 (sp_restore X).2) := by
  have hG := hR.1
  have hI := hX.s
  have h12 := hI.n12
  have hO := hR.2.1
  unfold XI at hO
  unfold sp_restore
  simp only [hz] at hO ⊢
  refine PC.of [some (.ref 0)] (by decide) (Nat.le_of_ble_eq_true rfl) rfl (fun l P => ?_)
  refine pm_aload_n (pc := 0) dX9_restore_0 rfl ?_
  refine pm_get (pc := 1) (ci := 7) (C0 := RX9) (T := TX9) (N := 9) (j := 2) rfl rfl in_X9 (by decide) wf_X9_200 rfl dX9_restore_1 ?_
  refine pm_if_ne (pc := 4) (tgt := 10) dX9_restore_4 rfl (fun h4 => absurd hO h4) (fun h4 => ?_)
  refine pm_bipush (pc := 7) (v := (-4)) dX9_restore_7 (by decide) ?_
  refine pm_iret (pc := 9) rfl (Nat.le_refl _) (Nat.le_refl _) dX9_restore_9 ?_
  exact XQ.r rfl hR xF.rf
set_option maxRecDepth 100000 in
set_option maxHeartbeats 4000000 in
theorem x_restoreS {I : pm_I} {L : pm_L} {X : xS} (hR : XR I L X) (hX : xInv X) {s : gS} (hz : x_i X = some s) : PC 2 0 0 yX9_restore cX9_restore 1 (some (.int)) [.ref 0] GG I L (XQ I L (sp_restore X).1 (sp_restore X).2) := by
  have hG := hR.1
  have hI := hX.s
  have h12 := hI.n12
  have hO := hR.2.1
  unfold XI at hO
  unfold sp_restore
  simp only [hz] at hO ⊢
  refine PC.of [some (.ref 0)] (by decide) (Nat.le_of_ble_eq_true rfl) rfl (fun l P => ?_)
  refine pm_aload_n (pc := 0) dX9_restore_0 rfl ?_
  refine pm_get (pc := 1) (ci := 7) (C0 := RX9) (T := TX9) (N := 9) (j := 2) rfl rfl in_X9 (by decide) wf_X9_200 rfl dX9_restore_1 ?_
  refine pm_if_ne (pc := 4) (tgt := 10) dX9_restore_4 rfl (fun h4 => ?_) (fun h4 => absurd (hO.1.symm.trans h4) (by decide))
  refine pm_aload_n (pc := 10) dX9_restore_10 rfl ?_
  refine pm_getr (pc := 11) (ci := 7) (C0 := RX9) (T := TX9) (N := 9) (j := 0) rfl rfl in_X9 (by decide) wf_X9_10 rfl dX9_restore_11 ?_
  refine pm_aload_n (pc := 14) dX9_restore_14 rfl ?_
  refine pm_getr (pc := 15) (ci := 7) (C0 := RX9) (T := TX9) (N := 9) (j := 1) rfl rfl in_X9 (by decide) wf_X9_16 rfl dX9_restore_15 ?_
  refine pm_cVV (pc := 18) dX9_restore_18 (c_likeG hO.2 (hX.2.1 s hz)) wq_X2_becomeLike wm_X9_196 wi_X2_becomeLike ws_X2_becomeLike rfl rfl ⟨Nat.le_of_ble_eq_true rfl, Nat.le_of_ble_eq_true rfl⟩ ⟨Nat.le_of_ble_eq_true rfl, Nat.le_of_ble_eq_true rfl⟩ rfl (Nat.le_of_ble_eq_true rfl) (fun I18 L18 q18 => ?_)
  obtain ⟨q1, q2, q3⟩ := q18
  subst q3
  refine pm_iconst (pc := 21) (v := nI 1) dX9_restore_21 (by decide) ?_
  refine pm_iret (pc := 22) rfl (Nat.le_refl _) (Nat.le_refl _) dX9_restore_22 ?_
  exact XQ.r rfl (hR.g ⟨q1, fun a ha => q2 a (by omega)⟩) (fun a ha => ⟨q2 a (by omega), rfl⟩)
set_option maxRecDepth 100000 in
theorem x_restore {I : pm_I} {L : pm_L} {X : xS} (hR : XR I L X) (hX : xInv X) : PC 2 0 0 yX9_restore cX9_restore 1 (some (.int)) [.ref 0] GG I L (XQ I L (sp_restore X).1 (sp_restore X).2) := by
  cases hz : x_i X with
  | none => exact x_restoreN hR hX hz
  | some s => exact x_restoreS hR hX hz
