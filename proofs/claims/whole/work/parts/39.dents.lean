def m_sw (s : gS) (x j : Nat) : Nat := if d_bt x j then g_w s j else 0
theorem m_ss_eq {s : gS} (h : gInv s) {p : Nat} (hp : p < 6) (x : Nat) : fb_sm (fun k => m_sw s x (m_pl s p k)) (g_st s p).length = m_ss s p x (g_n s) := by
  have e := fb_stack (m_sw s x) (h.2.2 p hp).2.1 (h.2.2 p hp).2.2
  refine e.trans (fb_sm_cong (fun j hj => ?_))
  unfold m_sw
  by_cases a : g_wh s j = p
  · rw [if_pos a]
    by_cases b : x.testBit j = true
    · rw [if_pos b, if_pos ⟨a, b⟩]
    · rw [if_neg b, if_neg (fun z => b z.2)]
  · rw [if_neg a, if_neg (fun z => a z.1)]
set_option maxRecDepth 100000 in
set_option maxHeartbeats 1000000 in
theorem l_sumIn {I : pm_I} {L : pm_L} {s : gS} {p x : Nat} (hG : MG I s) (hI : gInv s) (hp : p < 6) (hx : x < 2 ^ 31) {la : Launch} {P : pm_E} : ∀ (m i : Nat), i + m = (g_st s p).length → PW la P yX10_sumIn cX10_sumIn 5 (some (.int)) (pm_rm 1 0 0) (pm_Tg P (QR GG I L (nI (m_ss s p x (g_n s)))) 0 0) 0 0 5 [some (.ref 40), some (.int (nI p)), some (.int (nI x)), some (.int (nI (fb_sm (fun k => m_sw s x (m_pl s p k)) i))), some (.int (nI i))] [] GG I L
  | 0, i, hm => by
    have h12 := hI.n12
    have hlen := hI.len hp
    have e : i = (g_st s p).length := by omega
    subst e
    refine pm_iload (pc := 5) dX10_sumIn_5 rfl ?_
    refine pm_aload_n (pc := 7) dX10_sumIn_7 rfl ?_
    refine pm_getr (pc := 8) (ci := 8) (C0 := RX10) (T := TX10) (N := 34) (j := 5) rfl rfl in_X10 (by decide) wf_X10_22 rfl dX10_sumIn_8 ?_
    refine pm_iload_n (pc := 11) dX10_sumIn_11 rfl ?_
    refine pm_iald (pc := 12) rfl (by omega) (by decide) dX10_sumIn_12 ?_
    refine pm_icmp_ge (pc := 13) (tgt := 64) dX10_sumIn_13 rfl (fun h13 => ?_) (fun h13 => (by simp (disch := omega) only [hG.mn hp, pm_leI, nI_toInt] at h13; omega))
    refine pm_iload_n (pc := 64) dX10_sumIn_64 rfl ?_
    refine pm_iret (pc := 65) rfl (Nat.le_refl _) (Nat.le_refl _) dX10_sumIn_65 ?_
    exact QR.r (by rw [m_ss_eq hI hp])
  | m + 1, i, hm => by
    have h12 := hI.n12
    have hlen := hI.len hp
    have hi : i < (g_st s p).length := by omega
    have hpl := (m_pl_lt hI hp hi).1
    have k9 := l_sumIn hG hI hp hx m (i + 1) (by omega) (I := I) (L := L) (la := la) (P := P)
    rw [fb_sm_succ] at k9
    refine pm_iload (pc := 5) dX10_sumIn_5 rfl ?_
    refine pm_aload_n (pc := 7) dX10_sumIn_7 rfl ?_
    refine pm_getr (pc := 8) (ci := 8) (C0 := RX10) (T := TX10) (N := 34) (j := 5) rfl rfl in_X10 (by decide) wf_X10_22 rfl dX10_sumIn_8 ?_
    refine pm_iload_n (pc := 11) dX10_sumIn_11 rfl ?_
    refine pm_iald (pc := 12) rfl (by omega) (by decide) dX10_sumIn_12 ?_
    refine pm_icmp_ge (pc := 13) (tgt := 64) dX10_sumIn_13 rfl (fun h13 => (by simp (disch := omega) only [hG.mn hp, pm_leI, nI_toInt] at h13; omega)) (fun h13 => ?_)
    refine pm_iload_n (pc := 16) dX10_sumIn_16 rfl ?_
    refine pm_iload_n (pc := 17) dX10_sumIn_17 rfl ?_
    refine pm_aload_n (pc := 18) dX10_sumIn_18 rfl ?_
    refine pm_getr (pc := 19) (ci := 8) (C0 := RX10) (T := TX10) (N := 34) (j := 6) rfl rfl in_X10 (by decide) wf_X10_25 rfl dX10_sumIn_19 ?_
    refine pm_bipush (pc := 22) (v := nI 12) dX10_sumIn_22 (by decide) ?_
    refine pm_iload_n (pc := 24) dX10_sumIn_24 rfl ?_
    refine pm_imul (pc := 25) dX10_sumIn_25 ?_
    refine pm_iload (pc := 26) dX10_sumIn_26 rfl ?_
    refine pm_iadd (pc := 28) dX10_sumIn_28 ?_
    refine pm_top (x' := nI (12 * p + i)) (by rw [pk_mul, nI_add]) ?_
    refine pm_iald (pc := 29) rfl (by omega) (by decide) dX10_sumIn_29 ?_
    rw [hG.pl hp hi]
    refine pm_cSR (pc := 30) dX10_sumIn_30 (c_has (m := x) (j := m_pl s p i) hx (by omega)) wq_X10_has wm_X10_263 wt_X10_has ⟨Nat.le_of_ble_eq_true rfl, Nat.le_of_ble_eq_true rfl⟩ ⟨Nat.le_of_ble_eq_true rfl, Nat.le_of_ble_eq_true rfl⟩ rfl (Nat.le_of_ble_eq_true rfl) ?_
    refine pm_if_eq (pc := 33) (tgt := 55) dX10_sumIn_33 rfl (fun h33 => ?_) (fun h33 => ?_)
    · rw [show m_sw s x (m_pl s p i) = 0 from if_neg (b1_nf h33)] at k9
      refine pm_iconst (pc := 55) (v := nI 0) dX10_sumIn_55 (by decide) ?_
      refine pm_iadd (pc := 56) dX10_sumIn_56 ?_
      refine pm_top (nI_add _ _) ?_
      refine pm_istore_n (pc := 57) dX10_sumIn_57 (by decide) rfl ?_
      refine pm_iinc (pc := 58) dX10_sumIn_58 rfl (pm_inc1 _) (by decide) rfl ?_
      refine pm_goto (pc := 61) (tgt := 5) dX10_sumIn_61 rfl ?_
      exact k9
    · rw [show m_sw s x (m_pl s p i) = g_w s (m_pl s p i) from if_pos (b1_nt h33)] at k9
      refine pm_aload_n (pc := 36) dX10_sumIn_36 rfl ?_
      refine pm_aload_n (pc := 37) dX10_sumIn_37 rfl ?_
      refine pm_getr (pc := 38) (ci := 8) (C0 := RX10) (T := TX10) (N := 34) (j := 6) rfl rfl in_X10 (by decide) wf_X10_25 rfl dX10_sumIn_38 ?_
      refine pm_bipush (pc := 41) (v := nI 12) dX10_sumIn_41 (by decide) ?_
      refine pm_iload_n (pc := 43) dX10_sumIn_43 rfl ?_
      refine pm_imul (pc := 44) dX10_sumIn_44 ?_
      refine pm_iload (pc := 45) dX10_sumIn_45 rfl ?_
      refine pm_iadd (pc := 47) dX10_sumIn_47 ?_
      refine pm_top (x' := nI (12 * p + i)) (by rw [pk_mul, nI_add]) ?_
      refine pm_iald (pc := 48) rfl (by omega) (by decide) dX10_sumIn_48 ?_
      rw [hG.pl hp hi]
      refine pm_cVR (pc := 49) dX10_sumIn_49 (c_mWeighs hG hI hpl) wq_X10_weighs wm_X10_97 wi_X10_weighs ws_X10_weighs rfl rfl ⟨Nat.le_of_ble_eq_true rfl, Nat.le_of_ble_eq_true rfl⟩ ⟨Nat.le_of_ble_eq_true rfl, Nat.le_of_ble_eq_true rfl⟩ rfl (Nat.le_of_ble_eq_true rfl) ?_
      refine pm_goto (pc := 52) (tgt := 56) dX10_sumIn_52 rfl ?_
      refine pm_iadd (pc := 56) dX10_sumIn_56 ?_
      refine pm_top (nI_add _ _) ?_
      refine pm_istore_n (pc := 57) dX10_sumIn_57 (by decide) rfl ?_
      refine pm_iinc (pc := 58) dX10_sumIn_58 rfl (pm_inc1 _) (by decide) rfl ?_
      refine pm_goto (pc := 61) (tgt := 5) dX10_sumIn_61 rfl ?_
      exact k9
set_option maxRecDepth 100000 in
set_option maxHeartbeats 1000000 in
theorem c_sumIn {I : pm_I} {L : pm_L} {s : gS} {p x : Nat} (hG : MG I s) (hI : gInv s) (hp : p < 6) (hx : x < 2 ^ 31) : PC 1 0 0 yX10_sumIn cX10_sumIn 5 (some (.int)) [.ref 40, .int (nI p), .int (nI x)] GG I L (QR GG I L (nI (m_ss s p x (g_n s)))) := by
  refine PC.of [some (.ref 40), some (.int (nI p)), some (.int (nI x)), none, none] (by decide) (Nat.le_of_ble_eq_true rfl) rfl (fun l P => ?_)
  refine pm_iconst (pc := 0) (v := nI 0) dX10_sumIn_0 (by decide) ?_
  refine pm_istore_n (pc := 1) dX10_sumIn_1 (by decide) rfl ?_
  refine pm_iconst (pc := 2) (v := nI 0) dX10_sumIn_2 (by decide) ?_
  refine pm_istore (pc := 3) dX10_sumIn_3 (by decide) rfl ?_
  exact l_sumIn hG hI hp hx (g_st s p).length 0 (by omega)
