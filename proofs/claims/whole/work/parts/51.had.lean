abbrev h_C (s : gS) (c : Nat) : Prop := (a_h c = 0 → a_o c = 0) ∧ (a_h c = 3 → a_o c < 6) ∧ (a_h c ≠ 0 ∧ a_h c ≠ 3 → a_o c < g_n s) ∧ a_p c < 6
theorem h_C.W {s : gS} {c : Nat} (hc : c < 4000) (h : h_C s c) : a_okW s c := by
  have h4 : a_h c < 4 := by show c / 1000 < 4; omega
  exact ⟨h4, h.2.2.2, fun z => h.2.2.1 (by omega), h.2.1⟩
theorem h_C.V {s : gS} {c : Nat} (hc : c < 4000) : h_V s c ↔ h_C s c ∧ a_canW s c ∧ ¬ a_felt s c := by
  have h4 : a_h c < 4 := by show c / 1000 < 4; omega
  refine ⟨fun v => ⟨⟨v.2.2.2.2.1, fun z => (v.2.2.2.1 z).1, fun z => v.2.2.1 (by omega), v.2.1⟩, ⟨v.2.2.2.2.2.1, fun z y => (v.2.2.2.1 z).2 y.symm⟩, v.2.2.2.2.2.2⟩, fun v => ⟨h4, v.1.2.2.2, fun z => v.1.2.2.1 (by omega), fun z => ⟨v.1.2.1 z, fun y => v.2.1.2 z y.symm⟩, v.1.1, v.2.1.1, v.2.2⟩⟩
set_option maxRecDepth 100000 in
set_option maxHeartbeats 1000000 in
theorem c_mIsCode {I : pm_I} {L : pm_L} {s : gS} (hG : MG I s) (hI : gInv s) {c : Nat} (hc : c < 4000) : PC 1 0 0 yX10_isCode cX10_isCode 4 (some (.boolean)) [.ref 40, .int (nI c)] GG I L (QR GG I L (b1 (h_C s c))) := by
  have h12 := hI.n12
  have h4 : a_h c < 4 := by show c / 1000 < 4; omega
  have ho : a_o c < 100 := by show c % 100 < 100; omega
  have hp : a_p c < 10 := by show c / 100 % 10 < 10; omega
  refine PC.of [some (.ref 40), some (.int (nI c)), none, none] (by decide) (Nat.le_of_ble_eq_true rfl) rfl (fun l P => ?_)
  have k1 : ((a_h c = 0 → a_o c = 0) ∧ (a_h c = 3 → a_o c < 6) ∧ (a_h c ≠ 0 ∧ a_h c ≠ 3 → a_o c < g_n s)) → PW l P yX10_isCode cX10_isCode 4 (some (.boolean)) (pm_rm 1 0 0) (pm_Tg P (QR GG I L (b1 (h_C s c))) 0 0) 0 0 59 [some (.ref 40), some (.int (nI c)), some (.int (nI (a_o c))), none] [.int (nI 1)] GG I L := fun hg => by
    refine pm_istore_n (pc := 59) dX10_isCode_59 (by decide) rfl ?_
    refine pm_iload_n (pc := 60) dX10_isCode_60 rfl ?_
    refine pm_if_eq (pc := 61) (tgt := 77) dX10_isCode_61 rfl (fun h61 => absurd h61 (by decide)) (fun h61 => ?_)
    refine pm_iload_n (pc := 64) dX10_isCode_64 rfl ?_
    refine pm_cSR (pc := 65) dX10_isCode_65 (c_mPlaceOf (by omega)) wq_X10_placeOf wm_X10_202 wt_X10_placeOf ⟨Nat.le_of_ble_eq_true rfl, Nat.le_of_ble_eq_true rfl⟩ ⟨Nat.le_of_ble_eq_true rfl, Nat.le_of_ble_eq_true rfl⟩ rfl (Nat.le_of_ble_eq_true rfl) ?_
    refine pm_bipush (pc := 68) (v := nI 6) dX10_isCode_68 (by decide) ?_
    refine pm_icmp_ge (pc := 70) (tgt := 77) dX10_isCode_70 rfl (fun h70 => ?_) (fun h70 => ?_)
    · simp (disch := omega) only [pm_eqI, pm_ltI, pm_leI, nI_toInt, pm_t0, pm_t1, pm_tm1] at h70
      refine pm_iconst (pc := 77) (v := nI 0) dX10_isCode_77 (by decide) ?_
      refine pm_zret (pc := 78) (by decide) rfl (Nat.le_refl _) (Nat.le_refl _) dX10_isCode_78 ?_
      refine QR.r ?_
      first
        | exact b1_t ⟨hg.1, hg.2.1, hg.2.2, by omega⟩
        | exact b1_f (fun z => by have := z.2.2.2; omega)
        | exact (b1_t ⟨hg.1, hg.2.1, hg.2.2, by omega⟩).symm
        | exact (b1_f (fun z => by have := z.2.2.2; omega)).symm
    · simp (disch := omega) only [pm_eqI, pm_ltI, pm_leI, nI_toInt, pm_t0, pm_t1, pm_tm1] at h70
      refine pm_iconst (pc := 73) (v := nI 1) dX10_isCode_73 (by decide) ?_
      refine pm_goto (pc := 74) (tgt := 78) dX10_isCode_74 rfl ?_
      refine pm_zret (pc := 78) (by decide) rfl (Nat.le_refl _) (Nat.le_refl _) dX10_isCode_78 ?_
      refine QR.r ?_
      first
        | exact b1_t ⟨hg.1, hg.2.1, hg.2.2, by omega⟩
        | exact b1_f (fun z => by have := z.2.2.2; omega)
        | exact (b1_t ⟨hg.1, hg.2.1, hg.2.2, by omega⟩).symm
        | exact (b1_f (fun z => by have := z.2.2.2; omega)).symm
  have k0 : ¬ ((a_h c = 0 → a_o c = 0) ∧ (a_h c = 3 → a_o c < 6) ∧ (a_h c ≠ 0 ∧ a_h c ≠ 3 → a_o c < g_n s)) → PW l P yX10_isCode cX10_isCode 4 (some (.boolean)) (pm_rm 1 0 0) (pm_Tg P (QR GG I L (b1 (h_C s c))) 0 0) 0 0 59 [some (.ref 40), some (.int (nI c)), some (.int (nI (a_o c))), none] [.int (nI 0)] GG I L := fun hg => by
    refine pm_istore_n (pc := 59) dX10_isCode_59 (by decide) rfl ?_
    refine pm_iload_n (pc := 60) dX10_isCode_60 rfl ?_
    refine pm_if_eq (pc := 61) (tgt := 77) dX10_isCode_61 rfl (fun h61 => ?_) (fun h61 => absurd (show nI 0 = 0 by decide) h61)
    refine pm_iconst (pc := 77) (v := nI 0) dX10_isCode_77 (by decide) ?_
    refine pm_zret (pc := 78) (by decide) rfl (Nat.le_refl _) (Nat.le_refl _) dX10_isCode_78 ?_
    refine QR.r ?_
    first
      | exact b1_f (fun z => hg ⟨z.1, z.2.1, z.2.2.1⟩)
      | exact (b1_f (fun z => hg ⟨z.1, z.2.1, z.2.2.1⟩)).symm
  refine pm_iload_n (pc := 0) dX10_isCode_0 rfl ?_
  refine pm_cSR (pc := 1) dX10_isCode_1 (c_mOther (by omega)) wq_X10_otherOf wm_X10_205 wt_X10_otherOf ⟨Nat.le_of_ble_eq_true rfl, Nat.le_of_ble_eq_true rfl⟩ ⟨Nat.le_of_ble_eq_true rfl, Nat.le_of_ble_eq_true rfl⟩ rfl (Nat.le_of_ble_eq_true rfl) ?_
  refine pm_istore_n (pc := 4) dX10_isCode_4 (by decide) rfl ?_
  refine pm_iload_n (pc := 5) dX10_isCode_5 rfl ?_
  refine pm_cSR (pc := 6) dX10_isCode_6 (c_mKind (by omega) rfl) wq_X10_kindOf wm_X10_208 wt_X10_kindOf ⟨Nat.le_of_ble_eq_true rfl, Nat.le_of_ble_eq_true rfl⟩ ⟨Nat.le_of_ble_eq_true rfl, Nat.le_of_ble_eq_true rfl⟩ rfl (Nat.le_of_ble_eq_true rfl) ?_
  refine pm_if_ne (pc := 9) (tgt := 24) dX10_isCode_9 rfl (fun h9 => ?_) (fun h9 => ?_)
  · simp (disch := omega) only [pm_eqI, pm_ltI, pm_leI, nI_toInt, pm_t0, pm_t1, pm_tm1] at h9
    refine pm_iload_n (pc := 24) dX10_isCode_24 rfl ?_
    refine pm_cSR (pc := 25) dX10_isCode_25 (c_mKind (by omega) rfl) wq_X10_kindOf wm_X10_208 wt_X10_kindOf ⟨Nat.le_of_ble_eq_true rfl, Nat.le_of_ble_eq_true rfl⟩ ⟨Nat.le_of_ble_eq_true rfl, Nat.le_of_ble_eq_true rfl⟩ rfl (Nat.le_of_ble_eq_true rfl) ?_
    refine pm_iconst (pc := 28) (v := nI 3) dX10_isCode_28 (by decide) ?_
    refine pm_icmp_ne (pc := 29) (tgt := 46) dX10_isCode_29 rfl (fun h29 => ?_) (fun h29 => ?_)
    · simp (disch := omega) only [pm_eqI, pm_ltI, pm_leI, nI_toInt, pm_t0, pm_t1, pm_tm1] at h29
      refine pm_iload_n (pc := 46) dX10_isCode_46 rfl ?_
      refine pm_aload_n (pc := 47) dX10_isCode_47 rfl ?_
      refine pm_get (pc := 48) (ci := 8) (C0 := RX10) (T := TX10) (N := 34) (j := 0) rfl rfl in_X10 (by decide) wf_X10_83 rfl dX10_isCode_48 ?_
      refine pm_icmp_ge (pc := 51) (tgt := 58) dX10_isCode_51 rfl (fun h51 => ?_) (fun h51 => ?_)
      · simp (disch := omega) only [hG.n, pm_eqI, pm_ltI, pm_leI, nI_toInt, pm_t0, pm_t1, pm_tm1] at h51
        refine pm_iconst (pc := 58) (v := nI 0) dX10_isCode_58 (by decide) ?_
        first
          | exact k1 ⟨by omega, by omega, by omega⟩
          | exact k0 (fun z => by omega)
      · simp (disch := omega) only [hG.n, pm_eqI, pm_ltI, pm_leI, nI_toInt, pm_t0, pm_t1, pm_tm1] at h51
        refine pm_iconst (pc := 54) (v := nI 1) dX10_isCode_54 (by decide) ?_
        refine pm_goto (pc := 55) (tgt := 59) dX10_isCode_55 rfl ?_
        first
          | exact k1 ⟨by omega, by omega, by omega⟩
          | exact k0 (fun z => by omega)
    · simp (disch := omega) only [pm_eqI, pm_ltI, pm_leI, nI_toInt, pm_t0, pm_t1, pm_tm1] at h29
      refine pm_iload_n (pc := 32) dX10_isCode_32 rfl ?_
      refine pm_bipush (pc := 33) (v := nI 6) dX10_isCode_33 (by decide) ?_
      refine pm_icmp_ge (pc := 35) (tgt := 42) dX10_isCode_35 rfl (fun h35 => ?_) (fun h35 => ?_)
      · simp (disch := omega) only [pm_eqI, pm_ltI, pm_leI, nI_toInt, pm_t0, pm_t1, pm_tm1] at h35
        refine pm_iconst (pc := 42) (v := nI 0) dX10_isCode_42 (by decide) ?_
        refine pm_goto (pc := 43) (tgt := 59) dX10_isCode_43 rfl ?_
        first
          | exact k1 ⟨by omega, by omega, by omega⟩
          | exact k0 (fun z => by omega)
      · simp (disch := omega) only [pm_eqI, pm_ltI, pm_leI, nI_toInt, pm_t0, pm_t1, pm_tm1] at h35
        refine pm_iconst (pc := 38) (v := nI 1) dX10_isCode_38 (by decide) ?_
        refine pm_goto (pc := 39) (tgt := 59) dX10_isCode_39 rfl ?_
        first
          | exact k1 ⟨by omega, by omega, by omega⟩
          | exact k0 (fun z => by omega)
  · simp (disch := omega) only [pm_eqI, pm_ltI, pm_leI, nI_toInt, pm_t0, pm_t1, pm_tm1] at h9
    refine pm_iload_n (pc := 12) dX10_isCode_12 rfl ?_
    refine pm_if_ne (pc := 13) (tgt := 20) dX10_isCode_13 rfl (fun h13 => ?_) (fun h13 => ?_)
    · simp (disch := omega) only [pm_eqI, pm_ltI, pm_leI, nI_toInt, pm_t0, pm_t1, pm_tm1] at h13
      refine pm_iconst (pc := 20) (v := nI 0) dX10_isCode_20 (by decide) ?_
      refine pm_goto (pc := 21) (tgt := 59) dX10_isCode_21 rfl ?_
      first
        | exact k1 ⟨by omega, by omega, by omega⟩
        | exact k0 (fun z => by omega)
    · simp (disch := omega) only [pm_eqI, pm_ltI, pm_leI, nI_toInt, pm_t0, pm_t1, pm_tm1] at h13
      refine pm_iconst (pc := 16) (v := nI 1) dX10_isCode_16 (by decide) ?_
      refine pm_goto (pc := 17) (tgt := 59) dX10_isCode_17 rfl ?_
      first
        | exact k1 ⟨by omega, by omega, by omega⟩
        | exact k0 (fun z => by omega)
set_option maxRecDepth 100000 in
set_option maxHeartbeats 1000000 in
theorem l_nx {I : pm_I} {L : pm_L} {s : gS} (hG : MG I s) (hI : gInv s) {c0 : Nat} {la : Launch} {P : pm_E} : ∀ (m c : Nat), c + m = 3600 → h_nx s m c = h_nx s (3600 - c0) c0 → PW la P yX10_nextAct cX10_nextAct 3 (some (.int)) (pm_rm 2 0 0) (pm_Tg P (QR GG I L (nI (h_nx s (3600 - c0) c0))) 0 0) 0 0 2 [some (.ref 40), some (.int (nI c0)), some (.int (nI c))] [] GG I L
  | 0, c, hm, hT => by
    have e : c = 3600 := by omega
    subst e
    refine pm_iload_n (pc := 2) dX10_nextAct_2 rfl ?_
    refine pm_sipush (pc := 3) (v := nI 3600) dX10_nextAct_3 (by decide) ?_
    refine pm_icmp_ge (pc := 6) (tgt := 39) dX10_nextAct_6 rfl (fun h6 => ?_) (fun h6 => (by simp (disch := omega) only [pm_eqI, pm_ltI, pm_leI, nI_toInt, pm_t0, pm_t1, pm_tm1] at h6; omega))
    refine pm_iload_n (pc := 39) dX10_nextAct_39 rfl ?_
    refine pm_iret (pc := 40) rfl (Nat.le_refl _) (Nat.le_refl _) dX10_nextAct_40 ?_
    rw [← hT]; exact QR.r rfl
  | m + 1, c, hm, hT => by
    have hc : c < 4000 := by omega
    have kV := h_C.V (s := s) hc
    have e0 : h_nx s (m + 1) c = if h_V s c then c else h_nx s m (c + 1) := rfl
    refine pm_iload_n (pc := 2) dX10_nextAct_2 rfl ?_
    refine pm_sipush (pc := 3) (v := nI 3600) dX10_nextAct_3 (by decide) ?_
    refine pm_icmp_ge (pc := 6) (tgt := 39) dX10_nextAct_6 rfl (fun h6 => (by simp (disch := omega) only [pm_eqI, pm_ltI, pm_leI, nI_toInt, pm_t0, pm_t1, pm_tm1] at h6; omega)) (fun h6 => ?_)
    refine pm_aload_n (pc := 9) dX10_nextAct_9 rfl ?_
    refine pm_iload_n (pc := 10) dX10_nextAct_10 rfl ?_
    refine pm_cVR (pc := 11) dX10_nextAct_11 (c_mIsCode hG hI hc) wq_X10_isCode wm_X10_229 wi_X10_isCode ws_X10_isCode rfl rfl ⟨Nat.le_of_ble_eq_true rfl, Nat.le_of_ble_eq_true rfl⟩ ⟨Nat.le_of_ble_eq_true rfl, Nat.le_of_ble_eq_true rfl⟩ rfl (Nat.le_of_ble_eq_true rfl) ?_
    refine pm_if_eq (pc := 14) (tgt := 33) dX10_nextAct_14 rfl (fun h14 => ?_) (fun h14 => ?_)
    · have hn : ¬ h_V s c := fun z => b1_nf h14 (kV.mp z).1
      refine pm_iinc (pc := 33) dX10_nextAct_33 rfl (pm_inc1 _) (by decide) rfl ?_
      refine pm_goto (pc := 36) (tgt := 2) dX10_nextAct_36 rfl ?_
      exact l_nx hG hI m (c + 1) (by omega) (by rw [← hT, e0, if_neg hn])
    · have hC := b1_nt h14
      refine pm_aload_n (pc := 17) dX10_nextAct_17 rfl ?_
      refine pm_iload_n (pc := 18) dX10_nextAct_18 rfl ?_
      refine pm_cVR (pc := 19) dX10_nextAct_19 (c_mCanBe hG hI (hC.W hc)) wq_X10_canBe wm_X10_196 wi_X10_canBe ws_X10_canBe rfl rfl ⟨Nat.le_of_ble_eq_true rfl, Nat.le_of_ble_eq_true rfl⟩ ⟨Nat.le_of_ble_eq_true rfl, Nat.le_of_ble_eq_true rfl⟩ rfl (Nat.le_of_ble_eq_true rfl) ?_
      refine pm_if_eq (pc := 22) (tgt := 33) dX10_nextAct_22 rfl (fun h22 => ?_) (fun h22 => ?_)
      · have hn : ¬ h_V s c := fun z => b1_nf h22 (kV.mp z).2.1
        refine pm_iinc (pc := 33) dX10_nextAct_33 rfl (pm_inc1 _) (by decide) rfl ?_
        refine pm_goto (pc := 36) (tgt := 2) dX10_nextAct_36 rfl ?_
        exact l_nx hG hI m (c + 1) (by omega) (by rw [← hT, e0, if_neg hn])
      · have hcan := b1_nt h22
        refine pm_aload_n (pc := 25) dX10_nextAct_25 rfl ?_
        refine pm_iload_n (pc := 26) dX10_nextAct_26 rfl ?_
        refine pm_cVR (pc := 27) dX10_nextAct_27 (c_mIsFelt hG hI (hC.W hc) hcan.1) wq_X10_isFelt wm_X10_217 wi_X10_isFelt ws_X10_isFelt rfl rfl ⟨Nat.le_of_ble_eq_true rfl, Nat.le_of_ble_eq_true rfl⟩ ⟨Nat.le_of_ble_eq_true rfl, Nat.le_of_ble_eq_true rfl⟩ rfl (Nat.le_of_ble_eq_true rfl) ?_
        refine pm_if_eq (pc := 30) (tgt := 39) dX10_nextAct_30 rfl (fun h30 => ?_) (fun h30 => ?_)
        · refine pm_iload_n (pc := 39) dX10_nextAct_39 rfl ?_
          refine pm_iret (pc := 40) rfl (Nat.le_refl _) (Nat.le_refl _) dX10_nextAct_40 ?_
          rw [← hT, e0, if_pos (kV.mpr ⟨hC, hcan, b1_nf h30⟩)]
          exact QR.r rfl
        · have hn : ¬ h_V s c := fun z => (kV.mp z).2.2 (b1_nt h30)
          refine pm_iinc (pc := 33) dX10_nextAct_33 rfl (pm_inc1 _) (by decide) rfl ?_
          refine pm_goto (pc := 36) (tgt := 2) dX10_nextAct_36 rfl ?_
          exact l_nx hG hI m (c + 1) (by omega) (by rw [← hT, e0, if_neg hn])
set_option maxRecDepth 100000 in
set_option maxHeartbeats 1000000 in
theorem c_mNext {I : pm_I} {L : pm_L} {s : gS} (hG : MG I s) (hI : gInv s) {c0 : Nat} (hc0 : c0 ≤ 3600) : PC 2 0 0 yX10_nextAct cX10_nextAct 3 (some (.int)) [.ref 40, .int (nI c0)] GG I L (QR GG I L (nI (h_nx s (3600 - c0) c0))) := by
  refine PC.of [some (.ref 40), some (.int (nI c0)), none] (by decide) (Nat.le_of_ble_eq_true rfl) rfl (fun l P => ?_)
  refine pm_iload_n (pc := 0) dX10_nextAct_0 rfl ?_
  refine pm_istore_n (pc := 1) dX10_nextAct_1 (by decide) rfl ?_
  exact l_nx hG hI (3600 - c0) c0 (by omega) rfl
def h_l : Option (List Nat) → Int32
  | none => -1
  | some q => nI (q.headD 0)
theorem h_tl {s : gS} (hI : gInv s) {p : Nat} (hp : p < 6) : g_top s p < 2 ^ 31 := by
  have h12 := hI.n12
  by_cases e : g_st s p = []
  · rw [g_top12 e]; decide
  · have := (hI.top hp e).1; omega
set_option maxRecDepth 100000 in
set_option maxHeartbeats 1000000 in
theorem l_la55 {I : pm_I} {L : pm_L} {s : gS} (hG : MG I s) (hI : gInv s) {i : Nat} (hi : i < g_n s) (hw : g_wh s i < 6) (ht : g_top s (g_wh s i) = i) {la : Launch} {P : pm_E} : ∀ (m k : Nat), k + m = g_n s → h_fst (h_at i 0 s) (3600 - (2000 + 100 * g_wh s i + k)) (2000 + 100 * g_wh s i + k) = h_f i 0 s → PW la P yX10_lastAct cX10_lastAct 4 (some (.int)) (pm_rm 2 0 0) (pm_Tg P (QR GG I L (h_l (h_f i 0 s))) 0 0) 0 0 55 [some (.ref 40), some (.int (nI i)), some (.int (nI k)), none] [] GG I L
  | 0, k, hm, hT => by
    have h12 := hI.n12
    have e : k = g_n s := by omega
    subst e
    rw [h_0_e hw] at hT
    refine pm_iload_n (pc := 55) dX10_lastAct_55 rfl ?_
    refine pm_aload_n (pc := 56) dX10_lastAct_56 rfl ?_
    refine pm_get (pc := 57) (ci := 8) (C0 := RX10) (T := TX10) (N := 34) (j := 0) rfl rfl in_X10 (by decide) wf_X10_83 rfl dX10_lastAct_57 ?_
    refine pm_icmp_ge (pc := 60) (tgt := 103) dX10_lastAct_60 rfl (fun h60 => ?_) (fun h60 => (by simp (disch := omega) only [hG.n, pm_leI, nI_toInt] at h60; omega))
    refine pm_iconst (pc := 103) (v := (-1)) dX10_lastAct_103 (by decide) ?_
    refine pm_iret (pc := 104) rfl (Nat.le_refl _) (Nat.le_refl _) dX10_lastAct_104 ?_
    rw [← hT]; exact QR.r rfl
  | m + 1, k, hm, hT => by
    have h12 := hI.n12
    obtain ⟨ho, hb⟩ := h_0_s (i := i) h12 (show k < g_n s by omega) hw ht
    have hlt : 2000 + 100 * g_wh s i + k < 3600 := by omega
    refine pm_iload_n (pc := 55) dX10_lastAct_55 rfl ?_
    refine pm_aload_n (pc := 56) dX10_lastAct_56 rfl ?_
    refine pm_get (pc := 57) (ci := 8) (C0 := RX10) (T := TX10) (N := 34) (j := 0) rfl rfl in_X10 (by decide) wf_X10_83 rfl dX10_lastAct_57 ?_
    refine pm_icmp_ge (pc := 60) (tgt := 103) dX10_lastAct_60 rfl (fun h60 => (by simp (disch := omega) only [hG.n, pm_leI, nI_toInt] at h60; omega)) (fun h60 => ?_)
    refine pm_sipush (pc := 63) (v := nI 2000) dX10_lastAct_63 (by decide) ?_
    refine pm_bipush (pc := 66) (v := nI 100) dX10_lastAct_66 (by decide) ?_
    refine pm_aload_n (pc := 68) dX10_lastAct_68 rfl ?_
    refine pm_getr (pc := 69) (ci := 8) (C0 := RX10) (T := TX10) (N := 34) (j := 4) rfl rfl in_X10 (by decide) wf_X10_19 rfl dX10_lastAct_69 ?_
    refine pm_iload_n (pc := 72) dX10_lastAct_72 rfl ?_
    refine pm_iald (pc := 73) rfl (by omega) (by decide) dX10_lastAct_73 ?_
    refine pm_imul (pc := 74) dX10_lastAct_74 ?_
    refine pm_iadd (pc := 75) dX10_lastAct_75 ?_
    refine pm_iload_n (pc := 76) dX10_lastAct_76 rfl ?_
    refine pm_iadd (pc := 77) dX10_lastAct_77 ?_
    refine pm_top (x' := nI (2000 + 100 * g_wh s i + k)) (by rw [hG.wh hi, pk_mul, nI_add, nI_add]) ?_
    refine pm_istore_n (pc := 78) dX10_lastAct_78 (by decide) rfl ?_
    refine pm_aload_n (pc := 79) dX10_lastAct_79 rfl ?_
    refine pm_iload_n (pc := 80) dX10_lastAct_80 rfl ?_
    refine pm_cVR (pc := 81) dX10_lastAct_81 (c_mCanBe hG hI ho.W) wq_X10_canBe wm_X10_196 wi_X10_canBe ws_X10_canBe rfl rfl ⟨Nat.le_of_ble_eq_true rfl, Nat.le_of_ble_eq_true rfl⟩ ⟨Nat.le_of_ble_eq_true rfl, Nat.le_of_ble_eq_true rfl⟩ rfl (Nat.le_of_ble_eq_true rfl) ?_
    refine pm_if_eq (pc := 84) (tgt := 97) dX10_lastAct_84 rfl (fun h84 => ?_) (fun h84 => ?_)
    · have hn : h_at i 0 s (2000 + 100 * g_wh s i + k) = none := h_at_0 (fun z => b1_nf h84 ⟨(hb.mp z).1, fun y => by have y2 : (2000 + 100 * g_wh s i + k) / 1000 = 3 := y; omega⟩)
      refine pm_iinc (pc := 97) dX10_lastAct_97 rfl (pm_inc1 _) (by decide) rfl ?_
      refine pm_goto (pc := 100) (tgt := 55) dX10_lastAct_100 rfl ?_
      refine pm_kill 3 ?_
      rw [h_fst_1 hn] at hT
      exact l_la55 hG hI hi hw ht m (k + 1) (by omega) hT
    · have hcan := b1_nt h84
      refine pm_aload_n (pc := 87) dX10_lastAct_87 rfl ?_
      refine pm_iload_n (pc := 88) dX10_lastAct_88 rfl ?_
      refine pm_cVR (pc := 89) dX10_lastAct_89 (c_mIsFelt hG hI ho.W hcan.1) wq_X10_isFelt wm_X10_217 wi_X10_isFelt ws_X10_isFelt rfl rfl ⟨Nat.le_of_ble_eq_true rfl, Nat.le_of_ble_eq_true rfl⟩ ⟨Nat.le_of_ble_eq_true rfl, Nat.le_of_ble_eq_true rfl⟩ rfl (Nat.le_of_ble_eq_true rfl) ?_
      refine pm_if_ne (pc := 92) (tgt := 97) dX10_lastAct_92 rfl (fun h92 => ?_) (fun h92 => ?_)
      · have hn : h_at i 0 s (2000 + 100 * g_wh s i + k) = none := h_at_0 (fun z => (hb.mp z).2 (b1_nt h92))
        refine pm_iinc (pc := 97) dX10_lastAct_97 rfl (pm_inc1 _) (by decide) rfl ?_
        refine pm_goto (pc := 100) (tgt := 55) dX10_lastAct_100 rfl ?_
        refine pm_kill 3 ?_
        rw [h_fst_1 hn] at hT
        exact l_la55 hG hI hi hw ht m (k + 1) (by omega) hT
      · refine pm_iload_n (pc := 95) dX10_lastAct_95 rfl ?_
        refine pm_iret (pc := 96) rfl (Nat.le_refl _) (Nat.le_refl _) dX10_lastAct_96 ?_
        have hy := h_at_1 (hb.mpr ⟨hcan.1, b1_nf h92⟩)
        rw [h_fst_some hlt hy] at hT
        rw [← hT]
        exact QR.r rfl
set_option maxRecDepth 100000 in
set_option maxHeartbeats 1000000 in
theorem c_mLast {I : pm_I} {L : pm_L} {s : gS} (hG : MG I s) (hI : gInv s) {i : Nat} (hi : i < g_n s) : PC 2 0 0 yX10_lastAct cX10_lastAct 4 (some (.int)) [.ref 40, .int (nI i)] GG I L (QR GG I L (h_l (h_f i 0 s))) := by
  have h12 := hI.n12
  have h7 := (hI.2.1 i hi).2.2.2.2
  refine PC.of [some (.ref 40), some (.int (nI i)), none, none] (by decide) (Nat.le_of_ble_eq_true rfl) rfl (fun l P => ?_)
  refine pm_aload_n (pc := 0) dX10_lastAct_0 rfl ?_
  refine pm_getr (pc := 1) (ci := 8) (C0 := RX10) (T := TX10) (N := 34) (j := 4) rfl rfl in_X10 (by decide) wf_X10_19 rfl dX10_lastAct_1 ?_
  refine pm_iload_n (pc := 4) dX10_lastAct_4 rfl ?_
  refine pm_iald (pc := 5) rfl (by omega) (by decide) dX10_lastAct_5 ?_
  refine pm_bipush (pc := 6) (v := nI 6) dX10_lastAct_6 (by decide) ?_
  rw [hG.wh hi]
  refine pm_icmp_ge (pc := 8) (tgt := 25) dX10_lastAct_8 rfl (fun h8 => ?_) (fun h8 => ?_)
  · simp (disch := omega) only [pm_eqI, pm_ltI, pm_leI, nI_toInt, pm_t0, pm_t1, pm_tm1] at h8
    have hn : h_f i 0 s = none := h_0_no (fun z => by omega)
    refine pm_iconst (pc := 25) (v := (-1)) dX10_lastAct_25 (by decide) ?_
    refine pm_iret (pc := 26) rfl (Nat.le_refl _) (Nat.le_refl _) dX10_lastAct_26 ?_
    rw [hn]; exact QR.r rfl
  · simp (disch := omega) only [pm_eqI, pm_ltI, pm_leI, nI_toInt, pm_t0, pm_t1, pm_tm1] at h8
    have hw : g_wh s i < 6 := by omega
    have htl : g_top s (g_wh s i) < 2 ^ 31 := h_tl hI hw
    refine pm_aload_n (pc := 11) dX10_lastAct_11 rfl ?_
    refine pm_aload_n (pc := 12) dX10_lastAct_12 rfl ?_
    refine pm_getr (pc := 13) (ci := 8) (C0 := RX10) (T := TX10) (N := 34) (j := 4) rfl rfl in_X10 (by decide) wf_X10_19 rfl dX10_lastAct_13 ?_
    refine pm_iload_n (pc := 16) dX10_lastAct_16 rfl ?_
    refine pm_iald (pc := 17) rfl (by omega) (by decide) dX10_lastAct_17 ?_
    rw [hG.wh hi]
    refine pm_cVR (pc := 18) dX10_lastAct_18 (c_mTopOf hG hI hw) wq_X10_topOf wm_X10_93 wi_X10_topOf ws_X10_topOf rfl rfl ⟨Nat.le_of_ble_eq_true rfl, Nat.le_of_ble_eq_true rfl⟩ ⟨Nat.le_of_ble_eq_true rfl, Nat.le_of_ble_eq_true rfl⟩ rfl (Nat.le_of_ble_eq_true rfl) ?_
    refine pm_iload_n (pc := 21) dX10_lastAct_21 rfl ?_
    refine pm_icmp_eq (pc := 22) (tgt := 27) dX10_lastAct_22 rfl (fun h22 => ?_) (fun h22 => ?_)
    · have ht : g_top s (g_wh s i) = i := (nI_eq htl (by omega)).mp h22
      have hl := h_0_l hI hi hw ht
      have hok : a_okW s (100 * g_wh s i) := by
        have k1 : a_h (100 * g_wh s i) = 0 := by show 100 * g_wh s i / 1000 = 0; omega
        have k2 : a_p (100 * g_wh s i) = g_wh s i := by show 100 * g_wh s i / 100 % 10 = g_wh s i; omega
        exact ⟨by omega, by omega, fun z => by omega, fun z => by omega⟩
      refine pm_aload_n (pc := 27) dX10_lastAct_27 rfl ?_
      refine pm_bipush (pc := 28) (v := nI 100) dX10_lastAct_28 (by decide) ?_
      refine pm_aload_n (pc := 30) dX10_lastAct_30 rfl ?_
      refine pm_getr (pc := 31) (ci := 8) (C0 := RX10) (T := TX10) (N := 34) (j := 4) rfl rfl in_X10 (by decide) wf_X10_19 rfl dX10_lastAct_31 ?_
      refine pm_iload_n (pc := 34) dX10_lastAct_34 rfl ?_
      refine pm_iald (pc := 35) rfl (by omega) (by decide) dX10_lastAct_35 ?_
      refine pm_imul (pc := 36) dX10_lastAct_36 ?_
      refine pm_top (x' := nI (100 * g_wh s i)) (by rw [hG.wh hi, pk_mul]) ?_
      refine pm_cVR (pc := 37) dX10_lastAct_37 (c_mIsFelt hG hI hok hl.2.1) wq_X10_isFelt wm_X10_217 wi_X10_isFelt ws_X10_isFelt rfl rfl ⟨Nat.le_of_ble_eq_true rfl, Nat.le_of_ble_eq_true rfl⟩ ⟨Nat.le_of_ble_eq_true rfl, Nat.le_of_ble_eq_true rfl⟩ rfl (Nat.le_of_ble_eq_true rfl) ?_
      refine pm_if_ne (pc := 40) (tgt := 53) dX10_lastAct_40 rfl (fun h40 => ?_) (fun h40 => ?_)
      · refine pm_iconst (pc := 53) (v := nI 0) dX10_lastAct_53 (by decide) ?_
        refine pm_istore_n (pc := 54) dX10_lastAct_54 (by decide) rfl ?_
        exact l_la55 hG hI hi hw ht (g_n s) 0 (by omega) (hl.2.2.2 (fun z => hl.2.2.1.mp z (b1_nt h40))).symm
      · refine pm_bipush (pc := 43) (v := nI 100) dX10_lastAct_43 (by decide) ?_
        refine pm_aload_n (pc := 45) dX10_lastAct_45 rfl ?_
        refine pm_getr (pc := 46) (ci := 8) (C0 := RX10) (T := TX10) (N := 34) (j := 4) rfl rfl in_X10 (by decide) wf_X10_19 rfl dX10_lastAct_46 ?_
        refine pm_iload_n (pc := 49) dX10_lastAct_49 rfl ?_
        refine pm_iald (pc := 50) rfl (by omega) (by decide) dX10_lastAct_50 ?_
        refine pm_imul (pc := 51) dX10_lastAct_51 ?_
        refine pm_top (x' := nI (100 * g_wh s i)) (by rw [hG.wh hi, pk_mul]) ?_
        refine pm_iret (pc := 52) rfl (Nat.le_refl _) (Nat.le_refl _) dX10_lastAct_52 ?_
        have hy := h_at_1 (hl.2.2.1.mpr (b1_nf h40))
        have hT := hl.1
        rw [h_fst_some (by omega) hy] at hT
        rw [hT]
        exact QR.r rfl
    · have hn : h_f i 0 s = none := h_0_no (fun z => h22 (by rw [z.2]))
      refine pm_iconst (pc := 25) (v := (-1)) dX10_lastAct_25 (by decide) ?_
      refine pm_iret (pc := 26) rfl (Nat.le_refl _) (Nat.le_refl _) dX10_lastAct_26 ?_
      rw [hn]; exact QR.r rfl
