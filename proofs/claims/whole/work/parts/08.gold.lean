set_option maxRecDepth 100000 in
set_option maxHeartbeats 4000000 in
theorem c_isPiece {I : pm_I} {L : pm_L} {n j : Nat} (hn : I 1 7 = nI n) (h12 : n ≤ 12) (hj : j < n) : PC 0 0 0 yX2_isPiece cX2_isPiece 2 (some (.boolean)) [.ref 1, .int (nI j)] GG I L (QR GG I L (nI 1)) := by
  refine PC.of [some (.ref 1), some (.int (nI j))] (by decide) (Nat.le_of_ble_eq_true rfl) rfl (fun l P => ?_)
  refine pm_iload_n (pc := 0) dX2_isPiece_0 rfl ?_
  refine pm_if_lt (pc := 1) (tgt := 16) dX2_isPiece_1 rfl (fun h1 => (by simp (disch := omega) only [pm_eqI, pm_ltI, pm_leI, nI_toInt, pm_t0, pm_t1, pm_tm1] at h1; omega)) (fun h1 => ?_)
  refine pm_iload_n (pc := 4) dX2_isPiece_4 rfl ?_
  refine pm_aload_n (pc := 5) dX2_isPiece_5 rfl ?_
  refine pm_get (pc := 6) (ci := 0) (C0 := RX2) (T := TX2) (N := 9) (j := 7) rfl rfl in_X2 (by decide) wf_X2_39 rfl dX2_isPiece_6 ?_
  refine pm_icmp_ge (pc := 9) (tgt := 16) dX2_isPiece_9 rfl (fun h9 => (by simp (disch := omega) only [hn, pm_eqI, pm_ltI, pm_leI, nI_toInt, pm_t0, pm_t1, pm_tm1] at h9; omega)) (fun h9 => ?_)
  refine pm_iconst (pc := 12) (v := nI 1) dX2_isPiece_12 (by decide) ?_
  refine pm_goto (pc := 13) (tgt := 17) dX2_isPiece_13 rfl ?_
  refine pm_zret (pc := 17) (by decide) rfl (Nat.le_refl _) (Nat.le_refl _) dX2_isPiece_17 ?_
  exact QR.r rfl
set_option maxRecDepth 100000 in
set_option maxHeartbeats 4000000 in
theorem c_isPieceN {I : pm_I} {L : pm_L} {n : Nat} {x : Int32} (hn : I 1 7 = nI n) (h12 : n ≤ 12) (hx : x < 0 ∨ nI n ≤ x) : PC 0 0 0 yX2_isPiece cX2_isPiece 2 (some (.boolean)) [.ref 1, .int x] GG I L (QR GG I L (nI 0)) := by
  refine PC.of [some (.ref 1), some (.int x)] (by decide) (Nat.le_of_ble_eq_true rfl) rfl (fun l P => ?_)
  refine pm_iload_n (pc := 0) dX2_isPiece_0 rfl ?_
  refine pm_if_lt (pc := 1) (tgt := 16) dX2_isPiece_1 rfl (fun h1 => ?_) (fun h1 => ?_)
  · refine pm_iconst (pc := 16) (v := nI 0) dX2_isPiece_16 (by decide) ?_
    refine pm_zret (pc := 17) (by decide) rfl (Nat.le_refl _) (Nat.le_refl _) dX2_isPiece_17 ?_
    exact QR.r rfl
  · refine pm_iload_n (pc := 4) dX2_isPiece_4 rfl ?_
    refine pm_aload_n (pc := 5) dX2_isPiece_5 rfl ?_
    refine pm_get (pc := 6) (ci := 0) (C0 := RX2) (T := TX2) (N := 9) (j := 7) rfl rfl in_X2 (by decide) wf_X2_39 rfl dX2_isPiece_6 ?_
    refine pm_icmp_ge (pc := 9) (tgt := 16) dX2_isPiece_9 rfl (fun h9 => ?_) (fun h9 => ?_)
    · refine pm_iconst (pc := 16) (v := nI 0) dX2_isPiece_16 (by decide) ?_
      refine pm_zret (pc := 17) (by decide) rfl (Nat.le_refl _) (Nat.le_refl _) dX2_isPiece_17 ?_
      exact QR.r rfl
    · exact absurd hx (by simp (disch := omega) only [hn, pm_ltI, pm_leI, nI_toInt, pm_t0] at h1 h9 ⊢; omega)
set_option maxRecDepth 100000 in
set_option maxHeartbeats 4000000 in
theorem c_weighs {I : pm_I} {L : pm_L} {s : gS} {j : Nat} (hG : GR I 1 s) (hI : gInv s) (hj : j < g_n s) : PC 1 0 0 yX2_weighs cX2_weighs 2 (some (.int)) [.ref 1, .int (nI j)] GG I L (QR GG I L (nI (g_w s j))) := by
  have h12 := hI.n12
  refine PC.of [some (.ref 1), some (.int (nI j))] (by decide) (Nat.le_of_ble_eq_true rfl) rfl (fun l P => ?_)
  refine pm_aload_n (pc := 0) dX2_weighs_0 rfl ?_
  refine pm_iload_n (pc := 1) dX2_weighs_1 rfl ?_
  refine pm_cVR (pc := 2) dX2_weighs_2 (c_isPiece hG.n hI.n12 hj) wq_X2_isPiece wm_X2_46 wi_X2_isPiece ws_X2_isPiece rfl rfl ⟨Nat.le_of_ble_eq_true rfl, Nat.le_of_ble_eq_true rfl⟩ ⟨Nat.le_of_ble_eq_true rfl, Nat.le_of_ble_eq_true rfl⟩ rfl (Nat.le_of_ble_eq_true rfl) ?_
  refine pm_if_ne (pc := 5) (tgt := 10) dX2_weighs_5 rfl (fun h5 => ?_) (fun h5 => (by simp (disch := omega) only [pm_eqI, pm_ltI, pm_leI, nI_toInt, pm_t0, pm_t1, pm_tm1] at h5; omega))
  refine pm_aload_n (pc := 10) dX2_weighs_10 rfl ?_
  refine pm_getr (pc := 11) (ci := 0) (C0 := RX2) (T := TX2) (N := 9) (j := 0) rfl rfl in_X2 (by decide) wf_X2_9 rfl dX2_weighs_11 ?_
  refine pm_iload_n (pc := 14) dX2_weighs_14 rfl ?_
  refine pm_iald (pc := 15) rfl (by omega) (by decide) dX2_weighs_15 ?_
  refine pm_iconst (pc := 16) (v := nI 1) dX2_weighs_16 (by decide) ?_
  refine pm_icmp_ne (pc := 17) (tgt := 31) dX2_weighs_17 rfl (fun h17 => ?_) (fun h17 => ?_)
  · rw [hG.kd hj, nI_eq (by have := (hI.2.1 j hj).1; omega) (by decide)] at h17
    refine pm_aload_n (pc := 31) dX2_weighs_31 rfl ?_
    refine pm_getr (pc := 32) (ci := 0) (C0 := RX2) (T := TX2) (N := 9) (j := 1) rfl rfl in_X2 (by decide) wf_X2_15 rfl dX2_weighs_32 ?_
    refine pm_iload_n (pc := 35) dX2_weighs_35 rfl ?_
    refine pm_iald (pc := 36) rfl (by omega) (by decide) dX2_weighs_36 ?_
    refine pm_iret (pc := 37) rfl (Nat.le_refl _) (Nat.le_refl _) dX2_weighs_37 ?_
    exact QR.r (by rw [hG.wt hj]; unfold g_w; first | rw [if_pos h17, nI_add] | rw [if_neg h17]; rfl)
  · rw [hG.kd hj, nI_eq (by have := (hI.2.1 j hj).1; omega) (by decide)] at h17
    refine pm_aload_n (pc := 20) dX2_weighs_20 rfl ?_
    refine pm_getr (pc := 21) (ci := 0) (C0 := RX2) (T := TX2) (N := 9) (j := 1) rfl rfl in_X2 (by decide) wf_X2_15 rfl dX2_weighs_21 ?_
    refine pm_iload_n (pc := 24) dX2_weighs_24 rfl ?_
    refine pm_iald (pc := 25) rfl (by omega) (by decide) dX2_weighs_25 ?_
    refine pm_iconst (pc := 26) (v := nI 2) dX2_weighs_26 (by decide) ?_
    refine pm_iadd (pc := 27) dX2_weighs_27 ?_
    refine pm_goto (pc := 28) (tgt := 37) dX2_weighs_28 rfl ?_
    refine pm_iret (pc := 37) rfl (Nat.le_refl _) (Nat.le_refl _) dX2_weighs_37 ?_
    exact QR.r (by rw [hG.wt hj]; unfold g_w; first | rw [if_pos h17, nI_add] | rw [if_neg h17]; rfl)
set_option maxRecDepth 100000 in
set_option maxHeartbeats 4000000 in
theorem c_kindOf {I : pm_I} {L : pm_L} {s : gS} {j : Nat} (hG : GR I 1 s) (hI : gInv s) (hj : j < g_n s) : PC 1 0 0 yX2_kindOf cX2_kindOf 2 (some (.int)) [.ref 1, .int (nI j)] GG I L (QR GG I L (nI (g_kd s j))) := by
  have h12 := hI.n12
  refine PC.of [some (.ref 1), some (.int (nI j))] (by decide) (Nat.le_of_ble_eq_true rfl) rfl (fun l P => ?_)
  refine pm_aload_n (pc := 0) dX2_kindOf_0 rfl ?_
  refine pm_iload_n (pc := 1) dX2_kindOf_1 rfl ?_
  refine pm_cVR (pc := 2) dX2_kindOf_2 (c_isPiece hG.n hI.n12 hj) wq_X2_isPiece wm_X2_46 wi_X2_isPiece ws_X2_isPiece rfl rfl ⟨Nat.le_of_ble_eq_true rfl, Nat.le_of_ble_eq_true rfl⟩ ⟨Nat.le_of_ble_eq_true rfl, Nat.le_of_ble_eq_true rfl⟩ rfl (Nat.le_of_ble_eq_true rfl) ?_
  refine pm_if_eq (pc := 5) (tgt := 17) dX2_kindOf_5 rfl (fun h5 => (by simp (disch := omega) only [pm_eqI, pm_ltI, pm_leI, nI_toInt, pm_t0, pm_t1, pm_tm1] at h5; omega)) (fun h5 => ?_)
  refine pm_aload_n (pc := 8) dX2_kindOf_8 rfl ?_
  refine pm_getr (pc := 9) (ci := 0) (C0 := RX2) (T := TX2) (N := 9) (j := 0) rfl rfl in_X2 (by decide) wf_X2_9 rfl dX2_kindOf_9 ?_
  refine pm_iload_n (pc := 12) dX2_kindOf_12 rfl ?_
  refine pm_iald (pc := 13) rfl (by omega) (by decide) dX2_kindOf_13 ?_
  refine pm_goto (pc := 14) (tgt := 18) dX2_kindOf_14 rfl ?_
  refine pm_iret (pc := 18) rfl (Nat.le_refl _) (Nat.le_refl _) dX2_kindOf_18 ?_
  exact QR.r (hG.kd hj)
set_option maxRecDepth 100000 in
set_option maxHeartbeats 4000000 in
theorem c_ownerOf {I : pm_I} {L : pm_L} {s : gS} {j : Nat} (hG : GR I 1 s) (hI : gInv s) (hj : j < g_n s) : PC 1 0 0 yX2_ownerOf cX2_ownerOf 2 (some (.int)) [.ref 1, .int (nI j)] GG I L (QR GG I L (nI (g_ow s j))) := by
  have h12 := hI.n12
  refine PC.of [some (.ref 1), some (.int (nI j))] (by decide) (Nat.le_of_ble_eq_true rfl) rfl (fun l P => ?_)
  refine pm_aload_n (pc := 0) dX2_ownerOf_0 rfl ?_
  refine pm_iload_n (pc := 1) dX2_ownerOf_1 rfl ?_
  refine pm_cVR (pc := 2) dX2_ownerOf_2 (c_isPiece hG.n hI.n12 hj) wq_X2_isPiece wm_X2_46 wi_X2_isPiece ws_X2_isPiece rfl rfl ⟨Nat.le_of_ble_eq_true rfl, Nat.le_of_ble_eq_true rfl⟩ ⟨Nat.le_of_ble_eq_true rfl, Nat.le_of_ble_eq_true rfl⟩ rfl (Nat.le_of_ble_eq_true rfl) ?_
  refine pm_if_eq (pc := 5) (tgt := 27) dX2_ownerOf_5 rfl (fun h5 => (by simp (disch := omega) only [pm_eqI, pm_ltI, pm_leI, nI_toInt, pm_t0, pm_t1, pm_tm1] at h5; omega)) (fun h5 => ?_)
  refine pm_aload_n (pc := 8) dX2_ownerOf_8 rfl ?_
  refine pm_getr (pc := 9) (ci := 0) (C0 := RX2) (T := TX2) (N := 9) (j := 0) rfl rfl in_X2 (by decide) wf_X2_9 rfl dX2_ownerOf_9 ?_
  refine pm_iload_n (pc := 12) dX2_ownerOf_12 rfl ?_
  refine pm_iald (pc := 13) rfl (by omega) (by decide) dX2_ownerOf_13 ?_
  refine pm_iconst (pc := 14) (v := nI 2) dX2_ownerOf_14 (by decide) ?_
  refine pm_icmp_eq (pc := 15) (tgt := 27) dX2_ownerOf_15 rfl (fun h15 => ?_) (fun h15 => ?_)
  · rw [hG.kd hj, nI_eq (by have := (hI.2.1 j hj).1; omega) (by decide)] at h15
    refine pm_iconst (pc := 27) (v := nI 4) dX2_ownerOf_27 (by decide) ?_
    refine pm_iret (pc := 28) rfl (Nat.le_refl _) (Nat.le_refl _) dX2_ownerOf_28 ?_
    exact QR.r (by unfold g_ow; first | rw [if_pos h15] | rw [if_neg h15, hG.tw hj])
  · rw [hG.kd hj, nI_eq (by have := (hI.2.1 j hj).1; omega) (by decide)] at h15
    refine pm_aload_n (pc := 18) dX2_ownerOf_18 rfl ?_
    refine pm_getr (pc := 19) (ci := 0) (C0 := RX2) (T := TX2) (N := 9) (j := 2) rfl rfl in_X2 (by decide) wf_X2_18 rfl dX2_ownerOf_19 ?_
    refine pm_iload_n (pc := 22) dX2_ownerOf_22 rfl ?_
    refine pm_iald (pc := 23) rfl (by omega) (by decide) dX2_ownerOf_23 ?_
    refine pm_goto (pc := 24) (tgt := 28) dX2_ownerOf_24 rfl ?_
    refine pm_iret (pc := 28) rfl (Nat.le_refl _) (Nat.le_refl _) dX2_ownerOf_28 ?_
    exact QR.r (by unfold g_ow; first | rw [if_pos h15] | rw [if_neg h15, hG.tw hj])
set_option maxRecDepth 100000 in
set_option maxHeartbeats 4000000 in
theorem c_placeOf {I : pm_I} {L : pm_L} {s : gS} {j : Nat} (hG : GR I 1 s) (hI : gInv s) (hj : j < g_n s) : PC 1 0 0 yX2_placeOf cX2_placeOf 2 (some (.int)) [.ref 1, .int (nI j)] GG I L (QR GG I L (nI (g_wh s j))) := by
  have h12 := hI.n12
  refine PC.of [some (.ref 1), some (.int (nI j))] (by decide) (Nat.le_of_ble_eq_true rfl) rfl (fun l P => ?_)
  refine pm_aload_n (pc := 0) dX2_placeOf_0 rfl ?_
  refine pm_iload_n (pc := 1) dX2_placeOf_1 rfl ?_
  refine pm_cVR (pc := 2) dX2_placeOf_2 (c_isPiece hG.n hI.n12 hj) wq_X2_isPiece wm_X2_46 wi_X2_isPiece ws_X2_isPiece rfl rfl ⟨Nat.le_of_ble_eq_true rfl, Nat.le_of_ble_eq_true rfl⟩ ⟨Nat.le_of_ble_eq_true rfl, Nat.le_of_ble_eq_true rfl⟩ rfl (Nat.le_of_ble_eq_true rfl) ?_
  refine pm_if_eq (pc := 5) (tgt := 17) dX2_placeOf_5 rfl (fun h5 => (by simp (disch := omega) only [pm_eqI, pm_ltI, pm_leI, nI_toInt, pm_t0, pm_t1, pm_tm1] at h5; omega)) (fun h5 => ?_)
  refine pm_aload_n (pc := 8) dX2_placeOf_8 rfl ?_
  refine pm_getr (pc := 9) (ci := 0) (C0 := RX2) (T := TX2) (N := 9) (j := 3) rfl rfl in_X2 (by decide) wf_X2_21 rfl dX2_placeOf_9 ?_
  refine pm_iload_n (pc := 12) dX2_placeOf_12 rfl ?_
  refine pm_iald (pc := 13) rfl (by omega) (by decide) dX2_placeOf_13 ?_
  refine pm_goto (pc := 14) (tgt := 19) dX2_placeOf_14 rfl ?_
  refine pm_iret (pc := 19) rfl (Nat.le_refl _) (Nat.le_refl _) dX2_placeOf_19 ?_
  exact QR.r (hG.wh hj)
set_option maxRecDepth 100000 in
set_option maxHeartbeats 4000000 in
theorem c_placeOfN {I : pm_I} {L : pm_L} {s : gS} {x : Int32} (hG : GR I 1 s) (hI : gInv s) (hx : x < 0 ∨ nI (g_n s) ≤ x) : PC 1 0 0 yX2_placeOf cX2_placeOf 2 (some (.int)) [.ref 1, .int x] GG I L (QR GG I L (nI 7)) := by
  refine PC.of [some (.ref 1), some (.int x)] (by decide) (Nat.le_of_ble_eq_true rfl) rfl (fun l P => ?_)
  refine pm_aload_n (pc := 0) dX2_placeOf_0 rfl ?_
  refine pm_iload_n (pc := 1) dX2_placeOf_1 rfl ?_
  refine pm_cVR (pc := 2) dX2_placeOf_2 (c_isPieceN hG.n hI.n12 hx) wq_X2_isPiece wm_X2_46 wi_X2_isPiece ws_X2_isPiece rfl rfl ⟨Nat.le_of_ble_eq_true rfl, Nat.le_of_ble_eq_true rfl⟩ ⟨Nat.le_of_ble_eq_true rfl, Nat.le_of_ble_eq_true rfl⟩ rfl (Nat.le_of_ble_eq_true rfl) ?_
  refine pm_if_eq (pc := 5) (tgt := 17) dX2_placeOf_5 rfl (fun h5 => ?_) (fun h5 => (by simp (disch := omega) only [pm_eqI, pm_ltI, pm_leI, nI_toInt, pm_t0, pm_t1, pm_tm1] at h5; omega))
  refine pm_bipush (pc := 17) (v := nI 7) dX2_placeOf_17 (by decide) ?_
  refine pm_iret (pc := 19) rfl (Nat.le_refl _) (Nat.le_refl _) dX2_placeOf_19 ?_
  exact QR.r rfl
set_option maxRecDepth 100000 in
set_option maxHeartbeats 4000000 in
theorem c_isPlace {I : pm_I} {L : pm_L} {x : Int32} : PC 0 0 0 yX9_isPlace cX9_isPlace 1 (some (.boolean)) [.int x] GG I L (QR GG I L (b1 (0 ≤ x ∧ x < nI 6))) := by
  refine PC.of [some (.int x)] (by decide) (Nat.le_of_ble_eq_true rfl) rfl (fun l P => ?_)
  refine pm_iload_n (pc := 0) dX9_isPlace_0 rfl ?_
  refine pm_if_lt (pc := 1) (tgt := 14) dX9_isPlace_1 rfl (fun h1 => ?_) (fun h1 => ?_)
  · refine pm_iconst (pc := 14) (v := nI 0) dX9_isPlace_14 (by decide) ?_
    refine pm_zret (pc := 15) (by decide) rfl (Nat.le_refl _) (Nat.le_refl _) dX9_isPlace_15 ?_
    refine QR.r (by first | exact b1_t ⟨by simp only [pm_ltI, pm_leI, pm_t0] at *; omega, by simp (disch := omega) only [pm_ltI, pm_leI, nI_toInt] at *; omega⟩ | exact b1_f (by simp (disch := omega) only [pm_ltI, pm_leI, nI_toInt, pm_t0] at *; omega))
  · refine pm_iload_n (pc := 4) dX9_isPlace_4 rfl ?_
    refine pm_bipush (pc := 5) (v := nI 6) dX9_isPlace_5 (by decide) ?_
    refine pm_icmp_ge (pc := 7) (tgt := 14) dX9_isPlace_7 rfl (fun h7 => ?_) (fun h7 => ?_)
    · refine pm_iconst (pc := 14) (v := nI 0) dX9_isPlace_14 (by decide) ?_
      refine pm_zret (pc := 15) (by decide) rfl (Nat.le_refl _) (Nat.le_refl _) dX9_isPlace_15 ?_
      refine QR.r (by first | exact b1_t ⟨by simp only [pm_ltI, pm_leI, pm_t0] at *; omega, by simp (disch := omega) only [pm_ltI, pm_leI, nI_toInt] at *; omega⟩ | exact b1_f (by simp (disch := omega) only [pm_ltI, pm_leI, nI_toInt, pm_t0] at *; omega))
    · refine pm_iconst (pc := 10) (v := nI 1) dX9_isPlace_10 (by decide) ?_
      refine pm_goto (pc := 11) (tgt := 15) dX9_isPlace_11 rfl ?_
      refine pm_zret (pc := 15) (by decide) rfl (Nat.le_refl _) (Nat.le_refl _) dX9_isPlace_15 ?_
      refine QR.r (by first | exact b1_t ⟨by simp only [pm_ltI, pm_leI, pm_t0] at *; omega, by simp (disch := omega) only [pm_ltI, pm_leI, nI_toInt] at *; omega⟩ | exact b1_f (by simp (disch := omega) only [pm_ltI, pm_leI, nI_toInt, pm_t0] at *; omega))
set_option maxRecDepth 100000 in
set_option maxHeartbeats 4000000 in
theorem c_topOf {I : pm_I} {L : pm_L} {s : gS} {p : Nat} (hG : GR I 1 s) (hI : gInv s) (hp : p < 6) : PC 1 0 0 yX2_topOf cX2_topOf 2 (some (.int)) [.ref 1, .int (nI p)] GG I L (QR GG I L (nI (g_top s p))) := by
  refine PC.of [some (.ref 1), some (.int (nI p))] (by decide) (Nat.le_of_ble_eq_true rfl) rfl (fun l P => ?_)
  refine pm_iload_n (pc := 0) dX2_topOf_0 rfl ?_
  refine pm_cSNR (hst := RX9) (pc := 1) dX2_topOf_1 (c_isPlace) wq_X9_isPlace (by decide +kernel) wt_X9_isPlace ⟨Nat.le_of_ble_eq_true rfl, Nat.le_of_ble_eq_true rfl⟩ ⟨Nat.le_of_ble_eq_true rfl, Nat.le_of_ble_eq_true rfl⟩ rfl (Nat.le_of_ble_eq_true rfl) ?_
  refine pm_if_eq (pc := 4) (tgt := 16) dX2_topOf_4 rfl (fun h4 => (b1_0.mp h4 ⟨by simp (disch := omega) only [pm_leI, nI_toInt, pm_t0]; omega, by simp (disch := omega) only [pm_ltI, nI_toInt]; omega⟩).elim) (fun h4 => ?_)
  refine pm_aload_n (pc := 7) dX2_topOf_7 rfl ?_
  refine pm_getr (pc := 8) (ci := 0) (C0 := RX2) (T := TX2) (N := 9) (j := 5) rfl rfl in_X2 (by decide) wf_X2_27 rfl dX2_topOf_8 ?_
  refine pm_iload_n (pc := 11) dX2_topOf_11 rfl ?_
  refine pm_iald (pc := 12) rfl (by omega) (by decide) dX2_topOf_12 ?_
  refine pm_goto (pc := 13) (tgt := 18) dX2_topOf_13 rfl ?_
  refine pm_iret (pc := 18) rfl (Nat.le_refl _) (Nat.le_refl _) dX2_topOf_18 ?_
  exact QR.r (gCh_top (hG.ch hp))
set_option maxRecDepth 100000 in
set_option maxHeartbeats 4000000 in
theorem c_topOfN {I : pm_I} {L : pm_L} {p : Nat} (hp : 6 ≤ p) (h2 : p < 2 ^ 31) : PC 1 0 0 yX2_topOf cX2_topOf 2 (some (.int)) [.ref 1, .int (nI p)] GG I L (QR GG I L (nI 12)) := by
  refine PC.of [some (.ref 1), some (.int (nI p))] (by decide) (Nat.le_of_ble_eq_true rfl) rfl (fun l P => ?_)
  refine pm_iload_n (pc := 0) dX2_topOf_0 rfl ?_
  refine pm_cSNR (hst := RX9) (pc := 1) dX2_topOf_1 (c_isPlace) wq_X9_isPlace (by decide +kernel) wt_X9_isPlace ⟨Nat.le_of_ble_eq_true rfl, Nat.le_of_ble_eq_true rfl⟩ ⟨Nat.le_of_ble_eq_true rfl, Nat.le_of_ble_eq_true rfl⟩ rfl (Nat.le_of_ble_eq_true rfl) ?_
  refine pm_if_eq (pc := 4) (tgt := 16) dX2_topOf_4 rfl (fun h4 => ?_) (fun h4 => (by rw [b1_0] at h4; simp (disch := omega) only [pm_ltI, pm_leI, nI_toInt, pm_t0] at h4; omega))
  refine pm_bipush (pc := 16) (v := nI 12) dX2_topOf_16 (by decide) ?_
  refine pm_iret (pc := 18) rfl (Nat.le_refl _) (Nat.le_refl _) dX2_topOf_18 ?_
  exact QR.r rfl
set_option maxRecDepth 100000 in
set_option maxHeartbeats 4000000 in
theorem c_senseOf {I : pm_I} {L : pm_L} {s : gS} {p : Nat} (hG : GR I 1 s) (hI : gInv s) (hp : p < 6) : PC 1 0 0 yX2_senseOf cX2_senseOf 2 (some (.int)) [.ref 1, .int (nI p)] GG I L (QR GG I L (nI (g_sn s p))) := by
  refine PC.of [some (.ref 1), some (.int (nI p))] (by decide) (Nat.le_of_ble_eq_true rfl) rfl (fun l P => ?_)
  refine pm_iload_n (pc := 0) dX2_senseOf_0 rfl ?_
  refine pm_cSNR (hst := RX9) (pc := 1) dX2_senseOf_1 (c_isPlace) wq_X9_isPlace (by decide +kernel) wt_X9_isPlace ⟨Nat.le_of_ble_eq_true rfl, Nat.le_of_ble_eq_true rfl⟩ ⟨Nat.le_of_ble_eq_true rfl, Nat.le_of_ble_eq_true rfl⟩ rfl (Nat.le_of_ble_eq_true rfl) ?_
  refine pm_if_eq (pc := 4) (tgt := 16) dX2_senseOf_4 rfl (fun h4 => (b1_0.mp h4 ⟨by simp (disch := omega) only [pm_leI, nI_toInt, pm_t0]; omega, by simp (disch := omega) only [pm_ltI, nI_toInt]; omega⟩).elim) (fun h4 => ?_)
  refine pm_aload_n (pc := 7) dX2_senseOf_7 rfl ?_
  refine pm_getr (pc := 8) (ci := 0) (C0 := RX2) (T := TX2) (N := 9) (j := 6) rfl rfl in_X2 (by decide) wf_X2_30 rfl dX2_senseOf_8 ?_
  refine pm_iload_n (pc := 11) dX2_senseOf_11 rfl ?_
  refine pm_iald (pc := 12) rfl (by omega) (by decide) dX2_senseOf_12 ?_
  refine pm_goto (pc := 13) (tgt := 17) dX2_senseOf_13 rfl ?_
  refine pm_iret (pc := 17) rfl (Nat.le_refl _) (Nat.le_refl _) dX2_senseOf_17 ?_
  exact QR.r (hG.sn hp)
theorem l_offOf {I : pm_I} {s : gS} {j : Nat} (hG : GR I 1 s) (hI : gInv s) (hj : j < g_n s) : ∀ (q : List Nat) (on : Nat) (t : Int32), gCh (I 6) q t → q.length + on ≤ 12 → (∀ a, a ∈ q → a < g_n s) → ∀ {l : Launch} {P : pm_E} {L : pm_L} {Q : pm_QT}, Q (some (.int (nI (on + q.idxOf j)))) GG I L → PW l P yX2_offOf cX2_offOf 4 (some (.int)) (pm_rm 2 0 0) (pm_Tg P Q 0 0) 0 0 12 [some (.ref 1), some (.int (nI j)), some (.int t), some (.int (nI on))] [] GG I L
  | [], on, t, hc, hl, hb, l, P, L, Q, hQ => by
    have h12 := hI.n12
    have ht : t = nI 12 := hc
    subst ht
    have hl0 : on ≤ 12 := by simpa using hl
    refine pm_iload_n (pc := 12) dX2_offOf_12 rfl ?_
    refine pm_bipush (pc := 13) (v := nI 12) dX2_offOf_13 (by decide) ?_
    refine pm_icmp_ge (pc := 15) (tgt := 44) dX2_offOf_15 rfl (fun h15 => ?_) (fun h15 => ?_)
    · refine pm_iload_n (pc := 44) dX2_offOf_44 rfl ?_
      refine pm_iret (pc := 45) rfl (Nat.le_refl _) (Nat.le_refl _) dX2_offOf_45 ?_
      rw [List.idxOf_nil, Nat.add_zero] at hQ
      exact hQ
    · refine pm_iload_n (pc := 18) dX2_offOf_18 rfl ?_
      refine pm_iload_n (pc := 19) dX2_offOf_19 rfl ?_
      refine pm_icmp_eq (pc := 20) (tgt := 44) dX2_offOf_20 rfl (fun h20 => (by simp (disch := omega) only [pm_eqI, pm_ltI, pm_leI, nI_toInt, pm_t0, pm_t1, pm_tm1] at h20; omega)) (fun h20 => ?_)
      refine pm_aload_n (pc := 23) dX2_offOf_23 rfl ?_
      refine pm_iload_n (pc := 24) dX2_offOf_24 rfl ?_
      refine pm_cVR (pc := 25) dX2_offOf_25 (c_isPieceN hG.n h12 (by simp (disch := omega) only [pm_ltI, pm_leI, nI_toInt, pm_t0]; omega)) wq_X2_isPiece wm_X2_46 wi_X2_isPiece ws_X2_isPiece rfl rfl ⟨Nat.le_of_ble_eq_true rfl, Nat.le_of_ble_eq_true rfl⟩ ⟨Nat.le_of_ble_eq_true rfl, Nat.le_of_ble_eq_true rfl⟩ rfl (Nat.le_of_ble_eq_true rfl) ?_
      refine pm_if_eq (pc := 28) (tgt := 44) dX2_offOf_28 rfl (fun h28 => ?_) (fun h28 => (by simp (disch := omega) only [pm_eqI, pm_ltI, pm_leI, nI_toInt, pm_t0, pm_t1, pm_tm1] at h28; omega))
      refine pm_iload_n (pc := 44) dX2_offOf_44 rfl ?_
      refine pm_iret (pc := 45) rfl (Nat.le_refl _) (Nat.le_refl _) dX2_offOf_45 ?_
      rw [List.idxOf_nil, Nat.add_zero] at hQ
      exact hQ
  | a :: q, on, t, hc, hl, hb, l, P, L, Q, hQ => by
    have h12 := hI.n12
    obtain ⟨ht, hc⟩ := hc
    subst ht
    have ha := hb a List.mem_cons_self
    have hl1 : q.length + 1 + on ≤ 12 := by simpa using hl
    refine pm_iload_n (pc := 12) dX2_offOf_12 rfl ?_
    refine pm_bipush (pc := 13) (v := nI 12) dX2_offOf_13 (by decide) ?_
    refine pm_icmp_ge (pc := 15) (tgt := 44) dX2_offOf_15 rfl (fun h15 => (by simp (disch := omega) only [pm_eqI, pm_ltI, pm_leI, nI_toInt, pm_t0, pm_t1, pm_tm1] at h15; omega)) (fun h15 => ?_)
    refine pm_iload_n (pc := 18) dX2_offOf_18 rfl ?_
    refine pm_iload_n (pc := 19) dX2_offOf_19 rfl ?_
    refine pm_icmp_eq (pc := 20) (tgt := 44) dX2_offOf_20 rfl (fun h20 => ?_) (fun h20 => ?_)
    · have e : a = j := (nI_eq (by omega) (by omega)).mp h20
      rw [e, List.idxOf_cons_self, Nat.add_zero] at hQ
      refine pm_iload_n (pc := 44) dX2_offOf_44 rfl ?_
      refine pm_iret (pc := 45) rfl (Nat.le_refl _) (Nat.le_refl _) dX2_offOf_45 ?_
      exact hQ
    · have e : ¬ a = j := fun z => h20 (by rw [z])
      rw [List.idxOf_cons, show (a == j) = false by simp [e], cond_false, show on + (q.idxOf j + 1) = on + 1 + q.idxOf j by omega] at hQ
      refine pm_aload_n (pc := 23) dX2_offOf_23 rfl ?_
      refine pm_iload_n (pc := 24) dX2_offOf_24 rfl ?_
      refine pm_cVR (pc := 25) dX2_offOf_25 (c_isPiece hG.n h12 ha) wq_X2_isPiece wm_X2_46 wi_X2_isPiece ws_X2_isPiece rfl rfl ⟨Nat.le_of_ble_eq_true rfl, Nat.le_of_ble_eq_true rfl⟩ ⟨Nat.le_of_ble_eq_true rfl, Nat.le_of_ble_eq_true rfl⟩ rfl (Nat.le_of_ble_eq_true rfl) ?_
      refine pm_if_eq (pc := 28) (tgt := 44) dX2_offOf_28 rfl (fun h28 => (by simp (disch := omega) only [pm_eqI, pm_ltI, pm_leI, nI_toInt, pm_t0, pm_t1, pm_tm1] at h28; omega)) (fun h28 => ?_)
      refine pm_aload_n (pc := 31) dX2_offOf_31 rfl ?_
      refine pm_getr (pc := 32) (ci := 0) (C0 := RX2) (T := TX2) (N := 9) (j := 4) rfl rfl in_X2 (by decide) wf_X2_24 rfl dX2_offOf_32 ?_
      refine pm_iload_n (pc := 35) dX2_offOf_35 rfl ?_
      refine pm_iald (pc := 36) rfl (by omega) (by decide) dX2_offOf_36 ?_
      refine pm_istore_n (pc := 37) dX2_offOf_37 (by decide) rfl ?_
      refine pm_iinc (pc := 38) dX2_offOf_38 rfl (pm_inc1 _) (by decide) rfl ?_
      refine pm_goto (pc := 41) (tgt := 12) dX2_offOf_41 rfl ?_
      exact l_offOf hG hI hj q (on + 1) _ hc (by omega) (fun b hb2 => hb b (List.mem_cons_of_mem _ hb2)) hQ
theorem c_offOf_in {I : pm_I} {L : pm_L} {s : gS} {j : Nat} (hG : GR I 1 s) (hI : gInv s) (hj : j < g_n s) (hw : g_wh s j < 6) : PC 2 0 0 yX2_offOf cX2_offOf 4 (some (.int)) [.ref 1, .int (nI j)] GG I L (QR GG I L (nI (g_off s j))) := by
  have h12 := hI.n12
  refine PC.of [some (.ref 1), some (.int (nI j)), none, none] (by decide) (Nat.le_of_ble_eq_true rfl) rfl (fun l P => ?_)
  refine pm_aload_n (pc := 0) dX2_offOf_0 rfl ?_
  refine pm_aload_n (pc := 1) dX2_offOf_1 rfl ?_
  refine pm_iload_n (pc := 2) dX2_offOf_2 rfl ?_
  refine pm_cVR (pc := 3) dX2_offOf_3 (c_placeOf hG hI hj) wq_X2_placeOf wm_X2_50 wi_X2_placeOf ws_X2_placeOf rfl rfl ⟨Nat.le_of_ble_eq_true rfl, Nat.le_of_ble_eq_true rfl⟩ ⟨Nat.le_of_ble_eq_true rfl, Nat.le_of_ble_eq_true rfl⟩ rfl (Nat.le_of_ble_eq_true rfl) ?_
  refine pm_cVR (pc := 6) dX2_offOf_6 (c_topOf hG hI hw) wq_X2_topOf wm_X2_54 wi_X2_topOf ws_X2_topOf rfl rfl ⟨Nat.le_of_ble_eq_true rfl, Nat.le_of_ble_eq_true rfl⟩ ⟨Nat.le_of_ble_eq_true rfl, Nat.le_of_ble_eq_true rfl⟩ rfl (Nat.le_of_ble_eq_true rfl) ?_
  refine pm_istore_n (pc := 9) dX2_offOf_9 (by decide) rfl ?_
  refine pm_iconst (pc := 10) (v := nI 0) dX2_offOf_10 (by decide) ?_
  refine pm_istore_n (pc := 11) dX2_offOf_11 (by decide) rfl ?_
  refine l_offOf hG hI hj (g_st s (g_wh s j)) 0 _ (hG.cht hw) (by have := hI.len hw; omega) (fun a ha => ((hI.mem hw).mp ha).1) ?_
  exact QR.r (by rw [Nat.zero_add, g_off, if_pos hw])
theorem c_offOf_out {I : pm_I} {L : pm_L} {s : gS} {j : Nat} (hG : GR I 1 s) (hI : gInv s) (hj : j < g_n s) (hw : ¬ g_wh s j < 6) : PC 2 0 0 yX2_offOf cX2_offOf 4 (some (.int)) [.ref 1, .int (nI j)] GG I L (QR GG I L (nI (g_off s j))) := by
  have h12 := hI.n12
  have h7 := (hI.2.1 j hj).2.2.2.2
  refine PC.of [some (.ref 1), some (.int (nI j)), none, none] (by decide) (Nat.le_of_ble_eq_true rfl) rfl (fun l P => ?_)
  refine pm_aload_n (pc := 0) dX2_offOf_0 rfl ?_
  refine pm_aload_n (pc := 1) dX2_offOf_1 rfl ?_
  refine pm_iload_n (pc := 2) dX2_offOf_2 rfl ?_
  refine pm_cVR (pc := 3) dX2_offOf_3 (c_placeOf hG hI hj) wq_X2_placeOf wm_X2_50 wi_X2_placeOf ws_X2_placeOf rfl rfl ⟨Nat.le_of_ble_eq_true rfl, Nat.le_of_ble_eq_true rfl⟩ ⟨Nat.le_of_ble_eq_true rfl, Nat.le_of_ble_eq_true rfl⟩ rfl (Nat.le_of_ble_eq_true rfl) ?_
  refine pm_cVR (pc := 6) dX2_offOf_6 (c_topOfN (by omega) (by omega)) wq_X2_topOf wm_X2_54 wi_X2_topOf ws_X2_topOf rfl rfl ⟨Nat.le_of_ble_eq_true rfl, Nat.le_of_ble_eq_true rfl⟩ ⟨Nat.le_of_ble_eq_true rfl, Nat.le_of_ble_eq_true rfl⟩ rfl (Nat.le_of_ble_eq_true rfl) ?_
  refine pm_istore_n (pc := 9) dX2_offOf_9 (by decide) rfl ?_
  refine pm_iconst (pc := 10) (v := nI 0) dX2_offOf_10 (by decide) ?_
  refine pm_istore_n (pc := 11) dX2_offOf_11 (by decide) rfl ?_
  refine l_offOf hG hI hj [] 0 _ rfl (by decide) (fun a ha => absurd ha List.not_mem_nil) ?_
  exact QR.r (by rw [List.idxOf_nil, Nat.add_zero, g_off, if_neg hw])
theorem c_offOf {I : pm_I} {L : pm_L} {s : gS} {j : Nat} (hG : GR I 1 s) (hI : gInv s) (hj : j < g_n s) : PC 2 0 0 yX2_offOf cX2_offOf 4 (some (.int)) [.ref 1, .int (nI j)] GG I L (QR GG I L (nI (g_off s j))) := by
  by_cases hw : g_wh s j < 6
  · exact c_offOf_in hG hI hj hw
  · exact c_offOf_out hG hI hj hw
set_option maxRecDepth 100000 in
theorem c_loadIn {I : pm_I} {L : pm_L} {s : gS} {p : Nat} (hG : GR I 1 s) (hI : gInv s) (hp : p < 2 ^ 31) : PC 2 0 0 yX2_loadIn cX2_loadIn 4 (some (.int)) [.ref 1, .int (nI p)] GG I L (QR GG I L (nI (g_load s p))) := by
  have h12 := hI.n12
  refine PC.of [some (.ref 1), some (.int (nI p)), none, none] (by decide) (Nat.le_of_ble_eq_true rfl) rfl (fun l P => ?_)
  have lp4 : ∀ (m i : Nat), i + m = g_n s → PW l P yX2_loadIn cX2_loadIn 4 (some (.int)) (pm_rm 2 0 0) (pm_Tg P (QR GG I L (nI (g_load s p))) 0 0) 0 0 4 [some (.ref 1), some (.int (nI p)), some (.int (nI (fb_sm (fun j => if g_wh s j = p then g_w s j else 0) i))), some (.int (nI i))] [] GG I L := by
    intro m
    induction m with
    | zero =>
      intro i hm
      refine pm_iload_n (pc := 4) dX2_loadIn_4 rfl ?_
      refine pm_aload_n (pc := 5) dX2_loadIn_5 rfl ?_
      refine pm_get (pc := 6) (ci := 0) (C0 := RX2) (T := TX2) (N := 9) (j := 7) rfl rfl in_X2 (by decide) wf_X2_39 rfl dX2_loadIn_6 ?_
      refine pm_icmp_ge (pc := 9) (tgt := 35) dX2_loadIn_9 rfl (fun h9 => ?_) (fun h9 => (by simp (disch := omega) only [hG.n, pm_eqI, pm_ltI, pm_leI, nI_toInt, pm_t0, pm_t1, pm_tm1] at h9; omega))
      refine pm_iload_n (pc := 35) dX2_loadIn_35 rfl ?_
      refine pm_iret (pc := 36) rfl (Nat.le_refl _) (Nat.le_refl _) dX2_loadIn_36 ?_
      have e : i = g_n s := by omega
      subst e
      exact QR.r rfl
    | succ m ih =>
      intro i hm
      refine pm_iload_n (pc := 4) dX2_loadIn_4 rfl ?_
      refine pm_aload_n (pc := 5) dX2_loadIn_5 rfl ?_
      refine pm_get (pc := 6) (ci := 0) (C0 := RX2) (T := TX2) (N := 9) (j := 7) rfl rfl in_X2 (by decide) wf_X2_39 rfl dX2_loadIn_6 ?_
      refine pm_icmp_ge (pc := 9) (tgt := 35) dX2_loadIn_9 rfl (fun h9 => (by simp (disch := omega) only [hG.n, pm_eqI, pm_ltI, pm_leI, nI_toInt, pm_t0, pm_t1, pm_tm1] at h9; omega)) (fun h9 => ?_)
      refine pm_aload_n (pc := 12) dX2_loadIn_12 rfl ?_
      refine pm_iload_n (pc := 13) dX2_loadIn_13 rfl ?_
      refine pm_cVR (pc := 14) dX2_loadIn_14 (c_placeOf hG hI (j := i) (by omega)) wq_X2_placeOf wm_X2_50 wi_X2_placeOf ws_X2_placeOf rfl rfl ⟨Nat.le_of_ble_eq_true rfl, Nat.le_of_ble_eq_true rfl⟩ ⟨Nat.le_of_ble_eq_true rfl, Nat.le_of_ble_eq_true rfl⟩ rfl (Nat.le_of_ble_eq_true rfl) ?_
      refine pm_iload_n (pc := 17) dX2_loadIn_17 rfl ?_
      refine pm_icmp_ne (pc := 18) (tgt := 29) dX2_loadIn_18 rfl (fun h18 => ?_) (fun h18 => ?_)
      · have e : ¬ g_wh s i = p := fun z => h18 (by rw [z])
        have es : nI (fb_sm (fun j => if g_wh s j = p then g_w s j else 0) (i + 1)) = nI (fb_sm (fun j => if g_wh s j = p then g_w s j else 0) i) := by simp only [fb_sm_succ, if_neg e, Nat.add_zero]
        refine pm_iinc (pc := 29) dX2_loadIn_29 rfl (pm_inc1 _) (by decide) rfl ?_
        refine pm_goto (pc := 32) (tgt := 4) dX2_loadIn_32 rfl ?_
        have k9 := ih (i + 1) (by omega)
        rw [es] at k9
        exact k9
      · have h7 := (hI.2.1 i (by omega)).2.2.2.2
        have e : g_wh s i = p := (nI_eq (by omega) hp).mp h18
        have es : nI (fb_sm (fun j => if g_wh s j = p then g_w s j else 0) (i + 1)) = nI (fb_sm (fun j => if g_wh s j = p then g_w s j else 0) i) + nI (g_w s i) := by simp only [fb_sm_succ, nI_add, if_pos e]
        refine pm_iload_n (pc := 21) dX2_loadIn_21 rfl ?_
        refine pm_aload_n (pc := 22) dX2_loadIn_22 rfl ?_
        refine pm_iload_n (pc := 23) dX2_loadIn_23 rfl ?_
        refine pm_cVR (pc := 24) dX2_loadIn_24 (c_weighs hG hI (j := i) (by omega)) wq_X2_weighs wm_X2_60 wi_X2_weighs ws_X2_weighs rfl rfl ⟨Nat.le_of_ble_eq_true rfl, Nat.le_of_ble_eq_true rfl⟩ ⟨Nat.le_of_ble_eq_true rfl, Nat.le_of_ble_eq_true rfl⟩ rfl (Nat.le_of_ble_eq_true rfl) ?_
        refine pm_iadd (pc := 27) dX2_loadIn_27 ?_
        refine pm_istore_n (pc := 28) dX2_loadIn_28 (by decide) rfl ?_
        refine pm_iinc (pc := 29) dX2_loadIn_29 rfl (pm_inc1 _) (by decide) rfl ?_
        refine pm_goto (pc := 32) (tgt := 4) dX2_loadIn_32 rfl ?_
        have k9 := ih (i + 1) (by omega)
        rw [es] at k9
        exact k9
  refine pm_iconst (pc := 0) (v := nI 0) dX2_loadIn_0 (by decide) ?_
  refine pm_istore_n (pc := 1) dX2_loadIn_1 (by decide) rfl ?_
  refine pm_iconst (pc := 2) (v := nI 0) dX2_loadIn_2 (by decide) ?_
  refine pm_istore_n (pc := 3) dX2_loadIn_3 (by decide) rfl ?_
  exact lp4 (g_n s) 0 (by omega)
set_option maxRecDepth 100000 in
theorem c_setIn {I : pm_I} {L : pm_L} {s : gS} {p : Nat} (hG : GR I 1 s) (hI : gInv s) (hp : p < 2 ^ 31) : PC 2 0 0 yX2_setIn cX2_setIn 4 (some (.int)) [.ref 1, .int (nI p)] GG I L (QR GG I L (nI (g_set s p))) := by
  have h12 := hI.n12
  refine PC.of [some (.ref 1), some (.int (nI p)), none, none] (by decide) (Nat.le_of_ble_eq_true rfl) rfl (fun l P => ?_)
  have lp4 : ∀ (m i : Nat), i + m = g_n s → PW l P yX2_setIn cX2_setIn 4 (some (.int)) (pm_rm 2 0 0) (pm_Tg P (QR GG I L (nI (g_set s p))) 0 0) 0 0 4 [some (.ref 1), some (.int (nI p)), some (.int (nI (fb_sm (fun j => if g_wh s j = p then 2 ^ j else 0) i))), some (.int (nI i))] [] GG I L := by
    intro m
    induction m with
    | zero =>
      intro i hm
      refine pm_iload_n (pc := 4) dX2_setIn_4 rfl ?_
      refine pm_aload_n (pc := 5) dX2_setIn_5 rfl ?_
      refine pm_get (pc := 6) (ci := 0) (C0 := RX2) (T := TX2) (N := 9) (j := 7) rfl rfl in_X2 (by decide) wf_X2_39 rfl dX2_setIn_6 ?_
      refine pm_icmp_ge (pc := 9) (tgt := 33) dX2_setIn_9 rfl (fun h9 => ?_) (fun h9 => (by simp (disch := omega) only [hG.n, pm_eqI, pm_ltI, pm_leI, nI_toInt, pm_t0, pm_t1, pm_tm1] at h9; omega))
      refine pm_iload_n (pc := 33) dX2_setIn_33 rfl ?_
      refine pm_iret (pc := 34) rfl (Nat.le_refl _) (Nat.le_refl _) dX2_setIn_34 ?_
      have e : i = g_n s := by omega
      subst e
      exact QR.r rfl
    | succ m ih =>
      intro i hm
      refine pm_iload_n (pc := 4) dX2_setIn_4 rfl ?_
      refine pm_aload_n (pc := 5) dX2_setIn_5 rfl ?_
      refine pm_get (pc := 6) (ci := 0) (C0 := RX2) (T := TX2) (N := 9) (j := 7) rfl rfl in_X2 (by decide) wf_X2_39 rfl dX2_setIn_6 ?_
      refine pm_icmp_ge (pc := 9) (tgt := 33) dX2_setIn_9 rfl (fun h9 => (by simp (disch := omega) only [hG.n, pm_eqI, pm_ltI, pm_leI, nI_toInt, pm_t0, pm_t1, pm_tm1] at h9; omega)) (fun h9 => ?_)
      refine pm_aload_n (pc := 12) dX2_setIn_12 rfl ?_
      refine pm_iload_n (pc := 13) dX2_setIn_13 rfl ?_
      refine pm_cVR (pc := 14) dX2_setIn_14 (c_placeOf hG hI (j := i) (by omega)) wq_X2_placeOf wm_X2_50 wi_X2_placeOf ws_X2_placeOf rfl rfl ⟨Nat.le_of_ble_eq_true rfl, Nat.le_of_ble_eq_true rfl⟩ ⟨Nat.le_of_ble_eq_true rfl, Nat.le_of_ble_eq_true rfl⟩ rfl (Nat.le_of_ble_eq_true rfl) ?_
      refine pm_iload_n (pc := 17) dX2_setIn_17 rfl ?_
      refine pm_icmp_ne (pc := 18) (tgt := 27) dX2_setIn_18 rfl (fun h18 => ?_) (fun h18 => ?_)
      · have e : ¬ g_wh s i = p := fun z => h18 (by rw [z])
        have es : nI (fb_sm (fun j => if g_wh s j = p then 2 ^ j else 0) (i + 1)) = nI (fb_sm (fun j => if g_wh s j = p then 2 ^ j else 0) i) := by simp only [fb_sm_succ, if_neg e, Nat.add_zero]
        refine pm_iinc (pc := 27) dX2_setIn_27 rfl (pm_inc1 _) (by decide) rfl ?_
        refine pm_goto (pc := 30) (tgt := 4) dX2_setIn_30 rfl ?_
        have k9 := ih (i + 1) (by omega)
        rw [es] at k9
        exact k9
      · have h7 := (hI.2.1 i (by omega)).2.2.2.2
        have e : g_wh s i = p := (nI_eq (by omega) hp).mp h18
        have es : nI (fb_sm (fun j => if g_wh s j = p then 2 ^ j else 0) (i + 1)) = nI (fb_sm (fun j => if g_wh s j = p then 2 ^ j else 0) i + 2 ^ i) := by simp only [fb_sm_succ, if_pos e]
        refine pm_iload_n (pc := 21) dX2_setIn_21 rfl ?_
        refine pm_iconst (pc := 22) (v := nI 1) dX2_setIn_22 (by decide) ?_
        refine pm_iload_n (pc := 23) dX2_setIn_23 rfl ?_
        refine pm_ishl (pc := 24) dX2_setIn_24 ?_
        refine pm_ior (pc := 25) dX2_setIn_25 ?_
        refine pm_top (g_orb (fb_pow_lt _ (fun j => by split <;> simp) i) (by omega)) ?_
        refine pm_istore_n (pc := 26) dX2_setIn_26 (by decide) rfl ?_
        refine pm_iinc (pc := 27) dX2_setIn_27 rfl (pm_inc1 _) (by decide) rfl ?_
        refine pm_goto (pc := 30) (tgt := 4) dX2_setIn_30 rfl ?_
        have k9 := ih (i + 1) (by omega)
        rw [es] at k9
        exact k9
  refine pm_iconst (pc := 0) (v := nI 0) dX2_setIn_0 (by decide) ?_
  refine pm_istore_n (pc := 1) dX2_setIn_1 (by decide) rfl ?_
  refine pm_iconst (pc := 2) (v := nI 0) dX2_setIn_2 (by decide) ?_
  refine pm_istore_n (pc := 3) dX2_setIn_3 (by decide) rfl ?_
  exact lp4 (g_n s) 0 (by omega)
theorem g_ow_le {s : gS} (h : gInv s) {j : Nat} (hj : j < g_n s) : g_ow s j ≤ 4 := by
  have := (h.2.1 j hj).2.2.2.1
  unfold g_ow; split <;> omega
set_option maxRecDepth 100000 in
theorem c_loadInBagOf {I : pm_I} {L : pm_L} {s : gS} {o : Nat} (hG : GR I 1 s) (hI : gInv s) (ho : o < 2 ^ 31) : PC 2 0 0 yX2_loadInBagOf cX2_loadInBagOf 4 (some (.int)) [.ref 1, .int (nI o)] GG I L (QR GG I L (nI (g_bag s o))) := by
  have h12 := hI.n12
  refine PC.of [some (.ref 1), some (.int (nI o)), none, none] (by decide) (Nat.le_of_ble_eq_true rfl) rfl (fun l P => ?_)
  have lp4 : ∀ (m i : Nat), i + m = g_n s → PW l P yX2_loadInBagOf cX2_loadInBagOf 4 (some (.int)) (pm_rm 2 0 0) (pm_Tg P (QR GG I L (nI (g_bag s o))) 0 0) 0 0 4 [some (.ref 1), some (.int (nI o)), some (.int (nI (fb_sm (fun j => if g_wh s j = 6 ∧ g_ow s j = o then g_w s j else 0) i))), some (.int (nI i))] [] GG I L := by
    intro m
    induction m with
    | zero =>
      intro i hm
      refine pm_iload_n (pc := 4) dX2_loadInBagOf_4 rfl ?_
      refine pm_aload_n (pc := 5) dX2_loadInBagOf_5 rfl ?_
      refine pm_get (pc := 6) (ci := 0) (C0 := RX2) (T := TX2) (N := 9) (j := 7) rfl rfl in_X2 (by decide) wf_X2_39 rfl dX2_loadInBagOf_6 ?_
      refine pm_icmp_ge (pc := 9) (tgt := 45) dX2_loadInBagOf_9 rfl (fun h9 => ?_) (fun h9 => (by simp (disch := omega) only [hG.n, pm_eqI, pm_ltI, pm_leI, nI_toInt, pm_t0, pm_t1, pm_tm1] at h9; omega))
      refine pm_iload_n (pc := 45) dX2_loadInBagOf_45 rfl ?_
      refine pm_iret (pc := 46) rfl (Nat.le_refl _) (Nat.le_refl _) dX2_loadInBagOf_46 ?_
      have e : i = g_n s := by omega
      subst e
      exact QR.r rfl
    | succ m ih =>
      intro i hm
      refine pm_iload_n (pc := 4) dX2_loadInBagOf_4 rfl ?_
      refine pm_aload_n (pc := 5) dX2_loadInBagOf_5 rfl ?_
      refine pm_get (pc := 6) (ci := 0) (C0 := RX2) (T := TX2) (N := 9) (j := 7) rfl rfl in_X2 (by decide) wf_X2_39 rfl dX2_loadInBagOf_6 ?_
      refine pm_icmp_ge (pc := 9) (tgt := 45) dX2_loadInBagOf_9 rfl (fun h9 => (by simp (disch := omega) only [hG.n, pm_eqI, pm_ltI, pm_leI, nI_toInt, pm_t0, pm_t1, pm_tm1] at h9; omega)) (fun h9 => ?_)
      refine pm_aload_n (pc := 12) dX2_loadInBagOf_12 rfl ?_
      refine pm_iload_n (pc := 13) dX2_loadInBagOf_13 rfl ?_
      refine pm_cVR (pc := 14) dX2_loadInBagOf_14 (c_placeOf hG hI (j := i) (by omega)) wq_X2_placeOf wm_X2_50 wi_X2_placeOf ws_X2_placeOf rfl rfl ⟨Nat.le_of_ble_eq_true rfl, Nat.le_of_ble_eq_true rfl⟩ ⟨Nat.le_of_ble_eq_true rfl, Nat.le_of_ble_eq_true rfl⟩ rfl (Nat.le_of_ble_eq_true rfl) ?_
      refine pm_bipush (pc := 17) (v := nI 6) dX2_loadInBagOf_17 (by decide) ?_
      refine pm_icmp_ne (pc := 19) (tgt := 39) dX2_loadInBagOf_19 rfl (fun h19 => ?_) (fun h19 => ?_)
      · have e : ¬ (g_wh s i = 6 ∧ g_ow s i = o) := fun z => h19 (by rw [z.1])
        have es : nI (fb_sm (fun j => if g_wh s j = 6 ∧ g_ow s j = o then g_w s j else 0) (i + 1)) = nI (fb_sm (fun j => if g_wh s j = 6 ∧ g_ow s j = o then g_w s j else 0) i) := by simp only [fb_sm_succ, if_neg e, Nat.add_zero]
        refine pm_iinc (pc := 39) dX2_loadInBagOf_39 rfl (pm_inc1 _) (by decide) rfl ?_
        refine pm_goto (pc := 42) (tgt := 4) dX2_loadInBagOf_42 rfl ?_
        have k9 := ih (i + 1) (by omega)
        rw [es] at k9
        exact k9
      · refine pm_aload_n (pc := 22) dX2_loadInBagOf_22 rfl ?_
        refine pm_iload_n (pc := 23) dX2_loadInBagOf_23 rfl ?_
        refine pm_cVR (pc := 24) dX2_loadInBagOf_24 (c_ownerOf hG hI (j := i) (by omega)) wq_X2_ownerOf wm_X2_66 wi_X2_ownerOf ws_X2_ownerOf rfl rfl ⟨Nat.le_of_ble_eq_true rfl, Nat.le_of_ble_eq_true rfl⟩ ⟨Nat.le_of_ble_eq_true rfl, Nat.le_of_ble_eq_true rfl⟩ rfl (Nat.le_of_ble_eq_true rfl) ?_
        refine pm_iload_n (pc := 27) dX2_loadInBagOf_27 rfl ?_
        refine pm_icmp_ne (pc := 28) (tgt := 39) dX2_loadInBagOf_28 rfl (fun h28 => ?_) (fun h28 => ?_)
        · have e : ¬ (g_wh s i = 6 ∧ g_ow s i = o) := fun z => h28 (by rw [z.2])
          have es : nI (fb_sm (fun j => if g_wh s j = 6 ∧ g_ow s j = o then g_w s j else 0) (i + 1)) = nI (fb_sm (fun j => if g_wh s j = 6 ∧ g_ow s j = o then g_w s j else 0) i) := by simp only [fb_sm_succ, if_neg e, Nat.add_zero]
          refine pm_iinc (pc := 39) dX2_loadInBagOf_39 rfl (pm_inc1 _) (by decide) rfl ?_
          refine pm_goto (pc := 42) (tgt := 4) dX2_loadInBagOf_42 rfl ?_
          have k9 := ih (i + 1) (by omega)
          rw [es] at k9
          exact k9
        · have h7 := (hI.2.1 i (by omega)).2.2.2.2
          have e : g_wh s i = 6 ∧ g_ow s i = o := ⟨(nI_eq (by omega) (by decide)).mp h19, (nI_eq (by have := g_ow_le hI (j := i) (by omega); omega) ho).mp h28⟩
          have es : nI (fb_sm (fun j => if g_wh s j = 6 ∧ g_ow s j = o then g_w s j else 0) (i + 1)) = nI (fb_sm (fun j => if g_wh s j = 6 ∧ g_ow s j = o then g_w s j else 0) i) + nI (g_w s i) := by simp only [fb_sm_succ, nI_add, if_pos e]
          refine pm_iload_n (pc := 31) dX2_loadInBagOf_31 rfl ?_
          refine pm_aload_n (pc := 32) dX2_loadInBagOf_32 rfl ?_
          refine pm_iload_n (pc := 33) dX2_loadInBagOf_33 rfl ?_
          refine pm_cVR (pc := 34) dX2_loadInBagOf_34 (c_weighs hG hI (j := i) (by omega)) wq_X2_weighs wm_X2_60 wi_X2_weighs ws_X2_weighs rfl rfl ⟨Nat.le_of_ble_eq_true rfl, Nat.le_of_ble_eq_true rfl⟩ ⟨Nat.le_of_ble_eq_true rfl, Nat.le_of_ble_eq_true rfl⟩ rfl (Nat.le_of_ble_eq_true rfl) ?_
          refine pm_iadd (pc := 37) dX2_loadInBagOf_37 ?_
          refine pm_istore_n (pc := 38) dX2_loadInBagOf_38 (by decide) rfl ?_
          refine pm_iinc (pc := 39) dX2_loadInBagOf_39 rfl (pm_inc1 _) (by decide) rfl ?_
          refine pm_goto (pc := 42) (tgt := 4) dX2_loadInBagOf_42 rfl ?_
          have k9 := ih (i + 1) (by omega)
          rw [es] at k9
          exact k9
  refine pm_iconst (pc := 0) (v := nI 0) dX2_loadInBagOf_0 (by decide) ?_
  refine pm_istore_n (pc := 1) dX2_loadInBagOf_1 (by decide) rfl ?_
  refine pm_iconst (pc := 2) (v := nI 0) dX2_loadInBagOf_2 (by decide) ?_
  refine pm_istore_n (pc := 3) dX2_loadInBagOf_3 (by decide) rfl ?_
  exact lp4 (g_n s) 0 (by omega)
set_option maxRecDepth 100000 in
set_option maxHeartbeats 4000000 in
theorem c_holds {I : pm_I} {L : pm_L} {m j : Nat} (hm : m < 2 ^ 31) (hj : j < 31) : PC 0 0 0 yX9_holds cX9_holds 2 (some (.boolean)) [.int (nI m), .int (nI j)] GG I L (QR GG I L (b1 (m.testBit j = true))) := by
  refine PC.of [some (.int (nI m)), some (.int (nI j))] (by decide) (Nat.le_of_ble_eq_true rfl) rfl (fun l P => ?_)
  refine pm_iload_n (pc := 0) dX9_holds_0 rfl ?_
  refine pm_iload_n (pc := 1) dX9_holds_1 rfl ?_
  refine pm_ishr (pc := 2) dX9_holds_2 ?_
  refine pm_iconst (pc := 3) (v := nI 1) dX9_holds_3 (by decide) ?_
  refine pm_iand (pc := 4) dX9_holds_4 ?_
  refine pm_top (g_bit hm hj) ?_
  refine pm_if_eq (pc := 5) (tgt := 12) dX9_holds_5 rfl (fun h5 => ?_) (fun h5 => ?_)
  · have e : ¬ m.testBit j = true := by have := (g_tb m j).mp (by simp (disch := omega) only [pm_eqI, nI_toInt, pm_t0] at h5; omega); simp [this]
    refine pm_iconst (pc := 12) (v := nI 0) dX9_holds_12 (by decide) ?_
    refine pm_zret (pc := 13) (by decide) rfl (Nat.le_refl _) (Nat.le_refl _) dX9_holds_13 ?_
    exact QR.r (by first | exact b1_t e | exact b1_f e)
  · have e : m.testBit j = true := by
      cases hb : m.testBit j with
      | true => rfl
      | false => exact absurd (by rw [(g_tb m j).mpr hb]; decide) h5
    refine pm_iconst (pc := 8) (v := nI 1) dX9_holds_8 (by decide) ?_
    refine pm_goto (pc := 9) (tgt := 13) dX9_holds_9 rfl ?_
    refine pm_zret (pc := 13) (by decide) rfl (Nat.le_refl _) (Nat.le_refl _) dX9_holds_13 ?_
    exact QR.r (by first | exact b1_t e | exact b1_f e)
set_option maxRecDepth 100000 in
theorem c_weighsSet {I : pm_I} {L : pm_L} {s : gS} {m0 : Nat} (hG : GR I 1 s) (hI : gInv s) (hm0 : m0 < 2 ^ 31) : PC 2 0 0 yX2_weighsSet cX2_weighsSet 4 (some (.int)) [.ref 1, .int (nI m0)] GG I L (QR GG I L (nI (g_wset s m0))) := by
  have h12 := hI.n12
  refine PC.of [some (.ref 1), some (.int (nI m0)), none, none] (by decide) (Nat.le_of_ble_eq_true rfl) rfl (fun l P => ?_)
  have lp4 : ∀ (m i : Nat), i + m = g_n s → PW l P yX2_weighsSet cX2_weighsSet 4 (some (.int)) (pm_rm 2 0 0) (pm_Tg P (QR GG I L (nI (g_wset s m0))) 0 0) 0 0 4 [some (.ref 1), some (.int (nI m0)), some (.int (nI (fb_sm (fun j => if m0.testBit j then g_w s j else 0) i))), some (.int (nI i))] [] GG I L := by
    intro m
    induction m with
    | zero =>
      intro i hm
      refine pm_iload_n (pc := 4) dX2_weighsSet_4 rfl ?_
      refine pm_aload_n (pc := 5) dX2_weighsSet_5 rfl ?_
      refine pm_get (pc := 6) (ci := 0) (C0 := RX2) (T := TX2) (N := 9) (j := 7) rfl rfl in_X2 (by decide) wf_X2_39 rfl dX2_weighsSet_6 ?_
      refine pm_icmp_ge (pc := 9) (tgt := 34) dX2_weighsSet_9 rfl (fun h9 => ?_) (fun h9 => (by simp (disch := omega) only [hG.n, pm_eqI, pm_ltI, pm_leI, nI_toInt, pm_t0, pm_t1, pm_tm1] at h9; omega))
      refine pm_iload_n (pc := 34) dX2_weighsSet_34 rfl ?_
      refine pm_iret (pc := 35) rfl (Nat.le_refl _) (Nat.le_refl _) dX2_weighsSet_35 ?_
      have e : i = g_n s := by omega
      subst e
      exact QR.r rfl
    | succ m ih =>
      intro i hm
      refine pm_iload_n (pc := 4) dX2_weighsSet_4 rfl ?_
      refine pm_aload_n (pc := 5) dX2_weighsSet_5 rfl ?_
      refine pm_get (pc := 6) (ci := 0) (C0 := RX2) (T := TX2) (N := 9) (j := 7) rfl rfl in_X2 (by decide) wf_X2_39 rfl dX2_weighsSet_6 ?_
      refine pm_icmp_ge (pc := 9) (tgt := 34) dX2_weighsSet_9 rfl (fun h9 => (by simp (disch := omega) only [hG.n, pm_eqI, pm_ltI, pm_leI, nI_toInt, pm_t0, pm_t1, pm_tm1] at h9; omega)) (fun h9 => ?_)
      refine pm_iload_n (pc := 12) dX2_weighsSet_12 rfl ?_
      refine pm_iload_n (pc := 13) dX2_weighsSet_13 rfl ?_
      refine pm_cSNR (hst := RX9) (pc := 14) dX2_weighsSet_14 (c_holds hm0 (j := i) (by omega)) wq_X9_holds (by decide +kernel) wt_X9_holds ⟨Nat.le_of_ble_eq_true rfl, Nat.le_of_ble_eq_true rfl⟩ ⟨Nat.le_of_ble_eq_true rfl, Nat.le_of_ble_eq_true rfl⟩ rfl (Nat.le_of_ble_eq_true rfl) ?_
      refine pm_if_eq (pc := 17) (tgt := 28) dX2_weighsSet_17 rfl (fun h17 => ?_) (fun h17 => ?_)
      · have e : ¬ m0.testBit i = true := b1_0.mp h17
        have es : nI (fb_sm (fun j => if m0.testBit j then g_w s j else 0) (i + 1)) = nI (fb_sm (fun j => if m0.testBit j then g_w s j else 0) i) := by simp only [fb_sm_succ, if_neg e, Nat.add_zero]
        refine pm_iinc (pc := 28) dX2_weighsSet_28 rfl (pm_inc1 _) (by decide) rfl ?_
        refine pm_goto (pc := 31) (tgt := 4) dX2_weighsSet_31 rfl ?_
        have k9 := ih (i + 1) (by omega)
        rw [es] at k9
        exact k9
      · have e : m0.testBit i = true := by
          cases hb : m0.testBit i with
          | true => rfl
          | false => exact absurd (b1_0.mpr (by simp [hb])) h17
        have es : nI (fb_sm (fun j => if m0.testBit j then g_w s j else 0) (i + 1)) = nI (fb_sm (fun j => if m0.testBit j then g_w s j else 0) i) + nI (g_w s i) := by simp only [fb_sm_succ, nI_add, if_pos e]
        refine pm_iload_n (pc := 20) dX2_weighsSet_20 rfl ?_
        refine pm_aload_n (pc := 21) dX2_weighsSet_21 rfl ?_
        refine pm_iload_n (pc := 22) dX2_weighsSet_22 rfl ?_
        refine pm_cVR (pc := 23) dX2_weighsSet_23 (c_weighs hG hI (j := i) (by omega)) wq_X2_weighs wm_X2_60 wi_X2_weighs ws_X2_weighs rfl rfl ⟨Nat.le_of_ble_eq_true rfl, Nat.le_of_ble_eq_true rfl⟩ ⟨Nat.le_of_ble_eq_true rfl, Nat.le_of_ble_eq_true rfl⟩ rfl (Nat.le_of_ble_eq_true rfl) ?_
        refine pm_iadd (pc := 26) dX2_weighsSet_26 ?_
        refine pm_istore_n (pc := 27) dX2_weighsSet_27 (by decide) rfl ?_
        refine pm_iinc (pc := 28) dX2_weighsSet_28 rfl (pm_inc1 _) (by decide) rfl ?_
        refine pm_goto (pc := 31) (tgt := 4) dX2_weighsSet_31 rfl ?_
        have k9 := ih (i + 1) (by omega)
        rw [es] at k9
        exact k9
  refine pm_iconst (pc := 0) (v := nI 0) dX2_weighsSet_0 (by decide) ?_
  refine pm_istore_n (pc := 1) dX2_weighsSet_1 (by decide) rfl ?_
  refine pm_iconst (pc := 2) (v := nI 0) dX2_weighsSet_2 (by decide) ?_
  refine pm_istore_n (pc := 3) dX2_weighsSet_3 (by decide) rfl ?_
  exact lp4 (g_n s) 0 (by omega)
def l_us (x w : Int32) : Int32 := (x.toUInt32 >>> (w.toUInt32 &&& Int32.toUInt32 31)).toInt32
def l_bits (x : Int32) : Int32 :=
  let a := x - (l_us x (nI 1) &&& 1431655765)
  let b := (a &&& 858993459) + (l_us a (nI 2) &&& 858993459)
  let c := (b + l_us b (nI 4)) &&& 252645135
  let d := c + l_us c (nI 8)
  let e := d + l_us d (nI 16)
  e &&& nI 63
set_option maxRecDepth 100000 in
set_option maxHeartbeats 4000000 in
theorem c_bitCount {I : pm_I} {L : pm_L} {m : Nat} (hm : m < 4096) : PC 0 0 0 yJ6_bitCount_0f7a4 cJ6_bitCount_0f7a4 1 (some (.int)) [.int (nI m)] GG I L (QR GG I L (nI (g_pc m))) := by
  refine PC.of [some (.int (nI m))] (by decide) (Nat.le_of_ble_eq_true rfl) rfl (fun l P => ?_)
  refine pm_iload_n (pc := 0) dJ6_bitCount_0f7a4_0 rfl ?_
  refine pm_iload_n (pc := 1) dJ6_bitCount_0f7a4_1 rfl ?_
  refine pm_iconst (pc := 2) (v := nI 1) dJ6_bitCount_0f7a4_2 (by decide) ?_
  refine pm_iushr (pc := 3) dJ6_bitCount_0f7a4_3 ?_
  refine pm_ldcw (pc := 4) wk_J6_265 dJ6_bitCount_0f7a4_4 ?_
  refine pm_iand (pc := 7) dJ6_bitCount_0f7a4_7 ?_
  refine pm_isub (pc := 8) dJ6_bitCount_0f7a4_8 ?_
  refine pm_istore_n (pc := 9) dJ6_bitCount_0f7a4_9 (by decide) rfl ?_
  refine pm_iload_n (pc := 10) dJ6_bitCount_0f7a4_10 rfl ?_
  refine pm_ldcw (pc := 11) wk_J6_266 dJ6_bitCount_0f7a4_11 ?_
  refine pm_iand (pc := 14) dJ6_bitCount_0f7a4_14 ?_
  refine pm_iload_n (pc := 15) dJ6_bitCount_0f7a4_15 rfl ?_
  refine pm_iconst (pc := 16) (v := nI 2) dJ6_bitCount_0f7a4_16 (by decide) ?_
  refine pm_iushr (pc := 17) dJ6_bitCount_0f7a4_17 ?_
  refine pm_ldcw (pc := 18) wk_J6_266 dJ6_bitCount_0f7a4_18 ?_
  refine pm_iand (pc := 21) dJ6_bitCount_0f7a4_21 ?_
  refine pm_iadd (pc := 22) dJ6_bitCount_0f7a4_22 ?_
  refine pm_istore_n (pc := 23) dJ6_bitCount_0f7a4_23 (by decide) rfl ?_
  refine pm_iload_n (pc := 24) dJ6_bitCount_0f7a4_24 rfl ?_
  refine pm_iload_n (pc := 25) dJ6_bitCount_0f7a4_25 rfl ?_
  refine pm_iconst (pc := 26) (v := nI 4) dJ6_bitCount_0f7a4_26 (by decide) ?_
  refine pm_iushr (pc := 27) dJ6_bitCount_0f7a4_27 ?_
  refine pm_iadd (pc := 28) dJ6_bitCount_0f7a4_28 ?_
  refine pm_ldcw (pc := 29) wk_J6_267 dJ6_bitCount_0f7a4_29 ?_
  refine pm_iand (pc := 32) dJ6_bitCount_0f7a4_32 ?_
  refine pm_istore_n (pc := 33) dJ6_bitCount_0f7a4_33 (by decide) rfl ?_
  refine pm_iload_n (pc := 34) dJ6_bitCount_0f7a4_34 rfl ?_
  refine pm_iload_n (pc := 35) dJ6_bitCount_0f7a4_35 rfl ?_
  refine pm_bipush (pc := 36) (v := nI 8) dJ6_bitCount_0f7a4_36 (by decide) ?_
  refine pm_iushr (pc := 38) dJ6_bitCount_0f7a4_38 ?_
  refine pm_iadd (pc := 39) dJ6_bitCount_0f7a4_39 ?_
  refine pm_istore_n (pc := 40) dJ6_bitCount_0f7a4_40 (by decide) rfl ?_
  refine pm_iload_n (pc := 41) dJ6_bitCount_0f7a4_41 rfl ?_
  refine pm_iload_n (pc := 42) dJ6_bitCount_0f7a4_42 rfl ?_
  refine pm_bipush (pc := 43) (v := nI 16) dJ6_bitCount_0f7a4_43 (by decide) ?_
  refine pm_iushr (pc := 45) dJ6_bitCount_0f7a4_45 ?_
  refine pm_iadd (pc := 46) dJ6_bitCount_0f7a4_46 ?_
  refine pm_istore_n (pc := 47) dJ6_bitCount_0f7a4_47 (by decide) rfl ?_
  refine pm_iload_n (pc := 48) dJ6_bitCount_0f7a4_48 rfl ?_
  refine pm_bipush (pc := 49) (v := nI 63) dJ6_bitCount_0f7a4_49 (by decide) ?_
  refine pm_iand (pc := 51) dJ6_bitCount_0f7a4_51 ?_
  refine pm_iret (pc := 52) rfl (Nat.le_refl _) (Nat.le_refl _) dJ6_bitCount_0f7a4_52 ?_
  exact QR.r ((by decide +kernel : ∀ m, m < 4096 → l_bits (nI m) = nI (g_pc m)) m hm)
set_option maxRecDepth 100000 in
set_option maxHeartbeats 4000000 in
theorem c_piecesIn {I : pm_I} {L : pm_L} {s : gS} {p : Nat} (hG : GR I 1 s) (hI : gInv s) (hp : p < 2 ^ 31) : PC 3 0 0 yX2_piecesIn cX2_piecesIn 2 (some (.int)) [.ref 1, .int (nI p)] GG I L (QR GG I L (nI (g_cnt s p))) := by
  refine PC.of [some (.ref 1), some (.int (nI p))] (by decide) (Nat.le_of_ble_eq_true rfl) rfl (fun l P => ?_)
  refine pm_aload_n (pc := 0) dX2_piecesIn_0 rfl ?_
  refine pm_iload_n (pc := 1) dX2_piecesIn_1 rfl ?_
  refine pm_cVR (pc := 2) dX2_piecesIn_2 (c_setIn hG hI hp) wq_X2_setIn wm_X2_69 wi_X2_setIn ws_X2_setIn rfl rfl ⟨Nat.le_of_ble_eq_true rfl, Nat.le_of_ble_eq_true rfl⟩ ⟨Nat.le_of_ble_eq_true rfl, Nat.le_of_ble_eq_true rfl⟩ rfl (Nat.le_of_ble_eq_true rfl) ?_
  refine pm_cSR (pc := 5) dX2_piecesIn_5 (c_bitCount (g_set_4096 hI p)) wq_J6_bitCount_0f7a4 wm_X2_72 wt_J6_bitCount_0f7a4 ⟨Nat.le_of_ble_eq_true rfl, Nat.le_of_ble_eq_true rfl⟩ ⟨Nat.le_of_ble_eq_true rfl, Nat.le_of_ble_eq_true rfl⟩ rfl (Nat.le_of_ble_eq_true rfl) ?_
  refine pm_iret (pc := 8) rfl (Nat.le_refl _) (Nat.le_refl _) dX2_piecesIn_8 ?_
  exact QR.r (by rw [g_pc_g hI])
set_option maxRecDepth 100000 in
set_option maxHeartbeats 4000000 in
theorem c_piecesInPlaces {I : pm_I} {L : pm_L} {s : gS} (hG : GR I 1 s) (hI : gInv s)  : PC 4 0 0 yX2_piecesInPlaces cX2_piecesInPlaces 1 (some (.int)) [.ref 1] GG I L (QR GG I L (nI (g_n s) - nI (g_cnt s 6) - nI (g_cnt s 7))) := by
  refine PC.of [some (.ref 1)] (by decide) (Nat.le_of_ble_eq_true rfl) rfl (fun l P => ?_)
  refine pm_aload_n (pc := 0) dX2_piecesInPlaces_0 rfl ?_
  refine pm_get (pc := 1) (ci := 0) (C0 := RX2) (T := TX2) (N := 9) (j := 7) rfl rfl in_X2 (by decide) wf_X2_39 rfl dX2_piecesInPlaces_1 ?_
  refine pm_aload_n (pc := 4) dX2_piecesInPlaces_4 rfl ?_
  refine pm_bipush (pc := 5) (v := nI 6) dX2_piecesInPlaces_5 (by decide) ?_
  refine pm_cVR (pc := 7) dX2_piecesInPlaces_7 (c_piecesIn hG hI (p := 6) (by decide)) wq_X2_piecesIn wm_X2_77 wi_X2_piecesIn ws_X2_piecesIn rfl rfl ⟨Nat.le_of_ble_eq_true rfl, Nat.le_of_ble_eq_true rfl⟩ ⟨Nat.le_of_ble_eq_true rfl, Nat.le_of_ble_eq_true rfl⟩ rfl (Nat.le_of_ble_eq_true rfl) ?_
  refine pm_isub (pc := 10) dX2_piecesInPlaces_10 ?_
  refine pm_aload_n (pc := 11) dX2_piecesInPlaces_11 rfl ?_
  refine pm_bipush (pc := 12) (v := nI 7) dX2_piecesInPlaces_12 (by decide) ?_
  refine pm_cVR (pc := 14) dX2_piecesInPlaces_14 (c_piecesIn hG hI (p := 7) (by decide)) wq_X2_piecesIn wm_X2_77 wi_X2_piecesIn ws_X2_piecesIn rfl rfl ⟨Nat.le_of_ble_eq_true rfl, Nat.le_of_ble_eq_true rfl⟩ ⟨Nat.le_of_ble_eq_true rfl, Nat.le_of_ble_eq_true rfl⟩ rfl (Nat.le_of_ble_eq_true rfl) ?_
  refine pm_isub (pc := 17) dX2_piecesInPlaces_17 ?_
  refine pm_iret (pc := 18) rfl (Nat.le_refl _) (Nat.le_refl _) dX2_piecesInPlaces_18 ?_
  exact QR.r (by rw [hG.n])
set_option maxRecDepth 100000 in
set_option maxHeartbeats 4000000 in
theorem c_pieces {I : pm_I} {L : pm_L} {s : gS} (hG : GR I 1 s) : PC 0 0 0 yX2_pieces cX2_pieces 1 (some (.int)) [.ref 1] GG I L (QR GG I L (nI (g_n s))) := by
  refine PC.of [some (.ref 1)] (by decide) (Nat.le_of_ble_eq_true rfl) rfl (fun l P => ?_)
  refine pm_aload_n (pc := 0) dX2_pieces_0 rfl ?_
  refine pm_get (pc := 1) (ci := 0) (C0 := RX2) (T := TX2) (N := 9) (j := 7) rfl rfl in_X2 (by decide) wf_X2_39 rfl dX2_pieces_1 ?_
  refine pm_iret (pc := 4) rfl (Nat.le_refl _) (Nat.le_refl _) dX2_pieces_4 ?_
  exact QR.r hG.n
set_option maxRecDepth 100000 in
set_option maxHeartbeats 4000000 in
theorem c_timesAwake {I : pm_I} {L : pm_L} {s : gS} (hG : GR I 1 s) : PC 0 0 0 yX2_timesAwake cX2_timesAwake 1 (some (.int)) [.ref 1] GG I L (QR GG I L (g_aw s)) := by
  refine PC.of [some (.ref 1)] (by decide) (Nat.le_of_ble_eq_true rfl) rfl (fun l P => ?_)
  refine pm_aload_n (pc := 0) dX2_timesAwake_0 rfl ?_
  refine pm_get (pc := 1) (ci := 0) (C0 := RX2) (T := TX2) (N := 9) (j := 8) rfl rfl in_X2 (by decide) wf_X2_43 rfl dX2_timesAwake_1 ?_
  refine pm_iret (pc := 4) rfl (Nat.le_refl _) (Nat.le_refl _) dX2_timesAwake_4 ?_
  exact QR.r hG.aw
set_option maxRecDepth 100000 in
theorem c_loadInPlaces {I : pm_I} {L : pm_L} {s : gS} (hG : GR I 1 s) (hI : gInv s)  : PC 3 0 0 yX2_loadInPlaces cX2_loadInPlaces 3 (some (.int)) [.ref 1] GG I L (QR GG I L (nI (g_loads s))) := by
  refine PC.of [some (.ref 1), none, none] (by decide) (Nat.le_of_ble_eq_true rfl) rfl (fun l P => ?_)
  have lp4 : ∀ (m i : Nat), i + m = 6 → PW l P yX2_loadInPlaces cX2_loadInPlaces 3 (some (.int)) (pm_rm 3 0 0) (pm_Tg P (QR GG I L (nI (g_loads s))) 0 0) 0 0 4 [some (.ref 1), some (.int (nI (fb_sm (g_load s) i))), some (.int (nI i))] [] GG I L := by
    intro m
    induction m with
    | zero =>
      intro i hm
      refine pm_iload_n (pc := 4) dX2_loadInPlaces_4 rfl ?_
      refine pm_bipush (pc := 5) (v := nI 6) dX2_loadInPlaces_5 (by decide) ?_
      refine pm_icmp_ge (pc := 7) (tgt := 24) dX2_loadInPlaces_7 rfl (fun h7 => ?_) (fun h7 => (by simp (disch := omega) only [pm_eqI, pm_ltI, pm_leI, nI_toInt, pm_t0, pm_t1, pm_tm1] at h7; omega))
      refine pm_iload_n (pc := 24) dX2_loadInPlaces_24 rfl ?_
      refine pm_iret (pc := 25) rfl (Nat.le_refl _) (Nat.le_refl _) dX2_loadInPlaces_25 ?_
      have e : i = 6 := by omega
      subst e
      exact QR.r rfl
    | succ m ih =>
      intro i hm
      refine pm_iload_n (pc := 4) dX2_loadInPlaces_4 rfl ?_
      refine pm_bipush (pc := 5) (v := nI 6) dX2_loadInPlaces_5 (by decide) ?_
      refine pm_icmp_ge (pc := 7) (tgt := 24) dX2_loadInPlaces_7 rfl (fun h7 => (by simp (disch := omega) only [pm_eqI, pm_ltI, pm_leI, nI_toInt, pm_t0, pm_t1, pm_tm1] at h7; omega)) (fun h7 => ?_)
      refine pm_iload_n (pc := 10) dX2_loadInPlaces_10 rfl ?_
      refine pm_aload_n (pc := 11) dX2_loadInPlaces_11 rfl ?_
      refine pm_iload_n (pc := 12) dX2_loadInPlaces_12 rfl ?_
      refine pm_cVR (pc := 13) dX2_loadInPlaces_13 (c_loadIn hG hI (p := i) (by omega)) wq_X2_loadIn wm_X2_63 wi_X2_loadIn ws_X2_loadIn rfl rfl ⟨Nat.le_of_ble_eq_true rfl, Nat.le_of_ble_eq_true rfl⟩ ⟨Nat.le_of_ble_eq_true rfl, Nat.le_of_ble_eq_true rfl⟩ rfl (Nat.le_of_ble_eq_true rfl) ?_
      refine pm_iadd (pc := 16) dX2_loadInPlaces_16 ?_
      refine pm_istore_n (pc := 17) dX2_loadInPlaces_17 (by decide) rfl ?_
      refine pm_iinc (pc := 18) dX2_loadInPlaces_18 rfl (pm_inc1 _) (by decide) rfl ?_
      refine pm_goto (pc := 21) (tgt := 4) dX2_loadInPlaces_21 rfl ?_
      have k9 := ih (i + 1) (by omega)
      rw [fb_sm_succ, ← nI_add] at k9
      exact k9
  refine pm_iconst (pc := 0) (v := nI 0) dX2_loadInPlaces_0 (by decide) ?_
  refine pm_istore_n (pc := 1) dX2_loadInPlaces_1 (by decide) rfl ?_
  refine pm_iconst (pc := 2) (v := nI 0) dX2_loadInPlaces_2 (by decide) ?_
  refine pm_istore_n (pc := 3) dX2_loadInPlaces_3 (by decide) rfl ?_
  exact lp4 6 0 (by omega)
