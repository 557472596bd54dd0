theorem c_mInI {I : pm_I} {L : pm_L} {x : Int32} {A B : Int64} {a b : Int} (ha : A.toInt = a) (hb : B.toInt = b) : PC 0 0 0 yX10_in cX10_in 6 (some (.boolean)) [.long x.toInt64, .long A, .long B] GG I L (QR GG I L (b1 (iR x a b))) := by
  have h := c_mIn (I := I) (L := L) (v := x.toInt64) (a := A) (b := B)
  rw [b1_congr (q := iR x a b) (by rw [Int32.toInt_toInt64, ha, hb])] at h
  exact h
theorem MR.h {I I' : pm_I} {L : pm_L} {X : xS} {s : gS} (h : MR I L X) (h1 : MG I' s) (e : I' 48 = I 48 ∧ I' 60 = I 60 ∧ I' 61 = I 61 ∧ I' 62 = I 62) (f : ∀ k : Nat, k ≠ 0 → k ≠ 8 → I' 40 k = I 40 k) : MR I' L (xg X s) := by
  refine ⟨h1, ?_, ?_, fun q hq => ⟨?_, (h.2.2.2 q hq).2⟩⟩
  · have h1 := h.2.1
    show MO I' (x_i X)
    unfold MO at h1 ⊢
    split
    · rename_i hz; rw [hz] at h1; rw [f 26 (by decide) (by decide)]; exact h1
    · rename_i s' hz
      rw [hz] at h1
      refine ⟨by rw [f 26 (by decide) (by decide)]; exact h1.1, ?_⟩
      have h2 := h1.2
      unfold MI at h2 ⊢
      rw [f 27 (by decide) (by decide), f 28 (by decide) (by decide), e.2.1]
      exact h2
  · have h1 := h.2.2.1
    show MT_ I' (x_t X)
    unfold MT_ at h1 ⊢
    rw [f 10 (by decide) (by decide), e.1]; exact h1
  · have h1 := (h.2.2.2 q hq).1
    show MS I' q (x_s X q)
    unfold MS at h1 ⊢
    rw [e.2.2.1, e.2.2.2]; exact h1
theorem MR.u {I : pm_I} {L : pm_L} {X : xS} {s : gS} (h : MR I L X) (h1 : MG I s) : MR I L (xg X s) := h.h h1 ⟨rfl, rfl, rfl, rfl⟩ (fun _ _ _ => rfl)
set_option maxRecDepth 100000 in
set_option maxHeartbeats 4000000 in
theorem y_told {I : pm_I} {L : pm_L} {X : xS} (hR : MR I L X) (hX : xInv X) {x w : Int32} : PC 2 0 0 yX10_told cX10_told 3 (some (.int)) [.ref 40, .int x, .int w] GG I L (YQ I L (sp_told X x w).1 (sp_told X x w).2) := by
  have hG := hR.1
  have hI := hX.s
  have h12 := hI.n12
  refine PC.of [some (.ref 40), some (.int x), some (.int w)] (by decide) (Nat.le_of_ble_eq_true rfl) rfl (fun l P => ?_)
  refine pm_aload_n (pc := 0) dX10_told_0 rfl ?_
  refine pm_iload_n (pc := 1) dX10_told_1 rfl ?_
  refine pm_cVR (pc := 2) dX10_told_2 (c_mIsPiece hG hI) wq_X10_isPiece wm_X10_114 wi_X10_isPiece ws_X10_isPiece rfl rfl ⟨Nat.le_of_ble_eq_true rfl, Nat.le_of_ble_eq_true rfl⟩ ⟨Nat.le_of_ble_eq_true rfl, Nat.le_of_ble_eq_true rfl⟩ rfl (Nat.le_of_ble_eq_true rfl) ?_
  refine pm_if_ne (pc := 5) (tgt := 10) dX10_told_5 rfl (fun h5 => ?_) (fun h5 => ?_)
  · obtain ⟨j, hj, hj2, rfl⟩ := isPc_of hX (b1_nt h5)
    refine pm_iload_n (pc := 10) dX10_told_10 rfl ?_
    by_cases hs11_0 : w = nI 0
    · rw [hs11_0]
      refine pm_tableIn (pc := 11) (tgt := 44) dX10_told_11 (by decide) (by decide) (by rfl) rfl ?_
      refine pm_aload_n (pc := 44) dX10_told_44 rfl ?_
      refine pm_getr (pc := 45) (ci := 8) (C0 := RX10) (T := TX10) (N := 34) (j := 1) rfl rfl in_X10 (by decide) wf_X10_7 rfl dX10_told_45 ?_
      refine pm_iload_n (pc := 48) dX10_told_48 rfl ?_
      refine pm_iald (pc := 49) rfl (by omega) (by decide) dX10_told_49 ?_
      refine pm_iret (pc := 50) rfl (Nat.le_refl _) (Nat.le_refl _) dX10_told_50 ?_
      rw [show sp_told X (nI j) (nI 0) = (_, X) from if_pos (isPc_nI hX hj), nt_nI (by omega)]
      exact YQ.r (by rw [d_told_0, hG.kd hj]) hR yF.rf
    by_cases hs11_1 : w = nI 1
    · rw [hs11_1]
      refine pm_tableIn (pc := 11) (tgt := 51) dX10_told_11 (by decide) (by decide) (by rfl) rfl ?_
      refine pm_aload_n (pc := 51) dX10_told_51 rfl ?_
      refine pm_iload_n (pc := 52) dX10_told_52 rfl ?_
      refine pm_cVR (pc := 53) dX10_told_53 (c_mWeighs hG hI hj) wq_X10_weighs wm_X10_97 wi_X10_weighs ws_X10_weighs rfl rfl ⟨Nat.le_of_ble_eq_true rfl, Nat.le_of_ble_eq_true rfl⟩ ⟨Nat.le_of_ble_eq_true rfl, Nat.le_of_ble_eq_true rfl⟩ rfl (Nat.le_of_ble_eq_true rfl) ?_
      refine pm_iret (pc := 56) rfl (Nat.le_refl _) (Nat.le_refl _) dX10_told_56 ?_
      rw [show sp_told X (nI j) (nI 1) = (_, X) from if_pos (isPc_nI hX hj), nt_nI (by omega)]
      exact YQ.r (by rw [d_told_1]) hR yF.rf
    by_cases hs11_2 : w = nI 2
    · rw [hs11_2]
      refine pm_tableIn (pc := 11) (tgt := 57) dX10_told_11 (by decide) (by decide) (by rfl) rfl ?_
      refine pm_aload_n (pc := 57) dX10_told_57 rfl ?_
      refine pm_iload_n (pc := 58) dX10_told_58 rfl ?_
      refine pm_cVR (pc := 59) dX10_told_59 (c_mTownOf hG hI hj) wq_X10_townOf wm_X10_118 wi_X10_townOf ws_X10_townOf rfl rfl ⟨Nat.le_of_ble_eq_true rfl, Nat.le_of_ble_eq_true rfl⟩ ⟨Nat.le_of_ble_eq_true rfl, Nat.le_of_ble_eq_true rfl⟩ rfl (Nat.le_of_ble_eq_true rfl) ?_
      refine pm_iret (pc := 62) rfl (Nat.le_refl _) (Nat.le_refl _) dX10_told_62 ?_
      rw [show sp_told X (nI j) (nI 2) = (_, X) from if_pos (isPc_nI hX hj), nt_nI (by omega)]
      exact YQ.r (by rw [d_told_2]) hR yF.rf
    by_cases hs11_3 : w = nI 3
    · rw [hs11_3]
      refine pm_tableIn (pc := 11) (tgt := 63) dX10_told_11 (by decide) (by decide) (by rfl) rfl ?_
      refine pm_aload_n (pc := 63) dX10_told_63 rfl ?_
      refine pm_getr (pc := 64) (ci := 8) (C0 := RX10) (T := TX10) (N := 34) (j := 4) rfl rfl in_X10 (by decide) wf_X10_19 rfl dX10_told_64 ?_
      refine pm_iload_n (pc := 67) dX10_told_67 rfl ?_
      refine pm_iald (pc := 68) rfl (by omega) (by decide) dX10_told_68 ?_
      refine pm_iret (pc := 69) rfl (Nat.le_refl _) (Nat.le_refl _) dX10_told_69 ?_
      rw [show sp_told X (nI j) (nI 3) = (_, X) from if_pos (isPc_nI hX hj), nt_nI (by omega)]
      exact YQ.r (by rw [d_told_3, hG.wh hj]) hR yF.rf
    by_cases hs11_4 : w = nI 4
    · rw [hs11_4]
      refine pm_tableIn (pc := 11) (tgt := 70) dX10_told_11 (by decide) (by decide) (by rfl) rfl ?_
      refine pm_aload_n (pc := 70) dX10_told_70 rfl ?_
      refine pm_iload_n (pc := 71) dX10_told_71 rfl ?_
      refine pm_cVR (pc := 72) dX10_told_72 (c_mOffOf hG hI hj) wq_X10_offOf wm_X10_121 wi_X10_offOf ws_X10_offOf rfl rfl ⟨Nat.le_of_ble_eq_true rfl, Nat.le_of_ble_eq_true rfl⟩ ⟨Nat.le_of_ble_eq_true rfl, Nat.le_of_ble_eq_true rfl⟩ rfl (Nat.le_of_ble_eq_true rfl) ?_
      refine pm_iret (pc := 75) rfl (Nat.le_refl _) (Nat.le_refl _) dX10_told_75 ?_
      rw [show sp_told X (nI j) (nI 4) = (_, X) from if_pos (isPc_nI hX hj), nt_nI (by omega)]
      exact YQ.r (by rw [d_told_4]) hR yF.rf
    refine pm_tableOut (pc := 11) (tgt := 76) dX10_told_11 (pm_out5 hs11_0 hs11_1 hs11_2 hs11_3 hs11_4) rfl ?_
    refine pm_iconst (pc := 76) (v := (-1)) dX10_told_76 (by decide) ?_
    refine pm_iret (pc := 77) rfl (Nat.le_refl _) (Nat.le_refl _) dX10_told_77 ?_
    rw [show sp_told X (nI j) w = (_, X) from if_pos (isPc_nI hX hj), nt_nI (by omega)]
    exact YQ.r (d_told_x hs11_0 hs11_1 hs11_2 hs11_3 hs11_4).symm hR yF.rf
  · refine pm_iconst (pc := 8) (v := (-1)) dX10_told_8 (by decide) ?_
    refine pm_iret (pc := 9) rfl (Nat.le_refl _) (Nat.le_refl _) dX10_told_9 ?_
    rw [show sp_told X x w = (-1, X) from if_neg (b1_nf h5)]
    exact YQ.r rfl hR yF.rf
set_option maxRecDepth 100000 in
set_option maxHeartbeats 4000000 in
theorem y_of {I : pm_I} {L : pm_L} {X : xS} (hR : MR I L X) (hX : xInv X) {x w : Int32} : PC 2 0 0 yX10_of cX10_of 3 (some (.int)) [.ref 40, .int x, .int w] GG I L (YQ I L (sp_of X x w).1 (sp_of X x w).2) := by
  have hG := hR.1
  have hI := hX.s
  have h12 := hI.n12
  refine PC.of [some (.ref 40), some (.int x), some (.int w)] (by decide) (Nat.le_of_ble_eq_true rfl) rfl (fun l P => ?_)
  refine pm_iload_n (pc := 0) dX10_of_0 rfl ?_
  refine pm_cSR (pc := 1) dX10_of_1 (c_mIsPlace) wq_X10_isPlace wm_X10_124 wt_X10_isPlace ⟨Nat.le_of_ble_eq_true rfl, Nat.le_of_ble_eq_true rfl⟩ ⟨Nat.le_of_ble_eq_true rfl, Nat.le_of_ble_eq_true rfl⟩ rfl (Nat.le_of_ble_eq_true rfl) ?_
  refine pm_if_ne (pc := 4) (tgt := 9) dX10_of_4 rfl (fun h4 => ?_) (fun h4 => ?_)
  · obtain ⟨p, hp, rfl⟩ := isPl_of (b1_nt h4)
    refine pm_iload_n (pc := 9) dX10_of_9 rfl ?_
    refine pm_if_ne (pc := 10) (tgt := 21) dX10_of_10 rfl (fun h10 => ?_) (fun h10 => ?_)
    · refine pm_iload_n (pc := 21) dX10_of_21 rfl ?_
      refine pm_iconst (pc := 22) (v := nI 1) dX10_of_22 (by decide) ?_
      refine pm_icmp_ne (pc := 23) (tgt := 35) dX10_of_23 rfl (fun h23 => ?_) (fun h23 => ?_)
      · refine pm_iload_n (pc := 35) dX10_of_35 rfl ?_
        refine pm_iconst (pc := 36) (v := nI 2) dX10_of_36 (by decide) ?_
        refine pm_icmp_ne (pc := 37) (tgt := 49) dX10_of_37 rfl (fun h37 => ?_) (fun h37 => ?_)
        · refine pm_iload_n (pc := 49) dX10_of_49 rfl ?_
          refine pm_iconst (pc := 50) (v := nI 3) dX10_of_50 (by decide) ?_
          refine pm_icmp_ne (pc := 51) (tgt := 62) dX10_of_51 rfl (fun h51 => ?_) (fun h51 => ?_)
          · refine pm_iconst (pc := 62) (v := (-1)) dX10_of_62 (by decide) ?_
            refine pm_iret (pc := 63) rfl (Nat.le_refl _) (Nat.le_refl _) dX10_of_63 ?_
            first | (rw [show sp_of X (nI p) w = (_, X) from if_pos (isPl_nI hp), nt_nI (by omega)]; exact YQ.r (by first | exact (d_of_x h10 h23 h37 h51).symm | (show _ = d_of _ _ _; rw [show w = nI 3 from h51, d_of_3]) | (show _ = d_of _ _ _; rw [show w = nI 2 from h37, d_of_2, hG.sn hp]) | (show _ = d_of _ _ _; rw [show w = nI 1 from h23, d_of_1, hG.mn hp]) | (show _ = d_of _ _ _; rw [show w = nI 0 from h10, d_of_0])) hR yF.rf)
          · refine pm_aload_n (pc := 54) dX10_of_54 rfl ?_
            refine pm_iload_n (pc := 55) dX10_of_55 rfl ?_
            refine pm_cVR (pc := 56) dX10_of_56 (c_mTopOf hG hI hp) wq_X10_topOf wm_X10_93 wi_X10_topOf ws_X10_topOf rfl rfl ⟨Nat.le_of_ble_eq_true rfl, Nat.le_of_ble_eq_true rfl⟩ ⟨Nat.le_of_ble_eq_true rfl, Nat.le_of_ble_eq_true rfl⟩ rfl (Nat.le_of_ble_eq_true rfl) ?_
            refine pm_goto (pc := 59) (tgt := 63) dX10_of_59 rfl ?_
            refine pm_iret (pc := 63) rfl (Nat.le_refl _) (Nat.le_refl _) dX10_of_63 ?_
            first | (rw [show sp_of X (nI p) w = (_, X) from if_pos (isPl_nI hp), nt_nI (by omega)]; exact YQ.r (by first | exact (d_of_x h10 h23 h37 h51).symm | (show _ = d_of _ _ _; rw [show w = nI 3 from h51, d_of_3]) | (show _ = d_of _ _ _; rw [show w = nI 2 from h37, d_of_2, hG.sn hp]) | (show _ = d_of _ _ _; rw [show w = nI 1 from h23, d_of_1, hG.mn hp]) | (show _ = d_of _ _ _; rw [show w = nI 0 from h10, d_of_0])) hR yF.rf)
        · refine pm_aload_n (pc := 40) dX10_of_40 rfl ?_
          refine pm_getr (pc := 41) (ci := 8) (C0 := RX10) (T := TX10) (N := 34) (j := 7) rfl rfl in_X10 (by decide) wf_X10_28 rfl dX10_of_41 ?_
          refine pm_iload_n (pc := 44) dX10_of_44 rfl ?_
          refine pm_iald (pc := 45) rfl (by omega) (by decide) dX10_of_45 ?_
          refine pm_goto (pc := 46) (tgt := 63) dX10_of_46 rfl ?_
          refine pm_iret (pc := 63) rfl (Nat.le_refl _) (Nat.le_refl _) dX10_of_63 ?_
          first | (rw [show sp_of X (nI p) w = (_, X) from if_pos (isPl_nI hp), nt_nI (by omega)]; exact YQ.r (by first | exact (d_of_x h10 h23 h37 h51).symm | (show _ = d_of _ _ _; rw [show w = nI 3 from h51, d_of_3]) | (show _ = d_of _ _ _; rw [show w = nI 2 from h37, d_of_2, hG.sn hp]) | (show _ = d_of _ _ _; rw [show w = nI 1 from h23, d_of_1, hG.mn hp]) | (show _ = d_of _ _ _; rw [show w = nI 0 from h10, d_of_0])) hR yF.rf)
      · refine pm_aload_n (pc := 26) dX10_of_26 rfl ?_
        refine pm_getr (pc := 27) (ci := 8) (C0 := RX10) (T := TX10) (N := 34) (j := 5) rfl rfl in_X10 (by decide) wf_X10_22 rfl dX10_of_27 ?_
        refine pm_iload_n (pc := 30) dX10_of_30 rfl ?_
        refine pm_iald (pc := 31) rfl (by omega) (by decide) dX10_of_31 ?_
        refine pm_goto (pc := 32) (tgt := 63) dX10_of_32 rfl ?_
        refine pm_iret (pc := 63) rfl (Nat.le_refl _) (Nat.le_refl _) dX10_of_63 ?_
        first | (rw [show sp_of X (nI p) w = (_, X) from if_pos (isPl_nI hp), nt_nI (by omega)]; exact YQ.r (by first | exact (d_of_x h10 h23 h37 h51).symm | (show _ = d_of _ _ _; rw [show w = nI 3 from h51, d_of_3]) | (show _ = d_of _ _ _; rw [show w = nI 2 from h37, d_of_2, hG.sn hp]) | (show _ = d_of _ _ _; rw [show w = nI 1 from h23, d_of_1, hG.mn hp]) | (show _ = d_of _ _ _; rw [show w = nI 0 from h10, d_of_0])) hR yF.rf)
    · refine pm_aload_n (pc := 13) dX10_of_13 rfl ?_
      refine pm_iload_n (pc := 14) dX10_of_14 rfl ?_
      refine pm_cVR (pc := 15) dX10_of_15 (c_mLoadOf hG hI hp) wq_X10_loadOf wm_X10_127 wi_X10_loadOf ws_X10_loadOf rfl rfl ⟨Nat.le_of_ble_eq_true rfl, Nat.le_of_ble_eq_true rfl⟩ ⟨Nat.le_of_ble_eq_true rfl, Nat.le_of_ble_eq_true rfl⟩ rfl (Nat.le_of_ble_eq_true rfl) ?_
      refine pm_goto (pc := 18) (tgt := 63) dX10_of_18 rfl ?_
      refine pm_iret (pc := 63) rfl (Nat.le_refl _) (Nat.le_refl _) dX10_of_63 ?_
      first | (rw [show sp_of X (nI p) w = (_, X) from if_pos (isPl_nI hp), nt_nI (by omega)]; exact YQ.r (by first | exact (d_of_x h10 h23 h37 h51).symm | (show _ = d_of _ _ _; rw [show w = nI 3 from h51, d_of_3]) | (show _ = d_of _ _ _; rw [show w = nI 2 from h37, d_of_2, hG.sn hp]) | (show _ = d_of _ _ _; rw [show w = nI 1 from h23, d_of_1, hG.mn hp]) | (show _ = d_of _ _ _; rw [show w = nI 0 from h10, d_of_0])) hR yF.rf)
  · refine pm_iconst (pc := 7) (v := (-1)) dX10_of_7 (by decide) ?_
    refine pm_iret (pc := 8) rfl (Nat.le_refl _) (Nat.le_refl _) dX10_of_8 ?_
    rw [show sp_of X x w = (-1, X) from if_neg (b1_nf h4)]
    exact YQ.r rfl hR yF.rf
set_option maxRecDepth 100000 in
set_option maxHeartbeats 4000000 in
theorem y_count {I : pm_I} {L : pm_L} {X : xS} (hR : MR I L X) (hX : xInv X) {w : Int32} : PC 3 0 0 yX10_count cX10_count 2 (some (.int)) [.ref 40, .int w] GG I L (YQ I L (sp_count X w).1 (sp_count X w).2) := by
  have hG := hR.1
  have hI := hX.s
  have h12 := hI.n12
  refine PC.of [some (.ref 40), some (.int w)] (by decide) (Nat.le_of_ble_eq_true rfl) rfl (fun l P => ?_)
  refine pm_iload_n (pc := 0) dX10_count_0 rfl ?_
  by_cases hs1_0 : w = nI 0
  · rw [hs1_0]
    refine pm_tableIn (pc := 1) (tgt := 40) dX10_count_1 (by decide) (by decide) (by rfl) rfl ?_
    refine pm_aload_n (pc := 40) dX10_count_40 rfl ?_
    refine pm_get (pc := 41) (ci := 8) (C0 := RX10) (T := TX10) (N := 34) (j := 0) rfl rfl in_X10 (by decide) wf_X10_83 rfl dX10_count_41 ?_
    refine pm_iret (pc := 44) rfl (Nat.le_refl _) (Nat.le_refl _) dX10_count_44 ?_
    exact YQ.r (hG.n.trans d_count_0.symm) hR yF.rf
  by_cases hs1_1 : w = nI 1
  · rw [hs1_1]
    refine pm_tableIn (pc := 1) (tgt := 45) dX10_count_1 (by decide) (by decide) (by rfl) rfl ?_
    refine pm_aload_n (pc := 45) dX10_count_45 rfl ?_
    refine pm_bipush (pc := 46) (v := nI 6) dX10_count_46 (by decide) ?_
    refine pm_cVR (pc := 48) dX10_count_48 (c_mCountIn hG hI (by omega)) wq_X10_countIn wm_X10_130 wi_X10_countIn ws_X10_countIn rfl rfl ⟨Nat.le_of_ble_eq_true rfl, Nat.le_of_ble_eq_true rfl⟩ ⟨Nat.le_of_ble_eq_true rfl, Nat.le_of_ble_eq_true rfl⟩ rfl (Nat.le_of_ble_eq_true rfl) ?_
    refine pm_iret (pc := 51) rfl (Nat.le_refl _) (Nat.le_refl _) dX10_count_51 ?_
    exact YQ.r (d_count_1.symm) hR yF.rf
  by_cases hs1_2 : w = nI 2
  · rw [hs1_2]
    refine pm_tableIn (pc := 1) (tgt := 52) dX10_count_1 (by decide) (by decide) (by rfl) rfl ?_
    refine pm_aload_n (pc := 52) dX10_count_52 rfl ?_
    refine pm_bipush (pc := 53) (v := nI 7) dX10_count_53 (by decide) ?_
    refine pm_cVR (pc := 55) dX10_count_55 (c_mCountIn hG hI (by omega)) wq_X10_countIn wm_X10_130 wi_X10_countIn ws_X10_countIn rfl rfl ⟨Nat.le_of_ble_eq_true rfl, Nat.le_of_ble_eq_true rfl⟩ ⟨Nat.le_of_ble_eq_true rfl, Nat.le_of_ble_eq_true rfl⟩ rfl (Nat.le_of_ble_eq_true rfl) ?_
    refine pm_iret (pc := 58) rfl (Nat.le_refl _) (Nat.le_refl _) dX10_count_58 ?_
    exact YQ.r (d_count_2.symm) hR yF.rf
  by_cases hs1_3 : w = nI 3
  · rw [hs1_3]
    refine pm_tableIn (pc := 1) (tgt := 59) dX10_count_1 (by decide) (by decide) (by rfl) rfl ?_
    refine pm_aload_n (pc := 59) dX10_count_59 rfl ?_
    refine pm_get (pc := 60) (ci := 8) (C0 := RX10) (T := TX10) (N := 34) (j := 8) rfl rfl in_X10 (by decide) wf_X10_133 rfl dX10_count_60 ?_
    refine pm_iret (pc := 63) rfl (Nat.le_refl _) (Nat.le_refl _) dX10_count_63 ?_
    exact YQ.r (hG.aw.trans d_count_3.symm) hR yF.rf
  by_cases hs1_4 : w = nI 4
  · rw [hs1_4]
    refine pm_tableIn (pc := 1) (tgt := 64) dX10_count_1 (by decide) (by decide) (by rfl) rfl ?_
    refine pm_aload_n (pc := 64) dX10_count_64 rfl ?_
    refine pm_cVR (pc := 65) dX10_count_65 (c_mPlacesWeigh hG hI) wq_X10_placesWeigh wm_X10_136 wi_X10_placesWeigh ws_X10_placesWeigh rfl rfl ⟨Nat.le_of_ble_eq_true rfl, Nat.le_of_ble_eq_true rfl⟩ ⟨Nat.le_of_ble_eq_true rfl, Nat.le_of_ble_eq_true rfl⟩ rfl (Nat.le_of_ble_eq_true rfl) ?_
    refine pm_iret (pc := 68) rfl (Nat.le_refl _) (Nat.le_refl _) dX10_count_68 ?_
    exact YQ.r (d_count_4.symm) hR yF.rf
  by_cases hs1_5 : w = nI 5
  · rw [hs1_5]
    refine pm_tableIn (pc := 1) (tgt := 69) dX10_count_1 (by decide) (by decide) (by rfl) rfl ?_
    refine pm_aload_n (pc := 69) dX10_count_69 rfl ?_
    refine pm_cVR (pc := 70) dX10_count_70 (c_mBagWeighs hG hI) wq_X10_bagWeighs wm_X10_140 wi_X10_bagWeighs ws_X10_bagWeighs rfl rfl ⟨Nat.le_of_ble_eq_true rfl, Nat.le_of_ble_eq_true rfl⟩ ⟨Nat.le_of_ble_eq_true rfl, Nat.le_of_ble_eq_true rfl⟩ rfl (Nat.le_of_ble_eq_true rfl) ?_
    refine pm_iret (pc := 73) rfl (Nat.le_refl _) (Nat.le_refl _) dX10_count_73 ?_
    exact YQ.r (d_count_5.symm) hR yF.rf
  refine pm_tableOut (pc := 1) (tgt := 74) dX10_count_1 (pm_out6 hs1_0 hs1_1 hs1_2 hs1_3 hs1_4 hs1_5) rfl ?_
  refine pm_iconst (pc := 74) (v := (-1)) dX10_count_74 (by decide) ?_
  refine pm_iret (pc := 75) rfl (Nat.le_refl _) (Nat.le_refl _) dX10_count_75 ?_
  exact YQ.r (d_count_x hs1_0 hs1_1 hs1_2 hs1_3 hs1_4 hs1_5).symm hR yF.rf
set_option maxRecDepth 100000 in
set_option maxHeartbeats 4000000 in
theorem y_sense {I : pm_I} {L : pm_L} {X : xS} (hR : MR I L X) (hX : xInv X) {x v : Int32} : PC 2 0 0 yX10_sense cX10_sense 4 (some (.int)) [.ref 40, .int x, .int v] GG I L (YQ I L (sp_sense X x v).1 (sp_sense X x v).2) := by
  have hG := hR.1
  have hI := hX.s
  have h12 := hI.n12
  refine PC.of [some (.ref 40), some (.int x), some (.int v), none] (by decide) (Nat.le_of_ble_eq_true rfl) rfl (fun l P => ?_)
  refine pm_iload_n (pc := 0) dX10_sense_0 rfl ?_
  refine pm_cSR (pc := 1) dX10_sense_1 (c_mIsPlace) wq_X10_isPlace wm_X10_124 wt_X10_isPlace ⟨Nat.le_of_ble_eq_true rfl, Nat.le_of_ble_eq_true rfl⟩ ⟨Nat.le_of_ble_eq_true rfl, Nat.le_of_ble_eq_true rfl⟩ rfl (Nat.le_of_ble_eq_true rfl) ?_
  refine pm_if_eq (pc := 4) (tgt := 19) dX10_sense_4 rfl (fun h4 => ?_) (fun h4 => ?_)
  · refine pm_iconst (pc := 19) (v := (-1)) dX10_sense_19 (by decide) ?_
    refine pm_iret (pc := 20) rfl (Nat.le_refl _) (Nat.le_refl _) dX10_sense_20 ?_
    first | (rw [show sp_sense X x v = (-1, X) from if_neg (fun z => b1_nf h4 z.1)]; exact YQ.r rfl hR yF.rf) | (rw [show sp_sense X (nI p) v = (-1, X) from if_neg (fun z => b1_nf h16 z.2)]; exact YQ.r rfl hR yF.rf)
  · obtain ⟨p, hp, rfl⟩ := isPl_of (b1_nt h4)
    refine pm_iload_n (pc := 7) dX10_sense_7 rfl ?_
    refine pm_i2l (pc := 8) dX10_sense_8 ?_
    refine pm_lconst (pc := 9) (v := 0) dX10_sense_9 (by decide) ?_
    refine pm_ldc2 (pc := 10) wk_X10_106 dX10_sense_10 ?_
    refine pm_cSR (pc := 13) dX10_sense_13 (c_mInI (a := 0) (b := 99) (by decide) (by decide)) wq_X10_in wm_X10_87 wt_X10_in ⟨Nat.le_of_ble_eq_true rfl, Nat.le_of_ble_eq_true rfl⟩ ⟨Nat.le_of_ble_eq_true rfl, Nat.le_of_ble_eq_true rfl⟩ rfl (Nat.le_of_ble_eq_true rfl) ?_
    refine pm_if_ne (pc := 16) (tgt := 21) dX10_sense_16 rfl (fun h16 => ?_) (fun h16 => ?_)
    · obtain ⟨u, hu, rfl⟩ := iR_of (b := 99) (by decide) (b1_nt h16)
      refine pm_aload_n (pc := 21) dX10_sense_21 rfl ?_
      refine pm_getr (pc := 22) (ci := 8) (C0 := RX10) (T := TX10) (N := 34) (j := 7) rfl rfl in_X10 (by decide) wf_X10_28 rfl dX10_sense_22 ?_
      refine pm_iload_n (pc := 25) dX10_sense_25 rfl ?_
      refine pm_iald (pc := 26) rfl (by omega) (by decide) dX10_sense_26 ?_
      refine pm_istore_n (pc := 27) dX10_sense_27 (by decide) rfl ?_
      refine pm_aload_n (pc := 28) dX10_sense_28 rfl ?_
      refine pm_getr (pc := 29) (ci := 8) (C0 := RX10) (T := TX10) (N := 34) (j := 7) rfl rfl in_X10 (by decide) wf_X10_28 rfl dX10_sense_29 ?_
      refine pm_iload_n (pc := 32) dX10_sense_32 rfl ?_
      refine pm_iload_n (pc := 33) dX10_sense_33 rfl ?_
      refine pm_iast (pc := 34) rfl (by omega) (by decide) dX10_sense_34 ?_
      refine pm_iload_n (pc := 35) dX10_sense_35 rfl ?_
      refine pm_iret (pc := 36) rfl (Nat.le_refl _) (Nat.le_refl _) dX10_sense_36 ?_
      rw [show sp_sense X (nI p) (nI u) = (_, _) from if_pos ⟨isPl_nI hp, (iR_nI (b := 99) (by omega)).mpr hu⟩, nt_nI (by omega), nt_nI (by omega)]
      have q1 := MG_sense hG (p := p) (v := u)
      exact YQ.r (hG.sn hp) (hR.g q1) q1.2.y
    · refine pm_iconst (pc := 19) (v := (-1)) dX10_sense_19 (by decide) ?_
      refine pm_iret (pc := 20) rfl (Nat.le_refl _) (Nat.le_refl _) dX10_sense_20 ?_
      first | (rw [show sp_sense X x v = (-1, X) from if_neg (fun z => b1_nf h4 z.1)]; exact YQ.r rfl hR yF.rf) | (rw [show sp_sense X (nI p) v = (-1, X) from if_neg (fun z => b1_nf h16 z.2)]; exact YQ.r rfl hR yF.rf)
set_option maxRecDepth 100000 in
set_option maxHeartbeats 4000000 in
theorem y_lift {I : pm_I} {L : pm_L} {X : xS} (hR : MR I L X) (hX : xInv X) {x : Int32} : PC 4 0 0 yX10_lift cX10_lift 2 (some (.int)) [.ref 40, .int x] GG I L (YQ I L (sp_lift X x).1 (sp_lift X x).2) := by
  have hG := hR.1
  have hI := hX.s
  have h12 := hI.n12
  refine PC.of [some (.ref 40), some (.int x)] (by decide) (Nat.le_of_ble_eq_true rfl) rfl (fun l P => ?_)
  refine pm_iload_n (pc := 0) dX10_lift_0 rfl ?_
  refine pm_cSR (pc := 1) dX10_lift_1 (c_mIsPlace) wq_X10_isPlace wm_X10_124 wt_X10_isPlace ⟨Nat.le_of_ble_eq_true rfl, Nat.le_of_ble_eq_true rfl⟩ ⟨Nat.le_of_ble_eq_true rfl, Nat.le_of_ble_eq_true rfl⟩ rfl (Nat.le_of_ble_eq_true rfl) ?_
  refine pm_if_eq (pc := 4) (tgt := 18) dX10_lift_4 rfl (fun h4 => ?_) (fun h4 => ?_)
  · refine pm_iconst (pc := 18) (v := (-1)) dX10_lift_18 (by decide) ?_
    refine pm_iret (pc := 19) rfl (Nat.le_refl _) (Nat.le_refl _) dX10_lift_19 ?_
    first | (rw [show sp_lift X x = (-1, X) from if_neg (b1_nf h4)]; exact YQ.r rfl hR yF.rf) | exact YQ.r q1 (hR.g q2) q2.2.y
  · obtain ⟨p, hp, rfl⟩ := isPl_of (b1_nt h4)
    rw [sp_lift_t hp]
    refine pm_aload_n (pc := 7) dX10_lift_7 rfl ?_
    refine pm_bipush (pc := 8) (v := nI 100) dX10_lift_8 (by decide) ?_
    refine pm_iload_n (pc := 10) dX10_lift_10 rfl ?_
    refine pm_imul (pc := 11) dX10_lift_11 ?_
    refine pm_top (pk_mul _ _) ?_
    refine pm_cVI (pc := 12) dX10_lift_12 (c_mTryAct hG hI (a_ok0 (s := x_g X) hp)) wq_X10_tryAct wm_X10_226 wi_X10_tryAct ws_X10_tryAct rfl rfl ⟨Nat.le_of_ble_eq_true rfl, Nat.le_of_ble_eq_true rfl⟩ ⟨Nat.le_of_ble_eq_true rfl, Nat.le_of_ble_eq_true rfl⟩ rfl (Nat.le_of_ble_eq_true rfl) (fun r12 I12 L12 q12 => ?_)
    obtain ⟨q1, q2, q3⟩ := q12
    subst q3
    refine pm_goto (pc := 15) (tgt := 19) dX10_lift_15 rfl ?_
    refine pm_iret (pc := 19) rfl (Nat.le_refl _) (Nat.le_refl _) dX10_lift_19 ?_
    first | (rw [show sp_lift X x = (-1, X) from if_neg (b1_nf h4)]; exact YQ.r rfl hR yF.rf) | exact YQ.r q1 (hR.g q2) q2.2.y
theorem try_neg {s : gS} {c : Nat} : (s_try s c).1 = 0 ∨ (s_try s c).1 < 0 := by
  unfold s_try; split
  · exact Or.inr (show (-2 : Int32) < 0 by decide)
  · split
    · exact Or.inr (show (-3 : Int32) < 0 by decide)
    · exact Or.inl rfl
set_option maxRecDepth 100000 in
set_option maxHeartbeats 4000000 in
theorem y_lay {I : pm_I} {L : pm_L} {X : xS} (hR : MR I L X) (hX : xInv X) {x y : Int32} : PC 4 0 0 yX10_lay cX10_lay 4 (some (.int)) [.ref 40, .int x, .int y] GG I L (YQ I L (sp_lay X x y).1 (sp_lay X x y).2) := by
  have hG := hR.1
  have hI := hX.s
  have h12 := hI.n12
  refine PC.of [some (.ref 40), some (.int x), some (.int y), none] (by decide) (Nat.le_of_ble_eq_true rfl) rfl (fun l P => ?_)
  refine pm_aload_n (pc := 0) dX10_lay_0 rfl ?_
  refine pm_iload_n (pc := 1) dX10_lay_1 rfl ?_
  refine pm_cVR (pc := 2) dX10_lay_2 (c_mIsPiece hG hI) wq_X10_isPiece wm_X10_114 wi_X10_isPiece ws_X10_isPiece rfl rfl ⟨Nat.le_of_ble_eq_true rfl, Nat.le_of_ble_eq_true rfl⟩ ⟨Nat.le_of_ble_eq_true rfl, Nat.le_of_ble_eq_true rfl⟩ rfl (Nat.le_of_ble_eq_true rfl) ?_
  refine pm_if_eq (pc := 5) (tgt := 15) dX10_lay_5 rfl (fun h5 => ?_) (fun h5 => ?_)
  · refine pm_iconst (pc := 15) (v := (-1)) dX10_lay_15 (by decide) ?_
    refine pm_iret (pc := 16) rfl (Nat.le_refl _) (Nat.le_refl _) dX10_lay_16 ?_
    first | (rw [show sp_lay X x y = (-1, X) from if_neg (fun z => b1_nf h5 z.1)]; exact YQ.r rfl hR yF.rf) | (rw [show sp_lay X (nI i) y = (-1, X) from if_neg (fun z => b1_nf h12 z.2)]; exact YQ.r rfl hR yF.rf)
  · obtain ⟨i, hi, hi2, rfl⟩ := isPc_of hX (b1_nt h5)
    refine pm_iload_n (pc := 8) dX10_lay_8 rfl ?_
    refine pm_cSR (pc := 9) dX10_lay_9 (c_mIsPlace) wq_X10_isPlace wm_X10_124 wt_X10_isPlace ⟨Nat.le_of_ble_eq_true rfl, Nat.le_of_ble_eq_true rfl⟩ ⟨Nat.le_of_ble_eq_true rfl, Nat.le_of_ble_eq_true rfl⟩ rfl (Nat.le_of_ble_eq_true rfl) ?_
    refine pm_if_ne (pc := 12) (tgt := 17) dX10_lay_12 rfl (fun h12 => ?_) (fun h12 => ?_)
    · obtain ⟨p, hp, rfl⟩ := isPl_of (b1_nt h12)
      rw [sp_lay_t hX hp hi]
      have h12 := hI.n12
      refine pm_aload_n (pc := 17) dX10_lay_17 rfl ?_
      refine pm_sipush (pc := 18) (v := nI 1000) dX10_lay_18 (by decide) ?_
      refine pm_bipush (pc := 21) (v := nI 100) dX10_lay_21 (by decide) ?_
      refine pm_iload_n (pc := 23) dX10_lay_23 rfl ?_
      refine pm_imul (pc := 24) dX10_lay_24 ?_
      refine pm_iadd (pc := 25) dX10_lay_25 ?_
      refine pm_iload_n (pc := 26) dX10_lay_26 rfl ?_
      refine pm_iadd (pc := 27) dX10_lay_27 ?_
      refine pm_top (x' := nI (1000 + 100 * p + i)) (by rw [pk_mul, nI_add, nI_add]) ?_
      refine pm_cVI (pc := 28) dX10_lay_28 (c_mTryAct hG hI (a_ok1 (s := x_g X) hp hi h12)) wq_X10_tryAct wm_X10_226 wi_X10_tryAct ws_X10_tryAct rfl rfl ⟨Nat.le_of_ble_eq_true rfl, Nat.le_of_ble_eq_true rfl⟩ ⟨Nat.le_of_ble_eq_true rfl, Nat.le_of_ble_eq_true rfl⟩ rfl (Nat.le_of_ble_eq_true rfl) (fun r28 I28 L28 q28 => ?_)
      obtain ⟨q1, q2, q3⟩ := q28
      subst q3
      refine pm_istore_n (pc := 31) dX10_lay_31 (by decide) rfl ?_
      refine pm_iload_n (pc := 32) dX10_lay_32 rfl ?_
      refine pm_if_ge (pc := 33) (tgt := 40) dX10_lay_33 rfl (fun h33 => ?_) (fun h33 => ?_)
      · refine pm_aload_n (pc := 40) dX10_lay_40 rfl ?_
        refine pm_iload_n (pc := 41) dX10_lay_41 rfl ?_
        refine pm_cVR (pc := 42) dX10_lay_42 (c_mLoadOf q2.1 (gInv_try hI (a_ok1 (s := x_g X) hp hi h12)) hp) wq_X10_loadOf wm_X10_127 wi_X10_loadOf ws_X10_loadOf rfl rfl ⟨Nat.le_of_ble_eq_true rfl, Nat.le_of_ble_eq_true rfl⟩ ⟨Nat.le_of_ble_eq_true rfl, Nat.le_of_ble_eq_true rfl⟩ rfl (Nat.le_of_ble_eq_true rfl) ?_
        refine pm_iret (pc := 45) rfl (Nat.le_refl _) (Nat.le_refl _) dX10_lay_45 ?_
        refine YQ.r ?_ (hR.g q2) q2.2.y
        have e : m_try (x_g X) (1000 + 100 * p + i) = if (s_try (x_g X) (1000 + 100 * p + i)).1 = 0 then nI i else (s_try (x_g X) (1000 + 100 * p + i)).1 := by unfold m_try a_res; rw [show 1000 + 100 * p + i = 1000 * 1 + 100 * p + i from rfl, a_h_of (by omega) (by omega), if_pos rfl, a_o_of (by omega)]
        rw [q1, e] at h33
        have h0 : ¬ (nI i < 0) := by rw [pm_ltI, nI_toInt (by omega), pm_t0]; omega
        rcases try_neg (s := x_g X) (c := 1000 + 100 * p + i) with k | k
        · rw [if_pos k] at h33
          first | exact absurd h33 h0 | (rw [pm_leI, nI_toInt (by omega), pm_t0] at h33; exfalso; omega) | exact (if_pos k).symm
        · have k' : ¬ (s_try (x_g X) (1000 + 100 * p + i)).1 = 0 := fun z => by rw [z] at k; exact absurd k (by decide)
          first | (rw [q1, e, if_neg k']; exact (if_neg k').symm) | (rw [if_neg k'] at h33; rw [pm_leI, pm_t0] at h33; rw [pm_ltI, pm_t0] at k; omega)
      · refine pm_iload_n (pc := 36) dX10_lay_36 rfl ?_
        refine pm_goto (pc := 37) (tgt := 45) dX10_lay_37 rfl ?_
        refine pm_iret (pc := 45) rfl (Nat.le_refl _) (Nat.le_refl _) dX10_lay_45 ?_
        refine YQ.r ?_ (hR.g q2) q2.2.y
        have e : m_try (x_g X) (1000 + 100 * p + i) = if (s_try (x_g X) (1000 + 100 * p + i)).1 = 0 then nI i else (s_try (x_g X) (1000 + 100 * p + i)).1 := by unfold m_try a_res; rw [show 1000 + 100 * p + i = 1000 * 1 + 100 * p + i from rfl, a_h_of (by omega) (by omega), if_pos rfl, a_o_of (by omega)]
        rw [q1, e] at h33
        have h0 : ¬ (nI i < 0) := by rw [pm_ltI, nI_toInt (by omega), pm_t0]; omega
        rcases try_neg (s := x_g X) (c := 1000 + 100 * p + i) with k | k
        · rw [if_pos k] at h33
          first | exact absurd h33 h0 | (rw [pm_leI, nI_toInt (by omega), pm_t0] at h33; exfalso; omega) | exact (if_pos k).symm
        · have k' : ¬ (s_try (x_g X) (1000 + 100 * p + i)).1 = 0 := fun z => by rw [z] at k; exact absurd k (by decide)
          first | (rw [q1, e, if_neg k']; exact (if_neg k').symm) | (rw [if_neg k'] at h33; rw [pm_leI, pm_t0] at h33; rw [pm_ltI, pm_t0] at k; omega)
    · refine pm_iconst (pc := 15) (v := (-1)) dX10_lay_15 (by decide) ?_
      refine pm_iret (pc := 16) rfl (Nat.le_refl _) (Nat.le_refl _) dX10_lay_16 ?_
      first | (rw [show sp_lay X x y = (-1, X) from if_neg (fun z => b1_nf h5 z.1)]; exact YQ.r rfl hR yF.rf) | (rw [show sp_lay X (nI i) y = (-1, X) from if_neg (fun z => b1_nf h12 z.2)]; exact YQ.r rfl hR yF.rf)
set_option maxRecDepth 100000 in
set_option maxHeartbeats 4000000 in
theorem y_swap {I : pm_I} {L : pm_L} {X : xS} (hR : MR I L X) (hX : xInv X) {x y : Int32} : PC 4 0 0 yX10_swap cX10_swap 3 (some (.int)) [.ref 40, .int x, .int y] GG I L (YQ I L (sp_swap X x y).1 (sp_swap X x y).2) := by
  have hG := hR.1
  have hI := hX.s
  have h12 := hI.n12
  refine PC.of [some (.ref 40), some (.int x), some (.int y)] (by decide) (Nat.le_of_ble_eq_true rfl) rfl (fun l P => ?_)
  refine pm_aload_n (pc := 0) dX10_swap_0 rfl ?_
  refine pm_iload_n (pc := 1) dX10_swap_1 rfl ?_
  refine pm_cVR (pc := 2) dX10_swap_2 (c_mIsPiece hG hI) wq_X10_isPiece wm_X10_114 wi_X10_isPiece ws_X10_isPiece rfl rfl ⟨Nat.le_of_ble_eq_true rfl, Nat.le_of_ble_eq_true rfl⟩ ⟨Nat.le_of_ble_eq_true rfl, Nat.le_of_ble_eq_true rfl⟩ rfl (Nat.le_of_ble_eq_true rfl) ?_
  refine pm_if_eq (pc := 5) (tgt := 32) dX10_swap_5 rfl (fun h5 => ?_) (fun h5 => ?_)
  · refine pm_iconst (pc := 32) (v := (-1)) dX10_swap_32 (by decide) ?_
    refine pm_iret (pc := 33) rfl (Nat.le_refl _) (Nat.le_refl _) dX10_swap_33 ?_
    first | (rw [show sp_swap X x y = (-1, X) from if_neg (fun z => b1_nf h5 z.1)]; exact YQ.r rfl hR yF.rf) | (rw [show sp_swap X x (nI i) = (-1, X) from if_neg (fun z => b1_nf h12 z.2)]; exact YQ.r rfl hR yF.rf) | exact YQ.r q1 (hR.g q2) q2.2.y
  · obtain ⟨i, hi, hi2, rfl⟩ := isPc_of hX (b1_nt h5)
    refine pm_iload_n (pc := 8) dX10_swap_8 rfl ?_
    refine pm_cSR (pc := 9) dX10_swap_9 (c_mIsPlace) wq_X10_isPlace wm_X10_124 wt_X10_isPlace ⟨Nat.le_of_ble_eq_true rfl, Nat.le_of_ble_eq_true rfl⟩ ⟨Nat.le_of_ble_eq_true rfl, Nat.le_of_ble_eq_true rfl⟩ rfl (Nat.le_of_ble_eq_true rfl) ?_
    refine pm_if_eq (pc := 12) (tgt := 32) dX10_swap_12 rfl (fun h12 => ?_) (fun h12 => ?_)
    · refine pm_iconst (pc := 32) (v := (-1)) dX10_swap_32 (by decide) ?_
      refine pm_iret (pc := 33) rfl (Nat.le_refl _) (Nat.le_refl _) dX10_swap_33 ?_
      first | (rw [show sp_swap X x y = (-1, X) from if_neg (fun z => b1_nf h5 z.1)]; exact YQ.r rfl hR yF.rf) | (rw [show sp_swap X x (nI i) = (-1, X) from if_neg (fun z => b1_nf h12 z.2)]; exact YQ.r rfl hR yF.rf) | exact YQ.r q1 (hR.g q2) q2.2.y
    · obtain ⟨p, hp, rfl⟩ := isPl_of (b1_nt h12)
      rw [sp_swap_t hX hp hi]
      have h12 := hI.n12
      refine pm_aload_n (pc := 15) dX10_swap_15 rfl ?_
      refine pm_sipush (pc := 16) (v := nI 2000) dX10_swap_16 (by decide) ?_
      refine pm_bipush (pc := 19) (v := nI 100) dX10_swap_19 (by decide) ?_
      refine pm_iload_n (pc := 21) dX10_swap_21 rfl ?_
      refine pm_imul (pc := 22) dX10_swap_22 ?_
      refine pm_iadd (pc := 23) dX10_swap_23 ?_
      refine pm_iload_n (pc := 24) dX10_swap_24 rfl ?_
      refine pm_iadd (pc := 25) dX10_swap_25 ?_
      refine pm_top (x' := nI (2000 + 100 * p + i)) (by rw [pk_mul, nI_add, nI_add]) ?_
      refine pm_cVI (pc := 26) dX10_swap_26 (c_mTryAct hG hI (a_ok2 (s := x_g X) hp hi h12)) wq_X10_tryAct wm_X10_226 wi_X10_tryAct ws_X10_tryAct rfl rfl ⟨Nat.le_of_ble_eq_true rfl, Nat.le_of_ble_eq_true rfl⟩ ⟨Nat.le_of_ble_eq_true rfl, Nat.le_of_ble_eq_true rfl⟩ rfl (Nat.le_of_ble_eq_true rfl) (fun r26 I26 L26 q26 => ?_)
      obtain ⟨q1, q2, q3⟩ := q26
      subst q3
      refine pm_goto (pc := 29) (tgt := 33) dX10_swap_29 rfl ?_
      refine pm_iret (pc := 33) rfl (Nat.le_refl _) (Nat.le_refl _) dX10_swap_33 ?_
      first | (rw [show sp_swap X x y = (-1, X) from if_neg (fun z => b1_nf h5 z.1)]; exact YQ.r rfl hR yF.rf) | (rw [show sp_swap X x (nI i) = (-1, X) from if_neg (fun z => b1_nf h12 z.2)]; exact YQ.r rfl hR yF.rf) | exact YQ.r q1 (hR.g q2) q2.2.y
set_option maxRecDepth 100000 in
set_option maxHeartbeats 4000000 in
theorem y_push {I : pm_I} {L : pm_L} {X : xS} (hR : MR I L X) (hX : xInv X) {x y : Int32} : PC 4 0 0 yX10_push cX10_push 3 (some (.int)) [.ref 40, .int x, .int y] GG I L (YQ I L (sp_push X x y).1 (sp_push X x y).2) := by
  have hG := hR.1
  have hI := hX.s
  have h12 := hI.n12
  refine PC.of [some (.ref 40), some (.int x), some (.int y)] (by decide) (Nat.le_of_ble_eq_true rfl) rfl (fun l P => ?_)
  refine pm_iload_n (pc := 0) dX10_push_0 rfl ?_
  refine pm_cSR (pc := 1) dX10_push_1 (c_mIsPlace) wq_X10_isPlace wm_X10_124 wt_X10_isPlace ⟨Nat.le_of_ble_eq_true rfl, Nat.le_of_ble_eq_true rfl⟩ ⟨Nat.le_of_ble_eq_true rfl, Nat.le_of_ble_eq_true rfl⟩ rfl (Nat.le_of_ble_eq_true rfl) ?_
  refine pm_if_eq (pc := 4) (tgt := 36) dX10_push_4 rfl (fun h4 => ?_) (fun h4 => ?_)
  · refine pm_iconst (pc := 36) (v := (-1)) dX10_push_36 (by decide) ?_
    refine pm_iret (pc := 37) rfl (Nat.le_refl _) (Nat.le_refl _) dX10_push_37 ?_
    first | exact YQ.r q1 (hR.g q2) q2.2.y | (rw [show sp_push X x y = (-1, X) from if_neg (fun z => b1_nf h4 z.1)]; exact YQ.r rfl hR yF.rf) | (rw [show sp_push X (nI p) y = (-1, X) from if_neg (fun z => b1_nf h11 z.2.1)]; exact YQ.r rfl hR yF.rf) | (rw [show sp_push X (nI p) (nI q) = (-1, X) from if_neg (fun z => z.2.2 h16)]; exact YQ.r rfl hR yF.rf)
  · obtain ⟨p, hp, rfl⟩ := isPl_of (b1_nt h4)
    refine pm_iload_n (pc := 7) dX10_push_7 rfl ?_
    refine pm_cSR (pc := 8) dX10_push_8 (c_mIsPlace) wq_X10_isPlace wm_X10_124 wt_X10_isPlace ⟨Nat.le_of_ble_eq_true rfl, Nat.le_of_ble_eq_true rfl⟩ ⟨Nat.le_of_ble_eq_true rfl, Nat.le_of_ble_eq_true rfl⟩ rfl (Nat.le_of_ble_eq_true rfl) ?_
    refine pm_if_eq (pc := 11) (tgt := 36) dX10_push_11 rfl (fun h11 => ?_) (fun h11 => ?_)
    · refine pm_iconst (pc := 36) (v := (-1)) dX10_push_36 (by decide) ?_
      refine pm_iret (pc := 37) rfl (Nat.le_refl _) (Nat.le_refl _) dX10_push_37 ?_
      first | exact YQ.r q1 (hR.g q2) q2.2.y | (rw [show sp_push X x y = (-1, X) from if_neg (fun z => b1_nf h4 z.1)]; exact YQ.r rfl hR yF.rf) | (rw [show sp_push X (nI p) y = (-1, X) from if_neg (fun z => b1_nf h11 z.2.1)]; exact YQ.r rfl hR yF.rf) | (rw [show sp_push X (nI p) (nI q) = (-1, X) from if_neg (fun z => z.2.2 h16)]; exact YQ.r rfl hR yF.rf)
    · obtain ⟨q, hq, rfl⟩ := isPl_of (b1_nt h11)
      refine pm_iload_n (pc := 14) dX10_push_14 rfl ?_
      refine pm_iload_n (pc := 15) dX10_push_15 rfl ?_
      refine pm_icmp_eq (pc := 16) (tgt := 36) dX10_push_16 rfl (fun h16 => ?_) (fun h16 => ?_)
      · refine pm_iconst (pc := 36) (v := (-1)) dX10_push_36 (by decide) ?_
        refine pm_iret (pc := 37) rfl (Nat.le_refl _) (Nat.le_refl _) dX10_push_37 ?_
        first | exact YQ.r q1 (hR.g q2) q2.2.y | (rw [show sp_push X x y = (-1, X) from if_neg (fun z => b1_nf h4 z.1)]; exact YQ.r rfl hR yF.rf) | (rw [show sp_push X (nI p) y = (-1, X) from if_neg (fun z => b1_nf h11 z.2.1)]; exact YQ.r rfl hR yF.rf) | (rw [show sp_push X (nI p) (nI q) = (-1, X) from if_neg (fun z => z.2.2 h16)]; exact YQ.r rfl hR yF.rf)
      · rw [sp_push_t hp hq h16]
        refine pm_aload_n (pc := 19) dX10_push_19 rfl ?_
        refine pm_sipush (pc := 20) (v := nI 3000) dX10_push_20 (by decide) ?_
        refine pm_bipush (pc := 23) (v := nI 100) dX10_push_23 (by decide) ?_
        refine pm_iload_n (pc := 25) dX10_push_25 rfl ?_
        refine pm_imul (pc := 26) dX10_push_26 ?_
        refine pm_iadd (pc := 27) dX10_push_27 ?_
        refine pm_iload_n (pc := 28) dX10_push_28 rfl ?_
        refine pm_iadd (pc := 29) dX10_push_29 ?_
        refine pm_top (x' := nI (3000 + 100 * p + q)) (by rw [pk_mul, nI_add, nI_add]) ?_
        refine pm_cVI (pc := 30) dX10_push_30 (c_mTryAct hG hI (a_ok3 (s := x_g X) hp hq (fun z => h16 (by rw [z])))) wq_X10_tryAct wm_X10_226 wi_X10_tryAct ws_X10_tryAct rfl rfl ⟨Nat.le_of_ble_eq_true rfl, Nat.le_of_ble_eq_true rfl⟩ ⟨Nat.le_of_ble_eq_true rfl, Nat.le_of_ble_eq_true rfl⟩ rfl (Nat.le_of_ble_eq_true rfl) (fun r30 I30 L30 q30 => ?_)
        obtain ⟨q1, q2, q3⟩ := q30
        subst q3
        refine pm_goto (pc := 33) (tgt := 37) dX10_push_33 rfl ?_
        refine pm_iret (pc := 37) rfl (Nat.le_refl _) (Nat.le_refl _) dX10_push_37 ?_
        first | exact YQ.r q1 (hR.g q2) q2.2.y | (rw [show sp_push X x y = (-1, X) from if_neg (fun z => b1_nf h4 z.1)]; exact YQ.r rfl hR yF.rf) | (rw [show sp_push X (nI p) y = (-1, X) from if_neg (fun z => b1_nf h11 z.2.1)]; exact YQ.r rfl hR yF.rf) | (rw [show sp_push X (nI p) (nI q) = (-1, X) from if_neg (fun z => z.2.2 h16)]; exact YQ.r rfl hR yF.rf)
theorem y_turn {I : pm_I} {L : pm_L} {X : xS} (hR : MR I L X) (hX : xInv X) : PC 1 0 0 yX10_turn cX10_turn 4 (some (.int)) [.ref 40] GG I L (YQ I L (sp_turn X).1 (sp_turn X).2) := by
  refine PC.mono (c_mTurn hR.1 hX.s) (fun v G' I' L' h => ?_)
  obtain ⟨r, e1, e2, e3, e4, e5⟩ := h
  subst e2 e1 e5
  exact YQ.r e3 (hR.h e4.1 ⟨e4.2.1 48 (by omega) (by decide) (by decide), e4.2.1 60 (by omega) (by decide) (by decide), e4.2.1 61 (by omega) (by decide) (by decide), e4.2.1 62 (by omega) (by decide) (by decide)⟩ (fun k _ _ => by rw [e4.2.2])) (fun a ha => ⟨e4.2.1 a (Or.inl ha) (by omega) (by omega), rfl⟩)
set_option maxRecDepth 100000 in
set_option maxHeartbeats 4000000 in
theorem y_piece {I : pm_I} {L : pm_L} {X : xS} (hR : MR I L X) (hX : xInv X) {k w t p : Int32} : PC 2 0 0 yX10_piece cX10_piece 5 (some (.int)) [.ref 40, .int k, .int w, .int t, .int p] GG I L (YQ I L (sp_piece X k w t p).1 (sp_piece X k w t p).2) := by
  have hG := hR.1
  have hI := hX.s
  have h12 := hI.n12
  refine PC.of [some (.ref 40), some (.int k), some (.int w), some (.int t), some (.int p)] (by decide) (Nat.le_of_ble_eq_true rfl) rfl (fun l P => ?_)
  refine pm_iload_n (pc := 0) dX10_piece_0 rfl ?_
  refine pm_i2l (pc := 1) dX10_piece_1 ?_
  refine pm_lconst (pc := 2) (v := 0) dX10_piece_2 (by decide) ?_
  refine pm_ldc2 (pc := 3) wk_X10_104 dX10_piece_3 ?_
  refine pm_cSR (pc := 6) dX10_piece_6 (c_mInI (a := 0) (b := 3) (by decide) (by decide)) wq_X10_in wm_X10_87 wt_X10_in ⟨Nat.le_of_ble_eq_true rfl, Nat.le_of_ble_eq_true rfl⟩ ⟨Nat.le_of_ble_eq_true rfl, Nat.le_of_ble_eq_true rfl⟩ rfl (Nat.le_of_ble_eq_true rfl) ?_
  refine pm_if_eq (pc := 9) (tgt := 49) dX10_piece_9 rfl (fun h9 => ?_) (fun h9 => ?_)
  · refine pm_iconst (pc := 49) (v := (-1)) dX10_piece_49 (by decide) ?_
    refine pm_iret (pc := 50) rfl (Nat.le_refl _) (Nat.le_refl _) dX10_piece_50 ?_
    first | (rw [show sp_piece X k w t p = (-1, X) from if_pos (fun z => b1_nf h9 z.1)]; exact YQ.r rfl hR yF.rf) | (rw [show sp_piece X k w t p = (-1, X) from if_pos (fun z => b1_nf h21 z.2.1)]; exact YQ.r rfl hR yF.rf) | (rw [show sp_piece X k w t p = (-1, X) from if_pos (fun z => b1_nf h33 z.2.2.1)]; exact YQ.r rfl hR yF.rf) | (rw [show sp_piece X k w t p = (-1, X) from if_pos (fun z => b1_nf h46 z.2.2.2)]; exact YQ.r rfl hR yF.rf)
  · refine pm_iload_n (pc := 12) dX10_piece_12 rfl ?_
    refine pm_i2l (pc := 13) dX10_piece_13 ?_
    refine pm_lconst (pc := 14) (v := 1) dX10_piece_14 (by decide) ?_
    refine pm_ldc2 (pc := 15) wk_X10_106 dX10_piece_15 ?_
    refine pm_cSR (pc := 18) dX10_piece_18 (c_mInI (a := 1) (b := 99) (by decide) (by decide)) wq_X10_in wm_X10_87 wt_X10_in ⟨Nat.le_of_ble_eq_true rfl, Nat.le_of_ble_eq_true rfl⟩ ⟨Nat.le_of_ble_eq_true rfl, Nat.le_of_ble_eq_true rfl⟩ rfl (Nat.le_of_ble_eq_true rfl) ?_
    refine pm_if_eq (pc := 21) (tgt := 49) dX10_piece_21 rfl (fun h21 => ?_) (fun h21 => ?_)
    · refine pm_iconst (pc := 49) (v := (-1)) dX10_piece_49 (by decide) ?_
      refine pm_iret (pc := 50) rfl (Nat.le_refl _) (Nat.le_refl _) dX10_piece_50 ?_
      first | (rw [show sp_piece X k w t p = (-1, X) from if_pos (fun z => b1_nf h9 z.1)]; exact YQ.r rfl hR yF.rf) | (rw [show sp_piece X k w t p = (-1, X) from if_pos (fun z => b1_nf h21 z.2.1)]; exact YQ.r rfl hR yF.rf) | (rw [show sp_piece X k w t p = (-1, X) from if_pos (fun z => b1_nf h33 z.2.2.1)]; exact YQ.r rfl hR yF.rf) | (rw [show sp_piece X k w t p = (-1, X) from if_pos (fun z => b1_nf h46 z.2.2.2)]; exact YQ.r rfl hR yF.rf)
    · refine pm_iload_n (pc := 24) dX10_piece_24 rfl ?_
      refine pm_i2l (pc := 25) dX10_piece_25 ?_
      refine pm_lconst (pc := 26) (v := 0) dX10_piece_26 (by decide) ?_
      refine pm_ldc2 (pc := 27) wk_X10_104 dX10_piece_27 ?_
      refine pm_cSR (pc := 30) dX10_piece_30 (c_mInI (a := 0) (b := 3) (by decide) (by decide)) wq_X10_in wm_X10_87 wt_X10_in ⟨Nat.le_of_ble_eq_true rfl, Nat.le_of_ble_eq_true rfl⟩ ⟨Nat.le_of_ble_eq_true rfl, Nat.le_of_ble_eq_true rfl⟩ rfl (Nat.le_of_ble_eq_true rfl) ?_
      refine pm_if_eq (pc := 33) (tgt := 49) dX10_piece_33 rfl (fun h33 => ?_) (fun h33 => ?_)
      · refine pm_iconst (pc := 49) (v := (-1)) dX10_piece_49 (by decide) ?_
        refine pm_iret (pc := 50) rfl (Nat.le_refl _) (Nat.le_refl _) dX10_piece_50 ?_
        first | (rw [show sp_piece X k w t p = (-1, X) from if_pos (fun z => b1_nf h9 z.1)]; exact YQ.r rfl hR yF.rf) | (rw [show sp_piece X k w t p = (-1, X) from if_pos (fun z => b1_nf h21 z.2.1)]; exact YQ.r rfl hR yF.rf) | (rw [show sp_piece X k w t p = (-1, X) from if_pos (fun z => b1_nf h33 z.2.2.1)]; exact YQ.r rfl hR yF.rf) | (rw [show sp_piece X k w t p = (-1, X) from if_pos (fun z => b1_nf h46 z.2.2.2)]; exact YQ.r rfl hR yF.rf)
      · refine pm_iload (pc := 36) dX10_piece_36 rfl ?_
        refine pm_i2l (pc := 38) dX10_piece_38 ?_
        refine pm_lconst (pc := 39) (v := 0) dX10_piece_39 (by decide) ?_
        refine pm_ldc2 (pc := 40) wk_X10_108 dX10_piece_40 ?_
        refine pm_cSR (pc := 43) dX10_piece_43 (c_mInI (a := 0) (b := 6) (by decide) (by decide)) wq_X10_in wm_X10_87 wt_X10_in ⟨Nat.le_of_ble_eq_true rfl, Nat.le_of_ble_eq_true rfl⟩ ⟨Nat.le_of_ble_eq_true rfl, Nat.le_of_ble_eq_true rfl⟩ rfl (Nat.le_of_ble_eq_true rfl) ?_
        refine pm_if_ne (pc := 46) (tgt := 51) dX10_piece_46 rfl (fun h46 => ?_) (fun h46 => ?_)
        · obtain ⟨k, hk, rfl⟩ := iR_of (b := 3) (by decide) (b1_nt h9)
          obtain ⟨w, hw1, hw, rfl⟩ := iR1_of (b := 99) (by decide) (b1_nt h21)
          obtain ⟨t, ht, rfl⟩ := iR_of (b := 3) (by decide) (b1_nt h33)
          obtain ⟨p, hp, rfl⟩ := iR_of (b := 6) (by decide) (b1_nt h46)
          rw [sp_piece_t hk ⟨hw1, hw⟩ ht hp]
          refine pm_aload_n (pc := 51) dX10_piece_51 rfl ?_
          refine pm_get (pc := 52) (ci := 8) (C0 := RX10) (T := TX10) (N := 34) (j := 0) rfl rfl in_X10 (by decide) wf_X10_83 rfl dX10_piece_52 ?_
          refine pm_bipush (pc := 55) (v := nI 12) dX10_piece_55 (by decide) ?_
          refine pm_icmp_ne (pc := 57) (tgt := 63) dX10_piece_57 rfl (fun h57 => ?_) (fun h57 => ?_)
          · have hn : ¬ g_n (x_g X) = 12 := fun z => h57 (by rw [hG.n, z])
            rw [if_neg hn]
            refine pm_aload_n (pc := 63) dX10_piece_63 rfl ?_
            refine pm_iload_n (pc := 64) dX10_piece_64 rfl ?_
            refine pm_iload_n (pc := 65) dX10_piece_65 rfl ?_
            refine pm_iload_n (pc := 66) dX10_piece_66 rfl ?_
            refine pm_iload (pc := 67) dX10_piece_67 rfl ?_
            refine pm_cVV (pc := 69) dX10_piece_69 (c_mAddPiece hG hI (by omega) (by omega) ⟨hw1, hw⟩ (by omega) (by omega)) wq_X10_addPiece wm_X10_110 wi_X10_addPiece ws_X10_addPiece rfl rfl ⟨Nat.le_of_ble_eq_true rfl, Nat.le_of_ble_eq_true rfl⟩ ⟨Nat.le_of_ble_eq_true rfl, Nat.le_of_ble_eq_true rfl⟩ rfl (Nat.le_of_ble_eq_true rfl) (fun I69 L69 q69 => ?_)
            obtain ⟨q1, q2⟩ := q69
            subst q2
            refine pm_aload_n (pc := 72) dX10_piece_72 rfl ?_
            refine pm_get (pc := 73) (ci := 8) (C0 := RX10) (T := TX10) (N := 34) (j := 0) rfl rfl in_X10 (by decide) wf_X10_83 rfl dX10_piece_73 ?_
            refine pm_iconst (pc := 76) (v := nI 1) dX10_piece_76 (by decide) ?_
            refine pm_isub (pc := 77) dX10_piece_77 ?_
            refine pm_iret (pc := 78) rfl (Nat.le_refl _) (Nat.le_refl _) dX10_piece_78 ?_
            refine YQ.r ?_ (hR.g q1) q1.2.y
            rw [q1.1.n, show g_n (s_add (x_g X) k w t p) = g_n (x_g X) + 1 by unfold s_add; split <;> rfl, pk_sub (by omega)]
            rfl
          · have hn : g_n (x_g X) = 12 := by have h : I 40 0 = nI 12 := h57; rw [hG.n, nI_eq (by omega) (by decide)] at h; exact h
            rw [if_pos hn]
            refine pm_bipush (pc := 60) (v := (-3)) dX10_piece_60 (by decide) ?_
            refine pm_iret (pc := 62) rfl (Nat.le_refl _) (Nat.le_refl _) dX10_piece_62 ?_
            exact YQ.r rfl hR yF.rf
        · refine pm_iconst (pc := 49) (v := (-1)) dX10_piece_49 (by decide) ?_
          refine pm_iret (pc := 50) rfl (Nat.le_refl _) (Nat.le_refl _) dX10_piece_50 ?_
          first | (rw [show sp_piece X k w t p = (-1, X) from if_pos (fun z => b1_nf h9 z.1)]; exact YQ.r rfl hR yF.rf) | (rw [show sp_piece X k w t p = (-1, X) from if_pos (fun z => b1_nf h21 z.2.1)]; exact YQ.r rfl hR yF.rf) | (rw [show sp_piece X k w t p = (-1, X) from if_pos (fun z => b1_nf h33 z.2.2.1)]; exact YQ.r rfl hR yF.rf) | (rw [show sp_piece X k w t p = (-1, X) from if_pos (fun z => b1_nf h46 z.2.2.2)]; exact YQ.r rfl hR yF.rf)
def IM (I : pm_I) (i k l : Nat) (J : pm_I) : Prop := (∀ a : Nat, a ≠ 60 → J a = I a) ∧ (∀ j, j < i → J 60 j = I 41 j ∧ J 60 (12 + j) = I 42 j ∧ J 60 (24 + j) = I 43 j ∧ J 60 (36 + j) = I 44 j) ∧ (∀ j, j < k → J 60 (48 + j) = I 45 j ∧ J 60 (54 + j) = I 47 j) ∧ ∀ j, j < l → J 60 (60 + j) = I 46 j
theorem IM_1 {I J : pm_I} {i : Nat} (h : IM I i 0 0 J) (hi : i < 12) : IM I (i + 1) 0 0 (pm_u (pm_u (pm_u (pm_u J 60 (upd (J 60) i (J 41 i))) 60 (upd (upd (J 60) i (J 41 i)) (12 + i) (J 42 i))) 60 (upd (upd (upd (J 60) i (J 41 i)) (12 + i) (J 42 i)) (24 + i) (J 43 i))) 60 (upd (upd (upd (upd (J 60) i (J 41 i)) (12 + i) (J 42 i)) (24 + i) (J 43 i)) (36 + i) (J 44 i))) := by
  have h41 := h.1 41 (by decide)
  have h42 := h.1 42 (by decide)
  have h43 := h.1 43 (by decide)
  have h44 := h.1 44 (by decide)
  refine ⟨fun a ha => ?_, fun j hj => ?_, fun j hj => absurd hj (Nat.not_lt_zero j), fun j hj => absurd hj (Nat.not_lt_zero j)⟩
  · simp (disch := omega) only [pm_un]; exact h.1 a ha
  · by_cases e : j = i
    · subst e
      refine ⟨?_, ?_, ?_, ?_⟩ <;> simp (disch := omega) only [pm_us, pk_us, pk_un, h41, h42, h43, h44]
    · have q := h.2.1 j (by omega)
      refine ⟨?_, ?_, ?_, ?_⟩ <;> simp (disch := omega) only [pm_us, pk_un, q.1, q.2.1, q.2.2.1, q.2.2.2]
theorem IM_2 {I J : pm_I} {i : Nat} (h : IM I 12 i 0 J) (hi : i < 6) : IM I 12 (i + 1) 0 (pm_u (pm_u J 60 (upd (J 60) (48 + i) (J 45 i))) 60 (upd (upd (J 60) (48 + i) (J 45 i)) (54 + i) (J 47 i))) := by
  have h45 := h.1 45 (by decide)
  have h47 := h.1 47 (by decide)
  refine ⟨fun a ha => ?_, fun j hj => ?_, fun j hj => ?_, fun j hj => absurd hj (Nat.not_lt_zero j)⟩
  · simp (disch := omega) only [pm_un]; exact h.1 a ha
  · have q := h.2.1 j (by omega)
    refine ⟨?_, ?_, ?_, ?_⟩ <;> simp (disch := omega) only [pm_us, pk_un, q.1, q.2.1, q.2.2.1, q.2.2.2]
  · by_cases e : j = i
    · subst e
      refine ⟨?_, ?_⟩ <;> simp (disch := omega) only [pm_us, pk_us, pk_un, h45, h47]
    · have q := h.2.2.1 j (by omega)
      refine ⟨?_, ?_⟩ <;> simp (disch := omega) only [pm_us, pk_un, q.1, q.2]
theorem IM_3 {I J : pm_I} {i : Nat} (h : IM I 12 6 i J) : IM I 12 6 (i + 1) (pm_u J 60 (upd (J 60) (60 + i) (J 46 i))) := by
  have h46 := h.1 46 (by decide)
  refine ⟨fun a ha => ?_, fun j hj => ?_, fun j hj => ?_, fun j hj => ?_⟩
  · simp (disch := omega) only [pm_un]; exact h.1 a ha
  · have q := h.2.1 j (by omega)
    refine ⟨?_, ?_, ?_, ?_⟩ <;> simp (disch := omega) only [pm_us, pk_un, q.1, q.2.1, q.2.2.1, q.2.2.2]
  · have q := h.2.2.1 j (by omega)
    refine ⟨?_, ?_⟩ <;> simp (disch := omega) only [pm_us, pk_un, q.1, q.2]
  · by_cases e : j = i
    · subst e
      simp (disch := omega) only [pm_us, pk_us, h46]
    · have q := h.2.2.2 j (by omega)
      simp (disch := omega) only [pm_us, pk_un, q]
theorem IM_end {I J : pm_I} {L : pm_L} {X : xS} (hR : MR I L X) (hX : xInv X) (h : IM (pm_u (pm_u (pm_u I 40 (upd (I 40) 26 (nI 1))) 40 (upd (upd (I 40) 26 (nI 1)) 27 (I 40 0))) 40 (upd (upd (upd (I 40) 26 (nI 1)) 27 (I 40 0)) 28 (I 40 8))) 12 6 72 J) : MR J L (xi X (x_g X)) ∧ ∀ a : Nat, a < 40 → J a = I a := by
  have hG := hR.1
  have hI := hX.s
  have h12 := hI.n12
  have f : ∀ k : Nat, k ≠ 26 → k ≠ 27 → k ≠ 28 → J 40 k = I 40 k := fun k h1 h2 h3 => by
    rw [h.1 40 (by decide)]
    simp (disch := omega) only [pm_us, pk_un]
  have e : ∀ a : Nat, a ≠ 40 → a ≠ 60 → J a = I a := fun a h1 h2 => by
    rw [h.1 a h2]
    simp (disch := omega) only [pm_un]
  refine ⟨⟨?_, ⟨?_, ?_, ?_, fun j hj => ?_, fun p hp => ⟨?_, ?_, fun k hk => ?_⟩⟩, ?_, fun q hq => ⟨?_, (hR.2.2.2 q hq).2⟩⟩, fun a ha => e a (by omega) (by omega)⟩
  · show MG J (x_g X)
    unfold MG at hG ⊢
    rw [f 0 (by decide) (by decide) (by decide), f 8 (by decide) (by decide) (by decide), e 41 (by decide) (by decide), e 42 (by decide) (by decide), e 43 (by decide) (by decide), e 44 (by decide) (by decide), e 45 (by decide) (by decide), e 46 (by decide) (by decide), e 47 (by decide) (by decide)]
    exact hG
  · rw [h.1 40 (by decide)]
    simp (disch := omega) only [pm_us, pk_us, pk_un]
  · rw [h.1 40 (by decide)]
    simp (disch := omega) only [pm_us, pk_us, pk_un]
    exact hG.n
  · rw [h.1 40 (by decide)]
    simp (disch := omega) only [pm_us, pk_us, pk_un]
    exact hG.aw
  · have q := h.2.1 j (by omega)
    simp (disch := omega) only [pm_un] at q
    rw [q.1, q.2.1, q.2.2.1, q.2.2.2]
    exact ⟨hG.kd hj, hG.wt hj, hG.tw hj, hG.wh hj⟩
  · have q := h.2.2.1 p hp
    simp (disch := omega) only [pm_un] at q
    rw [q.1]; exact hG.mn hp
  · have q := h.2.2.1 p hp
    simp (disch := omega) only [pm_un] at q
    rw [q.2]; exact hG.sn hp
  · have hl := hI.len hp
    have q := h.2.2.2 (12 * p + k) (by omega)
    simp (disch := omega) only [pm_un] at q
    rw [q]; exact hG.pl hp hk
  · have h1 := hR.2.2.1
    show MT_ J (x_t X)
    unfold MT_ at h1 ⊢
    rw [f 10 (by decide) (by decide) (by decide), e 48 (by decide) (by decide)]; exact h1
  · have h1 := (hR.2.2.2 q hq).1
    show MS J q (x_s X q)
    unfold MS at h1 ⊢
    rw [e 61 (by decide) (by decide), e 62 (by decide) (by decide)]; exact h1
set_option maxRecDepth 100000 in
set_option maxHeartbeats 4000000 in
theorem l_image3 {I I0 : pm_I} {L : pm_L} {X : xS} (hend : ∀ J : pm_I, IM I 12 6 72 J → MR J L (xi X (x_g X)) ∧ ∀ a : Nat, a < 40 → J a = I0 a) {l : Launch} {P : pm_E} : ∀ (m i : Nat) (J : pm_I), i + m = 72 → IM I 12 6 i J → PW l P yX10_image cX10_image 2 (some (.int)) (pm_rm 0 0 0) (pm_Tg P (YQ I0 L (sp_image X).1 (sp_image X).2) 0 0) 0 0 138 [some (.ref 40), some (.int (nI i))] [] GG J L
  | 0, i, J, hm, hT => by
    have e : i = 72 := by omega
    subst e
    refine pm_iload_n (pc := 138) dX10_image_138 rfl ?_
    refine pm_bipush (pc := 139) (v := nI 72) dX10_image_139 (by decide) ?_
    refine pm_icmp_ge (pc := 141) (tgt := 165) dX10_image_141 rfl (fun h141 => ?_) (fun h141 => (by simp (disch := omega) only [pm_eqI, pm_ltI, pm_leI, nI_toInt, pm_t0, pm_t1, pm_tm1] at h141; omega))
    refine pm_iconst (pc := 165) (v := nI 1) dX10_image_165 (by decide) ?_
    refine pm_iret (pc := 166) rfl (Nat.le_refl _) (Nat.le_refl _) dX10_image_166 ?_
    have k := hend J hT
    exact YQ.r rfl k.1 (fun a ha => ⟨k.2 a ha, rfl⟩)
  | m + 1, i, J, hm, hT => by
    refine pm_iload_n (pc := 138) dX10_image_138 rfl ?_
    refine pm_bipush (pc := 139) (v := nI 72) dX10_image_139 (by decide) ?_
    refine pm_icmp_ge (pc := 141) (tgt := 165) dX10_image_141 rfl (fun h141 => (by simp (disch := omega) only [pm_eqI, pm_ltI, pm_leI, nI_toInt, pm_t0, pm_t1, pm_tm1] at h141; omega)) (fun h141 => ?_)
    refine pm_aload_n (pc := 144) dX10_image_144 rfl ?_
    refine pm_getr (pc := 145) (ci := 8) (C0 := RX10) (T := TX10) (N := 34) (j := 29) rfl rfl in_X10 (by decide) wf_X10_67 rfl dX10_image_145 ?_
    refine pm_bipush (pc := 148) (v := nI 60) dX10_image_148 (by decide) ?_
    refine pm_iload_n (pc := 150) dX10_image_150 rfl ?_
    refine pm_iadd (pc := 151) dX10_image_151 ?_
    refine pm_top (x' := nI (60 + i)) (nI_add _ _) ?_
    refine pm_aload_n (pc := 152) dX10_image_152 rfl ?_
    refine pm_getr (pc := 153) (ci := 8) (C0 := RX10) (T := TX10) (N := 34) (j := 6) rfl rfl in_X10 (by decide) wf_X10_25 rfl dX10_image_153 ?_
    refine pm_iload_n (pc := 156) dX10_image_156 rfl ?_
    refine pm_iald (pc := 157) rfl (by omega) (by decide) dX10_image_157 ?_
    refine pm_iast (pc := 158) rfl (by omega) (by decide) dX10_image_158 ?_
    refine pm_iinc (pc := 159) dX10_image_159 rfl (pm_inc1 _) (by decide) rfl ?_
    refine pm_goto (pc := 162) (tgt := 138) dX10_image_162 rfl ?_
    exact l_image3 hend m (i + 1) _ (by omega) (IM_3 hT)
set_option maxRecDepth 100000 in
set_option maxHeartbeats 4000000 in
theorem l_image2 {I I0 : pm_I} {L : pm_L} {X : xS} (hend : ∀ J : pm_I, IM I 12 6 72 J → MR J L (xi X (x_g X)) ∧ ∀ a : Nat, a < 40 → J a = I0 a) {l : Launch} {P : pm_E} : ∀ (m i : Nat) (J : pm_I), i + m = 6 → IM I 12 i 0 J → PW l P yX10_image cX10_image 2 (some (.int)) (pm_rm 0 0 0) (pm_Tg P (YQ I0 L (sp_image X).1 (sp_image X).2) 0 0) 0 0 94 [some (.ref 40), some (.int (nI i))] [] GG J L
  | 0, i, J, hm, hT => by
    have e : i = 6 := by omega
    subst e
    refine pm_iload_n (pc := 94) dX10_image_94 rfl ?_
    refine pm_bipush (pc := 95) (v := nI 6) dX10_image_95 (by decide) ?_
    refine pm_icmp_ge (pc := 97) (tgt := 136) dX10_image_97 rfl (fun h97 => ?_) (fun h97 => (by simp (disch := omega) only [pm_eqI, pm_ltI, pm_leI, nI_toInt, pm_t0, pm_t1, pm_tm1] at h97; omega))
    refine pm_iconst (pc := 136) (v := nI 0) dX10_image_136 (by decide) ?_
    refine pm_istore_n (pc := 137) dX10_image_137 (by decide) rfl ?_
    exact l_image3 hend 72 0 J (by omega) hT
  | m + 1, i, J, hm, hT => by
    refine pm_iload_n (pc := 94) dX10_image_94 rfl ?_
    refine pm_bipush (pc := 95) (v := nI 6) dX10_image_95 (by decide) ?_
    refine pm_icmp_ge (pc := 97) (tgt := 136) dX10_image_97 rfl (fun h97 => (by simp (disch := omega) only [pm_eqI, pm_ltI, pm_leI, nI_toInt, pm_t0, pm_t1, pm_tm1] at h97; omega)) (fun h97 => ?_)
    refine pm_aload_n (pc := 100) dX10_image_100 rfl ?_
    refine pm_getr (pc := 101) (ci := 8) (C0 := RX10) (T := TX10) (N := 34) (j := 29) rfl rfl in_X10 (by decide) wf_X10_67 rfl dX10_image_101 ?_
    refine pm_bipush (pc := 104) (v := nI 48) dX10_image_104 (by decide) ?_
    refine pm_iload_n (pc := 106) dX10_image_106 rfl ?_
    refine pm_iadd (pc := 107) dX10_image_107 ?_
    refine pm_top (x' := nI (48 + i)) (nI_add _ _) ?_
    refine pm_aload_n (pc := 108) dX10_image_108 rfl ?_
    refine pm_getr (pc := 109) (ci := 8) (C0 := RX10) (T := TX10) (N := 34) (j := 5) rfl rfl in_X10 (by decide) wf_X10_22 rfl dX10_image_109 ?_
    refine pm_iload_n (pc := 112) dX10_image_112 rfl ?_
    refine pm_iald (pc := 113) rfl (by omega) (by decide) dX10_image_113 ?_
    refine pm_iast (pc := 114) rfl (by omega) (by decide) dX10_image_114 ?_
    refine pm_aload_n (pc := 115) dX10_image_115 rfl ?_
    refine pm_getr (pc := 116) (ci := 8) (C0 := RX10) (T := TX10) (N := 34) (j := 29) rfl rfl in_X10 (by decide) wf_X10_67 rfl dX10_image_116 ?_
    refine pm_bipush (pc := 119) (v := nI 54) dX10_image_119 (by decide) ?_
    refine pm_iload_n (pc := 121) dX10_image_121 rfl ?_
    refine pm_iadd (pc := 122) dX10_image_122 ?_
    refine pm_top (x' := nI (54 + i)) (nI_add _ _) ?_
    refine pm_aload_n (pc := 123) dX10_image_123 rfl ?_
    refine pm_getr (pc := 124) (ci := 8) (C0 := RX10) (T := TX10) (N := 34) (j := 7) rfl rfl in_X10 (by decide) wf_X10_28 rfl dX10_image_124 ?_
    refine pm_iload_n (pc := 127) dX10_image_127 rfl ?_
    refine pm_iald (pc := 128) rfl (by omega) (by decide) dX10_image_128 ?_
    refine pm_iast (pc := 129) rfl (by omega) (by decide) dX10_image_129 ?_
    refine pm_iinc (pc := 130) dX10_image_130 rfl (pm_inc1 _) (by decide) rfl ?_
    refine pm_goto (pc := 133) (tgt := 94) dX10_image_133 rfl ?_
    exact l_image2 hend m (i + 1) _ (by omega) (IM_2 hT (by omega))
set_option maxRecDepth 100000 in
set_option maxHeartbeats 4000000 in
theorem l_image1 {I I0 : pm_I} {L : pm_L} {X : xS} (hend : ∀ J : pm_I, IM I 12 6 72 J → MR J L (xi X (x_g X)) ∧ ∀ a : Nat, a < 40 → J a = I0 a) {l : Launch} {P : pm_E} : ∀ (m i : Nat) (J : pm_I), i + m = 12 → IM I i 0 0 J → PW l P yX10_image cX10_image 2 (some (.int)) (pm_rm 0 0 0) (pm_Tg P (YQ I0 L (sp_image X).1 (sp_image X).2) 0 0) 0 0 23 [some (.ref 40), some (.int (nI i))] [] GG J L
  | 0, i, J, hm, hT => by
    have e : i = 12 := by omega
    subst e
    refine pm_iload_n (pc := 23) dX10_image_23 rfl ?_
    refine pm_bipush (pc := 24) (v := nI 12) dX10_image_24 (by decide) ?_
    refine pm_icmp_ge (pc := 26) (tgt := 92) dX10_image_26 rfl (fun h26 => ?_) (fun h26 => (by simp (disch := omega) only [pm_eqI, pm_ltI, pm_leI, nI_toInt, pm_t0, pm_t1, pm_tm1] at h26; omega))
    refine pm_iconst (pc := 92) (v := nI 0) dX10_image_92 (by decide) ?_
    refine pm_istore_n (pc := 93) dX10_image_93 (by decide) rfl ?_
    exact l_image2 hend 6 0 J (by omega) hT
  | m + 1, i, J, hm, hT => by
    refine pm_iload_n (pc := 23) dX10_image_23 rfl ?_
    refine pm_bipush (pc := 24) (v := nI 12) dX10_image_24 (by decide) ?_
    refine pm_icmp_ge (pc := 26) (tgt := 92) dX10_image_26 rfl (fun h26 => (by simp (disch := omega) only [pm_eqI, pm_ltI, pm_leI, nI_toInt, pm_t0, pm_t1, pm_tm1] at h26; omega)) (fun h26 => ?_)
    refine pm_aload_n (pc := 29) dX10_image_29 rfl ?_
    refine pm_getr (pc := 30) (ci := 8) (C0 := RX10) (T := TX10) (N := 34) (j := 29) rfl rfl in_X10 (by decide) wf_X10_67 rfl dX10_image_30 ?_
    refine pm_iload_n (pc := 33) dX10_image_33 rfl ?_
    refine pm_aload_n (pc := 34) dX10_image_34 rfl ?_
    refine pm_getr (pc := 35) (ci := 8) (C0 := RX10) (T := TX10) (N := 34) (j := 1) rfl rfl in_X10 (by decide) wf_X10_7 rfl dX10_image_35 ?_
    refine pm_iload_n (pc := 38) dX10_image_38 rfl ?_
    refine pm_iald (pc := 39) rfl (by omega) (by decide) dX10_image_39 ?_
    refine pm_iast (pc := 40) rfl (by omega) (by decide) dX10_image_40 ?_
    refine pm_aload_n (pc := 41) dX10_image_41 rfl ?_
    refine pm_getr (pc := 42) (ci := 8) (C0 := RX10) (T := TX10) (N := 34) (j := 29) rfl rfl in_X10 (by decide) wf_X10_67 rfl dX10_image_42 ?_
    refine pm_bipush (pc := 45) (v := nI 12) dX10_image_45 (by decide) ?_
    refine pm_iload_n (pc := 47) dX10_image_47 rfl ?_
    refine pm_iadd (pc := 48) dX10_image_48 ?_
    refine pm_top (x' := nI (12 + i)) (nI_add _ _) ?_
    refine pm_aload_n (pc := 49) dX10_image_49 rfl ?_
    refine pm_getr (pc := 50) (ci := 8) (C0 := RX10) (T := TX10) (N := 34) (j := 2) rfl rfl in_X10 (by decide) wf_X10_13 rfl dX10_image_50 ?_
    refine pm_iload_n (pc := 53) dX10_image_53 rfl ?_
    refine pm_iald (pc := 54) rfl (by omega) (by decide) dX10_image_54 ?_
    refine pm_iast (pc := 55) rfl (by omega) (by decide) dX10_image_55 ?_
    refine pm_aload_n (pc := 56) dX10_image_56 rfl ?_
    refine pm_getr (pc := 57) (ci := 8) (C0 := RX10) (T := TX10) (N := 34) (j := 29) rfl rfl in_X10 (by decide) wf_X10_67 rfl dX10_image_57 ?_
    refine pm_bipush (pc := 60) (v := nI 24) dX10_image_60 (by decide) ?_
    refine pm_iload_n (pc := 62) dX10_image_62 rfl ?_
    refine pm_iadd (pc := 63) dX10_image_63 ?_
    refine pm_top (x' := nI (24 + i)) (nI_add _ _) ?_
    refine pm_aload_n (pc := 64) dX10_image_64 rfl ?_
    refine pm_getr (pc := 65) (ci := 8) (C0 := RX10) (T := TX10) (N := 34) (j := 3) rfl rfl in_X10 (by decide) wf_X10_16 rfl dX10_image_65 ?_
    refine pm_iload_n (pc := 68) dX10_image_68 rfl ?_
    refine pm_iald (pc := 69) rfl (by omega) (by decide) dX10_image_69 ?_
    refine pm_iast (pc := 70) rfl (by omega) (by decide) dX10_image_70 ?_
    refine pm_aload_n (pc := 71) dX10_image_71 rfl ?_
    refine pm_getr (pc := 72) (ci := 8) (C0 := RX10) (T := TX10) (N := 34) (j := 29) rfl rfl in_X10 (by decide) wf_X10_67 rfl dX10_image_72 ?_
    refine pm_bipush (pc := 75) (v := nI 36) dX10_image_75 (by decide) ?_
    refine pm_iload_n (pc := 77) dX10_image_77 rfl ?_
    refine pm_iadd (pc := 78) dX10_image_78 ?_
    refine pm_top (x' := nI (36 + i)) (nI_add _ _) ?_
    refine pm_aload_n (pc := 79) dX10_image_79 rfl ?_
    refine pm_getr (pc := 80) (ci := 8) (C0 := RX10) (T := TX10) (N := 34) (j := 4) rfl rfl in_X10 (by decide) wf_X10_19 rfl dX10_image_80 ?_
    refine pm_iload_n (pc := 83) dX10_image_83 rfl ?_
    refine pm_iald (pc := 84) rfl (by omega) (by decide) dX10_image_84 ?_
    refine pm_iast (pc := 85) rfl (by omega) (by decide) dX10_image_85 ?_
    refine pm_iinc (pc := 86) dX10_image_86 rfl (pm_inc1 _) (by decide) rfl ?_
    refine pm_goto (pc := 89) (tgt := 23) dX10_image_89 rfl ?_
    exact l_image1 hend m (i + 1) _ (by omega) (IM_1 hT (by omega))
set_option maxRecDepth 100000 in
set_option maxHeartbeats 4000000 in
theorem y_image {I : pm_I} {L : pm_L} {X : xS} (hR : MR I L X) (hX : xInv X) : PC 0 0 0 yX10_image cX10_image 2 (some (.int)) [.ref 40] GG I L (YQ I L (sp_image X).1 (sp_image X).2) := by
  refine PC.of [some (.ref 40), none] (by decide) (Nat.le_of_ble_eq_true rfl) rfl (fun l P => ?_)
  refine pm_aload_n (pc := 0) dX10_image_0 rfl ?_
  refine pm_iconst (pc := 1) (v := nI 1) dX10_image_1 (by decide) ?_
  refine pm_put (pc := 2) (ci := 8) (C0 := RX10) (T := TX10) (N := 34) (j := 26) (ty := .boolean) rfl rfl in_X10 tyX10 tyX10_ok nmX10 (by decide) wf_X10_267 rfl rfl (by decide +kernel) rfl rfl dX10_image_2 ?_
  refine pm_aload_n (pc := 5) dX10_image_5 rfl ?_
  refine pm_aload_n (pc := 6) dX10_image_6 rfl ?_
  refine pm_get (pc := 7) (ci := 8) (C0 := RX10) (T := TX10) (N := 34) (j := 0) rfl rfl in_X10 (by decide) wf_X10_83 rfl dX10_image_7 ?_
  refine pm_put (pc := 10) (ci := 8) (C0 := RX10) (T := TX10) (N := 34) (j := 27) (ty := .int) rfl rfl in_X10 tyX10 tyX10_ok nmX10 (by decide) wf_X10_271 rfl rfl (by decide +kernel) rfl rfl dX10_image_10 ?_
  refine pm_aload_n (pc := 13) dX10_image_13 rfl ?_
  refine pm_aload_n (pc := 14) dX10_image_14 rfl ?_
  refine pm_get (pc := 15) (ci := 8) (C0 := RX10) (T := TX10) (N := 34) (j := 8) rfl rfl in_X10 (by decide) wf_X10_133 rfl dX10_image_15 ?_
  refine pm_put (pc := 18) (ci := 8) (C0 := RX10) (T := TX10) (N := 34) (j := 28) (ty := .int) rfl rfl in_X10 tyX10 tyX10_ok nmX10 (by decide) wf_X10_274 rfl rfl (by decide +kernel) rfl rfl dX10_image_18 ?_
  refine pm_iconst (pc := 21) (v := nI 0) dX10_image_21 (by decide) ?_
  refine pm_istore_n (pc := 22) dX10_image_22 (by decide) rfl ?_
  exact l_image1 (fun J hJ => IM_end hR hX hJ) 12 0 _ (by omega) ⟨fun _ _ => rfl, fun j hj => absurd hj (Nat.not_lt_zero j), fun j hj => absurd hj (Nat.not_lt_zero j), fun j hj => absurd hj (Nat.not_lt_zero j)⟩
def RM (I : pm_I) (i k l : Nat) (J : pm_I) : Prop := (∀ a : Nat, a < 41 ∨ 48 ≤ a → J a = I a) ∧ (∀ j, j < i → J 41 j = I 60 j ∧ J 42 j = I 60 (12 + j) ∧ J 43 j = I 60 (24 + j) ∧ J 44 j = I 60 (36 + j)) ∧ (∀ j, j < k → J 45 j = I 60 (48 + j) ∧ J 47 j = I 60 (54 + j)) ∧ ∀ j, j < l → J 46 j = I 60 (60 + j)
theorem RM_1 {I J : pm_I} {i : Nat} (h : RM I i 0 0 J) (hi : i < 12) : RM I (i + 1) 0 0 (pm_u (pm_u (pm_u (pm_u J 41 (upd (J 41) i (J 60 i))) 42 (upd (J 42) i (J 60 (12 + i)))) 43 (upd (J 43) i (J 60 (24 + i)))) 44 (upd (J 44) i (J 60 (36 + i)))) := by
  have h60 := h.1 60 (by omega)
  refine ⟨fun a ha => ?_, fun j hj => ?_, fun j hj => absurd hj (Nat.not_lt_zero j), fun j hj => absurd hj (Nat.not_lt_zero j)⟩
  · simp (disch := omega) only [pm_un]; exact h.1 a ha
  · by_cases e : j = i
    · subst e
      refine ⟨?_, ?_, ?_, ?_⟩ <;> simp (disch := omega) only [pm_us, pm_un, pk_us, pk_un, h60]
    · have q := h.2.1 j (by omega)
      refine ⟨?_, ?_, ?_, ?_⟩ <;> simp (disch := omega) only [pm_us, pm_un, pk_un, q.1, q.2.1, q.2.2.1, q.2.2.2]
theorem RM_2 {I J : pm_I} {i : Nat} (h : RM I 12 i 0 J) (hi : i < 6) : RM I 12 (i + 1) 0 (pm_u (pm_u J 45 (upd (J 45) i (J 60 (48 + i)))) 47 (upd (J 47) i (J 60 (54 + i)))) := by
  have h60 := h.1 60 (by omega)
  refine ⟨fun a ha => ?_, fun j hj => ?_, fun j hj => ?_, fun j hj => absurd hj (Nat.not_lt_zero j)⟩
  · simp (disch := omega) only [pm_un]; exact h.1 a ha
  · have q := h.2.1 j (by omega)
    refine ⟨?_, ?_, ?_, ?_⟩ <;> simp (disch := omega) only [pm_un, q.1, q.2.1, q.2.2.1, q.2.2.2]
  · by_cases e : j = i
    · subst e
      refine ⟨?_, ?_⟩ <;> simp (disch := omega) only [pm_us, pm_un, pk_us, pk_un, h60]
    · have q := h.2.2.1 j (by omega)
      refine ⟨?_, ?_⟩ <;> simp (disch := omega) only [pm_us, pm_un, pk_un, q.1, q.2]
theorem RM_3 {I J : pm_I} {i : Nat} (h : RM I 12 6 i J) : RM I 12 6 (i + 1) (pm_u J 46 (upd (J 46) i (J 60 (60 + i)))) := by
  have h60 := h.1 60 (by omega)
  refine ⟨fun a ha => ?_, fun j hj => ?_, fun j hj => ?_, fun j hj => ?_⟩
  · simp (disch := omega) only [pm_un]; exact h.1 a ha
  · have q := h.2.1 j (by omega)
    refine ⟨?_, ?_, ?_, ?_⟩ <;> simp (disch := omega) only [pm_un, q.1, q.2.1, q.2.2.1, q.2.2.2]
  · have q := h.2.2.1 j (by omega)
    refine ⟨?_, ?_⟩ <;> simp (disch := omega) only [pm_un, q.1, q.2]
  · by_cases e : j = i
    · subst e
      simp (disch := omega) only [pm_us, pk_us, h60]
    · have q := h.2.2.2 j (by omega)
      simp (disch := omega) only [pm_us, pk_un, q]
theorem RM_end {I J : pm_I} {L : pm_L} {X : xS} {s : gS} (hR : MR I L X) (hs : MI I s) (hI : gInv s) (h : RM (pm_u (pm_u I 40 (upd (I 40) 0 (I 40 27))) 40 (upd (upd (I 40) 0 (I 40 27)) 8 (I 40 28))) 12 6 72 J) : MR J L (xg X s) ∧ ∀ a : Nat, a < 40 → J a = I a := by
  have h12 := hI.n12
  obtain ⟨m1, m2, m3, m4⟩ := hs
  have e : ∀ a : Nat, a < 40 ∨ 48 ≤ a → J a = I a := fun a h1 => by
    rw [h.1 a (by omega)]
    simp (disch := omega) only [pm_un]
  have f : ∀ k : Nat, k ≠ 0 → k ≠ 8 → J 40 k = I 40 k := fun k h1 h2 => by
    rw [h.1 40 (by omega)]
    simp (disch := omega) only [pm_us, pk_un]
  refine ⟨hR.h ⟨?_, ?_, fun j hj => ?_, fun p hp => ⟨?_, ?_, fun k hk => ?_⟩⟩ ⟨e 48 (by omega), e 60 (by omega), e 61 (by omega), e 62 (by omega)⟩ f, fun a ha => e a (by omega)⟩
  · rw [h.1 40 (by omega)]
    simp (disch := omega) only [pm_us, pk_us, pk_un]
    exact m1
  · rw [h.1 40 (by omega)]
    simp (disch := omega) only [pm_us, pk_us, pk_un]
    exact m2
  · have q := h.2.1 j (by omega)
    simp (disch := omega) only [pm_un] at q
    rw [q.1, q.2.1, q.2.2.1, q.2.2.2]
    exact m3 j hj
  · have q := h.2.2.1 p hp
    simp (disch := omega) only [pm_un] at q
    rw [q.1]; exact (m4 p hp).1
  · have q := h.2.2.1 p hp
    simp (disch := omega) only [pm_un] at q
    rw [q.2]; exact (m4 p hp).2.1
  · have hl := hI.len hp
    have q := h.2.2.2 (12 * p + k) (by omega)
    simp (disch := omega) only [pm_un] at q
    rw [q]; exact (m4 p hp).2.2 k hk
set_option maxRecDepth 100000 in
set_option maxHeartbeats 4000000 in
theorem l_rest3 {I I0 : pm_I} {L : pm_L} {X : xS} {s : gS} (hend : ∀ J : pm_I, RM I 12 6 72 J → MR J L (xg X s) ∧ ∀ a : Nat, a < 40 → J a = I0 a) {l : Launch} {P : pm_E} : ∀ (m i : Nat) (J : pm_I), i + m = 72 → RM I 12 6 i J → PW l P yX10_restore cX10_restore 2 (some (.int)) (pm_rm 0 0 0) (pm_Tg P (YQ I0 L (nI 1) (xg X s)) 0 0) 0 0 143 [some (.ref 40), some (.int (nI i))] [] GG J L
  | 0, i, J, hm, hT => by
    have e : i = 72 := by omega
    subst e
    refine pm_iload_n (pc := 143) dX10_restore_143 rfl ?_
    refine pm_bipush (pc := 144) (v := nI 72) dX10_restore_144 (by decide) ?_
    refine pm_icmp_ge (pc := 146) (tgt := 170) dX10_restore_146 rfl (fun h146 => ?_) (fun h146 => (by simp (disch := omega) only [pm_eqI, pm_ltI, pm_leI, nI_toInt, pm_t0, pm_t1, pm_tm1] at h146; omega))
    refine pm_iconst (pc := 170) (v := nI 1) dX10_restore_170 (by decide) ?_
    refine pm_iret (pc := 171) rfl (Nat.le_refl _) (Nat.le_refl _) dX10_restore_171 ?_
    have k := hend J hT
    exact YQ.r rfl k.1 (fun a ha => ⟨k.2 a ha, rfl⟩)
  | m + 1, i, J, hm, hT => by
    refine pm_iload_n (pc := 143) dX10_restore_143 rfl ?_
    refine pm_bipush (pc := 144) (v := nI 72) dX10_restore_144 (by decide) ?_
    refine pm_icmp_ge (pc := 146) (tgt := 170) dX10_restore_146 rfl (fun h146 => (by simp (disch := omega) only [pm_eqI, pm_ltI, pm_leI, nI_toInt, pm_t0, pm_t1, pm_tm1] at h146; omega)) (fun h146 => ?_)
    refine pm_aload_n (pc := 149) dX10_restore_149 rfl ?_
    refine pm_getr (pc := 150) (ci := 8) (C0 := RX10) (T := TX10) (N := 34) (j := 6) rfl rfl in_X10 (by decide) wf_X10_25 rfl dX10_restore_150 ?_
    refine pm_iload_n (pc := 153) dX10_restore_153 rfl ?_
    refine pm_aload_n (pc := 154) dX10_restore_154 rfl ?_
    refine pm_getr (pc := 155) (ci := 8) (C0 := RX10) (T := TX10) (N := 34) (j := 29) rfl rfl in_X10 (by decide) wf_X10_67 rfl dX10_restore_155 ?_
    refine pm_bipush (pc := 158) (v := nI 60) dX10_restore_158 (by decide) ?_
    refine pm_iload_n (pc := 160) dX10_restore_160 rfl ?_
    refine pm_iadd (pc := 161) dX10_restore_161 ?_
    refine pm_top (x' := nI (60 + i)) (nI_add _ _) ?_
    refine pm_iald (pc := 162) rfl (by omega) (by decide) dX10_restore_162 ?_
    refine pm_iast (pc := 163) rfl (by omega) (by decide) dX10_restore_163 ?_
    refine pm_iinc (pc := 164) dX10_restore_164 rfl (pm_inc1 _) (by decide) rfl ?_
    refine pm_goto (pc := 167) (tgt := 143) dX10_restore_167 rfl ?_
    exact l_rest3 hend m (i + 1) _ (by omega) (RM_3 hT)
set_option maxRecDepth 100000 in
set_option maxHeartbeats 4000000 in
theorem l_rest2 {I I0 : pm_I} {L : pm_L} {X : xS} {s : gS} (hend : ∀ J : pm_I, RM I 12 6 72 J → MR J L (xg X s) ∧ ∀ a : Nat, a < 40 → J a = I0 a) {l : Launch} {P : pm_E} : ∀ (m i : Nat) (J : pm_I), i + m = 6 → RM I 12 i 0 J → PW l P yX10_restore cX10_restore 2 (some (.int)) (pm_rm 0 0 0) (pm_Tg P (YQ I0 L (nI 1) (xg X s)) 0 0) 0 0 99 [some (.ref 40), some (.int (nI i))] [] GG J L
  | 0, i, J, hm, hT => by
    have e : i = 6 := by omega
    subst e
    refine pm_iload_n (pc := 99) dX10_restore_99 rfl ?_
    refine pm_bipush (pc := 100) (v := nI 6) dX10_restore_100 (by decide) ?_
    refine pm_icmp_ge (pc := 102) (tgt := 141) dX10_restore_102 rfl (fun h102 => ?_) (fun h102 => (by simp (disch := omega) only [pm_eqI, pm_ltI, pm_leI, nI_toInt, pm_t0, pm_t1, pm_tm1] at h102; omega))
    refine pm_iconst (pc := 141) (v := nI 0) dX10_restore_141 (by decide) ?_
    refine pm_istore_n (pc := 142) dX10_restore_142 (by decide) rfl ?_
    exact l_rest3 hend 72 0 J (by omega) hT
  | m + 1, i, J, hm, hT => by
    refine pm_iload_n (pc := 99) dX10_restore_99 rfl ?_
    refine pm_bipush (pc := 100) (v := nI 6) dX10_restore_100 (by decide) ?_
    refine pm_icmp_ge (pc := 102) (tgt := 141) dX10_restore_102 rfl (fun h102 => (by simp (disch := omega) only [pm_eqI, pm_ltI, pm_leI, nI_toInt, pm_t0, pm_t1, pm_tm1] at h102; omega)) (fun h102 => ?_)
    refine pm_aload_n (pc := 105) dX10_restore_105 rfl ?_
    refine pm_getr (pc := 106) (ci := 8) (C0 := RX10) (T := TX10) (N := 34) (j := 5) rfl rfl in_X10 (by decide) wf_X10_22 rfl dX10_restore_106 ?_
    refine pm_iload_n (pc := 109) dX10_restore_109 rfl ?_
    refine pm_aload_n (pc := 110) dX10_restore_110 rfl ?_
    refine pm_getr (pc := 111) (ci := 8) (C0 := RX10) (T := TX10) (N := 34) (j := 29) rfl rfl in_X10 (by decide) wf_X10_67 rfl dX10_restore_111 ?_
    refine pm_bipush (pc := 114) (v := nI 48) dX10_restore_114 (by decide) ?_
    refine pm_iload_n (pc := 116) dX10_restore_116 rfl ?_
    refine pm_iadd (pc := 117) dX10_restore_117 ?_
    refine pm_top (x' := nI (48 + i)) (nI_add _ _) ?_
    refine pm_iald (pc := 118) rfl (by omega) (by decide) dX10_restore_118 ?_
    refine pm_iast (pc := 119) rfl (by omega) (by decide) dX10_restore_119 ?_
    refine pm_aload_n (pc := 120) dX10_restore_120 rfl ?_
    refine pm_getr (pc := 121) (ci := 8) (C0 := RX10) (T := TX10) (N := 34) (j := 7) rfl rfl in_X10 (by decide) wf_X10_28 rfl dX10_restore_121 ?_
    refine pm_iload_n (pc := 124) dX10_restore_124 rfl ?_
    refine pm_aload_n (pc := 125) dX10_restore_125 rfl ?_
    refine pm_getr (pc := 126) (ci := 8) (C0 := RX10) (T := TX10) (N := 34) (j := 29) rfl rfl in_X10 (by decide) wf_X10_67 rfl dX10_restore_126 ?_
    refine pm_bipush (pc := 129) (v := nI 54) dX10_restore_129 (by decide) ?_
    refine pm_iload_n (pc := 131) dX10_restore_131 rfl ?_
    refine pm_iadd (pc := 132) dX10_restore_132 ?_
    refine pm_top (x' := nI (54 + i)) (nI_add _ _) ?_
    refine pm_iald (pc := 133) rfl (by omega) (by decide) dX10_restore_133 ?_
    refine pm_iast (pc := 134) rfl (by omega) (by decide) dX10_restore_134 ?_
    refine pm_iinc (pc := 135) dX10_restore_135 rfl (pm_inc1 _) (by decide) rfl ?_
    refine pm_goto (pc := 138) (tgt := 99) dX10_restore_138 rfl ?_
    exact l_rest2 hend m (i + 1) _ (by omega) (RM_2 hT (by omega))
set_option maxRecDepth 100000 in
set_option maxHeartbeats 4000000 in
theorem l_rest1 {I I0 : pm_I} {L : pm_L} {X : xS} {s : gS} (hend : ∀ J : pm_I, RM I 12 6 72 J → MR J L (xg X s) ∧ ∀ a : Nat, a < 40 → J a = I0 a) {l : Launch} {P : pm_E} : ∀ (m i : Nat) (J : pm_I), i + m = 12 → RM I i 0 0 J → PW l P yX10_restore cX10_restore 2 (some (.int)) (pm_rm 0 0 0) (pm_Tg P (YQ I0 L (nI 1) (xg X s)) 0 0) 0 0 28 [some (.ref 40), some (.int (nI i))] [] GG J L
  | 0, i, J, hm, hT => by
    have e : i = 12 := by omega
    subst e
    refine pm_iload_n (pc := 28) dX10_restore_28 rfl ?_
    refine pm_bipush (pc := 29) (v := nI 12) dX10_restore_29 (by decide) ?_
    refine pm_icmp_ge (pc := 31) (tgt := 97) dX10_restore_31 rfl (fun h31 => ?_) (fun h31 => (by simp (disch := omega) only [pm_eqI, pm_ltI, pm_leI, nI_toInt, pm_t0, pm_t1, pm_tm1] at h31; omega))
    refine pm_iconst (pc := 97) (v := nI 0) dX10_restore_97 (by decide) ?_
    refine pm_istore_n (pc := 98) dX10_restore_98 (by decide) rfl ?_
    exact l_rest2 hend 6 0 J (by omega) hT
  | m + 1, i, J, hm, hT => by
    refine pm_iload_n (pc := 28) dX10_restore_28 rfl ?_
    refine pm_bipush (pc := 29) (v := nI 12) dX10_restore_29 (by decide) ?_
    refine pm_icmp_ge (pc := 31) (tgt := 97) dX10_restore_31 rfl (fun h31 => (by simp (disch := omega) only [pm_eqI, pm_ltI, pm_leI, nI_toInt, pm_t0, pm_t1, pm_tm1] at h31; omega)) (fun h31 => ?_)
    refine pm_aload_n (pc := 34) dX10_restore_34 rfl ?_
    refine pm_getr (pc := 35) (ci := 8) (C0 := RX10) (T := TX10) (N := 34) (j := 1) rfl rfl in_X10 (by decide) wf_X10_7 rfl dX10_restore_35 ?_
    refine pm_iload_n (pc := 38) dX10_restore_38 rfl ?_
    refine pm_aload_n (pc := 39) dX10_restore_39 rfl ?_
    refine pm_getr (pc := 40) (ci := 8) (C0 := RX10) (T := TX10) (N := 34) (j := 29) rfl rfl in_X10 (by decide) wf_X10_67 rfl dX10_restore_40 ?_
    refine pm_iload_n (pc := 43) dX10_restore_43 rfl ?_
    refine pm_iald (pc := 44) rfl (by omega) (by decide) dX10_restore_44 ?_
    refine pm_iast (pc := 45) rfl (by omega) (by decide) dX10_restore_45 ?_
    refine pm_aload_n (pc := 46) dX10_restore_46 rfl ?_
    refine pm_getr (pc := 47) (ci := 8) (C0 := RX10) (T := TX10) (N := 34) (j := 2) rfl rfl in_X10 (by decide) wf_X10_13 rfl dX10_restore_47 ?_
    refine pm_iload_n (pc := 50) dX10_restore_50 rfl ?_
    refine pm_aload_n (pc := 51) dX10_restore_51 rfl ?_
    refine pm_getr (pc := 52) (ci := 8) (C0 := RX10) (T := TX10) (N := 34) (j := 29) rfl rfl in_X10 (by decide) wf_X10_67 rfl dX10_restore_52 ?_
    refine pm_bipush (pc := 55) (v := nI 12) dX10_restore_55 (by decide) ?_
    refine pm_iload_n (pc := 57) dX10_restore_57 rfl ?_
    refine pm_iadd (pc := 58) dX10_restore_58 ?_
    refine pm_top (x' := nI (12 + i)) (nI_add _ _) ?_
    refine pm_iald (pc := 59) rfl (by omega) (by decide) dX10_restore_59 ?_
    refine pm_iast (pc := 60) rfl (by omega) (by decide) dX10_restore_60 ?_
    refine pm_aload_n (pc := 61) dX10_restore_61 rfl ?_
    refine pm_getr (pc := 62) (ci := 8) (C0 := RX10) (T := TX10) (N := 34) (j := 3) rfl rfl in_X10 (by decide) wf_X10_16 rfl dX10_restore_62 ?_
    refine pm_iload_n (pc := 65) dX10_restore_65 rfl ?_
    refine pm_aload_n (pc := 66) dX10_restore_66 rfl ?_
    refine pm_getr (pc := 67) (ci := 8) (C0 := RX10) (T := TX10) (N := 34) (j := 29) rfl rfl in_X10 (by decide) wf_X10_67 rfl dX10_restore_67 ?_
    refine pm_bipush (pc := 70) (v := nI 24) dX10_restore_70 (by decide) ?_
    refine pm_iload_n (pc := 72) dX10_restore_72 rfl ?_
    refine pm_iadd (pc := 73) dX10_restore_73 ?_
    refine pm_top (x' := nI (24 + i)) (nI_add _ _) ?_
    refine pm_iald (pc := 74) rfl (by omega) (by decide) dX10_restore_74 ?_
    refine pm_iast (pc := 75) rfl (by omega) (by decide) dX10_restore_75 ?_
    refine pm_aload_n (pc := 76) dX10_restore_76 rfl ?_
    refine pm_getr (pc := 77) (ci := 8) (C0 := RX10) (T := TX10) (N := 34) (j := 4) rfl rfl in_X10 (by decide) wf_X10_19 rfl dX10_restore_77 ?_
    refine pm_iload_n (pc := 80) dX10_restore_80 rfl ?_
    refine pm_aload_n (pc := 81) dX10_restore_81 rfl ?_
    refine pm_getr (pc := 82) (ci := 8) (C0 := RX10) (T := TX10) (N := 34) (j := 29) rfl rfl in_X10 (by decide) wf_X10_67 rfl dX10_restore_82 ?_
    refine pm_bipush (pc := 85) (v := nI 36) dX10_restore_85 (by decide) ?_
    refine pm_iload_n (pc := 87) dX10_restore_87 rfl ?_
    refine pm_iadd (pc := 88) dX10_restore_88 ?_
    refine pm_top (x' := nI (36 + i)) (nI_add _ _) ?_
    refine pm_iald (pc := 89) rfl (by omega) (by decide) dX10_restore_89 ?_
    refine pm_iast (pc := 90) rfl (by omega) (by decide) dX10_restore_90 ?_
    refine pm_iinc (pc := 91) dX10_restore_91 rfl (pm_inc1 _) (by decide) rfl ?_
    refine pm_goto (pc := 94) (tgt := 28) dX10_restore_94 rfl ?_
    exact l_rest1 hend m (i + 1) _ (by omega) (RM_1 hT (by omega))
set_option maxRecDepth 100000 in
set_option maxHeartbeats 4000000 in
theorem y_restoreN {I : pm_I} {L : pm_L} {X : xS} (hR : MR I L X) (hX : xInv X) (hz : x_i X = none) : PC 0 0 0 yX10_restore cX10_restore 2 (some (.int)) [.ref 40] GG I L (YQ I L (sp_restore X).1 (sp_restore X).2) := by
  have hO := hR.2.1
  unfold MO at hO
  unfold sp_restore
  simp only [hz] at hO ⊢
  refine PC.of [some (.ref 40), none] (by decide) (Nat.le_of_ble_eq_true rfl) rfl (fun l P => ?_)
  refine pm_aload_n (pc := 0) dX10_restore_0 rfl ?_
  refine pm_get (pc := 1) (ci := 8) (C0 := RX10) (T := TX10) (N := 34) (j := 26) rfl rfl in_X10 (by decide) wf_X10_267 rfl dX10_restore_1 ?_
  refine pm_if_ne (pc := 4) (tgt := 10) dX10_restore_4 rfl (fun h4 => absurd hO h4) (fun h4 => ?_)
  refine pm_bipush (pc := 7) (v := (-4)) dX10_restore_7 (by decide) ?_
  refine pm_iret (pc := 9) rfl (Nat.le_refl _) (Nat.le_refl _) dX10_restore_9 ?_
  exact YQ.r rfl hR yF.rf
set_option maxRecDepth 100000 in
set_option maxHeartbeats 4000000 in
theorem y_restoreS {I : pm_I} {L : pm_L} {X : xS} (hR : MR I L X) (hX : xInv X) {s : gS} (hz : x_i X = some s) : PC 0 0 0 yX10_restore cX10_restore 2 (some (.int)) [.ref 40] GG I L (YQ I L (sp_restore X).1 (sp_restore X).2) := by
  have hO := hR.2.1
  unfold MO at hO
  unfold sp_restore
  simp only [hz] at hO ⊢
  refine PC.of [some (.ref 40), none] (by decide) (Nat.le_of_ble_eq_true rfl) rfl (fun l P => ?_)
  refine pm_aload_n (pc := 0) dX10_restore_0 rfl ?_
  refine pm_get (pc := 1) (ci := 8) (C0 := RX10) (T := TX10) (N := 34) (j := 26) rfl rfl in_X10 (by decide) wf_X10_267 rfl dX10_restore_1 ?_
  refine pm_if_ne (pc := 4) (tgt := 10) dX10_restore_4 rfl (fun h4 => ?_) (fun h4 => absurd (hO.1.symm.trans h4) (by decide))
  refine pm_aload_n (pc := 10) dX10_restore_10 rfl ?_
  refine pm_aload_n (pc := 11) dX10_restore_11 rfl ?_
  refine pm_get (pc := 12) (ci := 8) (C0 := RX10) (T := TX10) (N := 34) (j := 27) rfl rfl in_X10 (by decide) wf_X10_271 rfl dX10_restore_12 ?_
  refine pm_put (pc := 15) (ci := 8) (C0 := RX10) (T := TX10) (N := 34) (j := 0) (ty := .int) rfl rfl in_X10 tyX10 tyX10_ok nmX10 (by decide) wf_X10_83 rfl rfl (by decide +kernel) rfl rfl dX10_restore_15 ?_
  refine pm_aload_n (pc := 18) dX10_restore_18 rfl ?_
  refine pm_aload_n (pc := 19) dX10_restore_19 rfl ?_
  refine pm_get (pc := 20) (ci := 8) (C0 := RX10) (T := TX10) (N := 34) (j := 28) rfl rfl in_X10 (by decide) wf_X10_274 rfl dX10_restore_20 ?_
  refine pm_put (pc := 23) (ci := 8) (C0 := RX10) (T := TX10) (N := 34) (j := 8) (ty := .int) rfl rfl in_X10 tyX10 tyX10_ok nmX10 (by decide) wf_X10_133 rfl rfl (by decide +kernel) rfl rfl dX10_restore_23 ?_
  refine pm_iconst (pc := 26) (v := nI 0) dX10_restore_26 (by decide) ?_
  refine pm_istore_n (pc := 27) dX10_restore_27 (by decide) rfl ?_
  exact l_rest1 (fun J hJ => RM_end hR hO.2 (hX.2.1 s hz) hJ) 12 0 _ (by omega) ⟨fun _ _ => rfl, fun j hj => absurd hj (Nat.not_lt_zero j), fun j hj => absurd hj (Nat.not_lt_zero j), fun j hj => absurd hj (Nat.not_lt_zero j)⟩
set_option maxRecDepth 100000 in
theorem y_restore {I : pm_I} {L : pm_L} {X : xS} (hR : MR I L X) (hX : xInv X) : PC 0 0 0 yX10_restore cX10_restore 2 (some (.int)) [.ref 40] GG I L (YQ I L (sp_restore X).1 (sp_restore X).2) := by
  cases hz : x_i X with
  | none => exact y_restoreN hR hX hz
  | some s => exact y_restoreS hR hX hz
