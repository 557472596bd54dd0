theorem MR.w {I J : pm_I} {L : pm_L} {X : xS} (h : MR I L X) (hG : MG J (x_g X)) (hW : h_W I J) : MR J L X := h.h hG ⟨hW.1 48 (by omega), hW.1 60 (by omega), hW.1 61 (by omega), hW.1 62 (by omega)⟩ hW.2
set_option maxRecDepth 100000 in
set_option maxHeartbeats 1000000 in
theorem y_had {I : pm_I} {L : pm_L} {X : xS} (hR : MR I L X) (hX : xInv X) {i k : Int32} : PC 4 0 0 yX10_had cX10_had 4 (some (.int)) [.ref 40, .int i, .int k] GG I L (YQ I L (sp_had X i k).1 (sp_had X i k).2) := by
  have h12 := hX.s.n12
  refine PC.of [some (.ref 40), some (.int i), some (.int k), none] (by decide) (Nat.le_of_ble_eq_true rfl) rfl (fun l P => ?_)
  refine pm_aload_n (pc := 0) dX10_had_0 rfl ?_
  refine pm_iload_n (pc := 1) dX10_had_1 rfl ?_
  refine pm_cVR (pc := 2) dX10_had_2 (c_mIsPiece hR.1 hX.s) wq_X10_isPiece wm_X10_114 wi_X10_isPiece ws_X10_isPiece rfl rfl ⟨Nat.le_of_ble_eq_true rfl, Nat.le_of_ble_eq_true rfl⟩ ⟨Nat.le_of_ble_eq_true rfl, Nat.le_of_ble_eq_true rfl⟩ rfl (Nat.le_of_ble_eq_true rfl) ?_
  refine pm_if_eq (pc := 5) (tgt := 22) dX10_had_5 rfl (fun h5 => ?_) (fun h5 => ?_)
  · refine pm_iconst (pc := 22) (v := (-1)) dX10_had_22 (by decide) ?_
    refine pm_iret (pc := 23) rfl (Nat.le_refl _) (Nat.le_refl _) dX10_had_23 ?_
    first
      | (rw [sp_had_b (fun z => b1_nf h5 z.1)]; exact YQ.r rfl hR yF.rf)
      | (rw [sp_had_b (fun z => b1_nf h19 z.2)]; exact YQ.r rfl hR yF.rf)
  · obtain ⟨j, hj, hj12, rfl⟩ := isPc_of hX (b1_nt h5)
    have h7 := (hX.s.2.1 j hj).2.2.2.2
    refine pm_iload_n (pc := 8) dX10_had_8 rfl ?_
    refine pm_i2l (pc := 9) dX10_had_9 ?_
    refine pm_ldc2 (pc := 10) wk_X10_244 dX10_had_10 ?_
    refine pm_ldc2 (pc := 13) wk_X10_246 dX10_had_13 ?_
    refine pm_cSR (pc := 16) dX10_had_16 (c_mInI (a := -1) (b := 2) (by decide) (by decide)) wq_X10_in wm_X10_87 wt_X10_in ⟨Nat.le_of_ble_eq_true rfl, Nat.le_of_ble_eq_true rfl⟩ ⟨Nat.le_of_ble_eq_true rfl, Nat.le_of_ble_eq_true rfl⟩ rfl (Nat.le_of_ble_eq_true rfl) ?_
    refine pm_if_ne (pc := 19) (tgt := 24) dX10_had_19 rfl (fun h19 => ?_) (fun h19 => ?_)
    · have hk := b1_nt h19
      rw [sp_had_t hX hj hk]
      refine pm_aload_n (pc := 24) dX10_had_24 rfl ?_
      refine pm_getr (pc := 25) (ci := 8) (C0 := RX10) (T := TX10) (N := 34) (j := 4) rfl rfl in_X10 (by decide) wf_X10_19 rfl dX10_had_25 ?_
      refine pm_iload_n (pc := 28) dX10_had_28 rfl ?_
      refine pm_iald (pc := 29) rfl (by omega) (by decide) dX10_had_29 ?_
      rw [hR.1.wh hj]
      refine pm_bipush (pc := 30) (v := nI 7) dX10_had_30 (by decide) ?_
      refine pm_icmp_ne (pc := 32) (tgt := 38) dX10_had_32 rfl (fun h32 => ?_) (fun h32 => ?_)
      · simp (disch := omega) only [pm_eqI, pm_ltI, pm_leI, nI_toInt, pm_t0, pm_t1, pm_tm1] at h32
        rw [if_neg (by omega)]
        refine pm_aload_n (pc := 38) dX10_had_38 rfl ?_
        refine pm_iload_n (pc := 39) dX10_had_39 rfl ?_
        refine pm_cVI (pc := 40) dX10_had_40 (c_mFind hR.1 hX.s hj) wq_X10_find wm_X10_248 wi_X10_find ws_X10_find rfl rfl ⟨Nat.le_of_ble_eq_true rfl, Nat.le_of_ble_eq_true rfl⟩ ⟨Nat.le_of_ble_eq_true rfl, Nat.le_of_ble_eq_true rfl⟩ rfl (Nat.le_of_ble_eq_true rfl) (fun r40 I40 L40 q40 => ?_)
        obtain ⟨⟨v40, E40⟩, l40⟩ := q40
        subst l40
        refine pm_istore_n (pc := 43) dX10_had_43 (by decide) rfl ?_
        refine pm_iload_n (pc := 44) dX10_had_44 rfl ?_
        refine pm_iconst (pc := 45) (v := nI 4) dX10_had_45 (by decide) ?_
        refine pm_icmp_eq (pc := 46) (tgt := 54) dX10_had_46 rfl (fun h46 => ?_) (fun h46 => ?_)
        · refine pm_bipush (pc := 54) (v := (-4)) dX10_had_54 (by decide) ?_
          refine pm_iret (pc := 56) rfl (Nat.le_refl _) (Nat.le_refl _) dX10_had_56 ?_
          refine YQ.r ?_ (hR.w E40.1 E40.2.1) (fun a ha => ⟨E40.2.1.1 a (by omega), rfl⟩)
          show (-4 : Int32) = d_had (x_g X) j k
          unfold d_had
          cases et : h_find (x_g X) j with
          | none => rfl
          | some q =>
            have hl := h_find_len et
            rw [et] at v40
            have v2 : r40 = nI q.length := v40
            clear v40
            subst v2
            show (-4 : Int32) = if nI q.length ≤ k then -4 else _
            rw [if_pos]
            first
              | (simp (disch := omega) only [pm_eqI, nI_toInt] at h46; omega)
              | (simp (disch := omega) only [pm_ltI, pm_leI, nI_toInt] at h51 ⊢; omega)
        · refine pm_iload_n (pc := 49) dX10_had_49 rfl ?_
          refine pm_iload_n (pc := 50) dX10_had_50 rfl ?_
          refine pm_icmp_lt (pc := 51) (tgt := 57) dX10_had_51 rfl (fun h51 => ?_) (fun h51 => ?_)
          · refine pm_iload_n (pc := 57) dX10_had_57 rfl ?_
            refine pm_iconst (pc := 58) (v := (-1)) dX10_had_58 (by decide) ?_
            refine pm_icmp_ne (pc := 59) (tgt := 66) dX10_had_59 rfl (fun h59 => ?_) (fun h59 => ?_)
            · obtain ⟨kk, hkk, rfl⟩ := iR_of (x := k) (b := 2) (by decide) ⟨by have h1 := hk.1; have h2 : k.toInt ≠ -1 := fun z => h59 (by rw [pm_eqI, z]; decide); omega, hk.2⟩
              refine pm_aload_n (pc := 66) dX10_had_66 rfl ?_
              refine pm_getr (pc := 67) (ci := 8) (C0 := RX10) (T := TX10) (N := 34) (j := 25) rfl rfl in_X10 (by decide) wf_X10_64 rfl dX10_had_67 ?_
              refine pm_iload_n (pc := 70) dX10_had_70 rfl ?_
              refine pm_iald (pc := 71) rfl (show kk < 3 by omega) (by decide) dX10_had_71 ?_
              refine pm_iret (pc := 72) rfl (Nat.le_refl _) (Nat.le_refl _) dX10_had_72 ?_
              first
                | (refine YQ.r ?_ (hR.w E40.1 E40.2.1) (fun a ha => ⟨E40.2.1.1 a (by omega), rfl⟩)
                   show r40 = d_had (x_g X) j k
                   unfold d_had
                   cases et : h_find (x_g X) j with
                   | none =>
                     rw [et] at v40
                     have v4 : r40 = nI 4 := v40
                     exact absurd v4 h46
                   | some q =>
                     have hl := h_find_len et
                     rw [et] at v40
                     have v2 : r40 = nI q.length := v40
                     clear v40
                     subst v2
                     show nI q.length = if nI q.length ≤ k then -4 else _
                     rw [if_neg (by rw [pm_leI]; rw [pm_ltI] at h51; omega), if_pos (by rw [h59]; decide)])
                | (refine YQ.r ?_ (hR.w E40.1 E40.2.1) (fun a ha => ⟨E40.2.1.1 a (by omega), rfl⟩)
                   show I40 59 kk = d_had (x_g X) j (nI kk)
                   unfold d_had
                   cases et : h_find (x_g X) j with
                   | none =>
                     rw [et] at v40
                     have v4 : r40 = nI 4 := v40
                     exact absurd v4 h46
                   | some q =>
                     have hl := h_find_len et
                     rw [et] at v40
                     have v2 : r40 = nI q.length := v40
                     have hkq : kk < q.length := by rw [v2, pm_ltI, nI_toInt (by omega), nI_toInt (by omega)] at h51; omega
                     have hrow := E40.2.2 q et kk hkq
                     show I40 59 kk = if nI q.length ≤ nI kk then -4 else if nI kk < 0 then nI q.length else nI (q.getD (nt (nI kk)) 0)
                     rw [if_neg (by rw [pm_leI, nI_toInt (by omega), nI_toInt (by omega)]; omega), if_neg (by rw [pm_ltI, nI_toInt (by omega), pm_t0]; omega), nt_nI (by omega)]
                     exact hrow)
            · refine pm_iload_n (pc := 62) dX10_had_62 rfl ?_
              refine pm_goto (pc := 63) (tgt := 72) dX10_had_63 rfl ?_
              refine pm_iret (pc := 72) rfl (Nat.le_refl _) (Nat.le_refl _) dX10_had_72 ?_
              first
                | (refine YQ.r ?_ (hR.w E40.1 E40.2.1) (fun a ha => ⟨E40.2.1.1 a (by omega), rfl⟩)
                   show r40 = d_had (x_g X) j k
                   unfold d_had
                   cases et : h_find (x_g X) j with
                   | none =>
                     rw [et] at v40
                     have v4 : r40 = nI 4 := v40
                     exact absurd v4 h46
                   | some q =>
                     have hl := h_find_len et
                     rw [et] at v40
                     have v2 : r40 = nI q.length := v40
                     clear v40
                     subst v2
                     show nI q.length = if nI q.length ≤ k then -4 else _
                     rw [if_neg (by rw [pm_leI]; rw [pm_ltI] at h51; omega), if_pos (by rw [h59]; decide)])
                | (refine YQ.r ?_ (hR.w E40.1 E40.2.1) (fun a ha => ⟨E40.2.1.1 a (by omega), rfl⟩)
                   show I40 59 kk = d_had (x_g X) j (nI kk)
                   unfold d_had
                   cases et : h_find (x_g X) j with
                   | none =>
                     rw [et] at v40
                     have v4 : r40 = nI 4 := v40
                     exact absurd v4 h46
                   | some q =>
                     have hl := h_find_len et
                     rw [et] at v40
                     have v2 : r40 = nI q.length := v40
                     have hkq : kk < q.length := by rw [v2, pm_ltI, nI_toInt (by omega), nI_toInt (by omega)] at h51; omega
                     have hrow := E40.2.2 q et kk hkq
                     show I40 59 kk = if nI q.length ≤ nI kk then -4 else if nI kk < 0 then nI q.length else nI (q.getD (nt (nI kk)) 0)
                     rw [if_neg (by rw [pm_leI, nI_toInt (by omega), nI_toInt (by omega)]; omega), if_neg (by rw [pm_ltI, nI_toInt (by omega), pm_t0]; omega), nt_nI (by omega)]
                     exact hrow)
          · refine pm_bipush (pc := 54) (v := (-4)) dX10_had_54 (by decide) ?_
            refine pm_iret (pc := 56) rfl (Nat.le_refl _) (Nat.le_refl _) dX10_had_56 ?_
            refine YQ.r ?_ (hR.w E40.1 E40.2.1) (fun a ha => ⟨E40.2.1.1 a (by omega), rfl⟩)
            show (-4 : Int32) = d_had (x_g X) j k
            unfold d_had
            cases et : h_find (x_g X) j with
            | none => rfl
            | some q =>
              have hl := h_find_len et
              rw [et] at v40
              have v2 : r40 = nI q.length := v40
              clear v40
              subst v2
              show (-4 : Int32) = if nI q.length ≤ k then -4 else _
              rw [if_pos]
              first
                | (simp (disch := omega) only [pm_eqI, nI_toInt] at h46; omega)
                | (simp (disch := omega) only [pm_ltI, pm_leI, nI_toInt] at h51 ⊢; omega)
      · simp (disch := omega) only [pm_eqI, pm_ltI, pm_leI, nI_toInt, pm_t0, pm_t1, pm_tm1] at h32
        refine pm_bipush (pc := 35) (v := (-2)) dX10_had_35 (by decide) ?_
        refine pm_iret (pc := 37) rfl (Nat.le_refl _) (Nat.le_refl _) dX10_had_37 ?_
        rw [if_pos (by omega)]
        exact YQ.r rfl hR yF.rf
    · refine pm_iconst (pc := 22) (v := (-1)) dX10_had_22 (by decide) ?_
      refine pm_iret (pc := 23) rfl (Nat.le_refl _) (Nat.le_refl _) dX10_had_23 ?_
      first
        | (rw [sp_had_b (fun z => b1_nf h5 z.1)]; exact YQ.r rfl hR yF.rf)
        | (rw [sp_had_b (fun z => b1_nf h19 z.2)]; exact YQ.r rfl hR yF.rf)
