set_option maxRecDepth 100000 in
set_option maxHeartbeats 1000000 in
theorem l_yd57 {I : pm_I} {L : pm_L} {X : xS} (hR : MR I L X) (hX : xInv X) {s j w : Nat} {z2 z5 : Int32} (hs : s < 4) (hj : j + 6 ≤ 24) (hw : w ≤ 1) {Q : pm_QT} {la : Launch} {P : pm_E} (k97 : PW la P yX10_dents cX10_dents 11 (some (.int)) (pm_rm 2 0 0) (pm_Tg P Q 0 0) 0 0 97 [some (.ref 40), some (.int (nI s)), some (.int z2), some (.int (nI j)), some (.int (nI w)), some (.int z5), some (.int (nI (a_all (x_g X) (g_n (x_g X))))), none, none, none, none] [] GG I L) : ∀ (m i : Nat), i + m = g_n (x_g X) → PW la P yX10_dents cX10_dents 11 (some (.int)) (pm_rm 2 0 0) (pm_Tg P Q 0 0) 0 0 57 [some (.ref 40), some (.int (nI s)), some (.int z2), some (.int (nI j)), some (.int (nI w)), some (.int z5), some (.int (nI (a_all (x_g X) i))), some (.int (nI i)), none, none, none] [] GG I L
  | 0, i, hm => by
    have hG := hR.1
    have hI := hX.s
    have h12 := hI.n12
    have hal := a_all_lt (x_g X) (g_n (x_g X))
    have h2p : 2 ^ g_n (x_g X) ≤ 2 ^ 12 := Nat.pow_le_pow_right (by decide) hI.1
    have e : i = g_n (x_g X) := by omega
    subst e
    refine pm_iload (pc := 57) dX10_dents_57 rfl ?_
    refine pm_aload_n (pc := 59) dX10_dents_59 rfl ?_
    refine pm_get (pc := 60) (ci := 8) (C0 := RX10) (T := TX10) (N := 34) (j := 0) rfl rfl in_X10 (by decide) wf_X10_83 rfl dX10_dents_60 ?_
    refine pm_icmp_ge (pc := 63) (tgt := 97) dX10_dents_63 rfl (fun h63 => ?_) (fun h63 => (by simp (disch := omega) only [hG.n, pm_leI, nI_toInt] at h63; omega))
    refine pm_kill 7 ?_
    exact k97
  | m + 1, i, hm => by
    have hG := hR.1
    have hI := hX.s
    have h12 := hI.n12
    have hal := a_all_lt (x_g X) (g_n (x_g X))
    have h2p : 2 ^ g_n (x_g X) ≤ 2 ^ 12 := Nat.pow_le_pow_right (by decide) hI.1
    have hi : i < g_n (x_g X) := by omega
    have hwl := (hI.2.1 i hi).2.2.2.2
    have ha := a_all_lt (x_g X) i
    have k9 := l_yd57 hR hX hs hj hw k97 m (i + 1) (by omega)
    have e : a_all (x_g X) (i + 1) = a_all (x_g X) i + (if g_wh (x_g X) i < 6 then 2 ^ i else 0) := rfl
    rw [e] at k9
    refine pm_iload (pc := 57) dX10_dents_57 rfl ?_
    refine pm_aload_n (pc := 59) dX10_dents_59 rfl ?_
    refine pm_get (pc := 60) (ci := 8) (C0 := RX10) (T := TX10) (N := 34) (j := 0) rfl rfl in_X10 (by decide) wf_X10_83 rfl dX10_dents_60 ?_
    refine pm_icmp_ge (pc := 63) (tgt := 97) dX10_dents_63 rfl (fun h63 => (by simp (disch := omega) only [hG.n, pm_leI, nI_toInt] at h63; omega)) (fun h63 => ?_)
    refine pm_iload (pc := 66) dX10_dents_66 rfl ?_
    refine pm_aload_n (pc := 68) dX10_dents_68 rfl ?_
    refine pm_getr (pc := 69) (ci := 8) (C0 := RX10) (T := TX10) (N := 34) (j := 4) rfl rfl in_X10 (by decide) wf_X10_19 rfl dX10_dents_69 ?_
    refine pm_iload (pc := 72) dX10_dents_72 rfl ?_
    refine pm_iald (pc := 74) rfl (by omega) (by decide) dX10_dents_74 ?_
    refine pm_bipush (pc := 75) (v := nI 6) dX10_dents_75 (by decide) ?_
    refine pm_icmp_ge (pc := 77) (tgt := 87) dX10_dents_77 rfl (fun h77 => ?_) (fun h77 => ?_)
    · rw [hG.wh hi, pm_leI, nI_toInt (by decide), nI_toInt (by omega)] at h77
      rw [if_neg (by omega), Nat.add_zero] at k9
      refine pm_iconst (pc := 87) (v := nI 0) dX10_dents_87 (by decide) ?_
      refine pm_ior (pc := 88) dX10_dents_88 ?_
      first
        | refine pm_top (g_orb ha (by omega)) ?_
        | (refine pm_top (fa_or _ _) ?_
           rw [Nat.or_zero])
      refine pm_istore (pc := 89) dX10_dents_89 (by decide) rfl ?_
      refine pm_iinc (pc := 91) dX10_dents_91 rfl (pm_inc1 _) (by decide) rfl ?_
      refine pm_goto (pc := 94) (tgt := 57) dX10_dents_94 rfl ?_
      exact k9
    · rw [hG.wh hi, pm_leI, nI_toInt (by decide), nI_toInt (by omega)] at h77
      rw [if_pos (by omega)] at k9
      refine pm_iconst (pc := 80) (v := nI 1) dX10_dents_80 (by decide) ?_
      refine pm_iload (pc := 81) dX10_dents_81 rfl ?_
      refine pm_ishl (pc := 83) dX10_dents_83 ?_
      refine pm_goto (pc := 84) (tgt := 88) dX10_dents_84 rfl ?_
      refine pm_ior (pc := 88) dX10_dents_88 ?_
      first
        | refine pm_top (g_orb ha (by omega)) ?_
        | (refine pm_top (fa_or _ _) ?_
           rw [Nat.or_zero])
      refine pm_istore (pc := 89) dX10_dents_89 (by decide) rfl ?_
      refine pm_iinc (pc := 91) dX10_dents_91 rfl (pm_inc1 _) (by decide) rfl ?_
      refine pm_goto (pc := 94) (tgt := 57) dX10_dents_94 rfl ?_
      exact k9
set_option maxRecDepth 100000 in
set_option maxHeartbeats 1000000 in
theorem y_dents {I : pm_I} {L : pm_L} {X : xS} (hR : MR I L X) (hX : xInv X) {q b i w : Int32} : PC 2 0 0 yX10_dents cX10_dents 11 (some (.int)) [.ref 40, .int q, .int b, .int i, .int w] GG I L (YQ I L (sp_dents X q b i w).1 (sp_dents X q b i w).2) := by
  have hG := hR.1
  have hI := hX.s
  have h12 := hI.n12
  refine PC.of [some (.ref 40), some (.int q), some (.int b), some (.int i), some (.int w), none, none, none, none, none, none] (by decide) (Nat.le_of_ble_eq_true rfl) rfl (fun l P => ?_)
  refine pm_iload_n (pc := 0) dX10_dents_0 rfl ?_
  refine pm_cSR (pc := 1) dX10_dents_1 (c_mIsSheet) wq_X10_isSheet wm_X10_277 wt_X10_isSheet ⟨Nat.le_of_ble_eq_true rfl, Nat.le_of_ble_eq_true rfl⟩ ⟨Nat.le_of_ble_eq_true rfl, Nat.le_of_ble_eq_true rfl⟩ rfl (Nat.le_of_ble_eq_true rfl) ?_
  refine pm_if_eq (pc := 4) (tgt := 30) dX10_dents_4 rfl (fun h4 => ?_) (fun h4 => ?_)
  · refine pm_iconst (pc := 30) (v := (-1)) dX10_dents_30 (by decide) ?_
    refine pm_iret (pc := 31) rfl (Nat.le_refl _) (Nat.le_refl _) dX10_dents_31 ?_
    first | (rw [show sp_dents X q b i w = (-1, X) from if_pos (fun z => b1_nf h4 z.1)]; exact YQ.r rfl hR yF.rf) | (rw [show sp_dents X (nI s) b i w = (-1, X) from if_pos (fun z => b1_nf h16 z.2.1)]; exact YQ.r rfl hR yF.rf) | (rw [show sp_dents X (nI s) b i w = (-1, X) from if_pos (fun z => b1_nf h27 z.2.2)]; exact YQ.r rfl hR yF.rf)
  · obtain ⟨s, hs, rfl⟩ := sh_of (b1_nt h4)
    have hS := (hR.2.2.2 s hs).1
    have ho := hX.2.2.2 s hs
    refine pm_iload_n (pc := 7) dX10_dents_7 rfl ?_
    refine pm_i2l (pc := 8) dX10_dents_8 ?_
    refine pm_lconst (pc := 9) (v := 0) dX10_dents_9 (by decide) ?_
    refine pm_ldc2 (pc := 10) wk_X10_246 dX10_dents_10 ?_
    refine pm_cSR (pc := 13) dX10_dents_13 (c_mInI (a := 0) (b := 2) (by decide) (by decide)) wq_X10_in wm_X10_87 wt_X10_in ⟨Nat.le_of_ble_eq_true rfl, Nat.le_of_ble_eq_true rfl⟩ ⟨Nat.le_of_ble_eq_true rfl, Nat.le_of_ble_eq_true rfl⟩ rfl (Nat.le_of_ble_eq_true rfl) ?_
    refine pm_if_eq (pc := 16) (tgt := 30) dX10_dents_16 rfl (fun h16 => ?_) (fun h16 => ?_)
    · refine pm_iconst (pc := 30) (v := (-1)) dX10_dents_30 (by decide) ?_
      refine pm_iret (pc := 31) rfl (Nat.le_refl _) (Nat.le_refl _) dX10_dents_31 ?_
      first | (rw [show sp_dents X q b i w = (-1, X) from if_pos (fun z => b1_nf h4 z.1)]; exact YQ.r rfl hR yF.rf) | (rw [show sp_dents X (nI s) b i w = (-1, X) from if_pos (fun z => b1_nf h16 z.2.1)]; exact YQ.r rfl hR yF.rf) | (rw [show sp_dents X (nI s) b i w = (-1, X) from if_pos (fun z => b1_nf h27 z.2.2)]; exact YQ.r rfl hR yF.rf)
    · refine pm_iload (pc := 19) dX10_dents_19 rfl ?_
      refine pm_i2l (pc := 21) dX10_dents_21 ?_
      refine pm_lconst (pc := 22) (v := 0) dX10_dents_22 (by decide) ?_
      refine pm_lconst (pc := 23) (v := 1) dX10_dents_23 (by decide) ?_
      refine pm_cSR (pc := 24) dX10_dents_24 (c_mInI (a := 0) (b := 1) (by decide) (by decide)) wq_X10_in wm_X10_87 wt_X10_in ⟨Nat.le_of_ble_eq_true rfl, Nat.le_of_ble_eq_true rfl⟩ ⟨Nat.le_of_ble_eq_true rfl, Nat.le_of_ble_eq_true rfl⟩ rfl (Nat.le_of_ble_eq_true rfl) ?_
      refine pm_if_ne (pc := 27) (tgt := 32) dX10_dents_27 rfl (fun h27 => ?_) (fun h27 => ?_)
      · obtain ⟨b, hb, rfl⟩ := la_of (b1_nt h16)
        obtain ⟨w, hw, rfl⟩ := iR_of (x := w) (b := 1) (by decide) (b1_nt h27)
        refine pm_aload_n (pc := 32) dX10_dents_32 rfl ?_
        refine pm_iload_n (pc := 33) dX10_dents_33 rfl ?_
        refine pm_iload_n (pc := 34) dX10_dents_34 rfl ?_
        refine pm_iload_n (pc := 35) dX10_dents_35 rfl ?_
        refine pm_bipush (pc := 36) (v := nI 6) dX10_dents_36 (by decide) ?_
        refine pm_cVR (pc := 38) dX10_dents_38 (c_mAg hs hS ho hb (by decide)) wq_X10_against wm_X10_280 wi_X10_against ws_X10_against rfl rfl ⟨Nat.le_of_ble_eq_true rfl, Nat.le_of_ble_eq_true rfl⟩ ⟨Nat.le_of_ble_eq_true rfl, Nat.le_of_ble_eq_true rfl⟩ rfl (Nat.le_of_ble_eq_true rfl) ?_
        refine pm_istore (pc := 41) dX10_dents_41 (by decide) rfl ?_
        refine pm_iload (pc := 43) dX10_dents_43 rfl ?_
        refine pm_if_eq (pc := 45) (tgt := 51) dX10_dents_45 rfl (fun h45 => ?_) (fun h45 => ?_)
        · obtain ⟨e, he, hr⟩ := refuse_0 h45
          have he2 := (ho b e he).2
          obtain ⟨j, hj, rfl⟩ := row_of he2 (by decide) hr
          refine pm_iconst (pc := 51) (v := nI 0) dX10_dents_51 (by decide) ?_
          refine pm_istore (pc := 52) dX10_dents_52 (by decide) rfl ?_
          refine pm_iconst (pc := 54) (v := nI 0) dX10_dents_54 (by decide) ?_
          refine pm_istore (pc := 55) dX10_dents_55 (by decide) rfl ?_
          refine l_yd57 hR hX (j := j) (w := w) (z2 := nI b) (z5 := refuse (x_s X s) b (nI j) (nI 6)) hs (by omega) hw ?_ (g_n (x_g X)) 0 (by omega)
          refine pm_iconst (pc := 97) (v := nI 0) dX10_dents_97 (by decide) ?_
          refine pm_istore (pc := 98) dX10_dents_98 (by decide) rfl ?_
          refine pm_iconst (pc := 100) (v := nI 0) dX10_dents_100 (by decide) ?_
          refine pm_istore (pc := 101) dX10_dents_101 (by decide) rfl ?_
          refine l_yd103 hR hX (j := j) (w := w) (z2 := nI b) (z5 := refuse (x_s X s) b (nI j) (nI 6)) hs (by omega) hw (f := fun x => @ite Nat (m_ok (x_g X) (fun p => (x_r X s (j + p)).toInt) (g_n (x_g X)) x) (Classical.propDecidable _) 1 0) (fun x => ⟨fun z => if_pos z, fun z => if_neg z⟩) ?_ ((a_all (x_g X) (g_n (x_g X))) + 1) 0 (by omega) (fun _ y hy => absurd hy (Nat.not_lt_zero y))
          rw [sp_dents_t hs hb hw (by omega) h45]
          exact YQ.r rfl hR yF.rf
        · refine pm_iload (pc := 48) dX10_dents_48 rfl ?_
          refine pm_iret (pc := 50) rfl (Nat.le_refl _) (Nat.le_refl _) dX10_dents_50 ?_
          rw [sp_dents_b hs hb hw h45]
          exact YQ.r rfl hR yF.rf
      · refine pm_iconst (pc := 30) (v := (-1)) dX10_dents_30 (by decide) ?_
        refine pm_iret (pc := 31) rfl (Nat.le_refl _) (Nat.le_refl _) dX10_dents_31 ?_
        first | (rw [show sp_dents X q b i w = (-1, X) from if_pos (fun z => b1_nf h4 z.1)]; exact YQ.r rfl hR yF.rf) | (rw [show sp_dents X (nI s) b i w = (-1, X) from if_pos (fun z => b1_nf h16 z.2.1)]; exact YQ.r rfl hR yF.rf) | (rw [show sp_dents X (nI s) b i w = (-1, X) from if_pos (fun z => b1_nf h27 z.2.2)]; exact YQ.r rfl hR yF.rf)
