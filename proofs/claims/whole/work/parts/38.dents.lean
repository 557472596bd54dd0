theorem n_all_le (s : gS) : ∀ (K : Nat) (d : Nat → Int), n_all s K d ≤ 2 ^ K
  | 0, d => by
    have e : n_all s 0 d = n_pr (fun p => if d p = 0 then 1 else 0) 6 := rfl
    rw [e, n_pr_0]; split <;> decide
  | K + 1, d => by
    show n_all s K d + (if g_wh s K < 6 then n_all s K (fun p => if p = g_wh s K then d p - g_w s K else d p) else 0) ≤ 2 ^ (K + 1)
    have h1 := n_all_le s K d
    have h2 := n_all_le s K (fun p => if p = g_wh s K then d p - g_w s K else d p)
    rw [Nat.pow_succ]
    split <;> omega
def d_dents (s : gS) (d : Nat → Int) (w : Nat) : Int32 := if w = 0 then nI (n_all s (g_n s) d) else match l_all s (g_n s) d with
  | some x => nI x
  | none => -4
def sp_dents (X : xS) (q b i w : Int32) : Int32 × xS := if ¬ (iR q 0 3 ∧ iR b 0 2 ∧ iR w 0 1) then (-1, X) else if refuse (x_s X (nt q)) (nt b) i (nI 6) ≠ 0 then (refuse (x_s X (nt q)) (nt b) i (nI 6), X) else (d_dents (x_g X) (fun p => (x_r X (nt q) (nt i + p)).toInt) (nt w), X)
theorem sp_dents_b {X : xS} {s b w : Nat} {i : Int32} (hs : s < 4) (hb : b < 3) (hw : w ≤ 1) (h : ¬ refuse (x_s X s) b i (nI 6) = 0) : sp_dents X (nI s) (nI b) i (nI w) = (refuse (x_s X s) b i (nI 6), X) := by
  unfold sp_dents; rw [if_neg (not_not_intro ⟨sh_nI hs, la_nI hb, (iR_nI (b := 1) (by omega)).mpr hw⟩), nt_nI (show s < 2 ^ 31 by omega), nt_nI (show b < 2 ^ 31 by omega), if_pos h]
theorem sp_dents_t {X : xS} {s b w j : Nat} (hs : s < 4) (hb : b < 3) (hw : w ≤ 1) (hj : j < 24) (h : refuse (x_s X s) b (nI j) (nI 6) = 0) : sp_dents X (nI s) (nI b) (nI j) (nI w) = (d_dents (x_g X) (fun p => (x_r X s (j + p)).toInt) w, X) := by
  unfold sp_dents; rw [if_neg (not_not_intro ⟨sh_nI hs, la_nI hb, (iR_nI (b := 1) (by omega)).mpr hw⟩), nt_nI (show s < 2 ^ 31 by omega), nt_nI (show b < 2 ^ 31 by omega), if_neg (not_not_intro h), nt_nI (show j < 2 ^ 31 by omega), nt_nI (show w < 2 ^ 31 by omega)]
theorem xi_dents {X : xS} {q b i w : Int32} (h : xInv X) : xInv (sp_dents X q b i w).2 := by
  unfold sp_dents
  split
  · exact h
  · split <;> exact h
set_option maxRecDepth 100000 in
set_option maxHeartbeats 1000000 in
theorem l_dents {I : pm_I} {L : pm_L} {X : xS} (hR : XR I L X) (hX : xInv X) {s j w : Nat} {z2 z6 : Int32} (hs : s < 4) (hj : j + 6 ≤ 24) (hw : w ≤ 1) {Q : pm_QT} (hend : Q (some (.int (d_dents (x_g X) (fun p => (x_r X s (j + p)).toInt) w))) GG I L) {la : Launch} {P : pm_E} : ∀ (m i : Nat), i + m = 6 → PW la P yX9_dents cX9_dents 12 (some (.int)) (pm_rm 4 0 0) (pm_Tg P Q 0 0) 0 0 59 [some (.ref 0), some (.int (nI s)), some (.int z2), some (.int (nI j)), some (.int (nI w)), some (.ref (32 + 2 * s)), some (.int z6), some (.int (nI (n_pr (fun p => n_one (x_g X) p (g_n (x_g X)) ((fun p => (x_r X s (j + p)).toInt) p)) i))), some (.int (nI (l_acc (x_g X) (fun p => (x_r X s (j + p)).toInt) i))), some (.int (nI i)), none, none] [] GG I L
  | 0, i, hm => by
    have e : i = 6 := by omega
    subst e
    have hI := hX.s
    have hle := n_all_le (x_g X) (g_n (x_g X)) (fun p => (x_r X s (j + p)).toInt)
    have h2p : 2 ^ g_n (x_g X) ≤ 2 ^ 12 := Nat.pow_le_pow_right (by decide) hI.1
    have hpr : n_pr (fun p => n_one (x_g X) p (g_n (x_g X)) ((fun p => (x_r X s (j + p)).toInt) p)) 6 = n_all (x_g X) (g_n (x_g X)) (fun p => (x_r X s (j + p)).toInt) := (n_prod (x_g X) (g_n (x_g X)) (fun p => (x_r X s (j + p)).toInt)).symm
    have hac := l_accx (x_g X) (fun p => (x_r X s (j + p)).toInt) 6
    have hos : l_all (x_g X) (g_n (x_g X)) (fun p => (x_r X s (j + p)).toInt) = o_sum (fun p => l_one (x_g X) p (g_n (x_g X)) ((fun p => (x_r X s (j + p)).toInt) p)) 6 := l_osum (x_g X) (g_n (x_g X)) (fun p => (x_r X s (j + p)).toInt)
    have kw0 : nI w = 0 ↔ w = 0 := by rw [pm_eqI, nI_toInt (by omega), pm_t0]; omega
    refine pm_iload (pc := 59) dX9_dents_59 rfl ?_
    refine pm_bipush (pc := 61) (v := nI 6) dX9_dents_61 (by decide) ?_
    refine pm_icmp_ge (pc := 63) (tgt := 115) dX9_dents_63 rfl (fun h63 => ?_) (fun h63 => (by simp (disch := omega) only [pm_eqI, pm_ltI, pm_leI, nI_toInt, pm_t0, pm_t1, pm_tm1] at h63; omega))
    refine pm_iload (pc := 115) dX9_dents_115 rfl ?_
    refine pm_if_ne (pc := 117) (tgt := 123) dX9_dents_117 rfl (fun h117 => ?_) (fun h117 => ?_)
    · refine pm_iload (pc := 123) dX9_dents_123 rfl ?_
      refine pm_if_le (pc := 125) (tgt := 133) dX9_dents_125 rfl (fun h125 => ?_) (fun h125 => ?_)
      · refine pm_bipush (pc := 133) (v := (-4)) dX9_dents_133 (by decide) ?_
        refine pm_iret (pc := 135) rfl (Nat.le_refl _) (Nat.le_refl _) dX9_dents_135 ?_
        first
          | (have hpos : n_pr (fun p => n_one (x_g X) p (g_n (x_g X)) ((fun p => (x_r X s (j + p)).toInt) p)) 6 ≠ 0 := fun z => by rw [z] at h125; exact absurd h125 (by decide)
             have e : d_dents (x_g X) (fun p => (x_r X s (j + p)).toInt) w = nI (l_acc (x_g X) (fun p => (x_r X s (j + p)).toInt) 6) := by
               unfold d_dents; rw [if_neg (fun z => h117 (kw0.mpr z)), hos, hac.1 hpos]
             rw [← e]; exact hend)
          | (have hz : n_pr (fun p => n_one (x_g X) p (g_n (x_g X)) ((fun p => (x_r X s (j + p)).toInt) p)) 6 = 0 := by rw [pm_leI, pm_t0, nI_toInt (by rw [hpr]; omega)] at h125; omega
             have e : d_dents (x_g X) (fun p => (x_r X s (j + p)).toInt) w = -4 := by
               unfold d_dents; rw [if_neg (fun z => h117 (kw0.mpr z)), hos, hac.2 hz]
             rw [← e]; exact hend)
      · refine pm_iload (pc := 128) dX9_dents_128 rfl ?_
        refine pm_goto (pc := 130) (tgt := 135) dX9_dents_130 rfl ?_
        refine pm_iret (pc := 135) rfl (Nat.le_refl _) (Nat.le_refl _) dX9_dents_135 ?_
        first
          | (have hpos : n_pr (fun p => n_one (x_g X) p (g_n (x_g X)) ((fun p => (x_r X s (j + p)).toInt) p)) 6 ≠ 0 := fun z => by rw [z] at h125; exact absurd h125 (by decide)
             have e : d_dents (x_g X) (fun p => (x_r X s (j + p)).toInt) w = nI (l_acc (x_g X) (fun p => (x_r X s (j + p)).toInt) 6) := by
               unfold d_dents; rw [if_neg (fun z => h117 (kw0.mpr z)), hos, hac.1 hpos]
             rw [← e]; exact hend)
          | (have hz : n_pr (fun p => n_one (x_g X) p (g_n (x_g X)) ((fun p => (x_r X s (j + p)).toInt) p)) 6 = 0 := by rw [pm_leI, pm_t0, nI_toInt (by rw [hpr]; omega)] at h125; omega
             have e : d_dents (x_g X) (fun p => (x_r X s (j + p)).toInt) w = -4 := by
               unfold d_dents; rw [if_neg (fun z => h117 (kw0.mpr z)), hos, hac.2 hz]
             rw [← e]; exact hend)
    · refine pm_iload (pc := 120) dX9_dents_120 rfl ?_
      refine pm_iret (pc := 122) rfl (Nat.le_refl _) (Nat.le_refl _) dX9_dents_122 ?_
      have e : d_dents (x_g X) (fun p => (x_r X s (j + p)).toInt) w = nI (n_pr (fun p => n_one (x_g X) p (g_n (x_g X)) ((fun p => (x_r X s (j + p)).toInt) p)) 6) := by
        unfold d_dents; rw [if_pos (kw0.mp h117), hpr]
      rw [← e]; exact hend
  | m + 1, i, hm => by
    have hG := hR.1
    have hI := hX.s
    have hi : i < 6 := by omega
    have hacs := l_accs hI (fun p => (x_r X s (j + p)).toInt) i
    have k9 := l_dents hR hX hs hj hw hend m (i + 1) (by omega) (la := la) (P := P) (z2 := z2) (z6 := z6)
    rw [hacs.2.2, show n_pr (fun p => n_one (x_g X) p (g_n (x_g X)) ((fun p => (x_r X s (j + p)).toInt) p)) (i + 1) = n_pr (fun p => n_one (x_g X) p (g_n (x_g X)) ((fun p => (x_r X s (j + p)).toInt) p)) i * n_one (x_g X) i (g_n (x_g X)) (x_r X s (j + i)).toInt from rfl] at k9
    refine pm_iload (pc := 59) dX9_dents_59 rfl ?_
    refine pm_bipush (pc := 61) (v := nI 6) dX9_dents_61 (by decide) ?_
    refine pm_icmp_ge (pc := 63) (tgt := 115) dX9_dents_63 rfl (fun h63 => (by simp (disch := omega) only [pm_eqI, pm_ltI, pm_leI, nI_toInt, pm_t0, pm_t1, pm_tm1] at h63; omega)) (fun h63 => ?_)
    refine pm_aload (pc := 66) dX9_dents_66 rfl ?_
    refine pm_iload_n (pc := 68) dX9_dents_68 rfl ?_
    refine pm_iload (pc := 69) dX9_dents_69 rfl ?_
    refine pm_iadd (pc := 71) dX9_dents_71 ?_
    refine pm_top (nI_add _ _) ?_
    refine pm_cVL (pc := 72) dX9_dents_72 (c_itemAt hs (by omega)) wq_X5_itemAt wm_X9_214 wi_X5_itemAt ws_X5_itemAt (gg_sheet hs) rfl ⟨Nat.le_of_ble_eq_true rfl, Nat.le_of_ble_eq_true rfl⟩ ⟨Nat.le_of_ble_eq_true rfl, Nat.le_of_ble_eq_true rfl⟩ rfl (Nat.le_of_ble_eq_true rfl) ?_
    rw [(hR.2.2.2 s hs).2 (j + i) (by omega)]
    refine pm_lstore (pc := 75) dX9_dents_75 (by decide) rfl ?_
    refine pm_iload (pc := 77) dX9_dents_77 rfl ?_
    refine pm_aload_n (pc := 79) dX9_dents_79 rfl ?_
    refine pm_getr (pc := 80) (ci := 7) (C0 := RX9) (T := TX9) (N := 9) (j := 0) rfl rfl in_X9 (by decide) wf_X9_10 rfl dX9_dents_80 ?_
    refine pm_iload (pc := 83) dX9_dents_83 rfl ?_
    refine pm_lload (pc := 85) dX9_dents_85 rfl ?_
    refine pm_cSR (pc := 87) dX9_dents_87 (c_setsBy hG hI hi) wq_X1_setsBy wm_X9_218 wt_X1_setsBy ⟨Nat.le_of_ble_eq_true rfl, Nat.le_of_ble_eq_true rfl⟩ ⟨Nat.le_of_ble_eq_true rfl, Nat.le_of_ble_eq_true rfl⟩ rfl (Nat.le_of_ble_eq_true rfl) ?_
    refine pm_imul (pc := 90) dX9_dents_90 ?_
    refine pm_top (pk_mul _ _) ?_
    refine pm_istore (pc := 91) dX9_dents_91 (by decide) rfl ?_
    refine pm_iload (pc := 93) dX9_dents_93 rfl ?_
    refine pm_aload_n (pc := 95) dX9_dents_95 rfl ?_
    refine pm_getr (pc := 96) (ci := 7) (C0 := RX9) (T := TX9) (N := 9) (j := 0) rfl rfl in_X9 (by decide) wf_X9_10 rfl dX9_dents_96 ?_
    refine pm_iload (pc := 99) dX9_dents_99 rfl ?_
    refine pm_lload (pc := 101) dX9_dents_101 rfl ?_
    refine pm_cSR (pc := 103) dX9_dents_103 (c_leastBy hG hI hi) wq_X1_leastBy wm_X9_224 wt_X1_leastBy ⟨Nat.le_of_ble_eq_true rfl, Nat.le_of_ble_eq_true rfl⟩ ⟨Nat.le_of_ble_eq_true rfl, Nat.le_of_ble_eq_true rfl⟩ rfl (Nat.le_of_ble_eq_true rfl) ?_
    refine pm_ior (pc := 106) dX9_dents_106 ?_
    refine pm_top (fa_or _ _) ?_
    refine pm_istore (pc := 107) dX9_dents_107 (by decide) rfl ?_
    refine pm_iinc (pc := 109) dX9_dents_109 rfl (pm_inc1 _) (by decide) rfl ?_
    refine pm_goto (pc := 112) (tgt := 59) dX9_dents_112 rfl ?_
    refine pm_kill 10 ?_
    exact k9
set_option maxRecDepth 100000 in
set_option maxHeartbeats 1000000 in
theorem x_dentsN {I : pm_I} {L : pm_L} {X : xS} (hR : XR I L X) (hX : xInv X) {q : Int32} {b i w : Int32} (hq : ¬ iR q 0 3) : PC 4 0 0 yX9_dents cX9_dents 12 (some (.int)) [.ref 0, .int q, .int b, .int i, .int w] GG I L (XQ I L (sp_dents X q b i w).1 (sp_dents X q b i w).2) := by
  have hG := hR.1
  have hI := hX.s
  have h12 := hI.n12
  refine PC.of [some (.ref 0), some (.int q), some (.int b), some (.int i), some (.int w), none, none, none, none, none, none, none] (by decide) (Nat.le_of_ble_eq_true rfl) rfl (fun l P => ?_)
  refine pm_aload_n (pc := 0) dX9_dents_0 rfl ?_
  refine pm_iload_n (pc := 1) dX9_dents_1 rfl ?_
  refine pm_cVA (pc := 2) dX9_dents_2 (c_sheetAtN hq) wq_X9_sheetAt wm_X9_204 wi_X9_sheetAt ws_X9_sheetAt rfl rfl ⟨Nat.le_of_ble_eq_true rfl, Nat.le_of_ble_eq_true rfl⟩ ⟨Nat.le_of_ble_eq_true rfl, Nat.le_of_ble_eq_true rfl⟩ rfl (Nat.le_of_ble_eq_true rfl) ?_
  refine pm_astoreN (pc := 5) dX9_dents_5 (by decide) rfl ?_
  refine pm_aloadN (pc := 7) dX9_dents_7 rfl ?_
  refine pm_ifnullN (x := 0) (pc := 9) (tgt := 29) dX9_dents_9 rfl ?_
  refine pm_iconst (pc := 29) (v := (-1)) dX9_dents_29 (by decide) ?_
  refine pm_iret (pc := 30) rfl (Nat.le_refl _) (Nat.le_refl _) dX9_dents_30 ?_
  rw [show sp_dents X q b i w = (-1, X) from if_pos (fun z => hq z.1)]
  exact XQ.r rfl hR xF.rf
set_option maxRecDepth 100000 in
set_option maxHeartbeats 1000000 in
theorem x_dentsV {I : pm_I} {L : pm_L} {X : xS} (hR : XR I L X) (hX : xInv X) {s : Nat} (hs : s < 4) {b i w : Int32} : PC 4 0 0 yX9_dents cX9_dents 12 (some (.int)) [.ref 0, .int (nI s), .int b, .int i, .int w] GG I L (XQ I L (sp_dents X (nI s) b i w).1 (sp_dents X (nI s) b i w).2) := by
  have hG := hR.1
  have hI := hX.s
  have h12 := hI.n12
  have hS := (hR.2.2.2 s hs).1
  have ho := hX.2.2.2 s hs
  refine PC.of [some (.ref 0), some (.int (nI s)), some (.int b), some (.int i), some (.int w), none, none, none, none, none, none, none] (by decide) (Nat.le_of_ble_eq_true rfl) rfl (fun l P => ?_)
  refine pm_aload_n (pc := 0) dX9_dents_0 rfl ?_
  refine pm_iload_n (pc := 1) dX9_dents_1 rfl ?_
  refine pm_cVA (pc := 2) dX9_dents_2 (c_sheetAt hs) wq_X9_sheetAt wm_X9_204 wi_X9_sheetAt ws_X9_sheetAt rfl rfl ⟨Nat.le_of_ble_eq_true rfl, Nat.le_of_ble_eq_true rfl⟩ ⟨Nat.le_of_ble_eq_true rfl, Nat.le_of_ble_eq_true rfl⟩ rfl (Nat.le_of_ble_eq_true rfl) ?_
  refine pm_astore (pc := 5) dX9_dents_5 (by decide) rfl ?_
  refine pm_aload (pc := 7) dX9_dents_7 rfl ?_
  refine pm_ifnull (pc := 9) dX9_dents_9 ?_
  refine pm_iload_n (pc := 12) dX9_dents_12 rfl ?_
  refine pm_cSR (pc := 13) dX9_dents_13 (c_isLane) wq_X9_isLane wm_X9_208 wt_X9_isLane ⟨Nat.le_of_ble_eq_true rfl, Nat.le_of_ble_eq_true rfl⟩ ⟨Nat.le_of_ble_eq_true rfl, Nat.le_of_ble_eq_true rfl⟩ rfl (Nat.le_of_ble_eq_true rfl) ?_
  refine pm_if_eq (pc := 16) (tgt := 29) dX9_dents_16 rfl (fun h16 => ?_) (fun h16 => ?_)
  · refine pm_iconst (pc := 29) (v := (-1)) dX9_dents_29 (by decide) ?_
    refine pm_iret (pc := 30) rfl (Nat.le_refl _) (Nat.le_refl _) dX9_dents_30 ?_
    first | (rw [show sp_dents X (nI s) b i w = (-1, X) from if_pos (fun z => b1_nf h16 z.2.1)]; exact XQ.r rfl hR xF.rf) | (rw [show sp_dents X (nI s) b i w = (-1, X) from if_pos (fun z => b1_nf h26 z.2.2)]; exact XQ.r rfl hR xF.rf)
  · refine pm_iload (pc := 19) dX9_dents_19 rfl ?_
    refine pm_iconst (pc := 21) (v := nI 0) dX9_dents_21 (by decide) ?_
    refine pm_iconst (pc := 22) (v := nI 1) dX9_dents_22 (by decide) ?_
    refine pm_cSR (pc := 23) dX9_dents_23 (c_isIn (a := 0) (b := 1) (by decide) (by decide)) wq_X9_isIn wm_X9_61 wt_X9_isIn ⟨Nat.le_of_ble_eq_true rfl, Nat.le_of_ble_eq_true rfl⟩ ⟨Nat.le_of_ble_eq_true rfl, Nat.le_of_ble_eq_true rfl⟩ rfl (Nat.le_of_ble_eq_true rfl) ?_
    refine pm_if_ne (pc := 26) (tgt := 31) dX9_dents_26 rfl (fun h26 => ?_) (fun h26 => ?_)
    · obtain ⟨b, hb, rfl⟩ := la_of (b1_nt h16)
      obtain ⟨w, hw, rfl⟩ := iR_of (x := w) (b := 1) (by decide) (b1_nt h26)
      refine pm_aload (pc := 31) dX9_dents_31 rfl ?_
      refine pm_iload_n (pc := 33) dX9_dents_33 rfl ?_
      refine pm_iload_n (pc := 34) dX9_dents_34 rfl ?_
      refine pm_bipush (pc := 35) (v := nI 6) dX9_dents_35 (by decide) ?_
      refine pm_cVR (pc := 37) dX9_dents_37 (c_refusal hs hS ho hb) wq_X5_refusal wm_X9_211 wi_X5_refusal ws_X5_refusal (gg_sheet hs) rfl ⟨Nat.le_of_ble_eq_true rfl, Nat.le_of_ble_eq_true rfl⟩ ⟨Nat.le_of_ble_eq_true rfl, Nat.le_of_ble_eq_true rfl⟩ rfl (Nat.le_of_ble_eq_true rfl) ?_
      refine pm_istore (pc := 40) dX9_dents_40 (by decide) rfl ?_
      refine pm_iload (pc := 42) dX9_dents_42 rfl ?_
      refine pm_if_eq (pc := 44) (tgt := 50) dX9_dents_44 rfl (fun h44 => ?_) (fun h44 => ?_)
      · obtain ⟨e, he, hr⟩ := refuse_0 h44
        have he2 := (ho b e he).2
        obtain ⟨j, hj, rfl⟩ := row_of he2 (by decide) hr
        refine pm_iconst (pc := 50) (v := nI 1) dX9_dents_50 (by decide) ?_
        refine pm_istore (pc := 51) dX9_dents_51 (by decide) rfl ?_
        refine pm_iconst (pc := 53) (v := nI 0) dX9_dents_53 (by decide) ?_
        refine pm_istore (pc := 54) dX9_dents_54 (by decide) rfl ?_
        refine pm_iconst (pc := 56) (v := nI 0) dX9_dents_56 (by decide) ?_
        refine pm_istore (pc := 57) dX9_dents_57 (by decide) rfl ?_
        have k9 := l_dents hR hX (j := j) (w := w) (z2 := nI b) (z6 := refuse (x_s X s) b (nI j) (nI 6)) hs (by omega) hw (Q := XQ I L (sp_dents X (nI s) (nI b) (nI j) (nI w)).1 (sp_dents X (nI s) (nI b) (nI j) (nI w)).2) ?_ 6 0 (by omega) (la := l) (P := P)
        · exact k9
        rw [sp_dents_t hs hb hw (by omega) h44]
        exact XQ.r rfl hR xF.rf
      · refine pm_iload (pc := 47) dX9_dents_47 rfl ?_
        refine pm_iret (pc := 49) rfl (Nat.le_refl _) (Nat.le_refl _) dX9_dents_49 ?_
        rw [sp_dents_b hs hb hw h44]
        exact XQ.r rfl hR xF.rf
    · refine pm_iconst (pc := 29) (v := (-1)) dX9_dents_29 (by decide) ?_
      refine pm_iret (pc := 30) rfl (Nat.le_refl _) (Nat.le_refl _) dX9_dents_30 ?_
      first | (rw [show sp_dents X (nI s) b i w = (-1, X) from if_pos (fun z => b1_nf h16 z.2.1)]; exact XQ.r rfl hR xF.rf) | (rw [show sp_dents X (nI s) b i w = (-1, X) from if_pos (fun z => b1_nf h26 z.2.2)]; exact XQ.r rfl hR xF.rf)
set_option maxRecDepth 100000 in
theorem x_dents {I : pm_I} {L : pm_L} {X : xS} (hR : XR I L X) (hX : xInv X) {q : Int32} {b i w : Int32} : PC 4 0 0 yX9_dents cX9_dents 12 (some (.int)) [.ref 0, .int q, .int b, .int i, .int w] GG I L (XQ I L (sp_dents X q b i w).1 (sp_dents X q b i w).2) := by
  by_cases hq : iR q 0 3
  · obtain ⟨s, hs, rfl⟩ := sh_of hq
    exact x_dentsV hR hX hs
  · exact x_dentsN hR hX hq
