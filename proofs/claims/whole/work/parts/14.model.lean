theorem b1_congr {p q : Prop} [Decidable p] [Decidable q] (h : p ↔ q) : b1 p = b1 q := by
  unfold b1; by_cases hp : p
  · rw [if_pos hp, if_pos (h.mp hp)]
  · rw [if_neg hp, if_neg (fun z => hp (h.mpr z))]
/-- within, as integers -/
abbrev iR (x : Int32) (a b : Int) : Prop := a ≤ x.toInt ∧ x.toInt ≤ b
theorem pm_cmp_lt (x y : Int64) : lg_cmp x y < 0 ↔ x.toInt < y.toInt := by
  unfold lg_cmp
  rw [← Int64.lt_iff_toInt_lt]
  split
  · rename_i h
    have h1 : ¬ x < y := by rw [gt_iff_lt, Int64.lt_iff_toInt_lt] at h; rw [Int64.lt_iff_toInt_lt]; omega
    exact ⟨fun q => absurd q (by decide), fun q => absurd q h1⟩
  · split
    · rename_i h1 h2
      subst h2
      exact ⟨fun q => absurd q (by decide), fun q => by rw [Int64.lt_iff_toInt_lt] at q; omega⟩
    · rename_i h1 h2
      refine ⟨fun _ => ?_, fun _ => by decide⟩
      rw [gt_iff_lt, Int64.lt_iff_toInt_lt] at h1
      rw [Int64.lt_iff_toInt_lt]
      have h3 : x.toInt ≠ y.toInt := fun z => h2 (Int64.toInt_inj.mp z)
      omega
theorem pm_cmp_gt (x y : Int64) : 0 < lg_cmp x y ↔ y.toInt < x.toInt := by
  unfold lg_cmp
  rw [← Int64.lt_iff_toInt_lt]
  split
  · rename_i h
    exact ⟨fun _ => h, fun _ => by decide⟩
  · rename_i h
    split
    · exact ⟨fun q => absurd q (by decide), fun q => absurd q h⟩
    · exact ⟨fun q => absurd q (by decide), fun q => absurd q h⟩
theorem pm_cmp_eq (x y : Int64) : lg_cmp x y = 0 ↔ x = y := by
  have h1 := pm_cmp_lt x y
  have h2 := pm_cmp_gt x y
  constructor
  · intro h
    rw [h] at h1 h2
    have a1 : ¬ x.toInt < y.toInt := fun z => absurd (h1.mpr z) (by decide)
    have a2 : ¬ y.toInt < x.toInt := fun z => absurd (h2.mpr z) (by decide)
    exact Int64.toInt_inj.mp (by omega)
  · intro h
    subst h
    unfold lg_cmp
    simp
set_option maxRecDepth 100000 in
set_option maxHeartbeats 4000000 in
theorem c_mIn {I : pm_I} {L : pm_L} {v a b : Int64} : PC 0 0 0 yX10_in cX10_in 6 (some (.boolean)) [.long v, .long a, .long b] GG I L (QR GG I L (b1 (a.toInt ≤ v.toInt ∧ v.toInt ≤ b.toInt))) := by
  refine PC.of [some (.long v), none, some (.long a), none, some (.long b), none] (by decide) (Nat.le_of_ble_eq_true rfl) rfl (fun l P => ?_)
  refine pm_lload_n (pc := 0) dX10_in_0 rfl ?_
  refine pm_lload_n (pc := 1) dX10_in_1 rfl ?_
  refine pm_lcmp (pc := 2) dX10_in_2 ?_
  refine pm_if_lt (pc := 3) (tgt := 17) dX10_in_3 rfl (fun h3 => ?_) (fun h3 => ?_)
  · rw [pm_cmp_lt] at h3
    refine pm_iconst (pc := 17) (v := nI 0) dX10_in_17 (by decide) ?_
    refine pm_zret (pc := 18) (by decide) rfl (Nat.le_refl _) (Nat.le_refl _) dX10_in_18 ?_
    exact QR.r (by first | exact b1_t (by omega) | exact b1_f (by omega))
  · rw [pm_cmp_lt] at h3
    refine pm_lload_n (pc := 6) dX10_in_6 rfl ?_
    refine pm_lload (pc := 7) dX10_in_7 rfl ?_
    refine pm_lcmp (pc := 9) dX10_in_9 ?_
    refine pm_if_gt (pc := 10) (tgt := 17) dX10_in_10 rfl (fun h10 => ?_) (fun h10 => ?_)
    · rw [pm_cmp_gt] at h10
      refine pm_iconst (pc := 17) (v := nI 0) dX10_in_17 (by decide) ?_
      refine pm_zret (pc := 18) (by decide) rfl (Nat.le_refl _) (Nat.le_refl _) dX10_in_18 ?_
      exact QR.r (by first | exact b1_t (by omega) | exact b1_f (by omega))
    · rw [pm_cmp_gt] at h10
      refine pm_iconst (pc := 13) (v := nI 1) dX10_in_13 (by decide) ?_
      refine pm_goto (pc := 14) (tgt := 18) dX10_in_14 rfl ?_
      refine pm_zret (pc := 18) (by decide) rfl (Nat.le_refl _) (Nat.le_refl _) dX10_in_18 ?_
      exact QR.r (by first | exact b1_t (by omega) | exact b1_f (by omega))
set_option maxRecDepth 100000 in
set_option maxHeartbeats 4000000 in
theorem c_mIsPiece {I : pm_I} {L : pm_L} {s : gS} {x : Int32} (hG : MG I s) (hI : gInv s) : PC 1 0 0 yX10_isPiece cX10_isPiece 2 (some (.boolean)) [.ref 40, .int x] GG I L (QR GG I L (b1 (iR x 0 ((g_n s : Int) - 1)))) := by
  refine PC.of [some (.ref 40), some (.int x)] (by decide) (Nat.le_of_ble_eq_true rfl) rfl (fun l P => ?_)
  refine pm_iload_n (pc := 0) dX10_isPiece_0 rfl ?_
  refine pm_i2l (pc := 1) dX10_isPiece_1 ?_
  refine pm_lconst (pc := 2) (v := 0) dX10_isPiece_2 (by decide) ?_
  refine pm_aload_n (pc := 3) dX10_isPiece_3 rfl ?_
  refine pm_get (pc := 4) (ci := 8) (C0 := RX10) (T := TX10) (N := 34) (j := 0) rfl rfl in_X10 (by decide) wf_X10_83 rfl dX10_isPiece_4 ?_
  refine pm_iconst (pc := 7) (v := nI 1) dX10_isPiece_7 (by decide) ?_
  refine pm_isub (pc := 8) dX10_isPiece_8 ?_
  refine pm_i2l (pc := 9) dX10_isPiece_9 ?_
  refine pm_cSR (pc := 10) dX10_isPiece_10 (c_mIn) wq_X10_in wm_X10_87 wt_X10_in ⟨Nat.le_of_ble_eq_true rfl, Nat.le_of_ble_eq_true rfl⟩ ⟨Nat.le_of_ble_eq_true rfl, Nat.le_of_ble_eq_true rfl⟩ rfl (Nat.le_of_ble_eq_true rfl) ?_
  refine pm_zret (pc := 13) b1_z rfl (Nat.le_refl _) (Nat.le_refl _) dX10_isPiece_13 ?_
  refine QR.r (b1_congr ?_)
  have h12 := hI.n12
  have e : (I 40 0 - nI 1).toInt64.toInt = (g_n s : Int) - 1 := by
    rw [Int32.toInt_toInt64, hG.n, fb_subI (by rw [nI_toInt (by omega), nI_toInt (by decide)]; omega) (by rw [nI_toInt (by omega), nI_toInt (by decide)]; omega), nI_toInt (by omega), nI_toInt (by decide)]; rfl
  rw [e, Int32.toInt_toInt64, show (0 : Int64).toInt = 0 by decide]
set_option maxRecDepth 100000 in
set_option maxHeartbeats 4000000 in
theorem c_mIsPlace {I : pm_I} {L : pm_L} {x : Int32} : PC 1 0 0 yX10_isPlace cX10_isPlace 1 (some (.boolean)) [.int x] GG I L (QR GG I L (b1 (iR x 0 5))) := by
  refine PC.of [some (.int x)] (by decide) (Nat.le_of_ble_eq_true rfl) rfl (fun l P => ?_)
  refine pm_iload_n (pc := 0) dX10_isPlace_0 rfl ?_
  refine pm_i2l (pc := 1) dX10_isPlace_1 ?_
  refine pm_lconst (pc := 2) (v := 0) dX10_isPlace_2 (by decide) ?_
  refine pm_ldc2 (pc := 3) wk_X10_91 dX10_isPlace_3 ?_
  refine pm_cSR (pc := 6) dX10_isPlace_6 (c_mIn) wq_X10_in wm_X10_87 wt_X10_in ⟨Nat.le_of_ble_eq_true rfl, Nat.le_of_ble_eq_true rfl⟩ ⟨Nat.le_of_ble_eq_true rfl, Nat.le_of_ble_eq_true rfl⟩ rfl (Nat.le_of_ble_eq_true rfl) ?_
  refine pm_zret (pc := 9) b1_z rfl (Nat.le_refl _) (Nat.le_refl _) dX10_isPlace_9 ?_
  refine QR.r (b1_congr ?_)
  rw [Int32.toInt_toInt64, show (0 : Int64).toInt = 0 by decide, show (5 : Int64).toInt = 5 by decide]
set_option maxRecDepth 100000 in
set_option maxHeartbeats 4000000 in
theorem c_mWeighs {I : pm_I} {L : pm_L} {s : gS} {j : Nat} (hG : MG I s) (hI : gInv s) (hj : j < g_n s) : PC 0 0 0 yX10_weighs cX10_weighs 2 (some (.int)) [.ref 40, .int (nI j)] GG I L (QR GG I L (nI (g_w s j))) := by
  have h12 := hI.n12
  refine PC.of [some (.ref 40), some (.int (nI j))] (by decide) (Nat.le_of_ble_eq_true rfl) rfl (fun l P => ?_)
  refine pm_aload_n (pc := 0) dX10_weighs_0 rfl ?_
  refine pm_getr (pc := 1) (ci := 8) (C0 := RX10) (T := TX10) (N := 34) (j := 2) rfl rfl in_X10 (by decide) wf_X10_13 rfl dX10_weighs_1 ?_
  refine pm_iload_n (pc := 4) dX10_weighs_4 rfl ?_
  refine pm_iald (pc := 5) rfl (by omega) (by decide) dX10_weighs_5 ?_
  refine pm_aload_n (pc := 6) dX10_weighs_6 rfl ?_
  refine pm_getr (pc := 7) (ci := 8) (C0 := RX10) (T := TX10) (N := 34) (j := 1) rfl rfl in_X10 (by decide) wf_X10_7 rfl dX10_weighs_7 ?_
  refine pm_iload_n (pc := 10) dX10_weighs_10 rfl ?_
  refine pm_iald (pc := 11) rfl (by omega) (by decide) dX10_weighs_11 ?_
  refine pm_iconst (pc := 12) (v := nI 1) dX10_weighs_12 (by decide) ?_
  refine pm_icmp_ne (pc := 13) (tgt := 20) dX10_weighs_13 rfl (fun h13 => ?_) (fun h13 => ?_)
  · rw [hG.kd hj, nI_eq (by have := (hI.2.1 j hj).1; omega) (by decide)] at h13
    refine pm_iconst (pc := 20) (v := nI 0) dX10_weighs_20 (by decide) ?_
    refine pm_iadd (pc := 21) dX10_weighs_21 ?_
    refine pm_iret (pc := 22) rfl (Nat.le_refl _) (Nat.le_refl _) dX10_weighs_22 ?_
    exact QR.r (by rw [hG.wt hj, nI_add]; unfold g_w; first | rw [if_pos h13] | rw [if_neg h13])
  · rw [hG.kd hj, nI_eq (by have := (hI.2.1 j hj).1; omega) (by decide)] at h13
    refine pm_iconst (pc := 16) (v := nI 2) dX10_weighs_16 (by decide) ?_
    refine pm_goto (pc := 17) (tgt := 21) dX10_weighs_17 rfl ?_
    refine pm_iadd (pc := 21) dX10_weighs_21 ?_
    refine pm_iret (pc := 22) rfl (Nat.le_refl _) (Nat.le_refl _) dX10_weighs_22 ?_
    exact QR.r (by rw [hG.wt hj, nI_add]; unfold g_w; first | rw [if_pos h13] | rw [if_neg h13])
set_option maxRecDepth 100000 in
set_option maxHeartbeats 4000000 in
theorem c_mTownOf {I : pm_I} {L : pm_L} {s : gS} {j : Nat} (hG : MG I s) (hI : gInv s) (hj : j < g_n s) : PC 0 0 0 yX10_townOf cX10_townOf 2 (some (.int)) [.ref 40, .int (nI j)] GG I L (QR GG I L (nI (g_ow s j))) := by
  have h12 := hI.n12
  refine PC.of [some (.ref 40), some (.int (nI j))] (by decide) (Nat.le_of_ble_eq_true rfl) rfl (fun l P => ?_)
  refine pm_aload_n (pc := 0) dX10_townOf_0 rfl ?_
  refine pm_getr (pc := 1) (ci := 8) (C0 := RX10) (T := TX10) (N := 34) (j := 1) rfl rfl in_X10 (by decide) wf_X10_7 rfl dX10_townOf_1 ?_
  refine pm_iload_n (pc := 4) dX10_townOf_4 rfl ?_
  refine pm_iald (pc := 5) rfl (by omega) (by decide) dX10_townOf_5 ?_
  refine pm_iconst (pc := 6) (v := nI 2) dX10_townOf_6 (by decide) ?_
  refine pm_icmp_ne (pc := 7) (tgt := 14) dX10_townOf_7 rfl (fun h7 => ?_) (fun h7 => ?_)
  · rw [hG.kd hj, nI_eq (by have := (hI.2.1 j hj).1; omega) (by decide)] at h7
    refine pm_aload_n (pc := 14) dX10_townOf_14 rfl ?_
    refine pm_getr (pc := 15) (ci := 8) (C0 := RX10) (T := TX10) (N := 34) (j := 3) rfl rfl in_X10 (by decide) wf_X10_16 rfl dX10_townOf_15 ?_
    refine pm_iload_n (pc := 18) dX10_townOf_18 rfl ?_
    refine pm_iald (pc := 19) rfl (by omega) (by decide) dX10_townOf_19 ?_
    refine pm_iret (pc := 20) rfl (Nat.le_refl _) (Nat.le_refl _) dX10_townOf_20 ?_
    exact QR.r (by unfold g_ow; first | rw [if_pos h7] | rw [if_neg h7, hG.tw hj])
  · rw [hG.kd hj, nI_eq (by have := (hI.2.1 j hj).1; omega) (by decide)] at h7
    refine pm_iconst (pc := 10) (v := nI 4) dX10_townOf_10 (by decide) ?_
    refine pm_goto (pc := 11) (tgt := 20) dX10_townOf_11 rfl ?_
    refine pm_iret (pc := 20) rfl (Nat.le_refl _) (Nat.le_refl _) dX10_townOf_20 ?_
    exact QR.r (by unfold g_ow; first | rw [if_pos h7] | rw [if_neg h7, hG.tw hj])
set_option maxRecDepth 100000 in
set_option maxHeartbeats 4000000 in
theorem c_mTopOf {I : pm_I} {L : pm_L} {s : gS} {p : Nat} (hG : MG I s) (hI : gInv s) (hp : p < 6) : PC 0 0 0 yX10_topOf cX10_topOf 2 (some (.int)) [.ref 40, .int (nI p)] GG I L (QR GG I L (nI (g_top s p))) := by
  have hlen := hI.len hp
  have h12 := hI.n12
  refine PC.of [some (.ref 40), some (.int (nI p))] (by decide) (Nat.le_of_ble_eq_true rfl) rfl (fun l P => ?_)
  refine pm_aload_n (pc := 0) dX10_topOf_0 rfl ?_
  refine pm_getr (pc := 1) (ci := 8) (C0 := RX10) (T := TX10) (N := 34) (j := 5) rfl rfl in_X10 (by decide) wf_X10_22 rfl dX10_topOf_1 ?_
  refine pm_iload_n (pc := 4) dX10_topOf_4 rfl ?_
  refine pm_iald (pc := 5) rfl (by omega) (by decide) dX10_topOf_5 ?_
  refine pm_if_ne (pc := 6) (tgt := 14) dX10_topOf_6 rfl (fun h6 => ?_) (fun h6 => ?_)
  · have hs : g_st s p ≠ [] := fun z => h6 (by rw [hG.mn hp, z]; rfl)
    have hl0 : 0 < (g_st s p).length := List.length_pos_iff.mpr hs
    refine pm_aload_n (pc := 14) dX10_topOf_14 rfl ?_
    refine pm_getr (pc := 15) (ci := 8) (C0 := RX10) (T := TX10) (N := 34) (j := 6) rfl rfl in_X10 (by decide) wf_X10_25 rfl dX10_topOf_15 ?_
    refine pm_bipush (pc := 18) (v := nI 12) dX10_topOf_18 (by decide) ?_
    refine pm_iload_n (pc := 20) dX10_topOf_20 rfl ?_
    refine pm_imul (pc := 21) dX10_topOf_21 ?_
    refine pm_aload_n (pc := 22) dX10_topOf_22 rfl ?_
    refine pm_getr (pc := 23) (ci := 8) (C0 := RX10) (T := TX10) (N := 34) (j := 5) rfl rfl in_X10 (by decide) wf_X10_22 rfl dX10_topOf_23 ?_
    refine pm_iload_n (pc := 26) dX10_topOf_26 rfl ?_
    refine pm_iald (pc := 27) rfl (by omega) (by decide) dX10_topOf_27 ?_
    refine pm_iadd (pc := 28) dX10_topOf_28 ?_
    refine pm_iconst (pc := 29) (v := nI 1) dX10_topOf_29 (by decide) ?_
    refine pm_isub (pc := 30) dX10_topOf_30 ?_
    refine pm_top (x' := nI (12 * p + ((g_st s p).length - 1))) (by rw [hG.mn hp, pk_mul, nI_add, pk_sub (by omega)]; congr 1; omega) ?_
    refine pm_iald (pc := 31) rfl (by omega) (by decide) dX10_topOf_31 ?_
    refine pm_iret (pc := 32) rfl (Nat.le_refl _) (Nat.le_refl _) dX10_topOf_32 ?_
    exact QR.r (by first | (rw [hG.pl hp (by omega), m_pl_top hs]; done) | rw [g_top12 hs])
  · have hs : g_st s p = [] := by
      rw [hG.mn hp] at h6
      simp (disch := omega) only [pm_eqI, nI_toInt, pm_t0] at h6
      exact List.length_eq_zero_iff.mp (by omega)
    refine pm_bipush (pc := 9) (v := nI 12) dX10_topOf_9 (by decide) ?_
    refine pm_goto (pc := 11) (tgt := 32) dX10_topOf_11 rfl ?_
    refine pm_iret (pc := 32) rfl (Nat.le_refl _) (Nat.le_refl _) dX10_topOf_32 ?_
    exact QR.r (by first | (rw [hG.pl hp (by omega), m_pl_top hs]; done) | rw [g_top12 hs])
set_option maxRecDepth 100000 in
set_option maxHeartbeats 4000000 in
theorem c_mPut {I : pm_I} {L : pm_L} {s : gS} {a p : Nat} (hG : MG I s) (hI : gInv s) (ha : a < g_n s) (hw : 6 ≤ g_wh s a) (hp : p < 6) : PC 0 0 0 yX10_put cX10_put 3 none [.ref 40, .int (nI a), .int (nI p)] GG I L (QV GG (fun I' L' => mX I (s_put s a p) I' ∧ L' = L)) := by
  have h12 := hI.n12
  have hl := put_len hI ha hw hp
  refine PC.of [some (.ref 40), some (.int (nI a)), some (.int (nI p))] (by decide) (Nat.le_of_ble_eq_true rfl) rfl (fun l P => ?_)
  refine pm_aload_n (pc := 0) dX10_put_0 rfl ?_
  refine pm_getr (pc := 1) (ci := 8) (C0 := RX10) (T := TX10) (N := 34) (j := 4) rfl rfl in_X10 (by decide) wf_X10_19 rfl dX10_put_1 ?_
  refine pm_iload_n (pc := 4) dX10_put_4 rfl ?_
  refine pm_iload_n (pc := 5) dX10_put_5 rfl ?_
  refine pm_iast (pc := 6) rfl (by omega) (by decide) dX10_put_6 ?_
  refine pm_aload_n (pc := 7) dX10_put_7 rfl ?_
  refine pm_getr (pc := 8) (ci := 8) (C0 := RX10) (T := TX10) (N := 34) (j := 6) rfl rfl in_X10 (by decide) wf_X10_25 rfl dX10_put_8 ?_
  refine pm_bipush (pc := 11) (v := nI 12) dX10_put_11 (by decide) ?_
  refine pm_iload_n (pc := 13) dX10_put_13 rfl ?_
  refine pm_imul (pc := 14) dX10_put_14 ?_
  refine pm_aload_n (pc := 15) dX10_put_15 rfl ?_
  refine pm_getr (pc := 16) (ci := 8) (C0 := RX10) (T := TX10) (N := 34) (j := 5) rfl rfl in_X10 (by decide) wf_X10_22 rfl dX10_put_16 ?_
  refine pm_iload_n (pc := 19) dX10_put_19 rfl ?_
  refine pm_iald (pc := 20) rfl (by omega) (by decide) dX10_put_20 ?_
  refine pm_iadd (pc := 21) dX10_put_21 ?_
  refine pm_top (x' := nI (12 * p + (g_st s p).length)) (by show nI 12 * nI p + I 45 p = _; rw [hG.mn hp, pk_mul, nI_add]) ?_
  refine pm_iload_n (pc := 22) dX10_put_22 rfl ?_
  refine pm_iast (pc := 23) rfl (by omega) (by decide) dX10_put_23 ?_
  refine pm_aload_n (pc := 24) dX10_put_24 rfl ?_
  refine pm_getr (pc := 25) (ci := 8) (C0 := RX10) (T := TX10) (N := 34) (j := 5) rfl rfl in_X10 (by decide) wf_X10_22 rfl dX10_put_25 ?_
  refine pm_iload_n (pc := 28) dX10_put_28 rfl ?_
  refine pm_dup2 (pc := 29) dX10_put_29 rfl rfl ?_
  refine pm_iald (pc := 30) rfl (by omega) (by decide) dX10_put_30 ?_
  refine pm_iconst (pc := 31) (v := nI 1) dX10_put_31 (by decide) ?_
  refine pm_iadd (pc := 32) dX10_put_32 ?_
  refine pm_top (x' := nI ((g_st s p).length + 1)) (by show I 45 p + nI 1 = _; rw [hG.mn hp, nI_add]) ?_
  refine pm_iast (pc := 33) rfl (by omega) (by decide) dX10_put_33 ?_
  refine pm_vret (pc := 34) rfl (Nat.le_refl _) (Nat.le_refl _) dX10_put_34 ?_
  exact QV.r ⟨MG_put hG hI ha hw hp, rfl⟩
set_option maxRecDepth 100000 in
set_option maxHeartbeats 4000000 in
theorem c_mTake {I : pm_I} {L : pm_L} {s : gS} {p : Nat} (hG : MG I s) (hI : gInv s) (hp : p < 6) (hs : g_st s p ≠ []) : PC 1 0 0 yX10_takeTop cX10_takeTop 3 (some (.int)) [.ref 40, .int (nI p)] GG I L (QI GG (fun r I' L' => r = nI (g_top s p) ∧ mX I (s_take s p) I' ∧ L' = L)) := by
  have h12 := hI.n12
  have ht := (hI.top hp hs).1
  refine PC.of [some (.ref 40), some (.int (nI p)), none] (by decide) (Nat.le_of_ble_eq_true rfl) rfl (fun l P => ?_)
  refine pm_aload_n (pc := 0) dX10_takeTop_0 rfl ?_
  refine pm_iload_n (pc := 1) dX10_takeTop_1 rfl ?_
  refine pm_cVR (pc := 2) dX10_takeTop_2 (c_mTopOf hG hI hp) wq_X10_topOf wm_X10_93 wi_X10_topOf ws_X10_topOf rfl rfl ⟨Nat.le_of_ble_eq_true rfl, Nat.le_of_ble_eq_true rfl⟩ ⟨Nat.le_of_ble_eq_true rfl, Nat.le_of_ble_eq_true rfl⟩ rfl (Nat.le_of_ble_eq_true rfl) ?_
  refine pm_istore_n (pc := 5) dX10_takeTop_5 (by decide) rfl ?_
  refine pm_aload_n (pc := 6) dX10_takeTop_6 rfl ?_
  refine pm_getr (pc := 7) (ci := 8) (C0 := RX10) (T := TX10) (N := 34) (j := 5) rfl rfl in_X10 (by decide) wf_X10_22 rfl dX10_takeTop_7 ?_
  refine pm_iload_n (pc := 10) dX10_takeTop_10 rfl ?_
  refine pm_dup2 (pc := 11) dX10_takeTop_11 rfl rfl ?_
  refine pm_iald (pc := 12) rfl (by omega) (by decide) dX10_takeTop_12 ?_
  refine pm_iconst (pc := 13) (v := nI 1) dX10_takeTop_13 (by decide) ?_
  refine pm_isub (pc := 14) dX10_takeTop_14 ?_
  refine pm_top (x' := nI ((g_st s p).length - 1)) (by rw [hG.mn hp, pk_sub (List.length_pos_iff.mpr hs)]) ?_
  refine pm_iast (pc := 15) rfl (by omega) (by decide) dX10_takeTop_15 ?_
  refine pm_aload_n (pc := 16) dX10_takeTop_16 rfl ?_
  refine pm_getr (pc := 17) (ci := 8) (C0 := RX10) (T := TX10) (N := 34) (j := 4) rfl rfl in_X10 (by decide) wf_X10_19 rfl dX10_takeTop_17 ?_
  refine pm_iload_n (pc := 20) dX10_takeTop_20 rfl ?_
  refine pm_bipush (pc := 21) (v := nI 6) dX10_takeTop_21 (by decide) ?_
  refine pm_iast (pc := 23) rfl (by omega) (by decide) dX10_takeTop_23 ?_
  refine pm_iload_n (pc := 24) dX10_takeTop_24 rfl ?_
  refine pm_iret (pc := 25) rfl (Nat.le_refl _) (Nat.le_refl _) dX10_takeTop_25 ?_
  exact QI.r ⟨rfl, MG_take hG hI hp hs, rfl⟩
set_option maxRecDepth 100000 in
theorem c_mLoadOf {I : pm_I} {L : pm_L} {s : gS} {p : Nat} (hG : MG I s) (hI : gInv s) (hp : p < 6) : PC 1 0 0 yX10_loadOf cX10_loadOf 4 (some (.int)) [.ref 40, .int (nI p)] GG I L (QR GG I L (nI (g_load s p))) := by
  have h12 := hI.n12
  have hlen := hI.len hp
  refine PC.of [some (.ref 40), some (.int (nI p)), none, none] (by decide) (Nat.le_of_ble_eq_true rfl) rfl (fun l P => ?_)
  have lp4 : ∀ (m i : Nat), i + m = (g_st s p).length → PW l P yX10_loadOf cX10_loadOf 4 (some (.int)) (pm_rm 1 0 0) (pm_Tg P (QR GG I L (nI (g_load s p))) 0 0) 0 0 4 [some (.ref 40), some (.int (nI p)), some (.int (nI (fb_sm (fun k => g_w s (m_pl s p k)) i))), some (.int (nI i))] [] GG I L := by
    intro m
    induction m with
    | zero =>
      intro i hm
      refine pm_iload_n (pc := 4) dX10_loadOf_4 rfl ?_
      refine pm_aload_n (pc := 5) dX10_loadOf_5 rfl ?_
      refine pm_getr (pc := 6) (ci := 8) (C0 := RX10) (T := TX10) (N := 34) (j := 5) rfl rfl in_X10 (by decide) wf_X10_22 rfl dX10_loadOf_6 ?_
      refine pm_iload_n (pc := 9) dX10_loadOf_9 rfl ?_
      refine pm_iald (pc := 10) rfl (by omega) (by decide) dX10_loadOf_10 ?_
      refine pm_icmp_ge (pc := 11) (tgt := 38) dX10_loadOf_11 rfl (fun h11 => ?_) (fun h11 => (by simp (disch := omega) only [hG.mn hp, pm_eqI, pm_ltI, pm_leI, nI_toInt, pm_t0, pm_t1, pm_tm1] at h11; omega))
      refine pm_iload_n (pc := 38) dX10_loadOf_38 rfl ?_
      refine pm_iret (pc := 39) rfl (Nat.le_refl _) (Nat.le_refl _) dX10_loadOf_39 ?_
      have e : i = (g_st s p).length := by omega
      subst e
      rw [m_load hI hp]
      exact QR.r rfl
    | succ m ih =>
      intro i hm
      refine pm_iload_n (pc := 4) dX10_loadOf_4 rfl ?_
      refine pm_aload_n (pc := 5) dX10_loadOf_5 rfl ?_
      refine pm_getr (pc := 6) (ci := 8) (C0 := RX10) (T := TX10) (N := 34) (j := 5) rfl rfl in_X10 (by decide) wf_X10_22 rfl dX10_loadOf_6 ?_
      refine pm_iload_n (pc := 9) dX10_loadOf_9 rfl ?_
      refine pm_iald (pc := 10) rfl (by omega) (by decide) dX10_loadOf_10 ?_
      refine pm_icmp_ge (pc := 11) (tgt := 38) dX10_loadOf_11 rfl (fun h11 => (by simp (disch := omega) only [hG.mn hp, pm_eqI, pm_ltI, pm_leI, nI_toInt, pm_t0, pm_t1, pm_tm1] at h11; omega)) (fun h11 => ?_)
      refine pm_iload_n (pc := 14) dX10_loadOf_14 rfl ?_
      refine pm_aload_n (pc := 15) dX10_loadOf_15 rfl ?_
      refine pm_aload_n (pc := 16) dX10_loadOf_16 rfl ?_
      refine pm_getr (pc := 17) (ci := 8) (C0 := RX10) (T := TX10) (N := 34) (j := 6) rfl rfl in_X10 (by decide) wf_X10_25 rfl dX10_loadOf_17 ?_
      refine pm_bipush (pc := 20) (v := nI 12) dX10_loadOf_20 (by decide) ?_
      refine pm_iload_n (pc := 22) dX10_loadOf_22 rfl ?_
      refine pm_imul (pc := 23) dX10_loadOf_23 ?_
      refine pm_iload_n (pc := 24) dX10_loadOf_24 rfl ?_
      refine pm_iadd (pc := 25) dX10_loadOf_25 ?_
      refine pm_top (x' := nI (12 * p + i)) (by rw [pk_mul, nI_add]) ?_
      refine pm_iald (pc := 26) rfl (by omega) (by decide) dX10_loadOf_26 ?_
      rw [hG.pl hp (show i < (g_st s p).length by omega)]
      refine pm_cVR (pc := 27) dX10_loadOf_27 (c_mWeighs hG hI (m_pl_lt hI hp (show i < (g_st s p).length by omega)).1) wq_X10_weighs wm_X10_97 wi_X10_weighs ws_X10_weighs rfl rfl ⟨Nat.le_of_ble_eq_true rfl, Nat.le_of_ble_eq_true rfl⟩ ⟨Nat.le_of_ble_eq_true rfl, Nat.le_of_ble_eq_true rfl⟩ rfl (Nat.le_of_ble_eq_true rfl) ?_
      refine pm_iadd (pc := 30) dX10_loadOf_30 ?_
      refine pm_istore_n (pc := 31) dX10_loadOf_31 (by decide) rfl ?_
      refine pm_iinc (pc := 32) dX10_loadOf_32 rfl (pm_inc1 _) (by decide) rfl ?_
      refine pm_goto (pc := 35) (tgt := 4) dX10_loadOf_35 rfl ?_
      have k9 := ih (i + 1) (by omega)
      rw [fb_sm_succ, ← nI_add] at k9
      exact k9
  refine pm_iconst (pc := 0) (v := nI 0) dX10_loadOf_0 (by decide) ?_
  refine pm_istore_n (pc := 1) dX10_loadOf_1 (by decide) rfl ?_
  refine pm_iconst (pc := 2) (v := nI 0) dX10_loadOf_2 (by decide) ?_
  refine pm_istore_n (pc := 3) dX10_loadOf_3 (by decide) rfl ?_
  exact lp4 ((g_st s p).length) 0 (by omega)
set_option maxRecDepth 100000 in
theorem c_mCountIn {I : pm_I} {L : pm_L} {s : gS} {p : Nat} (hG : MG I s) (hI : gInv s) (hp : p < 2 ^ 31) : PC 0 0 0 yX10_countIn cX10_countIn 4 (some (.int)) [.ref 40, .int (nI p)] GG I L (QR GG I L (nI (g_cnt s p))) := by
  have h12 := hI.n12
  refine PC.of [some (.ref 40), some (.int (nI p)), none, none] (by decide) (Nat.le_of_ble_eq_true rfl) rfl (fun l P => ?_)
  have lp4 : ∀ (m i : Nat), i + m = g_n s → PW l P yX10_countIn cX10_countIn 4 (some (.int)) (pm_rm 0 0 0) (pm_Tg P (QR GG I L (nI (g_cnt s p))) 0 0) 0 0 4 [some (.ref 40), some (.int (nI p)), some (.int (nI (fb_sm (fun j => if g_wh s j = p then 1 else 0) i))), some (.int (nI i))] [] GG I L := by
    intro m
    induction m with
    | zero =>
      intro i hm
      refine pm_iload_n (pc := 4) dX10_countIn_4 rfl ?_
      refine pm_aload_n (pc := 5) dX10_countIn_5 rfl ?_
      refine pm_get (pc := 6) (ci := 8) (C0 := RX10) (T := TX10) (N := 34) (j := 0) rfl rfl in_X10 (by decide) wf_X10_83 rfl dX10_countIn_6 ?_
      refine pm_icmp_ge (pc := 9) (tgt := 36) dX10_countIn_9 rfl (fun h9 => ?_) (fun h9 => (by simp (disch := omega) only [hG.n, pm_eqI, pm_ltI, pm_leI, nI_toInt, pm_t0, pm_t1, pm_tm1] at h9; omega))
      refine pm_iload_n (pc := 36) dX10_countIn_36 rfl ?_
      refine pm_iret (pc := 37) rfl (Nat.le_refl _) (Nat.le_refl _) dX10_countIn_37 ?_
      have e : i = g_n s := by omega
      subst e
      exact QR.r rfl
    | succ m ih =>
      intro i hm
      refine pm_iload_n (pc := 4) dX10_countIn_4 rfl ?_
      refine pm_aload_n (pc := 5) dX10_countIn_5 rfl ?_
      refine pm_get (pc := 6) (ci := 8) (C0 := RX10) (T := TX10) (N := 34) (j := 0) rfl rfl in_X10 (by decide) wf_X10_83 rfl dX10_countIn_6 ?_
      refine pm_icmp_ge (pc := 9) (tgt := 36) dX10_countIn_9 rfl (fun h9 => (by simp (disch := omega) only [hG.n, pm_eqI, pm_ltI, pm_leI, nI_toInt, pm_t0, pm_t1, pm_tm1] at h9; omega)) (fun h9 => ?_)
      refine pm_iload_n (pc := 12) dX10_countIn_12 rfl ?_
      refine pm_aload_n (pc := 13) dX10_countIn_13 rfl ?_
      refine pm_getr (pc := 14) (ci := 8) (C0 := RX10) (T := TX10) (N := 34) (j := 4) rfl rfl in_X10 (by decide) wf_X10_19 rfl dX10_countIn_14 ?_
      refine pm_iload_n (pc := 17) dX10_countIn_17 rfl ?_
      refine pm_iald (pc := 18) rfl (by omega) (by decide) dX10_countIn_18 ?_
      refine pm_iload_n (pc := 19) dX10_countIn_19 rfl ?_
      refine pm_icmp_ne (pc := 20) (tgt := 27) dX10_countIn_20 rfl (fun h20 => ?_) (fun h20 => ?_)
      · have h7 := (hI.2.1 i (by omega)).2.2.2.2
        rw [hG.wh (show i < g_n s by omega), nI_eq (by omega) hp] at h20
        have e := h20
        have es : nI (fb_sm (fun j => if g_wh s j = p then 1 else 0) (i + 1)) = nI (fb_sm (fun j => if g_wh s j = p then 1 else 0) i) + nI 0 := by simp only [fb_sm_succ, if_neg e, Nat.add_zero, nI_add]
        refine pm_iconst (pc := 27) (v := nI 0) dX10_countIn_27 (by decide) ?_
        refine pm_iadd (pc := 28) dX10_countIn_28 ?_
        refine pm_istore_n (pc := 29) dX10_countIn_29 (by decide) rfl ?_
        refine pm_iinc (pc := 30) dX10_countIn_30 rfl (pm_inc1 _) (by decide) rfl ?_
        refine pm_goto (pc := 33) (tgt := 4) dX10_countIn_33 rfl ?_
        have k9 := ih (i + 1) (by omega)
        rw [es] at k9
        exact k9
      · have h7 := (hI.2.1 i (by omega)).2.2.2.2
        rw [hG.wh (show i < g_n s by omega), nI_eq (by omega) hp] at h20
        have e := h20
        have es : nI (fb_sm (fun j => if g_wh s j = p then 1 else 0) (i + 1)) = nI (fb_sm (fun j => if g_wh s j = p then 1 else 0) i) + nI (1) := by simp only [fb_sm_succ, nI_add, if_pos e]
        refine pm_iconst (pc := 23) (v := nI 1) dX10_countIn_23 (by decide) ?_
        refine pm_goto (pc := 24) (tgt := 28) dX10_countIn_24 rfl ?_
        refine pm_iadd (pc := 28) dX10_countIn_28 ?_
        refine pm_istore_n (pc := 29) dX10_countIn_29 (by decide) rfl ?_
        refine pm_iinc (pc := 30) dX10_countIn_30 rfl (pm_inc1 _) (by decide) rfl ?_
        refine pm_goto (pc := 33) (tgt := 4) dX10_countIn_33 rfl ?_
        have k9 := ih (i + 1) (by omega)
        rw [es] at k9
        exact k9
  refine pm_iconst (pc := 0) (v := nI 0) dX10_countIn_0 (by decide) ?_
  refine pm_istore_n (pc := 1) dX10_countIn_1 (by decide) rfl ?_
  refine pm_iconst (pc := 2) (v := nI 0) dX10_countIn_2 (by decide) ?_
  refine pm_istore_n (pc := 3) dX10_countIn_3 (by decide) rfl ?_
  exact lp4 (g_n s) 0 (by omega)
set_option maxRecDepth 100000 in
theorem c_mBagWeighs {I : pm_I} {L : pm_L} {s : gS} (hG : MG I s) (hI : gInv s)  : PC 1 0 0 yX10_bagWeighs cX10_bagWeighs 3 (some (.int)) [.ref 40] GG I L (QR GG I L (nI (g_load s 6))) := by
  have h12 := hI.n12
  refine PC.of [some (.ref 40), none, none] (by decide) (Nat.le_of_ble_eq_true rfl) rfl (fun l P => ?_)
  have lp4 : ∀ (m i : Nat), i + m = g_n s → PW l P yX10_bagWeighs cX10_bagWeighs 3 (some (.int)) (pm_rm 1 0 0) (pm_Tg P (QR GG I L (nI (g_load s 6))) 0 0) 0 0 4 [some (.ref 40), some (.int (nI (fb_sm (fun j => if g_wh s j = 6 then g_w s j else 0) i))), some (.int (nI i))] [] GG I L := by
    intro m
    induction m with
    | zero =>
      intro i hm
      refine pm_iload_n (pc := 4) dX10_bagWeighs_4 rfl ?_
      refine pm_aload_n (pc := 5) dX10_bagWeighs_5 rfl ?_
      refine pm_get (pc := 6) (ci := 8) (C0 := RX10) (T := TX10) (N := 34) (j := 0) rfl rfl in_X10 (by decide) wf_X10_83 rfl dX10_bagWeighs_6 ?_
      refine pm_icmp_ge (pc := 9) (tgt := 41) dX10_bagWeighs_9 rfl (fun h9 => ?_) (fun h9 => (by simp (disch := omega) only [hG.n, pm_eqI, pm_ltI, pm_leI, nI_toInt, pm_t0, pm_t1, pm_tm1] at h9; omega))
      refine pm_iload_n (pc := 41) dX10_bagWeighs_41 rfl ?_
      refine pm_iret (pc := 42) rfl (Nat.le_refl _) (Nat.le_refl _) dX10_bagWeighs_42 ?_
      have e : i = g_n s := by omega
      subst e
      exact QR.r rfl
    | succ m ih =>
      intro i hm
      refine pm_iload_n (pc := 4) dX10_bagWeighs_4 rfl ?_
      refine pm_aload_n (pc := 5) dX10_bagWeighs_5 rfl ?_
      refine pm_get (pc := 6) (ci := 8) (C0 := RX10) (T := TX10) (N := 34) (j := 0) rfl rfl in_X10 (by decide) wf_X10_83 rfl dX10_bagWeighs_6 ?_
      refine pm_icmp_ge (pc := 9) (tgt := 41) dX10_bagWeighs_9 rfl (fun h9 => (by simp (disch := omega) only [hG.n, pm_eqI, pm_ltI, pm_leI, nI_toInt, pm_t0, pm_t1, pm_tm1] at h9; omega)) (fun h9 => ?_)
      refine pm_iload_n (pc := 12) dX10_bagWeighs_12 rfl ?_
      refine pm_aload_n (pc := 13) dX10_bagWeighs_13 rfl ?_
      refine pm_getr (pc := 14) (ci := 8) (C0 := RX10) (T := TX10) (N := 34) (j := 4) rfl rfl in_X10 (by decide) wf_X10_19 rfl dX10_bagWeighs_14 ?_
      refine pm_iload_n (pc := 17) dX10_bagWeighs_17 rfl ?_
      refine pm_iald (pc := 18) rfl (by omega) (by decide) dX10_bagWeighs_18 ?_
      refine pm_bipush (pc := 19) (v := nI 6) dX10_bagWeighs_19 (by decide) ?_
      refine pm_icmp_ne (pc := 21) (tgt := 32) dX10_bagWeighs_21 rfl (fun h21 => ?_) (fun h21 => ?_)
      · have h7 := (hI.2.1 i (by omega)).2.2.2.2
        rw [hG.wh (show i < g_n s by omega), nI_eq (by omega) (by decide)] at h21
        have e := h21
        have es : nI (fb_sm (fun j => if g_wh s j = 6 then g_w s j else 0) (i + 1)) = nI (fb_sm (fun j => if g_wh s j = 6 then g_w s j else 0) i) + nI 0 := by simp only [fb_sm_succ, if_neg e, Nat.add_zero, nI_add]
        refine pm_iconst (pc := 32) (v := nI 0) dX10_bagWeighs_32 (by decide) ?_
        refine pm_iadd (pc := 33) dX10_bagWeighs_33 ?_
        refine pm_istore_n (pc := 34) dX10_bagWeighs_34 (by decide) rfl ?_
        refine pm_iinc (pc := 35) dX10_bagWeighs_35 rfl (pm_inc1 _) (by decide) rfl ?_
        refine pm_goto (pc := 38) (tgt := 4) dX10_bagWeighs_38 rfl ?_
        have k9 := ih (i + 1) (by omega)
        rw [es] at k9
        exact k9
      · have h7 := (hI.2.1 i (by omega)).2.2.2.2
        rw [hG.wh (show i < g_n s by omega), nI_eq (by omega) (by decide)] at h21
        have e := h21
        have es : nI (fb_sm (fun j => if g_wh s j = 6 then g_w s j else 0) (i + 1)) = nI (fb_sm (fun j => if g_wh s j = 6 then g_w s j else 0) i) + nI (g_w s i) := by simp only [fb_sm_succ, nI_add, if_pos e]
        refine pm_aload_n (pc := 24) dX10_bagWeighs_24 rfl ?_
        refine pm_iload_n (pc := 25) dX10_bagWeighs_25 rfl ?_
        refine pm_cVR (pc := 26) dX10_bagWeighs_26 (c_mWeighs hG hI (show i < g_n s by omega)) wq_X10_weighs wm_X10_97 wi_X10_weighs ws_X10_weighs rfl rfl ⟨Nat.le_of_ble_eq_true rfl, Nat.le_of_ble_eq_true rfl⟩ ⟨Nat.le_of_ble_eq_true rfl, Nat.le_of_ble_eq_true rfl⟩ rfl (Nat.le_of_ble_eq_true rfl) ?_
        refine pm_goto (pc := 29) (tgt := 33) dX10_bagWeighs_29 rfl ?_
        refine pm_iadd (pc := 33) dX10_bagWeighs_33 ?_
        refine pm_istore_n (pc := 34) dX10_bagWeighs_34 (by decide) rfl ?_
        refine pm_iinc (pc := 35) dX10_bagWeighs_35 rfl (pm_inc1 _) (by decide) rfl ?_
        refine pm_goto (pc := 38) (tgt := 4) dX10_bagWeighs_38 rfl ?_
        have k9 := ih (i + 1) (by omega)
        rw [es] at k9
        exact k9
  refine pm_iconst (pc := 0) (v := nI 0) dX10_bagWeighs_0 (by decide) ?_
  refine pm_istore_n (pc := 1) dX10_bagWeighs_1 (by decide) rfl ?_
  refine pm_iconst (pc := 2) (v := nI 0) dX10_bagWeighs_2 (by decide) ?_
  refine pm_istore_n (pc := 3) dX10_bagWeighs_3 (by decide) rfl ?_
  exact lp4 (g_n s) 0 (by omega)
set_option maxRecDepth 100000 in
theorem c_mPlacesWeigh {I : pm_I} {L : pm_L} {s : gS} (hG : MG I s) (hI : gInv s)  : PC 2 0 0 yX10_placesWeigh cX10_placesWeigh 3 (some (.int)) [.ref 40] GG I L (QR GG I L (nI (g_loads s))) := by
  have h12 := hI.n12
  refine PC.of [some (.ref 40), none, none] (by decide) (Nat.le_of_ble_eq_true rfl) rfl (fun l P => ?_)
  have lp4 : ∀ (m i : Nat), i + m = 6 → PW l P yX10_placesWeigh cX10_placesWeigh 3 (some (.int)) (pm_rm 2 0 0) (pm_Tg P (QR GG I L (nI (g_loads s))) 0 0) 0 0 4 [some (.ref 40), some (.int (nI (fb_sm (g_load s) i))), some (.int (nI i))] [] GG I L := by
    intro m
    induction m with
    | zero =>
      intro i hm
      refine pm_iload_n (pc := 4) dX10_placesWeigh_4 rfl ?_
      refine pm_bipush (pc := 5) (v := nI 6) dX10_placesWeigh_5 (by decide) ?_
      refine pm_icmp_ge (pc := 7) (tgt := 24) dX10_placesWeigh_7 rfl (fun h7 => ?_) (fun h7 => (by simp (disch := omega) only [pm_eqI, pm_ltI, pm_leI, nI_toInt, pm_t0, pm_t1, pm_tm1] at h7; omega))
      refine pm_iload_n (pc := 24) dX10_placesWeigh_24 rfl ?_
      refine pm_iret (pc := 25) rfl (Nat.le_refl _) (Nat.le_refl _) dX10_placesWeigh_25 ?_
      have e : i = 6 := by omega
      subst e
      exact QR.r rfl
    | succ m ih =>
      intro i hm
      refine pm_iload_n (pc := 4) dX10_placesWeigh_4 rfl ?_
      refine pm_bipush (pc := 5) (v := nI 6) dX10_placesWeigh_5 (by decide) ?_
      refine pm_icmp_ge (pc := 7) (tgt := 24) dX10_placesWeigh_7 rfl (fun h7 => (by simp (disch := omega) only [pm_eqI, pm_ltI, pm_leI, nI_toInt, pm_t0, pm_t1, pm_tm1] at h7; omega)) (fun h7 => ?_)
      refine pm_iload_n (pc := 10) dX10_placesWeigh_10 rfl ?_
      refine pm_aload_n (pc := 11) dX10_placesWeigh_11 rfl ?_
      refine pm_iload_n (pc := 12) dX10_placesWeigh_12 rfl ?_
      refine pm_cVR (pc := 13) dX10_placesWeigh_13 (c_mLoadOf hG hI (show i < 6 by omega)) wq_X10_loadOf wm_X10_127 wi_X10_loadOf ws_X10_loadOf rfl rfl ⟨Nat.le_of_ble_eq_true rfl, Nat.le_of_ble_eq_true rfl⟩ ⟨Nat.le_of_ble_eq_true rfl, Nat.le_of_ble_eq_true rfl⟩ rfl (Nat.le_of_ble_eq_true rfl) ?_
      refine pm_iadd (pc := 16) dX10_placesWeigh_16 ?_
      refine pm_istore_n (pc := 17) dX10_placesWeigh_17 (by decide) rfl ?_
      refine pm_iinc (pc := 18) dX10_placesWeigh_18 rfl (pm_inc1 _) (by decide) rfl ?_
      refine pm_goto (pc := 21) (tgt := 4) dX10_placesWeigh_21 rfl ?_
      have k9 := ih (i + 1) (by omega)
      rw [fb_sm_succ, ← nI_add] at k9
      exact k9
  refine pm_iconst (pc := 0) (v := nI 0) dX10_placesWeigh_0 (by decide) ?_
  refine pm_istore_n (pc := 1) dX10_placesWeigh_1 (by decide) rfl ?_
  refine pm_iconst (pc := 2) (v := nI 0) dX10_placesWeigh_2 (by decide) ?_
  refine pm_istore_n (pc := 3) dX10_placesWeigh_3 (by decide) rfl ?_
  exact lp4 (6) 0 (by omega)
theorem idx_rev {l : List Nat} (hn : l.Nodup) {j k : Nat} (hk : k < l.length) (e : l.reverse.getD k 0 = j) : l.idxOf j = l.length - 1 - k := by
  have h1 : l.length - 1 - k < l.length := by omega
  have h2 : l[l.length - 1 - k]'h1 = j := by
    rw [List.getD_eq_getElem?_getD, List.getElem?_reverse hk, List.getElem?_eq_getElem h1] at e
    exact e
  rw [← h2]
  exact List.Nodup.idxOf_getElem hn _ h1
theorem idx_in {l : List Nat} {j : Nat} (hj : j ∈ l) : ∃ k, k < l.length ∧ l.reverse.getD k 0 = j := by
  obtain ⟨k, hk, e⟩ := List.getElem_of_mem (List.mem_reverse.mpr hj)
  exact ⟨k, by rw [List.length_reverse] at hk; exact hk, by rw [List.getD_eq_getElem?_getD, List.getElem?_eq_getElem hk]; exact e⟩
/-- what the reference has counted behind i looks -/
def m_off (s : gS) (j : Nat) : Nat → Nat
  | 0 => 0
  | i + 1 => if m_pl s (g_wh s j) i = j then (g_st s (g_wh s j)).length - 1 - i else m_off s j i
theorem m_off_no {s : gS} {j : Nat} : ∀ i, (∀ k, k < i → m_pl s (g_wh s j) k ≠ j) → m_off s j i = 0
  | 0, _ => rfl
  | i + 1, h => by rw [m_off, if_neg (h i (by omega)), m_off_no i (fun k hk => h k (by omega))]
theorem m_off_yes {s : gS} (hI : gInv s) {j : Nat} (hw : g_wh s j < 6) : ∀ i, i ≤ (g_st s (g_wh s j)).length → (∃ k, k < i ∧ m_pl s (g_wh s j) k = j) → m_off s j i = (g_st s (g_wh s j)).idxOf j
  | 0, _, h => by obtain ⟨k, hk, -⟩ := h; omega
  | i + 1, hi, h => by
    rw [m_off]
    by_cases e : m_pl s (g_wh s j) i = j
    · rw [if_pos e]; exact (idx_rev (hI.2.2 _ hw).2.1 (by omega) e).symm
    · rw [if_neg e]
      obtain ⟨k, hk, e2⟩ := h
      exact m_off_yes hI hw i (by omega) ⟨k, by rcases (show k < i ∨ k = i by omega) with q | q; exact q; rw [q] at e2; exact absurd e2 e, e2⟩
theorem m_off_all {s : gS} (hI : gInv s) {j : Nat} (hj : j < g_n s) (hw : g_wh s j < 6) : m_off s j (g_st s (g_wh s j)).length = g_off s j := by
  rw [g_off, if_pos hw]
  exact m_off_yes hI hw _ (Nat.le_refl _) (idx_in ((hI.mem hw).mpr ⟨hj, rfl⟩))
set_option maxRecDepth 100000 in
theorem c_mOffOf {I : pm_I} {L : pm_L} {s : gS} {j : Nat} (hG : MG I s) (hI : gInv s) (hj : j < g_n s) : PC 0 0 0 yX10_offOf cX10_offOf 5 (some (.int)) [.ref 40, .int (nI j)] GG I L (QR GG I L (nI (g_off s j))) := by
  have h12 := hI.n12
  have h7 := (hI.2.1 j hj).2.2.2.2
  refine PC.of [some (.ref 40), some (.int (nI j)), none, none, none] (by decide) (Nat.le_of_ble_eq_true rfl) rfl (fun l P => ?_)
  by_cases hw : g_wh s j < 6
  · have hlen := hI.len hw
    have lp12 : ∀ (m i : Nat), i + m = (g_st s (g_wh s j)).length → PW l P yX10_offOf cX10_offOf 5 (some (.int)) (pm_rm 0 0 0) (pm_Tg P (QR GG I L (nI (g_off s j))) 0 0) 0 0 12 [some (.ref 40), some (.int (nI j)), some (.int (nI (g_wh s j))), some (.int (nI (m_off s j i))), some (.int (nI i))] [] GG I L := by
      intro m
      induction m with
      | zero =>
        intro i hm
        refine pm_iload_n (pc := 12) dX10_offOf_12 rfl ?_
        refine pm_bipush (pc := 13) (v := nI 6) dX10_offOf_13 (by decide) ?_
        refine pm_icmp_ge (pc := 15) (tgt := 67) dX10_offOf_15 rfl (fun h15 => (by simp (disch := omega) only [pm_eqI, pm_ltI, pm_leI, nI_toInt, pm_t0, pm_t1, pm_tm1] at h15; omega)) (fun h15 => ?_)
        refine pm_iload (pc := 18) dX10_offOf_18 rfl ?_
        refine pm_aload_n (pc := 20) dX10_offOf_20 rfl ?_
        refine pm_getr (pc := 21) (ci := 8) (C0 := RX10) (T := TX10) (N := 34) (j := 5) rfl rfl in_X10 (by decide) wf_X10_22 rfl dX10_offOf_21 ?_
        refine pm_iload_n (pc := 24) dX10_offOf_24 rfl ?_
        refine pm_iald (pc := 25) rfl (by omega) (by decide) dX10_offOf_25 ?_
        refine pm_icmp_ge (pc := 26) (tgt := 67) dX10_offOf_26 rfl (fun h26 => ?_) (fun h26 => (by simp (disch := omega) only [hG.mn hw, pm_eqI, pm_ltI, pm_leI, nI_toInt, pm_t0, pm_t1, pm_tm1] at h26; omega))
        refine pm_iload_n (pc := 67) dX10_offOf_67 rfl ?_
        refine pm_iret (pc := 68) rfl (Nat.le_refl _) (Nat.le_refl _) dX10_offOf_68 ?_
        have e : i = (g_st s (g_wh s j)).length := by omega
        subst e
        exact QR.r (by rw [m_off_all hI hj hw])
      | succ m ih =>
        intro i hm
        refine pm_iload_n (pc := 12) dX10_offOf_12 rfl ?_
        refine pm_bipush (pc := 13) (v := nI 6) dX10_offOf_13 (by decide) ?_
        refine pm_icmp_ge (pc := 15) (tgt := 67) dX10_offOf_15 rfl (fun h15 => (by simp (disch := omega) only [pm_eqI, pm_ltI, pm_leI, nI_toInt, pm_t0, pm_t1, pm_tm1] at h15; omega)) (fun h15 => ?_)
        refine pm_iload (pc := 18) dX10_offOf_18 rfl ?_
        refine pm_aload_n (pc := 20) dX10_offOf_20 rfl ?_
        refine pm_getr (pc := 21) (ci := 8) (C0 := RX10) (T := TX10) (N := 34) (j := 5) rfl rfl in_X10 (by decide) wf_X10_22 rfl dX10_offOf_21 ?_
        refine pm_iload_n (pc := 24) dX10_offOf_24 rfl ?_
        refine pm_iald (pc := 25) rfl (by omega) (by decide) dX10_offOf_25 ?_
        refine pm_icmp_ge (pc := 26) (tgt := 67) dX10_offOf_26 rfl (fun h26 => (by simp (disch := omega) only [hG.mn hw, pm_eqI, pm_ltI, pm_leI, nI_toInt, pm_t0, pm_t1, pm_tm1] at h26; omega)) (fun h26 => ?_)
        refine pm_aload_n (pc := 29) dX10_offOf_29 rfl ?_
        refine pm_getr (pc := 30) (ci := 8) (C0 := RX10) (T := TX10) (N := 34) (j := 6) rfl rfl in_X10 (by decide) wf_X10_25 rfl dX10_offOf_30 ?_
        refine pm_bipush (pc := 33) (v := nI 12) dX10_offOf_33 (by decide) ?_
        refine pm_iload_n (pc := 35) dX10_offOf_35 rfl ?_
        refine pm_imul (pc := 36) dX10_offOf_36 ?_
        refine pm_iload (pc := 37) dX10_offOf_37 rfl ?_
        refine pm_iadd (pc := 39) dX10_offOf_39 ?_
        refine pm_top (x' := nI (12 * g_wh s j + i)) (by rw [pk_mul, nI_add]) ?_
        refine pm_iald (pc := 40) rfl (by omega) (by decide) dX10_offOf_40 ?_
        rw [hG.pl hw (show i < (g_st s (g_wh s j)).length by omega)]
        refine pm_iload_n (pc := 41) dX10_offOf_41 rfl ?_
        refine pm_icmp_ne (pc := 42) (tgt := 59) dX10_offOf_42 rfl (fun h42 => ?_) (fun h42 => ?_)
        · have ml := (m_pl_lt hI hw (show i < (g_st s (g_wh s j)).length by omega)).1
          rw [nI_eq (by omega) (by omega)] at h42
          have es : m_off s j (i + 1) = m_off s j i := by rw [m_off, if_neg h42]
          refine pm_iload_n (pc := 59) dX10_offOf_59 rfl ?_
          refine pm_istore_n (pc := 60) dX10_offOf_60 (by decide) rfl ?_
          refine pm_iinc (pc := 61) dX10_offOf_61 rfl (pm_inc1 _) (by decide) rfl ?_
          refine pm_goto (pc := 64) (tgt := 12) dX10_offOf_64 rfl ?_
          have k9 := ih (i + 1) (by omega)
          rw [es] at k9
          first
          | exact k9
          | (refine pm_eq (ls' := [some (.ref 40), some (.int (nI j)), some (.int (nI (g_wh s j))), some (.int (nI ((g_st s (g_wh s j)).length - 1 - i))), some (.int (nI (i + 1)))]) ?_ rfl rfl rfl rfl k9
             rw [hG.mn hw, pk_sub (by omega), pk_sub (by omega)]; rfl)
        · have ml := (m_pl_lt hI hw (show i < (g_st s (g_wh s j)).length by omega)).1
          rw [nI_eq (by omega) (by omega)] at h42
          have es : m_off s j (i + 1) = (g_st s (g_wh s j)).length - 1 - i := by rw [m_off, if_pos h42]
          refine pm_aload_n (pc := 45) dX10_offOf_45 rfl ?_
          refine pm_getr (pc := 46) (ci := 8) (C0 := RX10) (T := TX10) (N := 34) (j := 5) rfl rfl in_X10 (by decide) wf_X10_22 rfl dX10_offOf_46 ?_
          refine pm_iload_n (pc := 49) dX10_offOf_49 rfl ?_
          refine pm_iald (pc := 50) rfl (by omega) (by decide) dX10_offOf_50 ?_
          refine pm_iconst (pc := 51) (v := nI 1) dX10_offOf_51 (by decide) ?_
          refine pm_isub (pc := 52) dX10_offOf_52 ?_
          refine pm_iload (pc := 53) dX10_offOf_53 rfl ?_
          
          refine pm_isub (pc := 55) dX10_offOf_55 ?_
          refine pm_goto (pc := 56) (tgt := 60) dX10_offOf_56 rfl ?_
          refine pm_istore_n (pc := 60) dX10_offOf_60 (by decide) rfl ?_
          refine pm_iinc (pc := 61) dX10_offOf_61 rfl (pm_inc1 _) (by decide) rfl ?_
          refine pm_goto (pc := 64) (tgt := 12) dX10_offOf_64 rfl ?_
          have k9 := ih (i + 1) (by omega)
          rw [es] at k9
          first
          | exact k9
          | (refine pm_eq (ls' := [some (.ref 40), some (.int (nI j)), some (.int (nI (g_wh s j))), some (.int (nI ((g_st s (g_wh s j)).length - 1 - i))), some (.int (nI (i + 1)))]) ?_ rfl rfl rfl rfl k9
             rw [hG.mn hw, pk_sub (by omega), pk_sub (by omega)]; rfl)
    refine pm_aload_n (pc := 0) dX10_offOf_0 rfl ?_
    refine pm_getr (pc := 1) (ci := 8) (C0 := RX10) (T := TX10) (N := 34) (j := 4) rfl rfl in_X10 (by decide) wf_X10_19 rfl dX10_offOf_1 ?_
    refine pm_iload_n (pc := 4) dX10_offOf_4 rfl ?_
    refine pm_iald (pc := 5) rfl (by omega) (by decide) dX10_offOf_5 ?_
    rw [hG.wh hj]
    refine pm_istore_n (pc := 6) dX10_offOf_6 (by decide) rfl ?_
    refine pm_iconst (pc := 7) (v := nI 0) dX10_offOf_7 (by decide) ?_
    refine pm_istore_n (pc := 8) dX10_offOf_8 (by decide) rfl ?_
    refine pm_iconst (pc := 9) (v := nI 0) dX10_offOf_9 (by decide) ?_
    refine pm_istore (pc := 10) dX10_offOf_10 (by decide) rfl ?_
    exact lp12 (g_st s (g_wh s j)).length 0 (by omega)
  · refine pm_aload_n (pc := 0) dX10_offOf_0 rfl ?_
    refine pm_getr (pc := 1) (ci := 8) (C0 := RX10) (T := TX10) (N := 34) (j := 4) rfl rfl in_X10 (by decide) wf_X10_19 rfl dX10_offOf_1 ?_
    refine pm_iload_n (pc := 4) dX10_offOf_4 rfl ?_
    refine pm_iald (pc := 5) rfl (by omega) (by decide) dX10_offOf_5 ?_
    rw [hG.wh hj]
    refine pm_istore_n (pc := 6) dX10_offOf_6 (by decide) rfl ?_
    refine pm_iconst (pc := 7) (v := nI 0) dX10_offOf_7 (by decide) ?_
    refine pm_istore_n (pc := 8) dX10_offOf_8 (by decide) rfl ?_
    refine pm_iconst (pc := 9) (v := nI 0) dX10_offOf_9 (by decide) ?_
    refine pm_istore (pc := 10) dX10_offOf_10 (by decide) rfl ?_
    refine pm_iload_n (pc := 12) dX10_offOf_12 rfl ?_
    refine pm_bipush (pc := 13) (v := nI 6) dX10_offOf_13 (by decide) ?_
    refine pm_icmp_ge (pc := 15) (tgt := 67) dX10_offOf_15 rfl (fun h15 => ?_) (fun h15 => (by simp (disch := omega) only [pm_eqI, pm_ltI, pm_leI, nI_toInt, pm_t0, pm_t1, pm_tm1] at h15; omega))
    refine pm_iload_n (pc := 67) dX10_offOf_67 rfl ?_
    refine pm_iret (pc := 68) rfl (Nat.le_refl _) (Nat.le_refl _) dX10_offOf_68 ?_
    exact QR.r (by rw [g_off, if_neg hw])
