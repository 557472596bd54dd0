abbrev d_bt (m o : Nat) : Prop := m.testBit o = true
/-- what of the bag is of nobody who was there -/
def d_cmj (s : gS) (m j : Nat) : Nat := if g_wh s j = 6 ∧ (g_ow s j = 4 ∨ ¬ d_bt m (g_ow s j)) then g_w s j else 0
def d_cm (s : gS) (m : Nat) : Nat := fb_sm (d_cmj s m) (g_n s)
def d_bj (s : gS) (t j : Nat) : Nat := if g_wh s j = 6 ∧ g_ow s j = t then g_w s j else 0
def d_bo (s : gS) (m o : Nat) : Nat := if d_bt m o then g_bag s o else 0
theorem fb_up {f : Nat → Nat} {i : Nat} : ∀ n, i ≤ n → fb_sm f i ≤ fb_sm f n
  | 0, h => by rw [show i = 0 by omega]; exact Nat.le_refl _
  | n + 1, h => by
    rcases (show i = n + 1 ∨ i ≤ n by omega) with e | e
    · rw [e]; exact Nat.le_refl _
    · have := fb_up (f := f) n e
      rw [fb_sm_succ]; omega
theorem ow_le {s : gS} (h : gInv s) {j : Nat} (hj : j < g_n s) : g_ow s j ≤ 4 := by
  have := (h.2.1 j hj).2.2.2.1
  unfold g_ow; split <;> omega
theorem d_cm_eq {s : gS} (h : gInv s) (m : Nat) : g_load s 6 = fb_sm (d_bo s m) 4 + d_cm s m := by
  have e : ∀ o, d_bo s m o = fb_sm (fun j => if d_bt m o then d_bj s o j else 0) (g_n s) := fun o => by
    unfold d_bo
    by_cases q : d_bt m o
    · rw [if_pos q]; exact fb_sm_cong (fun k _ => by rw [if_pos q]; rfl)
    · rw [if_neg q, fb_sm_cong (g := fun _ => 0) (fun k _ => if_neg q), fb_sm_const]; rfl
  have e4 : fb_sm (d_bo s m) 4 = d_bo s m 0 + d_bo s m 1 + d_bo s m 2 + d_bo s m 3 := by
    simp only [fb_sm_succ, fb_sm, Nat.zero_add]
  rw [e4, e, e, e, e, d_cm, g_load, ← fb_sm_add, ← fb_sm_add, ← fb_sm_add, ← fb_sm_add]
  refine fb_sm_cong (fun j hj => ?_)
  have ho := ow_le h hj
  unfold d_bj d_cmj
  by_cases w : g_wh s j = 6
  · rw [if_pos w]
    rcases (show g_ow s j = 0 ∨ g_ow s j = 1 ∨ g_ow s j = 2 ∨ g_ow s j = 3 ∨ g_ow s j = 4 by omega) with q | q | q | q | q <;> rw [q] <;> simp only [w, true_and, reduceIte, if_neg (show ¬ (0 : Nat) = 1 by decide), if_neg (show ¬ (0 : Nat) = 2 by decide), if_neg (show ¬ (0 : Nat) = 3 by decide), if_neg (show ¬ (1 : Nat) = 0 by decide), if_neg (show ¬ (1 : Nat) = 2 by decide), if_neg (show ¬ (1 : Nat) = 3 by decide), if_neg (show ¬ (2 : Nat) = 0 by decide), if_neg (show ¬ (2 : Nat) = 1 by decide), if_neg (show ¬ (2 : Nat) = 3 by decide), if_neg (show ¬ (3 : Nat) = 0 by decide), if_neg (show ¬ (3 : Nat) = 1 by decide), if_neg (show ¬ (3 : Nat) = 2 by decide), if_neg (show ¬ (4 : Nat) = 0 by decide), if_neg (show ¬ (4 : Nat) = 1 by decide), if_neg (show ¬ (4 : Nat) = 2 by decide), if_neg (show ¬ (4 : Nat) = 3 by decide), ite_self]
    · by_cases z : d_bt m 0 <;> simp [z]
    · by_cases z : d_bt m 1 <;> simp [z]
    · by_cases z : d_bt m 2 <;> simp [z]
    · by_cases z : d_bt m 3 <;> simp [z]
    · simp
  · simp [w]
theorem bag_le {s : gS} (h : gInv s) (o : Nat) : g_bag s o ≤ 1212 := by
  have h1 : g_bag s o ≤ g_n s * 101 := by
    unfold g_bag
    refine fb_sm_bound (fun k hk => ?_)
    have := h.w hk
    split <;> omega
  have := h.1
  omega
theorem pc_16 {m : Nat} (h : m < 16) : g_pc m ≤ 4 := (by decide +kernel : ∀ m, m < 16 → g_pc m ≤ 4) m h
theorem pc_1 {m t : Nat} (h : m < 16) (ht : t < 4) (hb : d_bt m t) : 1 ≤ g_pc m := (by decide +kernel : ∀ m, m < 16 → ∀ t, t < 4 → m.testBit t = true → 1 ≤ g_pc m) m h t ht hb
theorem pc_4 {m : Nat} (h : m < 16) : fb_sm (fun k => if d_bt m k then 1 else 0) 4 = g_pc m := (by decide +kernel : ∀ m, m < 16 → fb_sm (fun k => if m.testBit k = true then 1 else 0) 4 = g_pc m) m h
def d_share (s : gS) (t m w : Nat) : Nat := d_part (g_bag s t * g_pc m + d_cm s m) (g_pc m) w
def sp_share (X : xS) (t m w : Int32) : Int32 × xS := if ¬ (iR t 0 3 ∧ iR m 0 15 ∧ iR w 0 1 ∧ d_bt (nt m) (nt t)) then (-1, X) else (nI (d_share (x_g X) (nt t) (nt m) (nt w)), X)
theorem sp_share_t {X : xS} {t m w : Nat} (ht : t < 4) (hm : m ≤ 15) (hw : w ≤ 1) (hb : d_bt m t) : sp_share X (nI t) (nI m) (nI w) = (nI (d_share (x_g X) t m w), X) := by
  unfold sp_share
  rw [nt_nI (show t < 2 ^ 31 by omega), nt_nI (show m < 2 ^ 31 by omega), nt_nI (show w < 2 ^ 31 by omega), if_neg (not_not_intro ⟨sh_nI ht, (iR_nI (b := 15) (by omega)).mpr hm, (iR_nI (b := 1) (by omega)).mpr hw, hb⟩)]
theorem sp_share_b {X : xS} {t m : Nat} {w : Int32} (ht : t < 4) (hm : m ≤ 15) (hb : ¬ d_bt m t) : sp_share X (nI t) (nI m) w = (-1, X) := by
  unfold sp_share
  rw [nt_nI (show t < 2 ^ 31 by omega), nt_nI (show m < 2 ^ 31 by omega), if_pos (fun z => hb z.2.2.2)]
theorem share_lt {s : gS} (h : gInv s) {t m : Nat} (hm : m < 16) : g_bag s t * g_pc m + d_cm s m < 2 ^ 30 := by
  have h1 := bag_le h t
  have h2 := d_cm_eq h m
  have h3 := g_load_le h 6
  have h4 : g_bag s t * g_pc m ≤ 1212 * 4 := Nat.mul_le_mul h1 (pc_16 hm)
  omega
set_option maxRecDepth 100000 in
set_option maxHeartbeats 1000000 in
theorem l_share {I : pm_I} {L : pm_L} {X : xS} (hR : XR I L X) (hX : xInv X) {t m w : Nat} (ht : t < 4) (hm : m ≤ 15) (hw : w ≤ 1) (hb : d_bt m t) {la : Launch} {P : pm_E} : ∀ (r i : Nat), i + r = 4 → PW la P yX9_share cX9_share 6 (some (.int)) (pm_rm 3 0 0) (pm_Tg P (XQ I L (nI (d_share (x_g X) t m w)) X) 0 0) 0 0 48 [some (.ref 0), some (.int (nI t)), some (.int (nI m)), some (.int (nI w)), some (.int (nI (g_load (x_g X) 6 - fb_sm (d_bo (x_g X) m) i))), some (.int (nI i))] [] GG I L
  | 0, i, hm0 => by
    have e : i = 4 := by omega
    subst e
    have hG := hR.1
    have hI := hX.s
    have hcm := d_cm_eq hI m
    have hpc := pc_16 (show m < 16 by omega)
    refine pm_iload (pc := 48) dX9_share_48 rfl ?_
    refine pm_iconst (pc := 50) (v := nI 4) dX9_share_50 (by decide) ?_
    refine pm_icmp_ge (pc := 51) (tgt := 83) dX9_share_51 rfl (fun h51 => ?_) (fun h51 => (by simp (disch := omega) only [pm_eqI, pm_ltI, pm_leI, nI_toInt, pm_t0, pm_t1, pm_tm1] at h51; omega))
    refine pm_iload_n (pc := 83) dX9_share_83 rfl ?_
    refine pm_cSR (pc := 84) dX9_share_84 (c_bitCount (m := m) (by omega)) wq_J6_bitCount_0f7a4 wm_X9_191 wt_J6_bitCount_0f7a4 ⟨Nat.le_of_ble_eq_true rfl, Nat.le_of_ble_eq_true rfl⟩ ⟨Nat.le_of_ble_eq_true rfl, Nat.le_of_ble_eq_true rfl⟩ rfl (Nat.le_of_ble_eq_true rfl) ?_
    refine pm_istore (pc := 87) dX9_share_87 (by decide) rfl ?_
    refine pm_aload_n (pc := 89) dX9_share_89 rfl ?_
    refine pm_getr (pc := 90) (ci := 7) (C0 := RX9) (T := TX9) (N := 9) (j := 0) rfl rfl in_X9 (by decide) wf_X9_10 rfl dX9_share_90 ?_
    refine pm_iload_n (pc := 93) dX9_share_93 rfl ?_
    refine pm_cVR (pc := 94) dX9_share_94 (c_loadInBagOf hG hI (by omega)) wq_X2_loadInBagOf wm_X9_188 wi_X2_loadInBagOf ws_X2_loadInBagOf rfl rfl ⟨Nat.le_of_ble_eq_true rfl, Nat.le_of_ble_eq_true rfl⟩ ⟨Nat.le_of_ble_eq_true rfl, Nat.le_of_ble_eq_true rfl⟩ rfl (Nat.le_of_ble_eq_true rfl) ?_
    refine pm_iload (pc := 97) dX9_share_97 rfl ?_
    refine pm_imul (pc := 99) dX9_share_99 ?_
    refine pm_iload (pc := 100) dX9_share_100 rfl ?_
    refine pm_iadd (pc := 102) dX9_share_102 ?_
    refine pm_top (x' := nI (g_bag (x_g X) t * g_pc m + d_cm (x_g X) m)) (by rw [pk_mul, nI_add]; congr 1; omega) ?_
    refine pm_iload (pc := 103) dX9_share_103 rfl ?_
    refine pm_iload_n (pc := 105) dX9_share_105 rfl ?_
    refine pm_cSR (pc := 106) dX9_share_106 (c_partOf (share_lt hI (by omega)) (by omega) (pc_1 (by omega) ht hb) hw) wq_X9_partOf wm_X9_182 wt_X9_partOf ⟨Nat.le_of_ble_eq_true rfl, Nat.le_of_ble_eq_true rfl⟩ ⟨Nat.le_of_ble_eq_true rfl, Nat.le_of_ble_eq_true rfl⟩ rfl (Nat.le_of_ble_eq_true rfl) ?_
    refine pm_iret (pc := 109) rfl (Nat.le_refl _) (Nat.le_refl _) dX9_share_109 ?_
    exact XQ.r rfl hR xF.rf
  | r + 1, i, hm0 => by
    have hG := hR.1
    have hI := hX.s
    have hcm := d_cm_eq hI m
    have hup := fb_up (f := d_bo (x_g X) m) (i := i + 1) 4 (by omega)
    rw [fb_sm_succ] at hup
    refine pm_iload (pc := 48) dX9_share_48 rfl ?_
    refine pm_iconst (pc := 50) (v := nI 4) dX9_share_50 (by decide) ?_
    refine pm_icmp_ge (pc := 51) (tgt := 83) dX9_share_51 rfl (fun h51 => (by simp (disch := omega) only [pm_eqI, pm_ltI, pm_leI, nI_toInt, pm_t0, pm_t1, pm_tm1] at h51; omega)) (fun h51 => ?_)
    refine pm_iload_n (pc := 54) dX9_share_54 rfl ?_
    refine pm_iload (pc := 55) dX9_share_55 rfl ?_
    refine pm_cSR (pc := 57) dX9_share_57 (c_holds (m := m) (j := i) (by omega) (by omega)) wq_X9_holds wm_X9_185 wt_X9_holds ⟨Nat.le_of_ble_eq_true rfl, Nat.le_of_ble_eq_true rfl⟩ ⟨Nat.le_of_ble_eq_true rfl, Nat.le_of_ble_eq_true rfl⟩ rfl (Nat.le_of_ble_eq_true rfl) ?_
    refine pm_if_eq (pc := 60) (tgt := 77) dX9_share_60 rfl (fun h60 => ?_) (fun h60 => ?_)
    · have hbo : d_bo (x_g X) m i = 0 := if_neg (b1_nf h60)
      refine pm_iinc (pc := 77) dX9_share_77 rfl (pm_inc1 _) (by decide) rfl ?_
      refine pm_goto (pc := 80) (tgt := 48) dX9_share_80 rfl ?_
      have k9 := l_share hR hX ht hm hw hb r (i + 1) (by omega) (la := la) (P := P)
      first
        | exact k9
        | (rw [fb_sm_succ, hbo, Nat.add_zero] at k9; exact k9)
    · have hbo : d_bo (x_g X) m i = g_bag (x_g X) i := if_pos (b1_nt h60)
      refine pm_iload (pc := 63) dX9_share_63 rfl ?_
      refine pm_aload_n (pc := 65) dX9_share_65 rfl ?_
      refine pm_getr (pc := 66) (ci := 7) (C0 := RX9) (T := TX9) (N := 9) (j := 0) rfl rfl in_X9 (by decide) wf_X9_10 rfl dX9_share_66 ?_
      refine pm_iload (pc := 69) dX9_share_69 rfl ?_
      refine pm_cVR (pc := 71) dX9_share_71 (c_loadInBagOf hG hI (by omega)) wq_X2_loadInBagOf wm_X9_188 wi_X2_loadInBagOf ws_X2_loadInBagOf rfl rfl ⟨Nat.le_of_ble_eq_true rfl, Nat.le_of_ble_eq_true rfl⟩ ⟨Nat.le_of_ble_eq_true rfl, Nat.le_of_ble_eq_true rfl⟩ rfl (Nat.le_of_ble_eq_true rfl) ?_
      refine pm_isub (pc := 74) dX9_share_74 ?_
      refine pm_top (x' := nI (g_load (x_g X) 6 - fb_sm (d_bo (x_g X) m) (i + 1))) (by rw [pk_sub (by omega)]; congr 1; rw [fb_sm_succ]; omega) ?_
      refine pm_istore (pc := 75) dX9_share_75 (by decide) rfl ?_
      refine pm_iinc (pc := 77) dX9_share_77 rfl (pm_inc1 _) (by decide) rfl ?_
      refine pm_goto (pc := 80) (tgt := 48) dX9_share_80 rfl ?_
      have k9 := l_share hR hX ht hm hw hb r (i + 1) (by omega) (la := la) (P := P)
      first
        | exact k9
        | (rw [fb_sm_succ, hbo, Nat.add_zero] at k9; exact k9)
set_option maxRecDepth 100000 in
set_option maxHeartbeats 1000000 in
theorem x_share {I : pm_I} {L : pm_L} {X : xS} (hR : XR I L X) (hX : xInv X) {t m w : Int32} : PC 3 0 0 yX9_share cX9_share 6 (some (.int)) [.ref 0, .int t, .int m, .int w] GG I L (XQ I L (sp_share X t m w).1 (sp_share X t m w).2) := by
  have hG := hR.1
  have hI := hX.s
  have h12 := hI.n12
  refine PC.of [some (.ref 0), some (.int t), some (.int m), some (.int w), none, none] (by decide) (Nat.le_of_ble_eq_true rfl) rfl (fun l P => ?_)
  refine pm_iload_n (pc := 0) dX9_share_0 rfl ?_
  refine pm_cSR (pc := 1) dX9_share_1 (c_isTown) wq_X9_isTown wm_X9_65 wt_X9_isTown ⟨Nat.le_of_ble_eq_true rfl, Nat.le_of_ble_eq_true rfl⟩ ⟨Nat.le_of_ble_eq_true rfl, Nat.le_of_ble_eq_true rfl⟩ rfl (Nat.le_of_ble_eq_true rfl) ?_
  refine pm_if_eq (pc := 4) (tgt := 32) dX9_share_4 rfl (fun h4 => ?_) (fun h4 => ?_)
  · refine pm_iconst (pc := 32) (v := (-1)) dX9_share_32 (by decide) ?_
    refine pm_iret (pc := 33) rfl (Nat.le_refl _) (Nat.le_refl _) dX9_share_33 ?_
    first | (rw [show sp_share X t m w = (-1, X) from if_pos (fun z => b1_nf h4 z.1)]; exact XQ.r rfl hR xF.rf) | (rw [show sp_share X (nI t) m w = (-1, X) from if_pos (fun z => b1_nf h14 z.2.1)]; exact XQ.r rfl hR xF.rf) | (rw [show sp_share X (nI t) (nI m) w = (-1, X) from if_pos (fun z => b1_nf h21 z.2.2.1)]; exact XQ.r rfl hR xF.rf) | (rw [sp_share_b ht hm (b1_nf h29)]; exact XQ.r rfl hR xF.rf)
  · obtain ⟨t, ht, rfl⟩ := sh_of (b1_nt h4)
    refine pm_iload_n (pc := 7) dX9_share_7 rfl ?_
    refine pm_iconst (pc := 8) (v := nI 0) dX9_share_8 (by decide) ?_
    refine pm_bipush (pc := 9) (v := nI 15) dX9_share_9 (by decide) ?_
    refine pm_cSR (pc := 11) dX9_share_11 (c_isIn (a := 0) (b := 15) (by decide) (by decide)) wq_X9_isIn wm_X9_61 wt_X9_isIn ⟨Nat.le_of_ble_eq_true rfl, Nat.le_of_ble_eq_true rfl⟩ ⟨Nat.le_of_ble_eq_true rfl, Nat.le_of_ble_eq_true rfl⟩ rfl (Nat.le_of_ble_eq_true rfl) ?_
    refine pm_if_eq (pc := 14) (tgt := 32) dX9_share_14 rfl (fun h14 => ?_) (fun h14 => ?_)
    · refine pm_iconst (pc := 32) (v := (-1)) dX9_share_32 (by decide) ?_
      refine pm_iret (pc := 33) rfl (Nat.le_refl _) (Nat.le_refl _) dX9_share_33 ?_
      first | (rw [show sp_share X t m w = (-1, X) from if_pos (fun z => b1_nf h4 z.1)]; exact XQ.r rfl hR xF.rf) | (rw [show sp_share X (nI t) m w = (-1, X) from if_pos (fun z => b1_nf h14 z.2.1)]; exact XQ.r rfl hR xF.rf) | (rw [show sp_share X (nI t) (nI m) w = (-1, X) from if_pos (fun z => b1_nf h21 z.2.2.1)]; exact XQ.r rfl hR xF.rf) | (rw [sp_share_b ht hm (b1_nf h29)]; exact XQ.r rfl hR xF.rf)
    · obtain ⟨m, hm, rfl⟩ := iR_of (x := m) (b := 15) (by decide) (b1_nt h14)
      refine pm_iload_n (pc := 17) dX9_share_17 rfl ?_
      refine pm_cSR (pc := 18) dX9_share_18 (c_isPart) wq_X9_isPart wm_X9_171 wt_X9_isPart ⟨Nat.le_of_ble_eq_true rfl, Nat.le_of_ble_eq_true rfl⟩ ⟨Nat.le_of_ble_eq_true rfl, Nat.le_of_ble_eq_true rfl⟩ rfl (Nat.le_of_ble_eq_true rfl) ?_
      refine pm_if_eq (pc := 21) (tgt := 32) dX9_share_21 rfl (fun h21 => ?_) (fun h21 => ?_)
      · refine pm_iconst (pc := 32) (v := (-1)) dX9_share_32 (by decide) ?_
        refine pm_iret (pc := 33) rfl (Nat.le_refl _) (Nat.le_refl _) dX9_share_33 ?_
        first | (rw [show sp_share X t m w = (-1, X) from if_pos (fun z => b1_nf h4 z.1)]; exact XQ.r rfl hR xF.rf) | (rw [show sp_share X (nI t) m w = (-1, X) from if_pos (fun z => b1_nf h14 z.2.1)]; exact XQ.r rfl hR xF.rf) | (rw [show sp_share X (nI t) (nI m) w = (-1, X) from if_pos (fun z => b1_nf h21 z.2.2.1)]; exact XQ.r rfl hR xF.rf) | (rw [sp_share_b ht hm (b1_nf h29)]; exact XQ.r rfl hR xF.rf)
      · obtain ⟨w, hw, rfl⟩ := iR_of (x := w) (b := 1) (by decide) (b1_nt h21)
        refine pm_iload_n (pc := 24) dX9_share_24 rfl ?_
        refine pm_iload_n (pc := 25) dX9_share_25 rfl ?_
        refine pm_cSR (pc := 26) dX9_share_26 (c_holds (m := m) (j := t) (by omega) (by omega)) wq_X9_holds wm_X9_185 wt_X9_holds ⟨Nat.le_of_ble_eq_true rfl, Nat.le_of_ble_eq_true rfl⟩ ⟨Nat.le_of_ble_eq_true rfl, Nat.le_of_ble_eq_true rfl⟩ rfl (Nat.le_of_ble_eq_true rfl) ?_
        refine pm_if_ne (pc := 29) (tgt := 34) dX9_share_29 rfl (fun h29 => ?_) (fun h29 => ?_)
        · rw [sp_share_t ht hm hw (b1_nt h29)]
          refine pm_aload_n (pc := 34) dX9_share_34 rfl ?_
          refine pm_getr (pc := 35) (ci := 7) (C0 := RX9) (T := TX9) (N := 9) (j := 0) rfl rfl in_X9 (by decide) wf_X9_10 rfl dX9_share_35 ?_
          refine pm_bipush (pc := 38) (v := nI 6) dX9_share_38 (by decide) ?_
          refine pm_cVR (pc := 40) dX9_share_40 (c_loadIn hG hI (by omega)) wq_X2_loadIn wm_X9_95 wi_X2_loadIn ws_X2_loadIn rfl rfl ⟨Nat.le_of_ble_eq_true rfl, Nat.le_of_ble_eq_true rfl⟩ ⟨Nat.le_of_ble_eq_true rfl, Nat.le_of_ble_eq_true rfl⟩ rfl (Nat.le_of_ble_eq_true rfl) ?_
          refine pm_istore (pc := 43) dX9_share_43 (by decide) rfl ?_
          refine pm_iconst (pc := 45) (v := nI 0) dX9_share_45 (by decide) ?_
          refine pm_istore (pc := 46) dX9_share_46 (by decide) rfl ?_
          exact l_share hR hX ht hm hw (b1_nt h29) 4 0 (by omega)
        · refine pm_iconst (pc := 32) (v := (-1)) dX9_share_32 (by decide) ?_
          refine pm_iret (pc := 33) rfl (Nat.le_refl _) (Nat.le_refl _) dX9_share_33 ?_
          first | (rw [show sp_share X t m w = (-1, X) from if_pos (fun z => b1_nf h4 z.1)]; exact XQ.r rfl hR xF.rf) | (rw [show sp_share X (nI t) m w = (-1, X) from if_pos (fun z => b1_nf h14 z.2.1)]; exact XQ.r rfl hR xF.rf) | (rw [show sp_share X (nI t) (nI m) w = (-1, X) from if_pos (fun z => b1_nf h21 z.2.2.1)]; exact XQ.r rfl hR xF.rf) | (rw [sp_share_b ht hm (b1_nf h29)]; exact XQ.r rfl hR xF.rf)
set_option maxRecDepth 100000 in
set_option maxHeartbeats 1000000 in
theorem c_has {I : pm_I} {L : pm_L} {m j : Nat} (hm : m < 2 ^ 31) (hj : j < 31) : PC 0 0 0 yX10_has cX10_has 2 (some (.boolean)) [.int (nI m), .int (nI j)] GG I L (QR GG I L (b1 (d_bt m j))) := by
  refine PC.of [some (.int (nI m)), some (.int (nI j))] (by decide) (Nat.le_of_ble_eq_true rfl) rfl (fun l P => ?_)
  refine pm_iload_n (pc := 0) dX10_has_0 rfl ?_
  refine pm_iload_n (pc := 1) dX10_has_1 rfl ?_
  refine pm_ishr (pc := 2) dX10_has_2 ?_
  refine pm_iconst (pc := 3) (v := nI 1) dX10_has_3 (by decide) ?_
  refine pm_iand (pc := 4) dX10_has_4 ?_
  refine pm_top (g_bit hm hj) ?_
  refine pm_iconst (pc := 5) (v := nI 1) dX10_has_5 (by decide) ?_
  refine pm_icmp_ne (pc := 6) (tgt := 13) dX10_has_6 rfl (fun h6 => ?_) (fun h6 => ?_)
  · have e : ¬ d_bt m j := fun z => by
      have h0 := (g_tb m j)
      have h1 : m / 2 ^ j % 2 = 1 := by
        rcases Nat.mod_two_eq_zero_or_one (m / 2 ^ j) with q | q
        · have z2 : m.testBit j = true := z
          rw [h0.mp q] at z2; exact absurd z2 (by decide)
        · exact q
      exact h6 (by rw [h1])
    refine pm_iconst (pc := 13) (v := nI 0) dX10_has_13 (by decide) ?_
    refine pm_zret (pc := 14) (by decide) rfl (Nat.le_refl _) (Nat.le_refl _) dX10_has_14 ?_
    exact QR.r (by first | exact b1_t e | exact b1_f e)
  · have e : d_bt m j := by
      cases hb : m.testBit j with
      | true => exact hb
      | false => rw [(g_tb m j).mpr hb] at h6; exact absurd h6 (by decide)
    refine pm_iconst (pc := 9) (v := nI 1) dX10_has_9 (by decide) ?_
    refine pm_goto (pc := 10) (tgt := 14) dX10_has_10 rfl ?_
    refine pm_zret (pc := 14) (by decide) rfl (Nat.le_refl _) (Nat.le_refl _) dX10_has_14 ?_
    exact QR.r (by first | exact b1_t e | exact b1_f e)
set_option maxRecDepth 100000 in
set_option maxHeartbeats 1000000 in
theorem l_ysh149 {I : pm_I} {L : pm_L} {X : xS} (hR : MR I L X) (hX : xInv X) {t m w : Nat} (ht : t < 4) (hm : m ≤ 15) (hw : w ≤ 1) (hb : d_bt m t) {la : Launch} {P : pm_E} {i : Nat} (hi : i < g_n (x_g X)) (k9 : PW la P yX10_share cX10_share 10 (some (.int)) (pm_rm 2 0 0) (pm_Tg P (YQ I L (nI (d_share (x_g X) t m w)) X) 0 0) 0 0 90 [some (.ref 40), some (.int (nI t)), some (.int (nI m)), some (.int (nI w)), some (.int (nI (g_pc m))), some (.int (nI (fb_sm (d_bj (x_g X) t) (i + 1)))), some (.int (nI (fb_sm (d_cmj (x_g X) m) (i + 1)))), some (.int (nI (i + 1))), none, none] [] GG I L) : PW la P yX10_share cX10_share 10 (some (.int)) (pm_rm 2 0 0) (pm_Tg P (YQ I L (nI (d_share (x_g X) t m w)) X) 0 0) 0 0 149 [some (.ref 40), some (.int (nI t)), some (.int (nI m)), some (.int (nI w)), some (.int (nI (g_pc m))), some (.int (nI (fb_sm (d_bj (x_g X) t) i))), some (.int (nI (fb_sm (d_cmj (x_g X) m) i))), some (.int (nI i)), some (.int (b1 (g_wh (x_g X) i = 6))), some (.int (b1 (g_ow (x_g X) i = 4 ∨ ¬ d_bt m (g_ow (x_g X) i))))] [] GG I L := by
  have hG := hR.1
  have hI := hX.s
  have h12 := hI.n12
  have htw : g_ow (x_g X) i = 4 ∨ g_ow (x_g X) i = g_tw (x_g X) i := by unfold g_ow; split; exact Or.inl rfl; exact Or.inr rfl
  have htl := (hI.2.1 i hi).2.2.2.1
  have ktw : nI (g_tw (x_g X) i) = nI t ↔ g_tw (x_g X) i = t := nI_eq (by omega) (by omega)
  refine pm_iload (pc := 149) dX10_share_149 rfl ?_
  refine pm_iload (pc := 151) dX10_share_151 rfl ?_
  refine pm_if_eq (pc := 153) (tgt := 181) dX10_share_153 rfl (fun h153 => ?_) (fun h153 => ?_)
  · have e8 := b1_nf h153
    refine pm_iconst (pc := 181) (v := nI 0) dX10_share_181 (by decide) ?_
    refine pm_top (x' := nI (d_bj (x_g X) t i)) (by unfold d_bj; congr 1; first | exact (if_neg (fun z => e8 z.1)).symm | exact (if_neg (fun z => e9.elim (fun y => by omega) (fun y => y (by rw [z.2]; exact hb)))).symm | exact (if_neg (fun z => e169 (by omega))).symm | exact (if_pos ⟨e8, by rcases htw with q | q; exact absurd (Or.inl q) e9; omega⟩).symm) ?_
    refine pm_iadd (pc := 182) dX10_share_182 ?_
    refine pm_top (nI_add _ _) ?_
    refine pm_istore (pc := 183) dX10_share_183 (by decide) rfl ?_
    refine pm_iload (pc := 185) dX10_share_185 rfl ?_
    refine pm_iload (pc := 187) dX10_share_187 rfl ?_
    refine pm_if_eq (pc := 189) (tgt := 206) dX10_share_189 rfl (fun h189 => ?_) (fun h189 => ?_)
    · have e8b := b1_nf h189
      refine pm_iconst (pc := 206) (v := nI 0) dX10_share_206 (by decide) ?_
      refine pm_top (x' := nI (d_cmj (x_g X) m i)) (by unfold d_cmj; congr 1; first | exact (if_neg (fun z => e8b z.1)).symm | exact (if_neg (fun z => e9b z.2)).symm | exact (if_pos ⟨e8b, e9b⟩).symm) ?_
      refine pm_iadd (pc := 207) dX10_share_207 ?_
      refine pm_top (nI_add _ _) ?_
      refine pm_istore (pc := 208) dX10_share_208 (by decide) rfl ?_
      refine pm_iinc (pc := 210) dX10_share_210 rfl (pm_inc1 _) (by decide) rfl ?_
      refine pm_goto (pc := 213) (tgt := 90) dX10_share_213 rfl ?_
      refine pm_kill 8 ?_
      refine pm_kill 9 ?_
      exact k9
    · have e8b := b1_nt h189
      refine pm_iload (pc := 192) dX10_share_192 rfl ?_
      refine pm_if_eq (pc := 194) (tgt := 206) dX10_share_194 rfl (fun h194 => ?_) (fun h194 => ?_)
      · have e9b := b1_nf h194
        refine pm_iconst (pc := 206) (v := nI 0) dX10_share_206 (by decide) ?_
        refine pm_top (x' := nI (d_cmj (x_g X) m i)) (by unfold d_cmj; congr 1; first | exact (if_neg (fun z => e8b z.1)).symm | exact (if_neg (fun z => e9b z.2)).symm | exact (if_pos ⟨e8b, e9b⟩).symm) ?_
        refine pm_iadd (pc := 207) dX10_share_207 ?_
        refine pm_top (nI_add _ _) ?_
        refine pm_istore (pc := 208) dX10_share_208 (by decide) rfl ?_
        refine pm_iinc (pc := 210) dX10_share_210 rfl (pm_inc1 _) (by decide) rfl ?_
        refine pm_goto (pc := 213) (tgt := 90) dX10_share_213 rfl ?_
        refine pm_kill 8 ?_
        refine pm_kill 9 ?_
        exact k9
      · have e9b := b1_nt h194
        refine pm_aload_n (pc := 197) dX10_share_197 rfl ?_
        refine pm_iload (pc := 198) dX10_share_198 rfl ?_
        refine pm_cVR (pc := 200) dX10_share_200 (c_mWeighs hG hI hi) wq_X10_weighs wm_X10_97 wi_X10_weighs ws_X10_weighs rfl rfl ⟨Nat.le_of_ble_eq_true rfl, Nat.le_of_ble_eq_true rfl⟩ ⟨Nat.le_of_ble_eq_true rfl, Nat.le_of_ble_eq_true rfl⟩ rfl (Nat.le_of_ble_eq_true rfl) ?_
        refine pm_goto (pc := 203) (tgt := 207) dX10_share_203 rfl ?_
        refine pm_top (x' := nI (d_cmj (x_g X) m i)) (by unfold d_cmj; congr 1; first | exact (if_neg (fun z => e8b z.1)).symm | exact (if_neg (fun z => e9b z.2)).symm | exact (if_pos ⟨e8b, e9b⟩).symm) ?_
        refine pm_iadd (pc := 207) dX10_share_207 ?_
        refine pm_top (nI_add _ _) ?_
        refine pm_istore (pc := 208) dX10_share_208 (by decide) rfl ?_
        refine pm_iinc (pc := 210) dX10_share_210 rfl (pm_inc1 _) (by decide) rfl ?_
        refine pm_goto (pc := 213) (tgt := 90) dX10_share_213 rfl ?_
        refine pm_kill 8 ?_
        refine pm_kill 9 ?_
        exact k9
  · have e8 := b1_nt h153
    refine pm_iload (pc := 156) dX10_share_156 rfl ?_
    refine pm_if_ne (pc := 158) (tgt := 181) dX10_share_158 rfl (fun h158 => ?_) (fun h158 => ?_)
    · have e9 := b1_nt h158
      refine pm_iconst (pc := 181) (v := nI 0) dX10_share_181 (by decide) ?_
      refine pm_top (x' := nI (d_bj (x_g X) t i)) (by unfold d_bj; congr 1; first | exact (if_neg (fun z => e8 z.1)).symm | exact (if_neg (fun z => e9.elim (fun y => by omega) (fun y => y (by rw [z.2]; exact hb)))).symm | exact (if_neg (fun z => e169 (by omega))).symm | exact (if_pos ⟨e8, by rcases htw with q | q; exact absurd (Or.inl q) e9; omega⟩).symm) ?_
      refine pm_iadd (pc := 182) dX10_share_182 ?_
      refine pm_top (nI_add _ _) ?_
      refine pm_istore (pc := 183) dX10_share_183 (by decide) rfl ?_
      refine pm_iload (pc := 185) dX10_share_185 rfl ?_
      refine pm_iload (pc := 187) dX10_share_187 rfl ?_
      refine pm_if_eq (pc := 189) (tgt := 206) dX10_share_189 rfl (fun h189 => ?_) (fun h189 => ?_)
      · have e8b := b1_nf h189
        refine pm_iconst (pc := 206) (v := nI 0) dX10_share_206 (by decide) ?_
        refine pm_top (x' := nI (d_cmj (x_g X) m i)) (by unfold d_cmj; congr 1; first | exact (if_neg (fun z => e8b z.1)).symm | exact (if_neg (fun z => e9b z.2)).symm | exact (if_pos ⟨e8b, e9b⟩).symm) ?_
        refine pm_iadd (pc := 207) dX10_share_207 ?_
        refine pm_top (nI_add _ _) ?_
        refine pm_istore (pc := 208) dX10_share_208 (by decide) rfl ?_
        refine pm_iinc (pc := 210) dX10_share_210 rfl (pm_inc1 _) (by decide) rfl ?_
        refine pm_goto (pc := 213) (tgt := 90) dX10_share_213 rfl ?_
        refine pm_kill 8 ?_
        refine pm_kill 9 ?_
        exact k9
      · have e8b := b1_nt h189
        refine pm_iload (pc := 192) dX10_share_192 rfl ?_
        refine pm_if_eq (pc := 194) (tgt := 206) dX10_share_194 rfl (fun h194 => ?_) (fun h194 => ?_)
        · have e9b := b1_nf h194
          refine pm_iconst (pc := 206) (v := nI 0) dX10_share_206 (by decide) ?_
          refine pm_top (x' := nI (d_cmj (x_g X) m i)) (by unfold d_cmj; congr 1; first | exact (if_neg (fun z => e8b z.1)).symm | exact (if_neg (fun z => e9b z.2)).symm | exact (if_pos ⟨e8b, e9b⟩).symm) ?_
          refine pm_iadd (pc := 207) dX10_share_207 ?_
          refine pm_top (nI_add _ _) ?_
          refine pm_istore (pc := 208) dX10_share_208 (by decide) rfl ?_
          refine pm_iinc (pc := 210) dX10_share_210 rfl (pm_inc1 _) (by decide) rfl ?_
          refine pm_goto (pc := 213) (tgt := 90) dX10_share_213 rfl ?_
          refine pm_kill 8 ?_
          refine pm_kill 9 ?_
          exact k9
        · have e9b := b1_nt h194
          refine pm_aload_n (pc := 197) dX10_share_197 rfl ?_
          refine pm_iload (pc := 198) dX10_share_198 rfl ?_
          refine pm_cVR (pc := 200) dX10_share_200 (c_mWeighs hG hI hi) wq_X10_weighs wm_X10_97 wi_X10_weighs ws_X10_weighs rfl rfl ⟨Nat.le_of_ble_eq_true rfl, Nat.le_of_ble_eq_true rfl⟩ ⟨Nat.le_of_ble_eq_true rfl, Nat.le_of_ble_eq_true rfl⟩ rfl (Nat.le_of_ble_eq_true rfl) ?_
          refine pm_goto (pc := 203) (tgt := 207) dX10_share_203 rfl ?_
          refine pm_top (x' := nI (d_cmj (x_g X) m i)) (by unfold d_cmj; congr 1; first | exact (if_neg (fun z => e8b z.1)).symm | exact (if_neg (fun z => e9b z.2)).symm | exact (if_pos ⟨e8b, e9b⟩).symm) ?_
          refine pm_iadd (pc := 207) dX10_share_207 ?_
          refine pm_top (nI_add _ _) ?_
          refine pm_istore (pc := 208) dX10_share_208 (by decide) rfl ?_
          refine pm_iinc (pc := 210) dX10_share_210 rfl (pm_inc1 _) (by decide) rfl ?_
          refine pm_goto (pc := 213) (tgt := 90) dX10_share_213 rfl ?_
          refine pm_kill 8 ?_
          refine pm_kill 9 ?_
          exact k9
    · have e9 := b1_nf h158
      refine pm_aload_n (pc := 161) dX10_share_161 rfl ?_
      refine pm_getr (pc := 162) (ci := 8) (C0 := RX10) (T := TX10) (N := 34) (j := 3) rfl rfl in_X10 (by decide) wf_X10_16 rfl dX10_share_162 ?_
      refine pm_iload (pc := 165) dX10_share_165 rfl ?_
      refine pm_iald (pc := 167) rfl (by omega) (by decide) dX10_share_167 ?_
      refine pm_iload_n (pc := 168) dX10_share_168 rfl ?_
      refine pm_icmp_ne (pc := 169) (tgt := 181) dX10_share_169 rfl (fun h169 => ?_) (fun h169 => ?_)
      · rw [hG.tw hi, ktw] at h169
        have e169 := h169
        refine pm_iconst (pc := 181) (v := nI 0) dX10_share_181 (by decide) ?_
        refine pm_top (x' := nI (d_bj (x_g X) t i)) (by unfold d_bj; congr 1; first | exact (if_neg (fun z => e8 z.1)).symm | exact (if_neg (fun z => e9.elim (fun y => by omega) (fun y => y (by rw [z.2]; exact hb)))).symm | exact (if_neg (fun z => e169 (by omega))).symm | exact (if_pos ⟨e8, by rcases htw with q | q; exact absurd (Or.inl q) e9; omega⟩).symm) ?_
        refine pm_iadd (pc := 182) dX10_share_182 ?_
        refine pm_top (nI_add _ _) ?_
        refine pm_istore (pc := 183) dX10_share_183 (by decide) rfl ?_
        refine pm_iload (pc := 185) dX10_share_185 rfl ?_
        refine pm_iload (pc := 187) dX10_share_187 rfl ?_
        refine pm_if_eq (pc := 189) (tgt := 206) dX10_share_189 rfl (fun h189 => ?_) (fun h189 => ?_)
        · have e8b := b1_nf h189
          refine pm_iconst (pc := 206) (v := nI 0) dX10_share_206 (by decide) ?_
          refine pm_top (x' := nI (d_cmj (x_g X) m i)) (by unfold d_cmj; congr 1; first | exact (if_neg (fun z => e8b z.1)).symm | exact (if_neg (fun z => e9b z.2)).symm | exact (if_pos ⟨e8b, e9b⟩).symm) ?_
          refine pm_iadd (pc := 207) dX10_share_207 ?_
          refine pm_top (nI_add _ _) ?_
          refine pm_istore (pc := 208) dX10_share_208 (by decide) rfl ?_
          refine pm_iinc (pc := 210) dX10_share_210 rfl (pm_inc1 _) (by decide) rfl ?_
          refine pm_goto (pc := 213) (tgt := 90) dX10_share_213 rfl ?_
          refine pm_kill 8 ?_
          refine pm_kill 9 ?_
          exact k9
        · have e8b := b1_nt h189
          refine pm_iload (pc := 192) dX10_share_192 rfl ?_
          refine pm_if_eq (pc := 194) (tgt := 206) dX10_share_194 rfl (fun h194 => ?_) (fun h194 => ?_)
          · have e9b := b1_nf h194
            refine pm_iconst (pc := 206) (v := nI 0) dX10_share_206 (by decide) ?_
            refine pm_top (x' := nI (d_cmj (x_g X) m i)) (by unfold d_cmj; congr 1; first | exact (if_neg (fun z => e8b z.1)).symm | exact (if_neg (fun z => e9b z.2)).symm | exact (if_pos ⟨e8b, e9b⟩).symm) ?_
            refine pm_iadd (pc := 207) dX10_share_207 ?_
            refine pm_top (nI_add _ _) ?_
            refine pm_istore (pc := 208) dX10_share_208 (by decide) rfl ?_
            refine pm_iinc (pc := 210) dX10_share_210 rfl (pm_inc1 _) (by decide) rfl ?_
            refine pm_goto (pc := 213) (tgt := 90) dX10_share_213 rfl ?_
            refine pm_kill 8 ?_
            refine pm_kill 9 ?_
            exact k9
          · have e9b := b1_nt h194
            refine pm_aload_n (pc := 197) dX10_share_197 rfl ?_
            refine pm_iload (pc := 198) dX10_share_198 rfl ?_
            refine pm_cVR (pc := 200) dX10_share_200 (c_mWeighs hG hI hi) wq_X10_weighs wm_X10_97 wi_X10_weighs ws_X10_weighs rfl rfl ⟨Nat.le_of_ble_eq_true rfl, Nat.le_of_ble_eq_true rfl⟩ ⟨Nat.le_of_ble_eq_true rfl, Nat.le_of_ble_eq_true rfl⟩ rfl (Nat.le_of_ble_eq_true rfl) ?_
            refine pm_goto (pc := 203) (tgt := 207) dX10_share_203 rfl ?_
            refine pm_top (x' := nI (d_cmj (x_g X) m i)) (by unfold d_cmj; congr 1; first | exact (if_neg (fun z => e8b z.1)).symm | exact (if_neg (fun z => e9b z.2)).symm | exact (if_pos ⟨e8b, e9b⟩).symm) ?_
            refine pm_iadd (pc := 207) dX10_share_207 ?_
            refine pm_top (nI_add _ _) ?_
            refine pm_istore (pc := 208) dX10_share_208 (by decide) rfl ?_
            refine pm_iinc (pc := 210) dX10_share_210 rfl (pm_inc1 _) (by decide) rfl ?_
            refine pm_goto (pc := 213) (tgt := 90) dX10_share_213 rfl ?_
            refine pm_kill 8 ?_
            refine pm_kill 9 ?_
            exact k9
      · rw [hG.tw hi, ktw] at h169
        have e169 := h169
        refine pm_aload_n (pc := 172) dX10_share_172 rfl ?_
        refine pm_iload (pc := 173) dX10_share_173 rfl ?_
        refine pm_cVR (pc := 175) dX10_share_175 (c_mWeighs hG hI hi) wq_X10_weighs wm_X10_97 wi_X10_weighs ws_X10_weighs rfl rfl ⟨Nat.le_of_ble_eq_true rfl, Nat.le_of_ble_eq_true rfl⟩ ⟨Nat.le_of_ble_eq_true rfl, Nat.le_of_ble_eq_true rfl⟩ rfl (Nat.le_of_ble_eq_true rfl) ?_
        refine pm_goto (pc := 178) (tgt := 182) dX10_share_178 rfl ?_
        refine pm_top (x' := nI (d_bj (x_g X) t i)) (by unfold d_bj; congr 1; first | exact (if_neg (fun z => e8 z.1)).symm | exact (if_neg (fun z => e9.elim (fun y => by omega) (fun y => y (by rw [z.2]; exact hb)))).symm | exact (if_neg (fun z => e169 (by omega))).symm | exact (if_pos ⟨e8, by rcases htw with q | q; exact absurd (Or.inl q) e9; omega⟩).symm) ?_
        refine pm_iadd (pc := 182) dX10_share_182 ?_
        refine pm_top (nI_add _ _) ?_
        refine pm_istore (pc := 183) dX10_share_183 (by decide) rfl ?_
        refine pm_iload (pc := 185) dX10_share_185 rfl ?_
        refine pm_iload (pc := 187) dX10_share_187 rfl ?_
        refine pm_if_eq (pc := 189) (tgt := 206) dX10_share_189 rfl (fun h189 => ?_) (fun h189 => ?_)
        · have e8b := b1_nf h189
          refine pm_iconst (pc := 206) (v := nI 0) dX10_share_206 (by decide) ?_
          refine pm_top (x' := nI (d_cmj (x_g X) m i)) (by unfold d_cmj; congr 1; first | exact (if_neg (fun z => e8b z.1)).symm | exact (if_neg (fun z => e9b z.2)).symm | exact (if_pos ⟨e8b, e9b⟩).symm) ?_
          refine pm_iadd (pc := 207) dX10_share_207 ?_
          refine pm_top (nI_add _ _) ?_
          refine pm_istore (pc := 208) dX10_share_208 (by decide) rfl ?_
          refine pm_iinc (pc := 210) dX10_share_210 rfl (pm_inc1 _) (by decide) rfl ?_
          refine pm_goto (pc := 213) (tgt := 90) dX10_share_213 rfl ?_
          refine pm_kill 8 ?_
          refine pm_kill 9 ?_
          exact k9
        · have e8b := b1_nt h189
          refine pm_iload (pc := 192) dX10_share_192 rfl ?_
          refine pm_if_eq (pc := 194) (tgt := 206) dX10_share_194 rfl (fun h194 => ?_) (fun h194 => ?_)
          · have e9b := b1_nf h194
            refine pm_iconst (pc := 206) (v := nI 0) dX10_share_206 (by decide) ?_
            refine pm_top (x' := nI (d_cmj (x_g X) m i)) (by unfold d_cmj; congr 1; first | exact (if_neg (fun z => e8b z.1)).symm | exact (if_neg (fun z => e9b z.2)).symm | exact (if_pos ⟨e8b, e9b⟩).symm) ?_
            refine pm_iadd (pc := 207) dX10_share_207 ?_
            refine pm_top (nI_add _ _) ?_
            refine pm_istore (pc := 208) dX10_share_208 (by decide) rfl ?_
            refine pm_iinc (pc := 210) dX10_share_210 rfl (pm_inc1 _) (by decide) rfl ?_
            refine pm_goto (pc := 213) (tgt := 90) dX10_share_213 rfl ?_
            refine pm_kill 8 ?_
            refine pm_kill 9 ?_
            exact k9
          · have e9b := b1_nt h194
            refine pm_aload_n (pc := 197) dX10_share_197 rfl ?_
            refine pm_iload (pc := 198) dX10_share_198 rfl ?_
            refine pm_cVR (pc := 200) dX10_share_200 (c_mWeighs hG hI hi) wq_X10_weighs wm_X10_97 wi_X10_weighs ws_X10_weighs rfl rfl ⟨Nat.le_of_ble_eq_true rfl, Nat.le_of_ble_eq_true rfl⟩ ⟨Nat.le_of_ble_eq_true rfl, Nat.le_of_ble_eq_true rfl⟩ rfl (Nat.le_of_ble_eq_true rfl) ?_
            refine pm_goto (pc := 203) (tgt := 207) dX10_share_203 rfl ?_
            refine pm_top (x' := nI (d_cmj (x_g X) m i)) (by unfold d_cmj; congr 1; first | exact (if_neg (fun z => e8b z.1)).symm | exact (if_neg (fun z => e9b z.2)).symm | exact (if_pos ⟨e8b, e9b⟩).symm) ?_
            refine pm_iadd (pc := 207) dX10_share_207 ?_
            refine pm_top (nI_add _ _) ?_
            refine pm_istore (pc := 208) dX10_share_208 (by decide) rfl ?_
            refine pm_iinc (pc := 210) dX10_share_210 rfl (pm_inc1 _) (by decide) rfl ?_
            refine pm_goto (pc := 213) (tgt := 90) dX10_share_213 rfl ?_
            refine pm_kill 8 ?_
            refine pm_kill 9 ?_
            exact k9
set_option maxRecDepth 100000 in
set_option maxHeartbeats 1000000 in
theorem l_ysh90 {I : pm_I} {L : pm_L} {X : xS} (hR : MR I L X) (hX : xInv X) {t m w : Nat} (ht : t < 4) (hm : m ≤ 15) (hw : w ≤ 1) (hb : d_bt m t) {la : Launch} {P : pm_E} : ∀ (r i : Nat), i + r = g_n (x_g X) → PW la P yX10_share cX10_share 10 (some (.int)) (pm_rm 2 0 0) (pm_Tg P (YQ I L (nI (d_share (x_g X) t m w)) X) 0 0) 0 0 90 [some (.ref 40), some (.int (nI t)), some (.int (nI m)), some (.int (nI w)), some (.int (nI (g_pc m))), some (.int (nI (fb_sm (d_bj (x_g X) t) i))), some (.int (nI (fb_sm (d_cmj (x_g X) m) i))), some (.int (nI i)), none, none] [] GG I L
  | 0, i, hm0 => by
    have e : i = g_n (x_g X) := by omega
    subst e
    have hG := hR.1
    have hI := hX.s
    have h12 := hI.n12
    have hpc := pc_16 (show m < 16 by omega)
    refine pm_iload (pc := 90) dX10_share_90 rfl ?_
    refine pm_aload_n (pc := 92) dX10_share_92 rfl ?_
    refine pm_get (pc := 93) (ci := 8) (C0 := RX10) (T := TX10) (N := 34) (j := 0) rfl rfl in_X10 (by decide) wf_X10_83 rfl dX10_share_93 ?_
    refine pm_icmp_ge (pc := 96) (tgt := 216) dX10_share_96 rfl (fun h96 => ?_) (fun h96 => (by simp (disch := omega) only [hG.n, pm_leI, nI_toInt] at h96; omega))
    refine pm_iload (pc := 216) dX10_share_216 rfl ?_
    refine pm_iload (pc := 218) dX10_share_218 rfl ?_
    refine pm_imul (pc := 220) dX10_share_220 ?_
    refine pm_iload (pc := 221) dX10_share_221 rfl ?_
    refine pm_iadd (pc := 223) dX10_share_223 ?_
    refine pm_top (x' := nI (g_bag (x_g X) t * g_pc m + d_cm (x_g X) m)) (by rw [pk_mul, nI_add]; rfl) ?_
    refine pm_iload (pc := 224) dX10_share_224 rfl ?_
    refine pm_iload_n (pc := 226) dX10_share_226 rfl ?_
    refine pm_cSR (pc := 227) dX10_share_227 (c_mPartOf (share_lt hI (by omega)) (by omega) (pc_1 (by omega) ht hb) hw) wq_X10_partOf wm_X10_257 wt_X10_partOf ⟨Nat.le_of_ble_eq_true rfl, Nat.le_of_ble_eq_true rfl⟩ ⟨Nat.le_of_ble_eq_true rfl, Nat.le_of_ble_eq_true rfl⟩ rfl (Nat.le_of_ble_eq_true rfl) ?_
    refine pm_iret (pc := 230) rfl (Nat.le_refl _) (Nat.le_refl _) dX10_share_230 ?_
    exact YQ.r rfl hR yF.rf
  | r + 1, i, hm0 => by
    have hG := hR.1
    have hI := hX.s
    have h12 := hI.n12
    have hi : i < g_n (x_g X) := by omega
    have hwl := (hI.2.1 i hi).2.2.2.2
    have hol := ow_le hI hi
    have htl := (hI.2.1 i hi).2.2.2.1
    have htw : g_ow (x_g X) i = 4 ∨ g_ow (x_g X) i = g_tw (x_g X) i := by unfold g_ow; split; exact Or.inl rfl; exact Or.inr rfl
    have kwh : nI (g_wh (x_g X) i) = nI 6 ↔ g_wh (x_g X) i = 6 := nI_eq (by omega) (by omega)
    have kow : nI (g_ow (x_g X) i) = nI 4 ↔ g_ow (x_g X) i = 4 := nI_eq (by omega) (by omega)
    have k149 := l_ysh149 hR hX ht hm hw hb hi (l_ysh90 hR hX ht hm hw hb r (i + 1) (by omega) (la := la) (P := P))
    refine pm_iload (pc := 90) dX10_share_90 rfl ?_
    refine pm_aload_n (pc := 92) dX10_share_92 rfl ?_
    refine pm_get (pc := 93) (ci := 8) (C0 := RX10) (T := TX10) (N := 34) (j := 0) rfl rfl in_X10 (by decide) wf_X10_83 rfl dX10_share_93 ?_
    refine pm_icmp_ge (pc := 96) (tgt := 216) dX10_share_96 rfl (fun h96 => (by simp (disch := omega) only [hG.n, pm_leI, nI_toInt] at h96; omega)) (fun h96 => ?_)
    refine pm_aload_n (pc := 99) dX10_share_99 rfl ?_
    refine pm_getr (pc := 100) (ci := 8) (C0 := RX10) (T := TX10) (N := 34) (j := 4) rfl rfl in_X10 (by decide) wf_X10_19 rfl dX10_share_100 ?_
    refine pm_iload (pc := 103) dX10_share_103 rfl ?_
    refine pm_iald (pc := 105) rfl (by omega) (by decide) dX10_share_105 ?_
    refine pm_bipush (pc := 106) (v := nI 6) dX10_share_106 (by decide) ?_
    refine pm_icmp_ne (pc := 108) (tgt := 115) dX10_share_108 rfl (fun h108 => ?_) (fun h108 => ?_)
    · rw [hG.wh hi, kwh] at h108
      refine pm_iconst (pc := 115) (v := nI 0) dX10_share_115 (by decide) ?_
      refine pm_top (x' := (b1 (g_wh (x_g X) i = 6))) (by first | exact b1_t h108 | exact b1_f h108) ?_
      refine pm_istore (pc := 116) dX10_share_116 (by decide) rfl ?_
      refine pm_aload_n (pc := 118) dX10_share_118 rfl ?_
      refine pm_iload (pc := 119) dX10_share_119 rfl ?_
      refine pm_cVR (pc := 121) dX10_share_121 (c_mTownOf hG hI hi) wq_X10_townOf wm_X10_118 wi_X10_townOf ws_X10_townOf rfl rfl ⟨Nat.le_of_ble_eq_true rfl, Nat.le_of_ble_eq_true rfl⟩ ⟨Nat.le_of_ble_eq_true rfl, Nat.le_of_ble_eq_true rfl⟩ rfl (Nat.le_of_ble_eq_true rfl) ?_
      refine pm_iconst (pc := 124) (v := nI 4) dX10_share_124 (by decide) ?_
      refine pm_icmp_eq (pc := 125) (tgt := 142) dX10_share_125 rfl (fun h125 => ?_) (fun h125 => ?_)
      · rw [kow] at h125
        refine pm_iconst (pc := 142) (v := nI 1) dX10_share_142 (by decide) ?_
        refine pm_goto (pc := 143) (tgt := 147) dX10_share_143 rfl ?_
        refine pm_top (x' := (b1 (g_ow (x_g X) i = 4 ∨ ¬ d_bt m (g_ow (x_g X) i)))) (by first | exact b1_t (Or.inl h125) | exact b1_t (Or.inr (by rw [htw.resolve_left h125]; exact b1_nf h139)) | exact b1_f (fun z => z.elim h125 (fun y => y (by rw [htw.resolve_left h125]; exact b1_nt h139)))) ?_
        refine pm_istore (pc := 147) dX10_share_147 (by decide) rfl ?_
        exact k149
      · rw [kow] at h125
        refine pm_iload_n (pc := 128) dX10_share_128 rfl ?_
        refine pm_aload_n (pc := 129) dX10_share_129 rfl ?_
        refine pm_getr (pc := 130) (ci := 8) (C0 := RX10) (T := TX10) (N := 34) (j := 3) rfl rfl in_X10 (by decide) wf_X10_16 rfl dX10_share_130 ?_
        refine pm_iload (pc := 133) dX10_share_133 rfl ?_
        refine pm_iald (pc := 135) rfl (by omega) (by decide) dX10_share_135 ?_
        rw [hG.tw hi]
        refine pm_cSR (pc := 136) dX10_share_136 (c_has (m := m) (j := g_tw (x_g X) i) (by omega) (by omega)) wq_X10_has wm_X10_263 wt_X10_has ⟨Nat.le_of_ble_eq_true rfl, Nat.le_of_ble_eq_true rfl⟩ ⟨Nat.le_of_ble_eq_true rfl, Nat.le_of_ble_eq_true rfl⟩ rfl (Nat.le_of_ble_eq_true rfl) ?_
        refine pm_if_ne (pc := 139) (tgt := 146) dX10_share_139 rfl (fun h139 => ?_) (fun h139 => ?_)
        · refine pm_iconst (pc := 146) (v := nI 0) dX10_share_146 (by decide) ?_
          refine pm_top (x' := (b1 (g_ow (x_g X) i = 4 ∨ ¬ d_bt m (g_ow (x_g X) i)))) (by first | exact b1_t (Or.inl h125) | exact b1_t (Or.inr (by rw [htw.resolve_left h125]; exact b1_nf h139)) | exact b1_f (fun z => z.elim h125 (fun y => y (by rw [htw.resolve_left h125]; exact b1_nt h139)))) ?_
          refine pm_istore (pc := 147) dX10_share_147 (by decide) rfl ?_
          exact k149
        · refine pm_iconst (pc := 142) (v := nI 1) dX10_share_142 (by decide) ?_
          refine pm_goto (pc := 143) (tgt := 147) dX10_share_143 rfl ?_
          refine pm_top (x' := (b1 (g_ow (x_g X) i = 4 ∨ ¬ d_bt m (g_ow (x_g X) i)))) (by first | exact b1_t (Or.inl h125) | exact b1_t (Or.inr (by rw [htw.resolve_left h125]; exact b1_nf h139)) | exact b1_f (fun z => z.elim h125 (fun y => y (by rw [htw.resolve_left h125]; exact b1_nt h139)))) ?_
          refine pm_istore (pc := 147) dX10_share_147 (by decide) rfl ?_
          exact k149
    · rw [hG.wh hi, kwh] at h108
      refine pm_iconst (pc := 111) (v := nI 1) dX10_share_111 (by decide) ?_
      refine pm_goto (pc := 112) (tgt := 116) dX10_share_112 rfl ?_
      refine pm_top (x' := (b1 (g_wh (x_g X) i = 6))) (by first | exact b1_t h108 | exact b1_f h108) ?_
      refine pm_istore (pc := 116) dX10_share_116 (by decide) rfl ?_
      refine pm_aload_n (pc := 118) dX10_share_118 rfl ?_
      refine pm_iload (pc := 119) dX10_share_119 rfl ?_
      refine pm_cVR (pc := 121) dX10_share_121 (c_mTownOf hG hI hi) wq_X10_townOf wm_X10_118 wi_X10_townOf ws_X10_townOf rfl rfl ⟨Nat.le_of_ble_eq_true rfl, Nat.le_of_ble_eq_true rfl⟩ ⟨Nat.le_of_ble_eq_true rfl, Nat.le_of_ble_eq_true rfl⟩ rfl (Nat.le_of_ble_eq_true rfl) ?_
      refine pm_iconst (pc := 124) (v := nI 4) dX10_share_124 (by decide) ?_
      refine pm_icmp_eq (pc := 125) (tgt := 142) dX10_share_125 rfl (fun h125 => ?_) (fun h125 => ?_)
      · rw [kow] at h125
        refine pm_iconst (pc := 142) (v := nI 1) dX10_share_142 (by decide) ?_
        refine pm_goto (pc := 143) (tgt := 147) dX10_share_143 rfl ?_
        refine pm_top (x' := (b1 (g_ow (x_g X) i = 4 ∨ ¬ d_bt m (g_ow (x_g X) i)))) (by first | exact b1_t (Or.inl h125) | exact b1_t (Or.inr (by rw [htw.resolve_left h125]; exact b1_nf h139)) | exact b1_f (fun z => z.elim h125 (fun y => y (by rw [htw.resolve_left h125]; exact b1_nt h139)))) ?_
        refine pm_istore (pc := 147) dX10_share_147 (by decide) rfl ?_
        exact k149
      · rw [kow] at h125
        refine pm_iload_n (pc := 128) dX10_share_128 rfl ?_
        refine pm_aload_n (pc := 129) dX10_share_129 rfl ?_
        refine pm_getr (pc := 130) (ci := 8) (C0 := RX10) (T := TX10) (N := 34) (j := 3) rfl rfl in_X10 (by decide) wf_X10_16 rfl dX10_share_130 ?_
        refine pm_iload (pc := 133) dX10_share_133 rfl ?_
        refine pm_iald (pc := 135) rfl (by omega) (by decide) dX10_share_135 ?_
        rw [hG.tw hi]
        refine pm_cSR (pc := 136) dX10_share_136 (c_has (m := m) (j := g_tw (x_g X) i) (by omega) (by omega)) wq_X10_has wm_X10_263 wt_X10_has ⟨Nat.le_of_ble_eq_true rfl, Nat.le_of_ble_eq_true rfl⟩ ⟨Nat.le_of_ble_eq_true rfl, Nat.le_of_ble_eq_true rfl⟩ rfl (Nat.le_of_ble_eq_true rfl) ?_
        refine pm_if_ne (pc := 139) (tgt := 146) dX10_share_139 rfl (fun h139 => ?_) (fun h139 => ?_)
        · refine pm_iconst (pc := 146) (v := nI 0) dX10_share_146 (by decide) ?_
          refine pm_top (x' := (b1 (g_ow (x_g X) i = 4 ∨ ¬ d_bt m (g_ow (x_g X) i)))) (by first | exact b1_t (Or.inl h125) | exact b1_t (Or.inr (by rw [htw.resolve_left h125]; exact b1_nf h139)) | exact b1_f (fun z => z.elim h125 (fun y => y (by rw [htw.resolve_left h125]; exact b1_nt h139)))) ?_
          refine pm_istore (pc := 147) dX10_share_147 (by decide) rfl ?_
          exact k149
        · refine pm_iconst (pc := 142) (v := nI 1) dX10_share_142 (by decide) ?_
          refine pm_goto (pc := 143) (tgt := 147) dX10_share_143 rfl ?_
          refine pm_top (x' := (b1 (g_ow (x_g X) i = 4 ∨ ¬ d_bt m (g_ow (x_g X) i)))) (by first | exact b1_t (Or.inl h125) | exact b1_t (Or.inr (by rw [htw.resolve_left h125]; exact b1_nf h139)) | exact b1_f (fun z => z.elim h125 (fun y => y (by rw [htw.resolve_left h125]; exact b1_nt h139)))) ?_
          refine pm_istore (pc := 147) dX10_share_147 (by decide) rfl ?_
          exact k149
set_option maxRecDepth 100000 in
set_option maxHeartbeats 1000000 in
theorem l_ysh50 {I : pm_I} {L : pm_L} {X : xS} (hR : MR I L X) (hX : xInv X) {t m w : Nat} (ht : t < 4) (hm : m ≤ 15) (hw : w ≤ 1) (hb : d_bt m t) {la : Launch} {P : pm_E} : ∀ (r i : Nat), i + r = 4 → PW la P yX10_share cX10_share 10 (some (.int)) (pm_rm 2 0 0) (pm_Tg P (YQ I L (nI (d_share (x_g X) t m w)) X) 0 0) 0 0 50 [some (.ref 40), some (.int (nI t)), some (.int (nI m)), some (.int (nI w)), some (.int (nI (fb_sm (fun k => if d_bt m k then 1 else 0) i))), some (.int (nI i)), none, none, none, none] [] GG I L
  | 0, i, hm0 => by
    have e : i = 4 := by omega
    subst e
    rw [pc_4 (by omega)]
    refine pm_iload (pc := 50) dX10_share_50 rfl ?_
    refine pm_iconst (pc := 52) (v := nI 4) dX10_share_52 (by decide) ?_
    refine pm_icmp_ge (pc := 53) (tgt := 81) dX10_share_53 rfl (fun h53 => ?_) (fun h53 => (by simp (disch := omega) only [pm_eqI, pm_ltI, pm_leI, nI_toInt, pm_t0, pm_t1, pm_tm1] at h53; omega))
    refine pm_iconst (pc := 81) (v := nI 0) dX10_share_81 (by decide) ?_
    refine pm_istore (pc := 82) dX10_share_82 (by decide) rfl ?_
    refine pm_iconst (pc := 84) (v := nI 0) dX10_share_84 (by decide) ?_
    refine pm_istore (pc := 85) dX10_share_85 (by decide) rfl ?_
    refine pm_iconst (pc := 87) (v := nI 0) dX10_share_87 (by decide) ?_
    refine pm_istore (pc := 88) dX10_share_88 (by decide) rfl ?_
    exact l_ysh90 hR hX ht hm hw hb (g_n (x_g X)) 0 (by omega)
  | r + 1, i, hm0 => by
    have k9 := l_ysh50 hR hX ht hm hw hb r (i + 1) (by omega) (la := la) (P := P)
    rw [fb_sm_succ] at k9
    refine pm_iload (pc := 50) dX10_share_50 rfl ?_
    refine pm_iconst (pc := 52) (v := nI 4) dX10_share_52 (by decide) ?_
    refine pm_icmp_ge (pc := 53) (tgt := 81) dX10_share_53 rfl (fun h53 => (by simp (disch := omega) only [pm_eqI, pm_ltI, pm_leI, nI_toInt, pm_t0, pm_t1, pm_tm1] at h53; omega)) (fun h53 => ?_)
    refine pm_iload (pc := 56) dX10_share_56 rfl ?_
    refine pm_iload_n (pc := 58) dX10_share_58 rfl ?_
    refine pm_iload (pc := 59) dX10_share_59 rfl ?_
    refine pm_cSR (pc := 61) dX10_share_61 (c_has (m := m) (j := i) (by omega) (by omega)) wq_X10_has wm_X10_263 wt_X10_has ⟨Nat.le_of_ble_eq_true rfl, Nat.le_of_ble_eq_true rfl⟩ ⟨Nat.le_of_ble_eq_true rfl, Nat.le_of_ble_eq_true rfl⟩ rfl (Nat.le_of_ble_eq_true rfl) ?_
    refine pm_if_eq (pc := 64) (tgt := 71) dX10_share_64 rfl (fun h64 => ?_) (fun h64 => ?_)
    · rw [if_neg (b1_nf h64)] at k9
      refine pm_iconst (pc := 71) (v := nI 0) dX10_share_71 (by decide) ?_
      refine pm_iadd (pc := 72) dX10_share_72 ?_
      refine pm_top (nI_add _ _) ?_
      refine pm_istore (pc := 73) dX10_share_73 (by decide) rfl ?_
      refine pm_iinc (pc := 75) dX10_share_75 rfl (pm_inc1 _) (by decide) rfl ?_
      refine pm_goto (pc := 78) (tgt := 50) dX10_share_78 rfl ?_
      exact k9
    · rw [if_pos (b1_nt h64)] at k9
      refine pm_iconst (pc := 67) (v := nI 1) dX10_share_67 (by decide) ?_
      refine pm_goto (pc := 68) (tgt := 72) dX10_share_68 rfl ?_
      refine pm_iadd (pc := 72) dX10_share_72 ?_
      refine pm_top (nI_add _ _) ?_
      refine pm_istore (pc := 73) dX10_share_73 (by decide) rfl ?_
      refine pm_iinc (pc := 75) dX10_share_75 rfl (pm_inc1 _) (by decide) rfl ?_
      refine pm_goto (pc := 78) (tgt := 50) dX10_share_78 rfl ?_
      exact k9
set_option maxRecDepth 100000 in
set_option maxHeartbeats 1000000 in
theorem y_share {I : pm_I} {L : pm_L} {X : xS} (hR : MR I L X) (hX : xInv X) {t m w : Int32} : PC 2 0 0 yX10_share cX10_share 10 (some (.int)) [.ref 40, .int t, .int m, .int w] GG I L (YQ I L (sp_share X t m w).1 (sp_share X t m w).2) := by
  have hG := hR.1
  have hI := hX.s
  have h12 := hI.n12
  refine PC.of [some (.ref 40), some (.int t), some (.int m), some (.int w), none, none, none, none, none, none] (by decide) (Nat.le_of_ble_eq_true rfl) rfl (fun l P => ?_)
  refine pm_iload_n (pc := 0) dX10_share_0 rfl ?_
  refine pm_i2l (pc := 1) dX10_share_1 ?_
  refine pm_lconst (pc := 2) (v := 0) dX10_share_2 (by decide) ?_
  refine pm_ldc2 (pc := 3) wk_X10_104 dX10_share_3 ?_
  refine pm_cSR (pc := 6) dX10_share_6 (c_mInI (a := 0) (b := 3) (by decide) (by decide)) wq_X10_in wm_X10_87 wt_X10_in ⟨Nat.le_of_ble_eq_true rfl, Nat.le_of_ble_eq_true rfl⟩ ⟨Nat.le_of_ble_eq_true rfl, Nat.le_of_ble_eq_true rfl⟩ rfl (Nat.le_of_ble_eq_true rfl) ?_
  refine pm_if_eq (pc := 9) (tgt := 42) dX10_share_9 rfl (fun h9 => ?_) (fun h9 => ?_)
  · refine pm_iconst (pc := 42) (v := (-1)) dX10_share_42 (by decide) ?_
    refine pm_iret (pc := 43) rfl (Nat.le_refl _) (Nat.le_refl _) dX10_share_43 ?_
    first | (rw [show sp_share X t m w = (-1, X) from if_pos (fun z => b1_nf h9 z.1)]; exact YQ.r rfl hR yF.rf) | (rw [show sp_share X (nI t) m w = (-1, X) from if_pos (fun z => b1_nf h21 z.2.1)]; exact YQ.r rfl hR yF.rf) | (rw [show sp_share X (nI t) (nI m) w = (-1, X) from if_pos (fun z => b1_nf h39 z.2.2.1)]; exact YQ.r rfl hR yF.rf) | (rw [sp_share_b ht hm (b1_nf h29)]; exact YQ.r rfl hR yF.rf)
  · obtain ⟨t, ht, rfl⟩ := sh_of (b1_nt h9)
    refine pm_iload_n (pc := 12) dX10_share_12 rfl ?_
    refine pm_i2l (pc := 13) dX10_share_13 ?_
    refine pm_lconst (pc := 14) (v := 0) dX10_share_14 (by decide) ?_
    refine pm_ldc2 (pc := 15) wk_X10_261 dX10_share_15 ?_
    refine pm_cSR (pc := 18) dX10_share_18 (c_mInI (a := 0) (b := 15) (by decide) (by decide)) wq_X10_in wm_X10_87 wt_X10_in ⟨Nat.le_of_ble_eq_true rfl, Nat.le_of_ble_eq_true rfl⟩ ⟨Nat.le_of_ble_eq_true rfl, Nat.le_of_ble_eq_true rfl⟩ rfl (Nat.le_of_ble_eq_true rfl) ?_
    refine pm_if_eq (pc := 21) (tgt := 42) dX10_share_21 rfl (fun h21 => ?_) (fun h21 => ?_)
    · refine pm_iconst (pc := 42) (v := (-1)) dX10_share_42 (by decide) ?_
      refine pm_iret (pc := 43) rfl (Nat.le_refl _) (Nat.le_refl _) dX10_share_43 ?_
      first | (rw [show sp_share X t m w = (-1, X) from if_pos (fun z => b1_nf h9 z.1)]; exact YQ.r rfl hR yF.rf) | (rw [show sp_share X (nI t) m w = (-1, X) from if_pos (fun z => b1_nf h21 z.2.1)]; exact YQ.r rfl hR yF.rf) | (rw [show sp_share X (nI t) (nI m) w = (-1, X) from if_pos (fun z => b1_nf h39 z.2.2.1)]; exact YQ.r rfl hR yF.rf) | (rw [sp_share_b ht hm (b1_nf h29)]; exact YQ.r rfl hR yF.rf)
    · obtain ⟨m, hm, rfl⟩ := iR_of (x := m) (b := 15) (by decide) (b1_nt h21)
      refine pm_iload_n (pc := 24) dX10_share_24 rfl ?_
      refine pm_iload_n (pc := 25) dX10_share_25 rfl ?_
      refine pm_cSR (pc := 26) dX10_share_26 (c_has (m := m) (j := t) (by omega) (by omega)) wq_X10_has wm_X10_263 wt_X10_has ⟨Nat.le_of_ble_eq_true rfl, Nat.le_of_ble_eq_true rfl⟩ ⟨Nat.le_of_ble_eq_true rfl, Nat.le_of_ble_eq_true rfl⟩ rfl (Nat.le_of_ble_eq_true rfl) ?_
      refine pm_if_eq (pc := 29) (tgt := 42) dX10_share_29 rfl (fun h29 => ?_) (fun h29 => ?_)
      · refine pm_iconst (pc := 42) (v := (-1)) dX10_share_42 (by decide) ?_
        refine pm_iret (pc := 43) rfl (Nat.le_refl _) (Nat.le_refl _) dX10_share_43 ?_
        first | (rw [show sp_share X t m w = (-1, X) from if_pos (fun z => b1_nf h9 z.1)]; exact YQ.r rfl hR yF.rf) | (rw [show sp_share X (nI t) m w = (-1, X) from if_pos (fun z => b1_nf h21 z.2.1)]; exact YQ.r rfl hR yF.rf) | (rw [show sp_share X (nI t) (nI m) w = (-1, X) from if_pos (fun z => b1_nf h39 z.2.2.1)]; exact YQ.r rfl hR yF.rf) | (rw [sp_share_b ht hm (b1_nf h29)]; exact YQ.r rfl hR yF.rf)
      · refine pm_iload_n (pc := 32) dX10_share_32 rfl ?_
        refine pm_i2l (pc := 33) dX10_share_33 ?_
        refine pm_lconst (pc := 34) (v := 0) dX10_share_34 (by decide) ?_
        refine pm_lconst (pc := 35) (v := 1) dX10_share_35 (by decide) ?_
        refine pm_cSR (pc := 36) dX10_share_36 (c_mInI (a := 0) (b := 1) (by decide) (by decide)) wq_X10_in wm_X10_87 wt_X10_in ⟨Nat.le_of_ble_eq_true rfl, Nat.le_of_ble_eq_true rfl⟩ ⟨Nat.le_of_ble_eq_true rfl, Nat.le_of_ble_eq_true rfl⟩ rfl (Nat.le_of_ble_eq_true rfl) ?_
        refine pm_if_ne (pc := 39) (tgt := 44) dX10_share_39 rfl (fun h39 => ?_) (fun h39 => ?_)
        · obtain ⟨w, hw, rfl⟩ := iR_of (x := w) (b := 1) (by decide) (b1_nt h39)
          rw [sp_share_t ht hm hw (b1_nt h29)]
          refine pm_iconst (pc := 44) (v := nI 0) dX10_share_44 (by decide) ?_
          refine pm_istore (pc := 45) dX10_share_45 (by decide) rfl ?_
          refine pm_iconst (pc := 47) (v := nI 0) dX10_share_47 (by decide) ?_
          refine pm_istore (pc := 48) dX10_share_48 (by decide) rfl ?_
          exact l_ysh50 hR hX ht hm hw (b1_nt h29) 4 0 (by omega)
        · refine pm_iconst (pc := 42) (v := (-1)) dX10_share_42 (by decide) ?_
          refine pm_iret (pc := 43) rfl (Nat.le_refl _) (Nat.le_refl _) dX10_share_43 ?_
          first | (rw [show sp_share X t m w = (-1, X) from if_pos (fun z => b1_nf h9 z.1)]; exact YQ.r rfl hR yF.rf) | (rw [show sp_share X (nI t) m w = (-1, X) from if_pos (fun z => b1_nf h21 z.2.1)]; exact YQ.r rfl hR yF.rf) | (rw [show sp_share X (nI t) (nI m) w = (-1, X) from if_pos (fun z => b1_nf h39 z.2.2.1)]; exact YQ.r rfl hR yF.rf) | (rw [sp_share_b ht hm (b1_nf h29)]; exact YQ.r rfl hR yF.rf)
