def h_n : Option (List Nat) → Int32
  | none => -4
  | some q => nI q.length
theorem h_find_len {s : gS} {i : Nat} {q : List Nat} (h : h_find s i = some q) : q.length ≤ 3 := by
  unfold h_find at h
  by_cases e : g_wh s i = 6
  · rw [if_pos e] at h; rw [← Option.some.inj h]; decide
  · rw [if_neg e] at h
    cases e0 : h_f i 0 s with
    | some t => rw [e0] at h; have := h_f_len 0 s t e0; rw [← Option.some.inj h, this]; decide
    | none =>
      rw [e0] at h
      cases e1 : h_f i 1 s with
      | some t => rw [e1] at h; have := h_f_len 1 s t e1; rw [← Option.some.inj h, this]; decide
      | none => rw [e1] at h; exact Nat.le_of_eq (h_f_len 2 s q h)
set_option maxRecDepth 100000 in
set_option maxHeartbeats 1000000 in
theorem l_fw3 {I : pm_I} {L : pm_L} {s : gS} (hG : GR I 1 s) (hI : gInv s) {i : Nat} (hi : i < g_n s) (hw : g_wh s i < 6) (hN : ∀ q, q < 3 → h_f i q s = none) {la : Launch} {P : pm_E} {J : pm_I} (hK : h_K s 0 I J) : PW la P yX7_fewestActs cX7_fewestActs 4 (some (.int)) (pm_rm 10 0 0) (pm_Tg P (QI GG (fun v I' L' => (v = h_n (h_find s i) ∧ h_R s 0 I I' (h_find s i)) ∧ L' = L)) 0 0) 0 0 14 [some (.ref 17), some (.ref 1), some (.int (nI i)), some (.int (nI 4))] [] GG J L := by
  refine pm_iload_n (pc := 14) dX7_fewestActs_14 rfl ?_
  refine pm_iconst (pc := 15) (v := nI 3) dX7_fewestActs_15 (by decide) ?_
  refine pm_icmp_gt (pc := 16) (tgt := 41) dX7_fewestActs_16 rfl (fun h16 => ?_) (fun h16 => (by simp (disch := omega) only [pm_eqI, pm_ltI, pm_leI, nI_toInt, pm_t0, pm_t1, pm_tm1] at h16; omega))
  refine pm_bipush (pc := 41) (v := (-4)) dX7_fewestActs_41 (by decide) ?_
  refine pm_iret (pc := 43) rfl (Nat.le_refl _) (Nat.le_refl _) dX7_fewestActs_43 ?_
  have e : h_find s i = none := by unfold h_find; rw [if_neg (show ¬ g_wh s i = 6 by omega), hN 0 (by decide), hN 1 (by decide), hN 2 (by decide)]
  rw [e]
  exact QI.r ⟨⟨rfl, h_R.none hK⟩, rfl⟩
set_option maxRecDepth 100000 in
set_option maxHeartbeats 1000000 in
theorem l_fw2 {I : pm_I} {L : pm_L} {s : gS} (hG : GR I 1 s) (hI : gInv s) {i : Nat} (hi : i < g_n s) (hw : g_wh s i < 6) (hN : ∀ q, q < 2 → h_f i q s = none) {la : Launch} {P : pm_E} {J : pm_I} (hK : h_K s 0 I J) : PW la P yX7_fewestActs cX7_fewestActs 4 (some (.int)) (pm_rm 10 0 0) (pm_Tg P (QI GG (fun v I' L' => (v = h_n (h_find s i) ∧ h_R s 0 I I' (h_find s i)) ∧ L' = L)) 0 0) 0 0 14 [some (.ref 17), some (.ref 1), some (.int (nI i)), some (.int (nI 3))] [] GG J L := by
  refine pm_iload_n (pc := 14) dX7_fewestActs_14 rfl ?_
  refine pm_iconst (pc := 15) (v := nI 3) dX7_fewestActs_15 (by decide) ?_
  refine pm_icmp_gt (pc := 16) (tgt := 41) dX7_fewestActs_16 rfl (fun h16 => absurd h16 (by decide)) (fun h16 => ?_)
  refine pm_aload_n (pc := 19) dX7_fewestActs_19 rfl ?_
  refine pm_iload_n (pc := 20) dX7_fewestActs_20 rfl ?_
  refine pm_aload_n (pc := 21) dX7_fewestActs_21 rfl ?_
  refine pm_getr (pc := 22) (ci := 5) (C0 := RX7) (T := TX7) (N := 1) (j := 0) rfl rfl in_X7 (by decide) wf_X7_11 rfl dX7_fewestActs_22 ?_
  refine pm_iconst (pc := 25) (v := nI 0) dX7_fewestActs_25 (by decide) ?_
  refine pm_iload_n (pc := 26) dX7_fewestActs_26 rfl ?_
  refine pm_cSI (pc := 27) dX7_fewestActs_27 (c_search2 hK.1 hI hi hw hN (depth := 0) (by decide)) wq_X7_search wm_X7_21 wt_X7_search ⟨Nat.le_of_ble_eq_true rfl, Nat.le_of_ble_eq_true rfl⟩ ⟨Nat.le_of_ble_eq_true rfl, Nat.le_of_ble_eq_true rfl⟩ rfl (Nat.le_of_ble_eq_true rfl) (fun r27 I27 L27 q27 => ?_)
  obtain ⟨⟨v27, R27⟩, l27⟩ := q27
  subst l27
  refine pm_if_eq (pc := 30) (tgt := 35) dX7_fewestActs_30 rfl (fun h30 => ?_) (fun h30 => ?_)
  · rw [v27] at h30
    have hN2 : ∀ q, q < 3 → h_f i q s = none := fun q hq => by
      rcases (show q = 2 ∨ q < 2 by omega) with e | e
      · rw [e]; exact h_v0.mp h30
      · exact hN q e
    refine pm_iinc (pc := 35) dX7_fewestActs_35 rfl (pm_inc1 _) (by decide) rfl ?_
    refine pm_goto (pc := 38) (tgt := 14) dX7_fewestActs_38 rfl ?_
    exact l_fw3 hG hI hi hw hN2 (hK.tr R27.1)
  · refine pm_iload_n (pc := 33) dX7_fewestActs_33 rfl ?_
    refine pm_iret (pc := 34) rfl (Nat.le_refl _) (Nat.le_refl _) dX7_fewestActs_34 ?_
    rw [v27] at h30
    cases et : h_f i 2 s with
    | none => exact absurd (h_v0.mpr et) h30
    | some q =>
      have e : h_find s i = some q := by unfold h_find; rw [if_neg (show ¬ g_wh s i = 6 by omega), hN 0 (by decide), hN 1 (by decide), et]
      rw [et] at R27
      rw [e]
      exact QI.r ⟨⟨by show nI 3 = nI q.length; rw [h_f_len 2 s q et], hK.tr R27.1, R27.2⟩, rfl⟩
set_option maxRecDepth 100000 in
set_option maxHeartbeats 1000000 in
theorem l_fw1 {I : pm_I} {L : pm_L} {s : gS} (hG : GR I 1 s) (hI : gInv s) {i : Nat} (hi : i < g_n s) (hw : g_wh s i < 6) (hN : ∀ q, q < 1 → h_f i q s = none) {la : Launch} {P : pm_E} {J : pm_I} (hK : h_K s 0 I J) : PW la P yX7_fewestActs cX7_fewestActs 4 (some (.int)) (pm_rm 10 0 0) (pm_Tg P (QI GG (fun v I' L' => (v = h_n (h_find s i) ∧ h_R s 0 I I' (h_find s i)) ∧ L' = L)) 0 0) 0 0 14 [some (.ref 17), some (.ref 1), some (.int (nI i)), some (.int (nI 2))] [] GG J L := by
  refine pm_iload_n (pc := 14) dX7_fewestActs_14 rfl ?_
  refine pm_iconst (pc := 15) (v := nI 3) dX7_fewestActs_15 (by decide) ?_
  refine pm_icmp_gt (pc := 16) (tgt := 41) dX7_fewestActs_16 rfl (fun h16 => absurd h16 (by decide)) (fun h16 => ?_)
  refine pm_aload_n (pc := 19) dX7_fewestActs_19 rfl ?_
  refine pm_iload_n (pc := 20) dX7_fewestActs_20 rfl ?_
  refine pm_aload_n (pc := 21) dX7_fewestActs_21 rfl ?_
  refine pm_getr (pc := 22) (ci := 5) (C0 := RX7) (T := TX7) (N := 1) (j := 0) rfl rfl in_X7 (by decide) wf_X7_11 rfl dX7_fewestActs_22 ?_
  refine pm_iconst (pc := 25) (v := nI 0) dX7_fewestActs_25 (by decide) ?_
  refine pm_iload_n (pc := 26) dX7_fewestActs_26 rfl ?_
  refine pm_cSI (pc := 27) dX7_fewestActs_27 (c_search1 hK.1 hI hi hw hN (depth := 0) (by decide)) wq_X7_search wm_X7_21 wt_X7_search ⟨Nat.le_of_ble_eq_true rfl, Nat.le_of_ble_eq_true rfl⟩ ⟨Nat.le_of_ble_eq_true rfl, Nat.le_of_ble_eq_true rfl⟩ rfl (Nat.le_of_ble_eq_true rfl) (fun r27 I27 L27 q27 => ?_)
  obtain ⟨⟨v27, R27⟩, l27⟩ := q27
  subst l27
  refine pm_if_eq (pc := 30) (tgt := 35) dX7_fewestActs_30 rfl (fun h30 => ?_) (fun h30 => ?_)
  · rw [v27] at h30
    have hN2 : ∀ q, q < 2 → h_f i q s = none := fun q hq => by
      rcases (show q = 1 ∨ q < 1 by omega) with e | e
      · rw [e]; exact h_v0.mp h30
      · exact hN q e
    refine pm_iinc (pc := 35) dX7_fewestActs_35 rfl (pm_inc1 _) (by decide) rfl ?_
    refine pm_goto (pc := 38) (tgt := 14) dX7_fewestActs_38 rfl ?_
    exact l_fw2 hG hI hi hw hN2 (hK.tr R27.1)
  · refine pm_iload_n (pc := 33) dX7_fewestActs_33 rfl ?_
    refine pm_iret (pc := 34) rfl (Nat.le_refl _) (Nat.le_refl _) dX7_fewestActs_34 ?_
    rw [v27] at h30
    cases et : h_f i 1 s with
    | none => exact absurd (h_v0.mpr et) h30
    | some q =>
      have e : h_find s i = some q := by unfold h_find; rw [if_neg (show ¬ g_wh s i = 6 by omega), hN 0 (by decide), et]
      rw [et] at R27
      rw [e]
      exact QI.r ⟨⟨by show nI 2 = nI q.length; rw [h_f_len 1 s q et], hK.tr R27.1, R27.2⟩, rfl⟩
set_option maxRecDepth 100000 in
set_option maxHeartbeats 1000000 in
theorem l_fw0 {I : pm_I} {L : pm_L} {s : gS} (hG : GR I 1 s) (hI : gInv s) {i : Nat} (hi : i < g_n s) (hw : g_wh s i < 6) (hN : ∀ q, q < 0 → h_f i q s = none) {la : Launch} {P : pm_E} {J : pm_I} (hK : h_K s 0 I J) : PW la P yX7_fewestActs cX7_fewestActs 4 (some (.int)) (pm_rm 10 0 0) (pm_Tg P (QI GG (fun v I' L' => (v = h_n (h_find s i) ∧ h_R s 0 I I' (h_find s i)) ∧ L' = L)) 0 0) 0 0 14 [some (.ref 17), some (.ref 1), some (.int (nI i)), some (.int (nI 1))] [] GG J L := by
  refine pm_iload_n (pc := 14) dX7_fewestActs_14 rfl ?_
  refine pm_iconst (pc := 15) (v := nI 3) dX7_fewestActs_15 (by decide) ?_
  refine pm_icmp_gt (pc := 16) (tgt := 41) dX7_fewestActs_16 rfl (fun h16 => absurd h16 (by decide)) (fun h16 => ?_)
  refine pm_aload_n (pc := 19) dX7_fewestActs_19 rfl ?_
  refine pm_iload_n (pc := 20) dX7_fewestActs_20 rfl ?_
  refine pm_aload_n (pc := 21) dX7_fewestActs_21 rfl ?_
  refine pm_getr (pc := 22) (ci := 5) (C0 := RX7) (T := TX7) (N := 1) (j := 0) rfl rfl in_X7 (by decide) wf_X7_11 rfl dX7_fewestActs_22 ?_
  refine pm_iconst (pc := 25) (v := nI 0) dX7_fewestActs_25 (by decide) ?_
  refine pm_iload_n (pc := 26) dX7_fewestActs_26 rfl ?_
  refine pm_cSI (pc := 27) dX7_fewestActs_27 (c_search0 hK.1 hI hi hw hN (depth := 0) (by decide)) wq_X7_search wm_X7_21 wt_X7_search ⟨Nat.le_of_ble_eq_true rfl, Nat.le_of_ble_eq_true rfl⟩ ⟨Nat.le_of_ble_eq_true rfl, Nat.le_of_ble_eq_true rfl⟩ rfl (Nat.le_of_ble_eq_true rfl) (fun r27 I27 L27 q27 => ?_)
  obtain ⟨⟨v27, R27⟩, l27⟩ := q27
  subst l27
  refine pm_if_eq (pc := 30) (tgt := 35) dX7_fewestActs_30 rfl (fun h30 => ?_) (fun h30 => ?_)
  · rw [v27] at h30
    have hN2 : ∀ q, q < 1 → h_f i q s = none := fun q hq => by
      rcases (show q = 0 ∨ q < 0 by omega) with e | e
      · rw [e]; exact h_v0.mp h30
      · exact hN q e
    refine pm_iinc (pc := 35) dX7_fewestActs_35 rfl (pm_inc1 _) (by decide) rfl ?_
    refine pm_goto (pc := 38) (tgt := 14) dX7_fewestActs_38 rfl ?_
    exact l_fw1 hG hI hi hw hN2 (hK.tr R27.1)
  · refine pm_iload_n (pc := 33) dX7_fewestActs_33 rfl ?_
    refine pm_iret (pc := 34) rfl (Nat.le_refl _) (Nat.le_refl _) dX7_fewestActs_34 ?_
    rw [v27] at h30
    cases et : h_f i 0 s with
    | none => exact absurd (h_v0.mpr et) h30
    | some q =>
      have e : h_find s i = some q := by unfold h_find; rw [if_neg (show ¬ g_wh s i = 6 by omega), et]
      rw [et] at R27
      rw [e]
      exact QI.r ⟨⟨by show nI 1 = nI q.length; rw [h_f_len 0 s q et], hK.tr R27.1, R27.2⟩, rfl⟩
set_option maxRecDepth 100000 in
set_option maxHeartbeats 1000000 in
theorem c_fewestActs {I : pm_I} {L : pm_L} {s : gS} (hG : GR I 1 s) (hI : gInv s) {i : Nat} (hi : i < g_n s) (hw7 : g_wh s i ≠ 7) : PC 10 0 0 yX7_fewestActs cX7_fewestActs 4 (some (.int)) [.ref 17, .ref 1, .int (nI i)] GG I L (QI GG (fun v I' L' => (v = h_n (h_find s i) ∧ h_R s 0 I I' (h_find s i)) ∧ L' = L)) := by
  have h7 := (hI.2.1 i hi).2.2.2.2
  refine PC.of [some (.ref 17), some (.ref 1), some (.int (nI i)), none] (by decide) (Nat.le_of_ble_eq_true rfl) rfl (fun l P => ?_)
  refine pm_aload_n (pc := 0) dX7_fewestActs_0 rfl ?_
  refine pm_iload_n (pc := 1) dX7_fewestActs_1 rfl ?_
  refine pm_cVR (pc := 2) dX7_fewestActs_2 (c_placeOf hG hI hi) wq_X2_placeOf wm_X7_15 wi_X2_placeOf ws_X2_placeOf rfl rfl ⟨Nat.le_of_ble_eq_true rfl, Nat.le_of_ble_eq_true rfl⟩ ⟨Nat.le_of_ble_eq_true rfl, Nat.le_of_ble_eq_true rfl⟩ rfl (Nat.le_of_ble_eq_true rfl) ?_
  refine pm_bipush (pc := 5) (v := nI 6) dX7_fewestActs_5 (by decide) ?_
  refine pm_icmp_ne (pc := 7) (tgt := 12) dX7_fewestActs_7 rfl (fun h7 => ?_) (fun h7 => ?_)
  · simp (disch := omega) only [pm_eqI, pm_ltI, pm_leI, nI_toInt, pm_t0, pm_t1, pm_tm1] at h7
    refine pm_iconst (pc := 12) (v := nI 1) dX7_fewestActs_12 (by decide) ?_
    refine pm_istore_n (pc := 13) dX7_fewestActs_13 (by decide) rfl ?_
    exact l_fw0 hG hI hi (by omega) (fun q hq => absurd hq (Nat.not_lt_zero q)) (h_K.rf hG)
  · simp (disch := omega) only [pm_eqI, pm_ltI, pm_leI, nI_toInt, pm_t0, pm_t1, pm_tm1] at h7
    refine pm_iconst (pc := 10) (v := nI 0) dX7_fewestActs_10 (by decide) ?_
    refine pm_iret (pc := 11) rfl (Nat.le_refl _) (Nat.le_refl _) dX7_fewestActs_11 ?_
    have e : h_find s i = some [] := if_pos (by omega)
    rw [e]
    exact QI.r ⟨⟨rfl, h_K.rf hG, fun q hq k hk => by rw [← Option.some.inj hq] at hk; exact absurd hk (Nat.not_lt_zero _)⟩, rfl⟩
set_option maxRecDepth 100000 in
set_option maxHeartbeats 1000000 in
theorem c_codeAt {I : pm_I} {L : pm_L} {k : Nat} (hk : k < 3) : PC 0 0 0 yX7_codeAt cX7_codeAt 2 (some (.int)) [.ref 17, .int (nI k)] GG I L (QR GG I L (I 18 k)) := by
  refine PC.of [some (.ref 17), some (.int (nI k))] (by decide) (Nat.le_of_ble_eq_true rfl) rfl (fun l P => ?_)
  refine pm_iload_n (pc := 0) dX7_codeAt_0 rfl ?_
  refine pm_if_lt (pc := 1) (tgt := 22) dX7_codeAt_1 rfl (fun h1 => (by simp (disch := omega) only [pm_eqI, pm_ltI, pm_leI, nI_toInt, pm_t0, pm_t1, pm_tm1] at h1; omega)) (fun h1 => ?_)
  refine pm_iload_n (pc := 4) dX7_codeAt_4 rfl ?_
  refine pm_aload_n (pc := 5) dX7_codeAt_5 rfl ?_
  refine pm_getr (pc := 6) (ci := 5) (C0 := RX7) (T := TX7) (N := 1) (j := 0) rfl rfl in_X7 (by decide) wf_X7_11 rfl dX7_codeAt_6 ?_
  refine pm_alen (pc := 9) (v := nI 3) rfl (by decide) rfl dX7_codeAt_9 ?_
  refine pm_icmp_ge (pc := 10) (tgt := 22) dX7_codeAt_10 rfl (fun h10 => (by simp (disch := omega) only [pm_eqI, pm_ltI, pm_leI, nI_toInt, pm_t0, pm_t1, pm_tm1] at h10; omega)) (fun h10 => ?_)
  refine pm_aload_n (pc := 13) dX7_codeAt_13 rfl ?_
  refine pm_getr (pc := 14) (ci := 5) (C0 := RX7) (T := TX7) (N := 1) (j := 0) rfl rfl in_X7 (by decide) wf_X7_11 rfl dX7_codeAt_14 ?_
  refine pm_iload_n (pc := 17) dX7_codeAt_17 rfl ?_
  refine pm_iald (pc := 18) rfl (by omega) (by decide) dX7_codeAt_18 ?_
  refine pm_goto (pc := 19) (tgt := 24) dX7_codeAt_19 rfl ?_
  refine pm_iret (pc := 24) rfl (Nat.le_refl _) (Nat.le_refl _) dX7_codeAt_24 ?_
  exact QR.r rfl
theorem XR.e2 {I I' : pm_I} {L : pm_L} {X : xS} (h : XR I L X) (hK : h_K (x_g X) 0 I I') : XR I' L X := by
  have e : ∀ a : Nat, (a = 0 ∨ 9 ≤ a) → a ≠ 18 → I' a = I a := hK.2.1
  refine ⟨hK.1, ?_, ?_, fun q hq => ⟨?_, (h.2.2.2 q hq).2⟩⟩
  · have h1 := h.2.1
    unfold XI at h1 ⊢
    split
    · rename_i hz; rw [hz] at h1; rw [e 0 (by omega) (by omega)]; exact h1
    · rename_i s' hz
      rw [hz] at h1
      exact ⟨by rw [e 0 (by omega) (by omega)]; exact h1.1, h1.2.e (fun a _ _ => e a (by omega) (by omega))⟩
  · have h1 := h.2.2.1
    unfold XT at h1 ⊢
    rw [e 22 (by omega) (by omega), e 23 (by omega) (by omega)]; exact h1
  · have h1 := (h.2.2.2 q hq).1
    unfold XS at h1 ⊢
    rw [e (32 + 2 * q) (by omega) (by omega)]; exact h1
theorem sp_had_b {X : xS} {i k : Int32} (h : ¬ (isPc X i ∧ iR k (-1) 2)) : sp_had X i k = (-1, X) := if_pos h
theorem sp_had_t {X : xS} {j : Nat} {k : Int32} (hX : xInv X) (hj : j < g_n (x_g X)) (hk : iR k (-1) 2) : sp_had X (nI j) k = if g_wh (x_g X) j = 7 then (-2, X) else (d_had (x_g X) j k, X) := by
  have h12 := hX.s.n12
  unfold sp_had; rw [if_neg (not_not_intro ⟨isPc_nI hX hj, hk⟩), nt_nI (show j < 2 ^ 31 by omega)]
set_option maxRecDepth 100000 in
set_option maxHeartbeats 1000000 in
theorem x_had {I : pm_I} {L : pm_L} {X : xS} (hR : XR I L X) (hX : xInv X) {i k : Int32} : PC 11 0 0 yX9_had cX9_had 4 (some (.int)) [.ref 0, .int i, .int k] GG I L (XQ I L (sp_had X i k).1 (sp_had X i k).2) := by
  refine PC.of [some (.ref 0), some (.int i), some (.int k), none] (by decide) (Nat.le_of_ble_eq_true rfl) rfl (fun l P => ?_)
  refine pm_aload_n (pc := 0) dX9_had_0 rfl ?_
  refine pm_getr (pc := 1) (ci := 7) (C0 := RX9) (T := TX9) (N := 9) (j := 0) rfl rfl in_X9 (by decide) wf_X9_10 rfl dX9_had_1 ?_
  refine pm_iload_n (pc := 4) dX9_had_4 rfl ?_
  refine pm_cVR (pc := 5) dX9_had_5 (c_isPc hR.1 hX.s) wq_X2_isPiece wm_X9_73 wi_X2_isPiece ws_X2_isPiece rfl rfl ⟨Nat.le_of_ble_eq_true rfl, Nat.le_of_ble_eq_true rfl⟩ ⟨Nat.le_of_ble_eq_true rfl, Nat.le_of_ble_eq_true rfl⟩ rfl (Nat.le_of_ble_eq_true rfl) ?_
  refine pm_if_eq (pc := 8) (tgt := 20) dX9_had_8 rfl (fun h8 => ?_) (fun h8 => ?_)
  · refine pm_iconst (pc := 20) (v := (-1)) dX9_had_20 (by decide) ?_
    refine pm_iret (pc := 21) rfl (Nat.le_refl _) (Nat.le_refl _) dX9_had_21 ?_
    first
      | (rw [sp_had_b (fun z => b1_nf h8 z.1)]; exact XQ.r rfl hR xF.rf)
      | (rw [sp_had_b (fun z => b1_nf h17 z.2)]; exact XQ.r rfl hR xF.rf)
  · obtain ⟨j, hj, hj12, rfl⟩ := isPc_of hX (b1_nt h8)
    have h7 := (hX.s.2.1 j hj).2.2.2.2
    refine pm_iload_n (pc := 11) dX9_had_11 rfl ?_
    refine pm_iconst (pc := 12) (v := (-1)) dX9_had_12 (by decide) ?_
    refine pm_iconst (pc := 13) (v := nI 2) dX9_had_13 (by decide) ?_
    refine pm_cSR (pc := 14) dX9_had_14 (c_isIn (a := -1) (b := 2) (by decide) (by decide)) wq_X9_isIn wm_X9_61 wt_X9_isIn ⟨Nat.le_of_ble_eq_true rfl, Nat.le_of_ble_eq_true rfl⟩ ⟨Nat.le_of_ble_eq_true rfl, Nat.le_of_ble_eq_true rfl⟩ rfl (Nat.le_of_ble_eq_true rfl) ?_
    refine pm_if_ne (pc := 17) (tgt := 22) dX9_had_17 rfl (fun h17 => ?_) (fun h17 => ?_)
    · have hk := b1_nt h17
      rw [sp_had_t hX hj hk]
      refine pm_aload_n (pc := 22) dX9_had_22 rfl ?_
      refine pm_getr (pc := 23) (ci := 7) (C0 := RX9) (T := TX9) (N := 9) (j := 0) rfl rfl in_X9 (by decide) wf_X9_10 rfl dX9_had_23 ?_
      refine pm_iload_n (pc := 26) dX9_had_26 rfl ?_
      refine pm_cVR (pc := 27) dX9_had_27 (c_placeOf hR.1 hX.s hj) wq_X2_placeOf wm_X9_86 wi_X2_placeOf ws_X2_placeOf rfl rfl ⟨Nat.le_of_ble_eq_true rfl, Nat.le_of_ble_eq_true rfl⟩ ⟨Nat.le_of_ble_eq_true rfl, Nat.le_of_ble_eq_true rfl⟩ rfl (Nat.le_of_ble_eq_true rfl) ?_
      refine pm_bipush (pc := 30) (v := nI 7) dX9_had_30 (by decide) ?_
      refine pm_icmp_ne (pc := 32) (tgt := 38) dX9_had_32 rfl (fun h32 => ?_) (fun h32 => ?_)
      · simp (disch := omega) only [pm_eqI, pm_ltI, pm_leI, nI_toInt, pm_t0, pm_t1, pm_tm1] at h32
        rw [if_neg (by omega)]
        refine pm_aload_n (pc := 38) dX9_had_38 rfl ?_
        refine pm_getr (pc := 39) (ci := 7) (C0 := RX9) (T := TX9) (N := 9) (j := 3) rfl rfl in_X9 (by decide) wf_X9_22 rfl dX9_had_39 ?_
        refine pm_aload_n (pc := 42) dX9_had_42 rfl ?_
        refine pm_getr (pc := 43) (ci := 7) (C0 := RX9) (T := TX9) (N := 9) (j := 0) rfl rfl in_X9 (by decide) wf_X9_10 rfl dX9_had_43 ?_
        refine pm_iload_n (pc := 46) dX9_had_46 rfl ?_
        refine pm_cVI (pc := 47) dX9_had_47 (c_fewestActs hR.1 hX.s hj (by omega)) wq_X7_fewestActs wm_X9_158 wi_X7_fewestActs ws_X7_fewestActs rfl rfl ⟨Nat.le_of_ble_eq_true rfl, Nat.le_of_ble_eq_true rfl⟩ ⟨Nat.le_of_ble_eq_true rfl, Nat.le_of_ble_eq_true rfl⟩ rfl (Nat.le_of_ble_eq_true rfl) (fun r47 I47 L47 q47 => ?_)
        obtain ⟨⟨v47, R47⟩, l47⟩ := q47
        subst l47
        refine pm_istore_n (pc := 50) dX9_had_50 (by decide) rfl ?_
        refine pm_iload_n (pc := 51) dX9_had_51 rfl ?_
        refine pm_if_lt (pc := 52) (tgt := 60) dX9_had_52 rfl (fun h52 => ?_) (fun h52 => ?_)
        · refine pm_bipush (pc := 60) (v := (-4)) dX9_had_60 (by decide) ?_
          refine pm_iret (pc := 62) rfl (Nat.le_refl _) (Nat.le_refl _) dX9_had_62 ?_
          refine XQ.r ?_ (hR.e2 R47.1) (fun a ha => ⟨R47.1.2.1 a (by omega) (by omega), rfl⟩)
          show (-4 : Int32) = d_had (x_g X) j k
          unfold d_had
          cases et : h_find (x_g X) j with
          | none => rfl
          | some q =>
            have hl := h_find_len et
            rw [et] at v47
            have v2 : r47 = nI q.length := v47
            clear v47
            subst v2
            show (-4 : Int32) = if nI q.length ≤ k then -4 else _
            rw [if_pos]
            first
              | (simp (disch := omega) only [pm_ltI, nI_toInt, pm_t0] at h52; omega)
              | (simp (disch := omega) only [pm_ltI, pm_leI, nI_toInt] at h57 ⊢; omega)
        · refine pm_iload_n (pc := 55) dX9_had_55 rfl ?_
          refine pm_iload_n (pc := 56) dX9_had_56 rfl ?_
          refine pm_icmp_lt (pc := 57) (tgt := 63) dX9_had_57 rfl (fun h57 => ?_) (fun h57 => ?_)
          · refine pm_iload_n (pc := 63) dX9_had_63 rfl ?_
            refine pm_if_ge (pc := 64) (tgt := 71) dX9_had_64 rfl (fun h64 => ?_) (fun h64 => ?_)
            · obtain ⟨kk, hkk, rfl⟩ := iR_of (x := k) (b := 2) (by decide) ⟨by simpa only [pm_leI, pm_t0] using h64, hk.2⟩
              refine pm_aload_n (pc := 71) dX9_had_71 rfl ?_
              refine pm_getr (pc := 72) (ci := 7) (C0 := RX9) (T := TX9) (N := 9) (j := 3) rfl rfl in_X9 (by decide) wf_X9_22 rfl dX9_had_72 ?_
              refine pm_iload_n (pc := 75) dX9_had_75 rfl ?_
              refine pm_cVR (pc := 76) dX9_had_76 (c_codeAt (show kk < 3 by omega)) wq_X7_codeAt wm_X9_161 wi_X7_codeAt ws_X7_codeAt rfl rfl ⟨Nat.le_of_ble_eq_true rfl, Nat.le_of_ble_eq_true rfl⟩ ⟨Nat.le_of_ble_eq_true rfl, Nat.le_of_ble_eq_true rfl⟩ rfl (Nat.le_of_ble_eq_true rfl) ?_
              refine pm_iret (pc := 79) rfl (Nat.le_refl _) (Nat.le_refl _) dX9_had_79 ?_
              first
                | (refine XQ.r ?_ (hR.e2 R47.1) (fun a ha => ⟨R47.1.2.1 a (by omega) (by omega), rfl⟩)
                   show r47 = d_had (x_g X) j k
                   unfold d_had
                   cases et : h_find (x_g X) j with
                   | none => rw [et] at v47; rw [v47] at h52; exact absurd (show h_n none < 0 by show (-4 : Int32) < 0; decide) h52
                   | some q =>
                     have hl := h_find_len et
                     rw [et] at v47
                     have v2 : r47 = nI q.length := v47
                     clear v47
                     subst v2
                     show nI q.length = if nI q.length ≤ k then -4 else _
                     rw [if_neg (by rw [pm_leI]; rw [pm_ltI] at h57; omega), if_pos (by rw [pm_ltI]; rw [pm_leI] at h64; omega)])
                | (refine XQ.r ?_ (hR.e2 R47.1) (fun a ha => ⟨R47.1.2.1 a (by omega) (by omega), rfl⟩)
                   show I47 18 kk = d_had (x_g X) j (nI kk)
                   unfold d_had
                   cases et : h_find (x_g X) j with
                   | none => rw [et] at v47; rw [v47] at h52; exact absurd (show h_n none < 0 by show (-4 : Int32) < 0; decide) h52
                   | some q =>
                     have hl := h_find_len et
                     rw [et] at v47
                     have v2 : r47 = nI q.length := v47
                     have hkq : kk < q.length := by rw [v2, pm_ltI, nI_toInt (by omega), nI_toInt (by omega)] at h57; omega
                     have hrow := R47.2 q et kk hkq
                     rw [Nat.zero_add] at hrow
                     show I47 18 kk = if nI q.length ≤ nI kk then -4 else if nI kk < 0 then nI q.length else nI (q.getD (nt (nI kk)) 0)
                     rw [if_neg (by rw [pm_leI, nI_toInt (by omega), nI_toInt (by omega)]; omega), if_neg (by rw [pm_ltI, nI_toInt (by omega), pm_t0]; omega), nt_nI (by omega)]
                     exact hrow)
            · refine pm_iload_n (pc := 67) dX9_had_67 rfl ?_
              refine pm_goto (pc := 68) (tgt := 79) dX9_had_68 rfl ?_
              refine pm_iret (pc := 79) rfl (Nat.le_refl _) (Nat.le_refl _) dX9_had_79 ?_
              first
                | (refine XQ.r ?_ (hR.e2 R47.1) (fun a ha => ⟨R47.1.2.1 a (by omega) (by omega), rfl⟩)
                   show r47 = d_had (x_g X) j k
                   unfold d_had
                   cases et : h_find (x_g X) j with
                   | none => rw [et] at v47; rw [v47] at h52; exact absurd (show h_n none < 0 by show (-4 : Int32) < 0; decide) h52
                   | some q =>
                     have hl := h_find_len et
                     rw [et] at v47
                     have v2 : r47 = nI q.length := v47
                     clear v47
                     subst v2
                     show nI q.length = if nI q.length ≤ k then -4 else _
                     rw [if_neg (by rw [pm_leI]; rw [pm_ltI] at h57; omega), if_pos (by rw [pm_ltI]; rw [pm_leI] at h64; omega)])
                | (refine XQ.r ?_ (hR.e2 R47.1) (fun a ha => ⟨R47.1.2.1 a (by omega) (by omega), rfl⟩)
                   show I47 18 kk = d_had (x_g X) j (nI kk)
                   unfold d_had
                   cases et : h_find (x_g X) j with
                   | none => rw [et] at v47; rw [v47] at h52; exact absurd (show h_n none < 0 by show (-4 : Int32) < 0; decide) h52
                   | some q =>
                     have hl := h_find_len et
                     rw [et] at v47
                     have v2 : r47 = nI q.length := v47
                     have hkq : kk < q.length := by rw [v2, pm_ltI, nI_toInt (by omega), nI_toInt (by omega)] at h57; omega
                     have hrow := R47.2 q et kk hkq
                     rw [Nat.zero_add] at hrow
                     show I47 18 kk = if nI q.length ≤ nI kk then -4 else if nI kk < 0 then nI q.length else nI (q.getD (nt (nI kk)) 0)
                     rw [if_neg (by rw [pm_leI, nI_toInt (by omega), nI_toInt (by omega)]; omega), if_neg (by rw [pm_ltI, nI_toInt (by omega), pm_t0]; omega), nt_nI (by omega)]
                     exact hrow)
          · refine pm_bipush (pc := 60) (v := (-4)) dX9_had_60 (by decide) ?_
            refine pm_iret (pc := 62) rfl (Nat.le_refl _) (Nat.le_refl _) dX9_had_62 ?_
            refine XQ.r ?_ (hR.e2 R47.1) (fun a ha => ⟨R47.1.2.1 a (by omega) (by omega), rfl⟩)
            show (-4 : Int32) = d_had (x_g X) j k
            unfold d_had
            cases et : h_find (x_g X) j with
            | none => rfl
            | some q =>
              have hl := h_find_len et
              rw [et] at v47
              have v2 : r47 = nI q.length := v47
              clear v47
              subst v2
              show (-4 : Int32) = if nI q.length ≤ k then -4 else _
              rw [if_pos]
              first
                | (simp (disch := omega) only [pm_ltI, nI_toInt, pm_t0] at h52; omega)
                | (simp (disch := omega) only [pm_ltI, pm_leI, nI_toInt] at h57 ⊢; omega)
      · simp (disch := omega) only [pm_eqI, pm_ltI, pm_leI, nI_toInt, pm_t0, pm_t1, pm_tm1] at h32
        refine pm_bipush (pc := 35) (v := (-2)) dX9_had_35 (by decide) ?_
        refine pm_iret (pc := 37) rfl (Nat.le_refl _) (Nat.le_refl _) dX9_had_37 ?_
        rw [if_pos (by omega)]
        exact XQ.r rfl hR xF.rf
    · refine pm_iconst (pc := 20) (v := (-1)) dX9_had_20 (by decide) ?_
      refine pm_iret (pc := 21) rfl (Nat.le_refl _) (Nat.le_refl _) dX9_had_21 ?_
      first
        | (rw [sp_had_b (fun z => b1_nf h8 z.1)]; exact XQ.r rfl hR xF.rf)
        | (rw [sp_had_b (fun z => b1_nf h17 z.2)]; exact XQ.r rfl hR xF.rf)
