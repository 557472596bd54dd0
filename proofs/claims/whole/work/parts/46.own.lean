theorem w_dig {c p : Nat} (hc : c < 4096) (hp : p < 6) : nI c >>> ((nI 2 * nI p) &&& 31) &&& nI 3 = nI (w_c c p) := by
  have e1 : ((nI (2 * p) &&& 31).toBitVec.smod 32).toNat = 2 * p := (by decide +kernel : ∀ n, n < 31 → ((nI n &&& 31).toBitVec.smod 32).toNat = n) (2 * p) (by omega)
  rw [pk_mul, pk_shrN (by omega) _ (2 * p) e1, fa_and, show (3 : Nat) = 2 ^ 2 - 1 from rfl, Nat.and_two_pow_sub_one_eq_mod]
  rfl
theorem w_not {a b : Nat} (ha : a < 2 ^ 4) (hb : b < 2 ^ 4) : (nI a &&& (nI b ^^^ (-1))) = 0 ↔ b &&& a = a := (by decide +kernel : ∀ a, a < 16 → ∀ b, b < 16 → ((nI a &&& (nI b ^^^ (-1))) = 0 ↔ b &&& a = a)) a ha b hb
theorem w_otw {s : gS} {j : Nat} (h : g_ow s j < 4) : g_tw s j = g_ow s j := by
  unfold g_ow at h ⊢
  split
  · rename_i z; rw [if_pos z] at h; omega
  · rfl
set_option maxRecDepth 100000 in
set_option maxHeartbeats 1000000 in
theorem c_mTowns {I : pm_I} {L : pm_L} {s : gS} (hG : MG I s) (hI : gInv s) : PC 1 0 0 yX10_townsThatLie cX10_townsThatLie 3 (some (.int)) [.ref 40] GG I L (QR GG I L (nI (w_m s (g_n s)))) := by
  have h12 := hI.n12
  refine PC.of [some (.ref 40), none, none] (by decide) (Nat.le_of_ble_eq_true rfl) rfl (fun l P => ?_)
  refine pm_iconst (pc := 0) (v := nI 0) dX10_townsThatLie_0 (by decide) ?_
  refine pm_istore_n (pc := 1) dX10_townsThatLie_1 (by decide) rfl ?_
  refine pm_iconst (pc := 2) (v := nI 0) dX10_townsThatLie_2 (by decide) ?_
  refine pm_istore_n (pc := 3) dX10_townsThatLie_3 (by decide) rfl ?_
  have lp : ∀ (m i : Nat), i + m = g_n s → PW l P yX10_townsThatLie cX10_townsThatLie 3 (some (.int)) (pm_rm 1 0 0) (pm_Tg P (QR GG I L (nI (w_m s (g_n s)))) 0 0) 0 0 4 [some (.ref 40), some (.int (nI (w_m s i))), some (.int (nI i))] [] GG I L := by
    intro m
    induction m with
    | zero =>
      intro i hm
      have e : i = g_n s := by omega
      subst e
      refine pm_iload_n (pc := 4) dX10_townsThatLie_4 rfl ?_
      refine pm_aload_n (pc := 5) dX10_townsThatLie_5 rfl ?_
      refine pm_get (pc := 6) (ci := 8) (C0 := RX10) (T := TX10) (N := 34) (j := 0) rfl rfl in_X10 (by decide) wf_X10_83 rfl dX10_townsThatLie_6 ?_
      refine pm_icmp_ge (pc := 9) (tgt := 53) dX10_townsThatLie_9 rfl (fun h9 => ?_) (fun h9 => (by simp (disch := omega) only [hG.n, pm_leI, nI_toInt] at h9; omega))
      refine pm_iload_n (pc := 53) dX10_townsThatLie_53 rfl ?_
      refine pm_iret (pc := 54) rfl (Nat.le_refl _) (Nat.le_refl _) dX10_townsThatLie_54 ?_
      exact QR.r rfl
    | succ m ih =>
      intro i hm
      have hj : i < g_n s := by omega
      have ho := ow_le hI hj
      have h7 := (hI.2.1 i hj).2.2.2.2
      have htw := w_otw (s := s) (j := i)
      have hs : w_m s (i + 1) = w_m s i ||| (if g_wh s i < 6 ∧ g_ow s i < 4 then 2 ^ g_ow s i else 0) := rfl
      refine pm_iload_n (pc := 4) dX10_townsThatLie_4 rfl ?_
      refine pm_aload_n (pc := 5) dX10_townsThatLie_5 rfl ?_
      refine pm_get (pc := 6) (ci := 8) (C0 := RX10) (T := TX10) (N := 34) (j := 0) rfl rfl in_X10 (by decide) wf_X10_83 rfl dX10_townsThatLie_6 ?_
      refine pm_icmp_ge (pc := 9) (tgt := 53) dX10_townsThatLie_9 rfl (fun h9 => (by simp (disch := omega) only [hG.n, pm_leI, nI_toInt] at h9; omega)) (fun h9 => ?_)
      refine pm_iload_n (pc := 12) dX10_townsThatLie_12 rfl ?_
      refine pm_aload_n (pc := 13) dX10_townsThatLie_13 rfl ?_
      refine pm_getr (pc := 14) (ci := 8) (C0 := RX10) (T := TX10) (N := 34) (j := 4) rfl rfl in_X10 (by decide) wf_X10_19 rfl dX10_townsThatLie_14 ?_
      refine pm_iload_n (pc := 17) dX10_townsThatLie_17 rfl ?_
      refine pm_iald (pc := 18) rfl (by omega) (by decide) dX10_townsThatLie_18 ?_
      rw [hG.wh hj]
      refine pm_bipush (pc := 19) (v := nI 6) dX10_townsThatLie_19 (by decide) ?_
      refine pm_icmp_ge (pc := 21) (tgt := 44) dX10_townsThatLie_21 rfl (fun h21 => ?_) (fun h21 => ?_)
      · simp (disch := omega) only [pm_eqI, pm_ltI, pm_leI, nI_toInt, pm_t0, pm_t1, pm_tm1] at h21
        rw [if_neg (fun z => by omega), Nat.or_zero] at hs
        refine pm_iconst (pc := 44) (v := nI 0) dX10_townsThatLie_44 (by decide) ?_
        refine pm_ior (pc := 45) dX10_townsThatLie_45 ?_
        refine pm_top (x' := nI (w_m s (i + 1))) (by first | (rw [hs, htw (by omega), g_pow (by omega), fa_or]) | (rw [hs, fa_or, Nat.or_zero])) ?_
        refine pm_istore_n (pc := 46) dX10_townsThatLie_46 (by decide) rfl ?_
        refine pm_iinc (pc := 47) dX10_townsThatLie_47 rfl (pm_inc1 _) (by decide) rfl ?_
        refine pm_goto (pc := 50) (tgt := 4) dX10_townsThatLie_50 rfl ?_
        exact ih (i + 1) (by omega)
      · simp (disch := omega) only [pm_eqI, pm_ltI, pm_leI, nI_toInt, pm_t0, pm_t1, pm_tm1] at h21
        refine pm_aload_n (pc := 24) dX10_townsThatLie_24 rfl ?_
        refine pm_iload_n (pc := 25) dX10_townsThatLie_25 rfl ?_
        refine pm_cVR (pc := 26) dX10_townsThatLie_26 (c_mTownOf hG hI hj) wq_X10_townOf wm_X10_118 wi_X10_townOf ws_X10_townOf rfl rfl ⟨Nat.le_of_ble_eq_true rfl, Nat.le_of_ble_eq_true rfl⟩ ⟨Nat.le_of_ble_eq_true rfl, Nat.le_of_ble_eq_true rfl⟩ rfl (Nat.le_of_ble_eq_true rfl) ?_
        refine pm_iconst (pc := 29) (v := nI 4) dX10_townsThatLie_29 (by decide) ?_
        refine pm_icmp_ge (pc := 30) (tgt := 44) dX10_townsThatLie_30 rfl (fun h30 => ?_) (fun h30 => ?_)
        · simp (disch := omega) only [pm_eqI, pm_ltI, pm_leI, nI_toInt, pm_t0, pm_t1, pm_tm1] at h30
          rw [if_neg (fun z => by omega), Nat.or_zero] at hs
          refine pm_iconst (pc := 44) (v := nI 0) dX10_townsThatLie_44 (by decide) ?_
          refine pm_ior (pc := 45) dX10_townsThatLie_45 ?_
          refine pm_top (x' := nI (w_m s (i + 1))) (by first | (rw [hs, htw (by omega), g_pow (by omega), fa_or]) | (rw [hs, fa_or, Nat.or_zero])) ?_
          refine pm_istore_n (pc := 46) dX10_townsThatLie_46 (by decide) rfl ?_
          refine pm_iinc (pc := 47) dX10_townsThatLie_47 rfl (pm_inc1 _) (by decide) rfl ?_
          refine pm_goto (pc := 50) (tgt := 4) dX10_townsThatLie_50 rfl ?_
          exact ih (i + 1) (by omega)
        · simp (disch := omega) only [pm_eqI, pm_ltI, pm_leI, nI_toInt, pm_t0, pm_t1, pm_tm1] at h30
          rw [if_pos ⟨by omega, by omega⟩] at hs
          refine pm_iconst (pc := 33) (v := nI 1) dX10_townsThatLie_33 (by decide) ?_
          refine pm_aload_n (pc := 34) dX10_townsThatLie_34 rfl ?_
          refine pm_getr (pc := 35) (ci := 8) (C0 := RX10) (T := TX10) (N := 34) (j := 3) rfl rfl in_X10 (by decide) wf_X10_16 rfl dX10_townsThatLie_35 ?_
          refine pm_iload_n (pc := 38) dX10_townsThatLie_38 rfl ?_
          refine pm_iald (pc := 39) rfl (by omega) (by decide) dX10_townsThatLie_39 ?_
          rw [hG.tw hj]
          refine pm_ishl (pc := 40) dX10_townsThatLie_40 ?_
          refine pm_goto (pc := 41) (tgt := 45) dX10_townsThatLie_41 rfl ?_
          refine pm_ior (pc := 45) dX10_townsThatLie_45 ?_
          refine pm_top (x' := nI (w_m s (i + 1))) (by first | (rw [hs, htw (by omega), g_pow (by omega), fa_or]) | (rw [hs, fa_or, Nat.or_zero])) ?_
          refine pm_istore_n (pc := 46) dX10_townsThatLie_46 (by decide) rfl ?_
          refine pm_iinc (pc := 47) dX10_townsThatLie_47 rfl (pm_inc1 _) (by decide) rfl ?_
          refine pm_goto (pc := 50) (tgt := 4) dX10_townsThatLie_50 rfl ?_
          exact ih (i + 1) (by omega)
  exact lp (g_n s) 0 (by omega)
set_option maxRecDepth 100000 in
set_option maxHeartbeats 1000000 in
theorem l_yo23 {I : pm_I} {L : pm_L} {s : gS} (hG : MG I s) (hI : gInv s) {c : Nat} (hc : c < 4096) {Q : pm_QT} {la : Launch} {P : pm_E} (k51 : PW la P yX10_own cX10_own 7 (some (.int)) (pm_rm 2 0 0) (pm_Tg P Q 0 0) 0 0 51 [some (.ref 40), some (.int (nI (w_m s (g_n s)))), some (.int (nI (w_min s c))), some (.int (nI c)), some (.int (nI (w_has (w_c c) 6))), none, none] [] GG I L) : ∀ (m p : Nat), p + m = 6 → PW la P yX10_own cX10_own 7 (some (.int)) (pm_rm 2 0 0) (pm_Tg P Q 0 0) 0 0 23 [some (.ref 40), some (.int (nI (w_m s (g_n s)))), some (.int (nI (w_min s c))), some (.int (nI c)), some (.int (nI (w_has (w_c c) p))), some (.int (nI (p))), none] [] GG I L
  | 0, p, hm => by
    have e : p = 6 := by omega
    subst e
    refine pm_iload (pc := 23) dX10_own_23 rfl ?_
    refine pm_bipush (pc := 25) (v := nI 6) dX10_own_25 (by decide) ?_
    refine pm_icmp_ge (pc := 27) (tgt := 51) dX10_own_27 rfl (fun h27 => ?_) (fun h27 => (by simp (disch := omega) only [pm_eqI, pm_ltI, pm_leI, nI_toInt, pm_t0, pm_t1, pm_tm1] at h27; omega))
    refine pm_kill 5 ?_
    exact k51
  | m + 1, p, hm => by
    have hp : p < 6 := by omega
    have h4 := w_c4 c p
    have k9 := l_yo23 hG hI hc k51 m (p + 1) (by omega)
    rw [show w_has (w_c c) (p + 1) = w_has (w_c c) p ||| 2 ^ w_c c p from rfl] at k9
    refine pm_iload (pc := 23) dX10_own_23 rfl ?_
    refine pm_bipush (pc := 25) (v := nI 6) dX10_own_25 (by decide) ?_
    refine pm_icmp_ge (pc := 27) (tgt := 51) dX10_own_27 rfl (fun h27 => (by simp (disch := omega) only [pm_eqI, pm_ltI, pm_leI, nI_toInt, pm_t0, pm_t1, pm_tm1] at h27; omega)) (fun h27 => ?_)
    refine pm_iload (pc := 30) dX10_own_30 rfl ?_
    refine pm_iconst (pc := 32) (v := nI 1) dX10_own_32 (by decide) ?_
    refine pm_iload_n (pc := 33) dX10_own_33 rfl ?_
    refine pm_iconst (pc := 34) (v := nI 2) dX10_own_34 (by decide) ?_
    refine pm_iload (pc := 35) dX10_own_35 rfl ?_
    refine pm_imul (pc := 37) dX10_own_37 ?_
    refine pm_ishr (pc := 38) dX10_own_38 ?_
    refine pm_iconst (pc := 39) (v := nI 3) dX10_own_39 (by decide) ?_
    refine pm_iand (pc := 40) dX10_own_40 ?_
    refine pm_top (w_dig hc hp) ?_
    refine pm_ishl (pc := 41) dX10_own_41 ?_
    refine pm_ior (pc := 42) dX10_own_42 ?_
    refine pm_top (x' := nI (w_has (w_c c) p ||| 2 ^ w_c c p)) (by rw [g_pow (by omega), fa_or]) ?_
    refine pm_istore (pc := 43) dX10_own_43 (by decide) rfl ?_
    refine pm_iinc (pc := 45) dX10_own_45 rfl (pm_inc1 _) (by decide) rfl ?_
    refine pm_goto (pc := 48) (tgt := 23) dX10_own_48 rfl ?_
    exact k9
set_option maxRecDepth 100000 in
set_option maxHeartbeats 1000000 in
theorem l_yo57 {I : pm_I} {L : pm_L} {s : gS} (hG : MG I s) (hI : gInv s) {c : Nat} (hc : c < 4096) {Q : pm_QT} {la : Launch} {P : pm_E} (k127 : PW la P yX10_own cX10_own 7 (some (.int)) (pm_rm 2 0 0) (pm_Tg P Q 0 0) 0 0 127 [some (.ref 40), some (.int (nI (w_m s (g_n s)))), some (.int (nI (w_min s c))), some (.int (nI c)), some (.int (nI (w_has (w_c c) 6))), some (.int (nI (w_cost s (w_c c) 6 (g_n s)))), none] [] GG I L) : ∀ (m i : Nat), i + m = g_n s → PW la P yX10_own cX10_own 7 (some (.int)) (pm_rm 2 0 0) (pm_Tg P Q 0 0) 0 0 57 [some (.ref 40), some (.int (nI (w_m s (g_n s)))), some (.int (nI (w_min s c))), some (.int (nI c)), some (.int (nI (w_has (w_c c) 6))), some (.int (nI (w_cost s (w_c c) 6 i))), some (.int (nI (i)))] [] GG I L
  | 0, i, hm => by
    have h12 := hI.n12
    have e : i = g_n s := by omega
    subst e
    refine pm_iload (pc := 57) dX10_own_57 rfl ?_
    refine pm_aload_n (pc := 59) dX10_own_59 rfl ?_
    refine pm_get (pc := 60) (ci := 8) (C0 := RX10) (T := TX10) (N := 34) (j := 0) rfl rfl in_X10 (by decide) wf_X10_83 rfl dX10_own_60 ?_
    refine pm_icmp_ge (pc := 63) (tgt := 127) dX10_own_63 rfl (fun h63 => ?_) (fun h63 => (by simp (disch := omega) only [hG.n, pm_leI, nI_toInt] at h63; omega))
    refine pm_kill 6 ?_
    exact k127
  | m + 1, i, hm => by
    have h12 := hI.n12
    have hj : i < g_n s := by omega
    have ho := ow_le hI hj
    have h7 := (hI.2.1 i hj).2.2.2.2
    have htw := w_otw (s := s) (j := i)
    have h4 := w_c4 c (g_wh s i)
    have hs : w_cost s (w_c c) 6 (i + 1) = w_cost s (w_c c) 6 i + w_j s (w_c c) 6 i := rfl
    have k9 := l_yo57 hG hI hc k127 m (i + 1) (by omega)
    refine pm_iload (pc := 57) dX10_own_57 rfl ?_
    refine pm_aload_n (pc := 59) dX10_own_59 rfl ?_
    refine pm_get (pc := 60) (ci := 8) (C0 := RX10) (T := TX10) (N := 34) (j := 0) rfl rfl in_X10 (by decide) wf_X10_83 rfl dX10_own_60 ?_
    refine pm_icmp_ge (pc := 63) (tgt := 127) dX10_own_63 rfl (fun h63 => (by simp (disch := omega) only [hG.n, pm_leI, nI_toInt] at h63; omega)) (fun h63 => ?_)
    refine pm_iload (pc := 66) dX10_own_66 rfl ?_
    refine pm_aload_n (pc := 68) dX10_own_68 rfl ?_
    refine pm_getr (pc := 69) (ci := 8) (C0 := RX10) (T := TX10) (N := 34) (j := 4) rfl rfl in_X10 (by decide) wf_X10_19 rfl dX10_own_69 ?_
    refine pm_iload (pc := 72) dX10_own_72 rfl ?_
    refine pm_iald (pc := 74) rfl (by omega) (by decide) dX10_own_74 ?_
    rw [hG.wh hj]
    refine pm_bipush (pc := 75) (v := nI 6) dX10_own_75 (by decide) ?_
    refine pm_icmp_ge (pc := 77) (tgt := 117) dX10_own_77 rfl (fun h77 => ?_) (fun h77 => ?_)
    · simp (disch := omega) only [pm_eqI, pm_ltI, pm_leI, nI_toInt, pm_t0, pm_t1, pm_tm1] at h77
      rw [show w_j s (w_c c) 6 i = 0 from if_neg (fun z => by omega), Nat.add_zero] at hs
      refine pm_iconst (pc := 117) (v := nI 0) dX10_own_117 (by decide) ?_
      refine pm_iadd (pc := 118) dX10_own_118 ?_
      refine pm_top (x' := nI (w_cost s (w_c c) 6 (i + 1))) (by first | (rw [hs, nI_add]) | (rw [hs]; exact nI_add _ _)) ?_
      refine pm_istore (pc := 119) dX10_own_119 (by decide) rfl ?_
      refine pm_iinc (pc := 121) dX10_own_121 rfl (pm_inc1 _) (by decide) rfl ?_
      refine pm_goto (pc := 124) (tgt := 57) dX10_own_124 rfl ?_
      exact k9
    · simp (disch := omega) only [pm_eqI, pm_ltI, pm_leI, nI_toInt, pm_t0, pm_t1, pm_tm1] at h77
      refine pm_aload_n (pc := 80) dX10_own_80 rfl ?_
      refine pm_iload (pc := 81) dX10_own_81 rfl ?_
      refine pm_cVR (pc := 83) dX10_own_83 (c_mTownOf hG hI hj) wq_X10_townOf wm_X10_118 wi_X10_townOf ws_X10_townOf rfl rfl ⟨Nat.le_of_ble_eq_true rfl, Nat.le_of_ble_eq_true rfl⟩ ⟨Nat.le_of_ble_eq_true rfl, Nat.le_of_ble_eq_true rfl⟩ rfl (Nat.le_of_ble_eq_true rfl) ?_
      refine pm_iconst (pc := 86) (v := nI 4) dX10_own_86 (by decide) ?_
      refine pm_icmp_ge (pc := 87) (tgt := 117) dX10_own_87 rfl (fun h87 => ?_) (fun h87 => ?_)
      · simp (disch := omega) only [pm_eqI, pm_ltI, pm_leI, nI_toInt, pm_t0, pm_t1, pm_tm1] at h87
        rw [show w_j s (w_c c) 6 i = 0 from if_neg (fun z => by omega), Nat.add_zero] at hs
        refine pm_iconst (pc := 117) (v := nI 0) dX10_own_117 (by decide) ?_
        refine pm_iadd (pc := 118) dX10_own_118 ?_
        refine pm_top (x' := nI (w_cost s (w_c c) 6 (i + 1))) (by first | (rw [hs, nI_add]) | (rw [hs]; exact nI_add _ _)) ?_
        refine pm_istore (pc := 119) dX10_own_119 (by decide) rfl ?_
        refine pm_iinc (pc := 121) dX10_own_121 rfl (pm_inc1 _) (by decide) rfl ?_
        refine pm_goto (pc := 124) (tgt := 57) dX10_own_124 rfl ?_
        exact k9
      · simp (disch := omega) only [pm_eqI, pm_ltI, pm_leI, nI_toInt, pm_t0, pm_t1, pm_tm1] at h87
        have htw := htw (by omega)
        have ke : nI (w_c c (g_wh s i)) = nI (g_tw s i) ↔ w_c c (g_wh s i) = g_ow s i := by rw [htw]; exact nI_eq (by omega) (by omega)
        refine pm_iload_n (pc := 90) dX10_own_90 rfl ?_
        refine pm_iconst (pc := 91) (v := nI 2) dX10_own_91 (by decide) ?_
        refine pm_aload_n (pc := 92) dX10_own_92 rfl ?_
        refine pm_getr (pc := 93) (ci := 8) (C0 := RX10) (T := TX10) (N := 34) (j := 4) rfl rfl in_X10 (by decide) wf_X10_19 rfl dX10_own_93 ?_
        refine pm_iload (pc := 96) dX10_own_96 rfl ?_
        refine pm_iald (pc := 98) rfl (by omega) (by decide) dX10_own_98 ?_
        rw [hG.wh hj]
        refine pm_imul (pc := 99) dX10_own_99 ?_
        refine pm_ishr (pc := 100) dX10_own_100 ?_
        refine pm_iconst (pc := 101) (v := nI 3) dX10_own_101 (by decide) ?_
        refine pm_iand (pc := 102) dX10_own_102 ?_
        refine pm_top (w_dig hc (by omega)) ?_
        refine pm_aload_n (pc := 103) dX10_own_103 rfl ?_
        refine pm_getr (pc := 104) (ci := 8) (C0 := RX10) (T := TX10) (N := 34) (j := 3) rfl rfl in_X10 (by decide) wf_X10_16 rfl dX10_own_104 ?_
        refine pm_iload (pc := 107) dX10_own_107 rfl ?_
        refine pm_iald (pc := 109) rfl (by omega) (by decide) dX10_own_109 ?_
        rw [hG.tw hj]
        refine pm_icmp_eq (pc := 110) (tgt := 117) dX10_own_110 rfl (fun h110 => ?_) (fun h110 => ?_)
        · rw [show w_j s (w_c c) 6 i = 0 from if_neg (fun z => z.2.2 (ke.mp h110)), Nat.add_zero] at hs
          refine pm_iconst (pc := 117) (v := nI 0) dX10_own_117 (by decide) ?_
          refine pm_iadd (pc := 118) dX10_own_118 ?_
          refine pm_top (x' := nI (w_cost s (w_c c) 6 (i + 1))) (by first | (rw [hs, nI_add]) | (rw [hs]; exact nI_add _ _)) ?_
          refine pm_istore (pc := 119) dX10_own_119 (by decide) rfl ?_
          refine pm_iinc (pc := 121) dX10_own_121 rfl (pm_inc1 _) (by decide) rfl ?_
          refine pm_goto (pc := 124) (tgt := 57) dX10_own_124 rfl ?_
          exact k9
        · rw [show w_j s (w_c c) 6 i = 1 from if_pos ⟨by omega, by omega, fun z => h110 (ke.mpr z)⟩] at hs
          refine pm_iconst (pc := 113) (v := nI 1) dX10_own_113 (by decide) ?_
          refine pm_goto (pc := 114) (tgt := 118) dX10_own_114 rfl ?_
          refine pm_iadd (pc := 118) dX10_own_118 ?_
          refine pm_top (x' := nI (w_cost s (w_c c) 6 (i + 1))) (by first | (rw [hs, nI_add]) | (rw [hs]; exact nI_add _ _)) ?_
          refine pm_istore (pc := 119) dX10_own_119 (by decide) rfl ?_
          refine pm_iinc (pc := 121) dX10_own_121 rfl (pm_inc1 _) (by decide) rfl ?_
          refine pm_goto (pc := 124) (tgt := 57) dX10_own_124 rfl ?_
          exact k9
set_option maxRecDepth 100000 in
set_option maxHeartbeats 1000000 in
theorem l_yo10 {I : pm_I} {L : pm_L} {s : gS} (hG : MG I s) (hI : gInv s) {Q : pm_QT} (hend : Q (some (.int (nI (w_min s 4096)))) GG I L) {la : Launch} {P : pm_E} : ∀ (m c : Nat), c + m = 4096 → PW la P yX10_own cX10_own 7 (some (.int)) (pm_rm 2 0 0) (pm_Tg P Q 0 0) 0 0 10 [some (.ref 40), some (.int (nI (w_m s (g_n s)))), some (.int (nI (w_min s c))), some (.int (nI c)), none, none, none] [] GG I L
  | 0, c, hm => by
    have e : c = 4096 := by omega
    subst e
    refine pm_iload_n (pc := 10) dX10_own_10 rfl ?_
    refine pm_sipush (pc := 11) (v := nI 4096) dX10_own_11 (by decide) ?_
    refine pm_icmp_ge (pc := 14) (tgt := 155) dX10_own_14 rfl (fun h14 => ?_) (fun h14 => (by simp (disch := omega) only [pm_eqI, pm_ltI, pm_leI, nI_toInt, pm_t0, pm_t1, pm_tm1] at h14; omega))
    refine pm_iload_n (pc := 155) dX10_own_155 rfl ?_
    refine pm_iret (pc := 156) rfl (Nat.le_refl _) (Nat.le_refl _) dX10_own_156 ?_
    exact hend
  | m + 1, c, hm => by
    have h12 := hI.n12
    have hc : c < 4096 := by omega
    have hh := w_has_lt (w_c4 c) 6
    have hm4 := w_m_lt (s := s) (g_n s)
    have hcl := w_cost_le s (w_c c) 6 (g_n s)
    have hml : w_min s c ≤ 12 := by
      rcases w_min_get s c with e | ⟨x, _, _, e⟩
      · omega
      · have := w_cost_le s (w_c x) 6 (g_n s); omega
    have kn := w_not hm4 hh
    have k9 := l_yo10 hG hI hend m (c + 1) (by omega) (L := L) (la := la) (P := P)
    rw [show w_min s (c + 1) = (if w_ok s (w_has (w_c c) 6) ∧ w_cost s (w_c c) 6 (g_n s) < w_min s c then w_cost s (w_c c) 6 (g_n s) else w_min s c) from rfl] at k9
    have k127 : PW la P yX10_own cX10_own 7 (some (.int)) (pm_rm 2 0 0) (pm_Tg P Q 0 0) 0 0 127 [some (.ref 40), some (.int (nI (w_m s (g_n s)))), some (.int (nI (w_min s c))), some (.int (nI c)), some (.int (nI (w_has (w_c c) 6))), some (.int (nI (w_cost s (w_c c) 6 (g_n s)))), none] [] GG I L := by
      refine pm_iload_n (pc := 127) dX10_own_127 rfl ?_
      refine pm_iload (pc := 128) dX10_own_128 rfl ?_
      refine pm_iconst (pc := 130) (v := (-1)) dX10_own_130 (by decide) ?_
      refine pm_ixor (pc := 131) dX10_own_131 ?_
      refine pm_iand (pc := 132) dX10_own_132 ?_
      refine pm_if_ne (pc := 133) (tgt := 147) dX10_own_133 rfl (fun h133 => ?_) (fun h133 => ?_)
      · rw [if_neg (fun z => h133 (kn.mpr z.1))] at k9
        refine pm_iload_n (pc := 147) dX10_own_147 rfl ?_
        refine pm_istore_n (pc := 148) dX10_own_148 (by decide) rfl ?_
        refine pm_iinc (pc := 149) dX10_own_149 rfl (pm_inc1 _) (by decide) rfl ?_
        refine pm_goto (pc := 152) (tgt := 10) dX10_own_152 rfl ?_
        refine pm_kill 4 ?_
        refine pm_kill 5 ?_
        exact k9
      · refine pm_iload (pc := 136) dX10_own_136 rfl ?_
        refine pm_iload_n (pc := 138) dX10_own_138 rfl ?_
        refine pm_icmp_ge (pc := 139) (tgt := 147) dX10_own_139 rfl (fun h139 => ?_) (fun h139 => ?_)
        · simp (disch := omega) only [pm_eqI, pm_ltI, pm_leI, nI_toInt, pm_t0, pm_t1, pm_tm1] at h139
          rw [if_neg (fun z => by omega)] at k9
          refine pm_iload_n (pc := 147) dX10_own_147 rfl ?_
          refine pm_istore_n (pc := 148) dX10_own_148 (by decide) rfl ?_
          refine pm_iinc (pc := 149) dX10_own_149 rfl (pm_inc1 _) (by decide) rfl ?_
          refine pm_goto (pc := 152) (tgt := 10) dX10_own_152 rfl ?_
          refine pm_kill 4 ?_
          refine pm_kill 5 ?_
          exact k9
        · simp (disch := omega) only [pm_eqI, pm_ltI, pm_leI, nI_toInt, pm_t0, pm_t1, pm_tm1] at h139
          rw [if_pos ⟨kn.mp h133, by omega⟩] at k9
          refine pm_iload (pc := 142) dX10_own_142 rfl ?_
          refine pm_goto (pc := 144) (tgt := 148) dX10_own_144 rfl ?_
          refine pm_istore_n (pc := 148) dX10_own_148 (by decide) rfl ?_
          refine pm_iinc (pc := 149) dX10_own_149 rfl (pm_inc1 _) (by decide) rfl ?_
          refine pm_goto (pc := 152) (tgt := 10) dX10_own_152 rfl ?_
          refine pm_kill 4 ?_
          refine pm_kill 5 ?_
          exact k9
    have k51 : PW la P yX10_own cX10_own 7 (some (.int)) (pm_rm 2 0 0) (pm_Tg P Q 0 0) 0 0 51 [some (.ref 40), some (.int (nI (w_m s (g_n s)))), some (.int (nI (w_min s c))), some (.int (nI c)), some (.int (nI (w_has (w_c c) 6))), none, none] [] GG I L := by
      refine pm_iconst (pc := 51) (v := nI 0) dX10_own_51 (by decide) ?_
      refine pm_istore (pc := 52) dX10_own_52 (by decide) rfl ?_
      refine pm_iconst (pc := 54) (v := nI 0) dX10_own_54 (by decide) ?_
      refine pm_istore (pc := 55) dX10_own_55 (by decide) rfl ?_
      exact l_yo57 hG hI hc k127 (g_n s) 0 (by omega)
    refine pm_iload_n (pc := 10) dX10_own_10 rfl ?_
    refine pm_sipush (pc := 11) (v := nI 4096) dX10_own_11 (by decide) ?_
    refine pm_icmp_ge (pc := 14) (tgt := 155) dX10_own_14 rfl (fun h14 => (by simp (disch := omega) only [pm_eqI, pm_ltI, pm_leI, nI_toInt, pm_t0, pm_t1, pm_tm1] at h14; omega)) (fun h14 => ?_)
    refine pm_iconst (pc := 17) (v := nI 0) dX10_own_17 (by decide) ?_
    refine pm_istore (pc := 18) dX10_own_18 (by decide) rfl ?_
    refine pm_iconst (pc := 20) (v := nI 0) dX10_own_20 (by decide) ?_
    refine pm_istore (pc := 21) dX10_own_21 (by decide) rfl ?_
    exact l_yo23 hG hI hc k51 6 0 (by omega)
set_option maxRecDepth 100000 in
set_option maxHeartbeats 1000000 in
theorem y_own {I : pm_I} {L : pm_L} {X : xS} (hR : MR I L X) (hX : xInv X) : PC 2 0 0 yX10_own cX10_own 7 (some (.int)) [.ref 40] GG I L (YQ I L (sp_own X).1 (sp_own X).2) := by
  refine PC.of [some (.ref 40), none, none, none, none, none, none] (by decide) (Nat.le_of_ble_eq_true rfl) rfl (fun l P => ?_)
  refine pm_aload_n (pc := 0) dX10_own_0 rfl ?_
  refine pm_cVR (pc := 1) dX10_own_1 (c_mTowns hR.1 hX.s) wq_X10_townsThatLie wm_X10_251 wi_X10_townsThatLie ws_X10_townsThatLie rfl rfl ⟨Nat.le_of_ble_eq_true rfl, Nat.le_of_ble_eq_true rfl⟩ ⟨Nat.le_of_ble_eq_true rfl, Nat.le_of_ble_eq_true rfl⟩ rfl (Nat.le_of_ble_eq_true rfl) ?_
  refine pm_istore_n (pc := 4) dX10_own_4 (by decide) rfl ?_
  refine pm_bipush (pc := 5) (v := nI 12) dX10_own_5 (by decide) ?_
  refine pm_istore_n (pc := 7) dX10_own_7 (by decide) rfl ?_
  refine pm_iconst (pc := 8) (v := nI 0) dX10_own_8 (by decide) ?_
  refine pm_istore_n (pc := 9) dX10_own_9 (by decide) rfl ?_
  exact l_yo10 hR.1 hX.s (YQ.r rfl hR yF.rf) 4096 0 (by omega)
