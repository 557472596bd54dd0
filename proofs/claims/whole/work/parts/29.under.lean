/-- does a piece lie over another town's; how many of a list do; the pairs of a stack, from its top (o pieces above), from its foot -/
def u_g (s : gS) (t x : Nat) : Nat := if g_ow s x ≠ t ∧ g_ow s x ≠ 4 then 1 else 0
def u_cnt (s : gS) (t : Nat) : List Nat → Nat
  | [] => 0
  | x :: q => u_g s t x + u_cnt s t q
def u_ct (s : gS) (t : Nat) : List Nat → Nat
  | [] => 0
  | x :: q => (if g_ow s x = t then 1 else 0) + u_ct s t q
def u_run (s : gS) (t : Nat) : List Nat → Nat → Nat
  | [], _ => 0
  | x :: q, o => (if g_ow s x = t then o else 0) + u_run s t q (o + u_g s t x)
def u_up (s : gS) (t : Nat) : List Nat → Nat
  | [] => 0
  | x :: q => (if g_ow s x = t then u_cnt s t q else 0) + u_up s t q
theorem u_lin (s : gS) (t : Nat) : ∀ (q : List Nat) (o : Nat), u_run s t q o = u_ct s t q * o + u_run s t q 0
  | [], o => by show 0 = 0 * o + 0; omega
  | x :: q, o => by
    show (if g_ow s x = t then o else 0) + u_run s t q (o + u_g s t x) = ((if g_ow s x = t then 1 else 0) + u_ct s t q) * o + ((if g_ow s x = t then 0 else 0) + u_run s t q (0 + u_g s t x))
    rw [u_lin s t q (o + u_g s t x), u_lin s t q (0 + u_g s t x), Nat.mul_add, Nat.mul_add, Nat.add_mul]
    by_cases e : g_ow s x = t
    · rw [if_pos e, if_pos e, if_pos e]; omega
    · rw [if_neg e, if_neg e, if_neg e]; omega
theorem u_cnt_app (s : gS) (t y : Nat) : ∀ q : List Nat, u_cnt s t (q ++ [y]) = u_cnt s t q + u_g s t y
  | [] => by show u_g s t y + 0 = 0 + u_g s t y; omega
  | x :: q => by
    show u_g s t x + u_cnt s t (q ++ [y]) = u_g s t x + u_cnt s t q + u_g s t y
    rw [u_cnt_app s t y q]; omega
theorem u_ct_app (s : gS) (t y : Nat) : ∀ q : List Nat, u_ct s t (q ++ [y]) = u_ct s t q + (if g_ow s y = t then 1 else 0)
  | [] => by show _ + 0 = 0 + _; omega
  | x :: q => by
    show _ + u_ct s t (q ++ [y]) = _ + u_ct s t q + _
    rw [u_ct_app s t y q]; omega
theorem u_ct_rev (s : gS) (t : Nat) : ∀ q : List Nat, u_ct s t q.reverse = u_ct s t q
  | [] => rfl
  | x :: q => by
    rw [List.reverse_cons, u_ct_app, u_ct_rev s t q]
    show u_ct s t q + _ = _ + u_ct s t q
    omega
theorem u_up_app (s : gS) (t y : Nat) : ∀ q : List Nat, u_up s t (q ++ [y]) = u_up s t q + u_ct s t q * u_g s t y
  | [] => by
    show (if g_ow s y = t then 0 else 0) + 0 = 0 + 0 * u_g s t y
    split <;> omega
  | x :: q => by
    show (if g_ow s x = t then u_cnt s t (q ++ [y]) else 0) + u_up s t (q ++ [y]) = (if g_ow s x = t then u_cnt s t q else 0) + u_up s t q + ((if g_ow s x = t then 1 else 0) + u_ct s t q) * u_g s t y
    rw [u_up_app s t y q, u_cnt_app, Nat.add_mul]
    by_cases e : g_ow s x = t
    · rw [if_pos e, if_pos e, if_pos e]; omega
    · rw [if_neg e, if_neg e, if_neg e]; omega
theorem u_eq (s : gS) (t : Nat) : ∀ q : List Nat, u_up s t q.reverse = u_run s t q 0
  | [] => rfl
  | x :: q => by
    rw [List.reverse_cons, u_up_app, u_ct_rev, u_eq s t q]
    show _ = (if g_ow s x = t then 0 else 0) + u_run s t q (0 + u_g s t x)
    rw [u_lin s t q (0 + u_g s t x), Nat.zero_add]
    split <;> omega
def d_under (s : gS) (t : Nat) : Nat := fb_sm (fun p => u_run s t (g_st s p) 0) 6
def sp_under (X : xS) (t : Int32) : Int32 × xS := if iR t 0 3 then (nI (d_under (x_g X) (nt t)), X) else (-1, X)
theorem sp_under_t {X : xS} {t : Nat} (ht : t < 4) : sp_under X (nI t) = (nI (d_under (x_g X) t), X) := by
  unfold sp_under; rw [if_pos (sh_nI ht), nt_nI (by omega)]
set_option maxRecDepth 100000 in
set_option maxHeartbeats 1000000 in
theorem c_belowOf {I : pm_I} {L : pm_L} {s : gS} {j : Nat} (hG : GR I 1 s) (hI : gInv s) (hj : j < g_n s) : PC 1 0 0 yX2_belowOf cX2_belowOf 2 (some (.int)) [.ref 1, .int (nI j)] GG I L (QR GG I L (I 6 j)) := by
  have h12 := hI.n12
  refine PC.of [some (.ref 1), some (.int (nI j))] (by decide) (Nat.le_of_ble_eq_true rfl) rfl (fun l P => ?_)
  refine pm_aload_n (pc := 0) dX2_belowOf_0 rfl ?_
  refine pm_iload_n (pc := 1) dX2_belowOf_1 rfl ?_
  refine pm_cVR (pc := 2) dX2_belowOf_2 (c_isPiece hG.n hI.n12 hj) wq_X2_isPiece wm_X2_46 wi_X2_isPiece ws_X2_isPiece rfl rfl ⟨Nat.le_of_ble_eq_true rfl, Nat.le_of_ble_eq_true rfl⟩ ⟨Nat.le_of_ble_eq_true rfl, Nat.le_of_ble_eq_true rfl⟩ rfl (Nat.le_of_ble_eq_true rfl) ?_
  refine pm_if_eq (pc := 5) (tgt := 17) dX2_belowOf_5 rfl (fun h5 => (by simp (disch := omega) only [pm_eqI, nI_toInt, pm_t0] at h5; omega)) (fun h5 => ?_)
  refine pm_aload_n (pc := 8) dX2_belowOf_8 rfl ?_
  refine pm_getr (pc := 9) (ci := 0) (C0 := RX2) (T := TX2) (N := 9) (j := 4) rfl rfl in_X2 (by decide) wf_X2_24 rfl dX2_belowOf_9 ?_
  refine pm_iload_n (pc := 12) dX2_belowOf_12 rfl ?_
  refine pm_iald (pc := 13) rfl (by omega) (by decide) dX2_belowOf_13 ?_
  refine pm_goto (pc := 14) (tgt := 19) dX2_belowOf_14 rfl ?_
  refine pm_iret (pc := 19) rfl (Nat.le_refl _) (Nat.le_refl _) dX2_belowOf_19 ?_
  exact QR.r rfl
set_option maxRecDepth 100000 in
set_option maxHeartbeats 1000000 in
theorem l_und {I : pm_I} {L : pm_L} {s : gS} {t : Nat} (hG : GR I 1 s) (hI : gInv s) (ht : t < 4) {la : Launch} {P : pm_E} {p T : Nat} (k84 : PW la P yX8_pairsUnder cX8_pairsUnder 8 (some (.int)) (pm_rm 2 0 0) (pm_Tg P (QR GG I L (nI (d_under s t))) 0 0) 0 0 84 [some (.ref 1), some (.int (nI t)), some (.int (nI T)), some (.int (nI p)), none, none, none, none] [] GG I L) : ∀ (q : List Nat) (k o S : Nat) (tt : Int32), gCh (I 6) q tt → q.length + k ≤ 12 → (∀ a, a ∈ q → a < g_n s) → S + u_run s t q o = T → PW la P yX8_pairsUnder cX8_pairsUnder 8 (some (.int)) (pm_rm 2 0 0) (pm_Tg P (QR GG I L (nI (d_under s t))) 0 0) 0 0 23 [some (.ref 1), some (.int (nI t)), some (.int (nI S)), some (.int (nI p)), some (.int (nI o)), some (.int tt), some (.int (nI k)), none] [] GG I L
  | [], k, o, S, tt, hc, hl, hb, hT => by
    have h12 := hI.n12
    have htt : tt = nI 12 := hc
    subst htt
    have hT2 : S = T := hT
    subst hT2
    refine pm_iload (pc := 23) dX8_pairsUnder_23 rfl ?_
    refine pm_bipush (pc := 25) (v := nI 12) dX8_pairsUnder_25 (by decide) ?_
    refine pm_icmp_ge (pc := 27) (tgt := 84) dX8_pairsUnder_27 rfl (fun h27 => ?_) (fun h27 => ?_)
    · refine pm_kill 4 ?_
      refine pm_kill 5 ?_
      refine pm_kill 6 ?_
      exact k84
    · refine pm_aload_n (pc := 30) dX8_pairsUnder_30 rfl ?_
      refine pm_iload (pc := 31) dX8_pairsUnder_31 rfl ?_
      refine pm_cVR (pc := 33) dX8_pairsUnder_33 (c_isPieceN hG.n h12 (by simp (disch := omega) only [pm_ltI, pm_leI, nI_toInt, pm_t0]; omega)) wq_X2_isPiece wm_X8_24 wi_X2_isPiece ws_X2_isPiece rfl rfl ⟨Nat.le_of_ble_eq_true rfl, Nat.le_of_ble_eq_true rfl⟩ ⟨Nat.le_of_ble_eq_true rfl, Nat.le_of_ble_eq_true rfl⟩ rfl (Nat.le_of_ble_eq_true rfl) ?_
      refine pm_if_eq (pc := 36) (tgt := 84) dX8_pairsUnder_36 rfl (fun h36 => ?_) (fun h36 => absurd (show nI 0 = 0 by decide) h36)
      refine pm_kill 4 ?_
      refine pm_kill 5 ?_
      refine pm_kill 6 ?_
      exact k84
  | a :: q, k, o, S, tt, hc, hl, hb, hT => by
    have h12 := hI.n12
    obtain ⟨htt, hc⟩ := hc
    subst htt
    have ha := hb a List.mem_cons_self
    have hl1 : q.length + 1 + k ≤ 12 := by simpa using hl
    have hol := ow_le hI ha
    have hT2 : S + ((if g_ow s a = t then o else 0) + u_run s t q (o + u_g s t a)) = T := hT
    have kt : nI (g_ow s a) = nI t ↔ g_ow s a = t := nI_eq (by omega) (by omega)
    have k4 : nI (g_ow s a) = nI 4 ↔ g_ow s a = 4 := nI_eq (by omega) (by omega)
    refine pm_iload (pc := 23) dX8_pairsUnder_23 rfl ?_
    refine pm_bipush (pc := 25) (v := nI 12) dX8_pairsUnder_25 (by decide) ?_
    refine pm_icmp_ge (pc := 27) (tgt := 84) dX8_pairsUnder_27 rfl (fun h27 => (by simp (disch := omega) only [pm_eqI, pm_ltI, pm_leI, nI_toInt, pm_t0, pm_t1, pm_tm1] at h27; omega)) (fun h27 => ?_)
    refine pm_aload_n (pc := 30) dX8_pairsUnder_30 rfl ?_
    refine pm_iload (pc := 31) dX8_pairsUnder_31 rfl ?_
    refine pm_cVR (pc := 33) dX8_pairsUnder_33 (c_isPiece hG.n h12 ha) wq_X2_isPiece wm_X8_24 wi_X2_isPiece ws_X2_isPiece rfl rfl ⟨Nat.le_of_ble_eq_true rfl, Nat.le_of_ble_eq_true rfl⟩ ⟨Nat.le_of_ble_eq_true rfl, Nat.le_of_ble_eq_true rfl⟩ rfl (Nat.le_of_ble_eq_true rfl) ?_
    refine pm_if_eq (pc := 36) (tgt := 84) dX8_pairsUnder_36 rfl (fun h36 => absurd h36 (show ¬ nI 1 = 0 by decide)) (fun h36 => ?_)
    refine pm_aload_n (pc := 39) dX8_pairsUnder_39 rfl ?_
    refine pm_iload (pc := 40) dX8_pairsUnder_40 rfl ?_
    refine pm_cVR (pc := 42) dX8_pairsUnder_42 (c_ownerOf hG hI ha) wq_X2_ownerOf wm_X8_28 wi_X2_ownerOf ws_X2_ownerOf rfl rfl ⟨Nat.le_of_ble_eq_true rfl, Nat.le_of_ble_eq_true rfl⟩ ⟨Nat.le_of_ble_eq_true rfl, Nat.le_of_ble_eq_true rfl⟩ rfl (Nat.le_of_ble_eq_true rfl) ?_
    refine pm_istore (pc := 45) dX8_pairsUnder_45 (by decide) rfl ?_
    refine pm_iload (pc := 47) dX8_pairsUnder_47 rfl ?_
    refine pm_iload_n (pc := 49) dX8_pairsUnder_49 rfl ?_
    refine pm_icmp_ne (pc := 50) (tgt := 61) dX8_pairsUnder_50 rfl (fun h50 => ?_) (fun h50 => ?_)
    · refine pm_iload (pc := 61) dX8_pairsUnder_61 rfl ?_
      refine pm_iconst (pc := 63) (v := nI 4) dX8_pairsUnder_63 (by decide) ?_
      refine pm_icmp_eq (pc := 64) (tgt := 70) dX8_pairsUnder_64 rfl (fun h64 => ?_) (fun h64 => ?_)
      · refine pm_aload_n (pc := 70) dX8_pairsUnder_70 rfl ?_
        refine pm_iload (pc := 71) dX8_pairsUnder_71 rfl ?_
        refine pm_cVR (pc := 73) dX8_pairsUnder_73 (c_belowOf hG hI ha) wq_X2_belowOf wm_X8_31 wi_X2_belowOf ws_X2_belowOf rfl rfl ⟨Nat.le_of_ble_eq_true rfl, Nat.le_of_ble_eq_true rfl⟩ ⟨Nat.le_of_ble_eq_true rfl, Nat.le_of_ble_eq_true rfl⟩ rfl (Nat.le_of_ble_eq_true rfl) ?_
        refine pm_istore (pc := 76) dX8_pairsUnder_76 (by decide) rfl ?_
        refine pm_iinc (pc := 78) dX8_pairsUnder_78 rfl (pm_inc1 _) (by decide) rfl ?_
        refine pm_goto (pc := 81) (tgt := 23) dX8_pairsUnder_81 rfl ?_
        refine pm_kill 7 ?_
        exact l_und hG hI ht k84 q (k + 1) _ _ _ hc (by omega) (fun b hb2 => hb b (List.mem_cons_of_mem _ hb2)) (by
          unfold u_g at hT2
          first
            | (rw [if_pos (kt.mp h50), if_neg (fun z => z.1 (kt.mp h50)), Nat.add_zero] at hT2; omega)
            | (rw [if_neg (fun z => h50 (kt.mpr z)), if_neg (fun z => z.2 (k4.mp h64)), Nat.add_zero] at hT2; omega)
            | (rw [if_neg (fun z => h50 (kt.mpr z)), if_pos ⟨fun z => h50 (kt.mpr z), fun z => h64 (k4.mpr z)⟩] at hT2; omega))
      · refine pm_iinc (pc := 67) dX8_pairsUnder_67 rfl (pm_inc1 _) (by decide) rfl ?_
        refine pm_aload_n (pc := 70) dX8_pairsUnder_70 rfl ?_
        refine pm_iload (pc := 71) dX8_pairsUnder_71 rfl ?_
        refine pm_cVR (pc := 73) dX8_pairsUnder_73 (c_belowOf hG hI ha) wq_X2_belowOf wm_X8_31 wi_X2_belowOf ws_X2_belowOf rfl rfl ⟨Nat.le_of_ble_eq_true rfl, Nat.le_of_ble_eq_true rfl⟩ ⟨Nat.le_of_ble_eq_true rfl, Nat.le_of_ble_eq_true rfl⟩ rfl (Nat.le_of_ble_eq_true rfl) ?_
        refine pm_istore (pc := 76) dX8_pairsUnder_76 (by decide) rfl ?_
        refine pm_iinc (pc := 78) dX8_pairsUnder_78 rfl (pm_inc1 _) (by decide) rfl ?_
        refine pm_goto (pc := 81) (tgt := 23) dX8_pairsUnder_81 rfl ?_
        refine pm_kill 7 ?_
        exact l_und hG hI ht k84 q (k + 1) _ _ _ hc (by omega) (fun b hb2 => hb b (List.mem_cons_of_mem _ hb2)) (by
          unfold u_g at hT2
          first
            | (rw [if_pos (kt.mp h50), if_neg (fun z => z.1 (kt.mp h50)), Nat.add_zero] at hT2; omega)
            | (rw [if_neg (fun z => h50 (kt.mpr z)), if_neg (fun z => z.2 (k4.mp h64)), Nat.add_zero] at hT2; omega)
            | (rw [if_neg (fun z => h50 (kt.mpr z)), if_pos ⟨fun z => h50 (kt.mpr z), fun z => h64 (k4.mpr z)⟩] at hT2; omega))
    · refine pm_iload_n (pc := 53) dX8_pairsUnder_53 rfl ?_
      refine pm_iload (pc := 54) dX8_pairsUnder_54 rfl ?_
      refine pm_iadd (pc := 56) dX8_pairsUnder_56 ?_
      refine pm_top (nI_add _ _) ?_
      refine pm_istore_n (pc := 57) dX8_pairsUnder_57 (by decide) rfl ?_
      refine pm_goto (pc := 58) (tgt := 70) dX8_pairsUnder_58 rfl ?_
      refine pm_aload_n (pc := 70) dX8_pairsUnder_70 rfl ?_
      refine pm_iload (pc := 71) dX8_pairsUnder_71 rfl ?_
      refine pm_cVR (pc := 73) dX8_pairsUnder_73 (c_belowOf hG hI ha) wq_X2_belowOf wm_X8_31 wi_X2_belowOf ws_X2_belowOf rfl rfl ⟨Nat.le_of_ble_eq_true rfl, Nat.le_of_ble_eq_true rfl⟩ ⟨Nat.le_of_ble_eq_true rfl, Nat.le_of_ble_eq_true rfl⟩ rfl (Nat.le_of_ble_eq_true rfl) ?_
      refine pm_istore (pc := 76) dX8_pairsUnder_76 (by decide) rfl ?_
      refine pm_iinc (pc := 78) dX8_pairsUnder_78 rfl (pm_inc1 _) (by decide) rfl ?_
      refine pm_goto (pc := 81) (tgt := 23) dX8_pairsUnder_81 rfl ?_
      refine pm_kill 7 ?_
      exact l_und hG hI ht k84 q (k + 1) _ _ _ hc (by omega) (fun b hb2 => hb b (List.mem_cons_of_mem _ hb2)) (by
        unfold u_g at hT2
        first
          | (rw [if_pos (kt.mp h50), if_neg (fun z => z.1 (kt.mp h50)), Nat.add_zero] at hT2; omega)
          | (rw [if_neg (fun z => h50 (kt.mpr z)), if_neg (fun z => z.2 (k4.mp h64)), Nat.add_zero] at hT2; omega)
          | (rw [if_neg (fun z => h50 (kt.mpr z)), if_pos ⟨fun z => h50 (kt.mpr z), fun z => h64 (k4.mpr z)⟩] at hT2; omega))
set_option maxRecDepth 100000 in
set_option maxHeartbeats 1000000 in
theorem l_und4 {I : pm_I} {L : pm_L} {s : gS} {t : Nat} (hG : GR I 1 s) (hI : gInv s) (ht : t < 4) {la : Launch} {P : pm_E} : ∀ (m p : Nat), p + m = 6 → PW la P yX8_pairsUnder cX8_pairsUnder 8 (some (.int)) (pm_rm 2 0 0) (pm_Tg P (QR GG I L (nI (d_under s t))) 0 0) 0 0 4 [some (.ref 1), some (.int (nI t)), some (.int (nI (fb_sm (fun p => u_run s t (g_st s p) 0) p))), some (.int (nI p)), none, none, none, none] [] GG I L
  | 0, p, hm => by
    have e : p = 6 := by omega
    subst e
    refine pm_iload_n (pc := 4) dX8_pairsUnder_4 rfl ?_
    refine pm_bipush (pc := 5) (v := nI 6) dX8_pairsUnder_5 (by decide) ?_
    refine pm_icmp_ge (pc := 7) (tgt := 90) dX8_pairsUnder_7 rfl (fun h7 => ?_) (fun h7 => (by simp (disch := omega) only [pm_eqI, pm_ltI, pm_leI, nI_toInt, pm_t0, pm_t1, pm_tm1] at h7; omega))
    refine pm_iload_n (pc := 90) dX8_pairsUnder_90 rfl ?_
    refine pm_iret (pc := 91) rfl (Nat.le_refl _) (Nat.le_refl _) dX8_pairsUnder_91 ?_
    exact QR.r rfl
  | m + 1, p, hm => by
    have h12 := hI.n12
    have hp : p < 6 := by omega
    have hlen := hI.len hp
    have k4 := l_und4 hG hI ht m (p + 1) (by omega) (la := la) (P := P) (L := L)
    rw [fb_sm_succ] at k4
    have k84 : PW la P yX8_pairsUnder cX8_pairsUnder 8 (some (.int)) (pm_rm 2 0 0) (pm_Tg P (QR GG I L (nI (d_under s t))) 0 0) 0 0 84 [some (.ref 1), some (.int (nI t)), some (.int (nI (fb_sm (fun p => u_run s t (g_st s p) 0) p + u_run s t (g_st s p) 0))), some (.int (nI p)), none, none, none, none] [] GG I L := by
      refine pm_iinc (pc := 84) dX8_pairsUnder_84 rfl (pm_inc1 _) (by decide) rfl ?_
      refine pm_goto (pc := 87) (tgt := 4) dX8_pairsUnder_87 rfl ?_
      exact k4
    refine pm_iload_n (pc := 4) dX8_pairsUnder_4 rfl ?_
    refine pm_bipush (pc := 5) (v := nI 6) dX8_pairsUnder_5 (by decide) ?_
    refine pm_icmp_ge (pc := 7) (tgt := 90) dX8_pairsUnder_7 rfl (fun h7 => (by simp (disch := omega) only [pm_eqI, pm_ltI, pm_leI, nI_toInt, pm_t0, pm_t1, pm_tm1] at h7; omega)) (fun h7 => ?_)
    refine pm_iconst (pc := 10) (v := nI 0) dX8_pairsUnder_10 (by decide) ?_
    refine pm_istore (pc := 11) dX8_pairsUnder_11 (by decide) rfl ?_
    refine pm_aload_n (pc := 13) dX8_pairsUnder_13 rfl ?_
    refine pm_iload_n (pc := 14) dX8_pairsUnder_14 rfl ?_
    refine pm_cVR (pc := 15) dX8_pairsUnder_15 (c_topOf hG hI hp) wq_X2_topOf wm_X8_18 wi_X2_topOf ws_X2_topOf rfl rfl ⟨Nat.le_of_ble_eq_true rfl, Nat.le_of_ble_eq_true rfl⟩ ⟨Nat.le_of_ble_eq_true rfl, Nat.le_of_ble_eq_true rfl⟩ rfl (Nat.le_of_ble_eq_true rfl) ?_
    refine pm_istore (pc := 18) dX8_pairsUnder_18 (by decide) rfl ?_
    refine pm_iconst (pc := 20) (v := nI 0) dX8_pairsUnder_20 (by decide) ?_
    refine pm_istore (pc := 21) dX8_pairsUnder_21 (by decide) rfl ?_
    exact l_und hG hI ht k84 (g_st s p) 0 0 _ _ (hG.cht hp) (by omega) (fun a ha => ((hI.mem hp).mp ha).1) rfl
set_option maxRecDepth 100000 in
set_option maxHeartbeats 1000000 in
theorem c_pairsUnder {I : pm_I} {L : pm_L} {s : gS} {t : Nat} (hG : GR I 1 s) (hI : gInv s) (ht : t < 4) : PC 2 0 0 yX8_pairsUnder cX8_pairsUnder 8 (some (.int)) [.ref 1, .int (nI t)] GG I L (QR GG I L (nI (d_under s t))) := by
  refine PC.of [some (.ref 1), some (.int (nI t)), none, none, none, none, none, none] (by decide) (Nat.le_of_ble_eq_true rfl) rfl (fun l P => ?_)
  refine pm_iconst (pc := 0) (v := nI 0) dX8_pairsUnder_0 (by decide) ?_
  refine pm_istore_n (pc := 1) dX8_pairsUnder_1 (by decide) rfl ?_
  refine pm_iconst (pc := 2) (v := nI 0) dX8_pairsUnder_2 (by decide) ?_
  refine pm_istore_n (pc := 3) dX8_pairsUnder_3 (by decide) rfl ?_
  exact l_und4 hG hI ht 6 0 (by omega)
set_option maxRecDepth 100000 in
set_option maxHeartbeats 1000000 in
theorem x_under {I : pm_I} {L : pm_L} {X : xS} (hR : XR I L X) (hX : xInv X) {t : Int32} : PC 3 0 0 yX9_under cX9_under 2 (some (.int)) [.ref 0, .int t] GG I L (XQ I L (sp_under X t).1 (sp_under X t).2) := by
  have hG := hR.1
  have hI := hX.s
  refine PC.of [some (.ref 0), some (.int t)] (by decide) (Nat.le_of_ble_eq_true rfl) rfl (fun l P => ?_)
  refine pm_iload_n (pc := 0) dX9_under_0 rfl ?_
  refine pm_cSR (pc := 1) dX9_under_1 (c_isTown) wq_X9_isTown wm_X9_65 wt_X9_isTown ⟨Nat.le_of_ble_eq_true rfl, Nat.le_of_ble_eq_true rfl⟩ ⟨Nat.le_of_ble_eq_true rfl, Nat.le_of_ble_eq_true rfl⟩ rfl (Nat.le_of_ble_eq_true rfl) ?_
  refine pm_if_eq (pc := 4) (tgt := 18) dX9_under_4 rfl (fun h4 => ?_) (fun h4 => ?_)
  · refine pm_iconst (pc := 18) (v := (-1)) dX9_under_18 (by decide) ?_
    refine pm_iret (pc := 19) rfl (Nat.le_refl _) (Nat.le_refl _) dX9_under_19 ?_
    first | exact XQ.r rfl hR xF.rf | (rw [show sp_under X t = (-1, X) from if_neg (b1_nf h4)]; exact XQ.r rfl hR xF.rf)
  · obtain ⟨t, ht, rfl⟩ := sh_of (b1_nt h4)
    rw [sp_under_t ht]
    refine pm_aload_n (pc := 7) dX9_under_7 rfl ?_
    refine pm_getr (pc := 8) (ci := 7) (C0 := RX9) (T := TX9) (N := 9) (j := 0) rfl rfl in_X9 (by decide) wf_X9_10 rfl dX9_under_8 ?_
    refine pm_iload_n (pc := 11) dX9_under_11 rfl ?_
    refine pm_cSR (pc := 12) dX9_under_12 (c_pairsUnder hG hI ht) wq_X8_pairsUnder wm_X9_164 wt_X8_pairsUnder ⟨Nat.le_of_ble_eq_true rfl, Nat.le_of_ble_eq_true rfl⟩ ⟨Nat.le_of_ble_eq_true rfl, Nat.le_of_ble_eq_true rfl⟩ rfl (Nat.le_of_ble_eq_true rfl) ?_
    refine pm_goto (pc := 15) (tgt := 19) dX9_under_15 rfl ?_
    refine pm_iret (pc := 19) rfl (Nat.le_refl _) (Nat.le_refl _) dX9_under_19 ?_
    first | exact XQ.r rfl hR xF.rf | (rw [show sp_under X t = (-1, X) from if_neg (b1_nf h4)]; exact XQ.r rfl hR xF.rf)
set_option maxRecDepth 100000 in
set_option maxHeartbeats 1000000 in
theorem l_yu44 {I : pm_I} {L : pm_L} {X : xS} (hR : MR I L X) (hX : xInv X) {t : Nat} (ht : t < 4) {la : Launch} {P : pm_E} {p i T : Nat} (hp : p < 6) (hi : i < (g_st (x_g X) p).length) (k119 : PW la P yX10_under cX10_under 7 (some (.int)) (pm_rm 1 0 0) (pm_Tg P (YQ I L (nI (d_under (x_g X) t)) X) 0 0) 0 0 119 [some (.ref 40), some (.int (nI t)), some (.int (nI T)), some (.int (nI p)), some (.int (nI i)), none, none] [] GG I L) : ∀ (m j S : Nat), j + m = (g_st (x_g X) p).length → S + (if g_ow (x_g X) (m_pl (x_g X) p i) = t then u_cnt (x_g X) t ((g_st (x_g X) p).reverse.drop j) else 0) = T → PW la P yX10_under cX10_under 7 (some (.int)) (pm_rm 1 0 0) (pm_Tg P (YQ I L (nI (d_under (x_g X) t)) X) 0 0) 0 0 44 [some (.ref 40), some (.int (nI t)), some (.int (nI S)), some (.int (nI p)), some (.int (nI i)), some (.int (nI j)), none] [] GG I L
  | 0, j, S, hm, hT => by
    have hG := hR.1
    have hI := hX.s
    have h12 := hI.n12
    have hlen := hI.len hp
    have pl_lt : ∀ k, k < (g_st (x_g X) p).length → m_pl (x_g X) p k < g_n (x_g X) := fun k hk => by
      have h9 : m_pl (x_g X) p k ∈ (g_st (x_g X) p).reverse := by
        unfold m_pl
        rw [List.getD_eq_getElem?_getD, List.getElem?_eq_getElem (by rw [List.length_reverse]; exact hk)]
        exact List.getElem_mem _
      exact ((hI.mem hp).mp (List.mem_reverse.mp h9)).1
    have hdrop : ∀ k, k < (g_st (x_g X) p).length → (g_st (x_g X) p).reverse.drop k = m_pl (x_g X) p k :: (g_st (x_g X) p).reverse.drop (k + 1) := fun k hk => by
      have h9 : k < (g_st (x_g X) p).reverse.length := by rw [List.length_reverse]; exact hk
      rw [List.drop_eq_getElem_cons h9]
      congr 1
      unfold m_pl
      rw [List.getD_eq_getElem?_getD, List.getElem?_eq_getElem h9]; rfl
    have hend : ∀ k, (g_st (x_g X) p).length ≤ k → (g_st (x_g X) p).reverse.drop k = [] := fun k hk => List.drop_eq_nil_of_le (by rw [List.length_reverse]; exact hk)
    rw [hend j (by omega), show u_cnt (x_g X) t [] = 0 from rfl] at hT
    have hT2 : S = T := by split at hT <;> omega
    subst hT2
    refine pm_iload (pc := 44) dX10_under_44 rfl ?_
    refine pm_aload_n (pc := 46) dX10_under_46 rfl ?_
    refine pm_getr (pc := 47) (ci := 8) (C0 := RX10) (T := TX10) (N := 34) (j := 5) rfl rfl in_X10 (by decide) wf_X10_22 rfl dX10_under_47 ?_
    refine pm_iload_n (pc := 50) dX10_under_50 rfl ?_
    refine pm_iald (pc := 51) rfl (by omega) (by decide) dX10_under_51 ?_
    refine pm_icmp_ge (pc := 52) (tgt := 119) dX10_under_52 rfl (fun h52 => ?_) (fun h52 => (by simp (disch := omega) only [hG.mn hp, pm_leI, nI_toInt] at h52; omega))
    refine pm_kill 5 ?_
    exact k119
  | m + 1, j, S, hm, hT => by
    have hG := hR.1
    have hI := hX.s
    have h12 := hI.n12
    have hlen := hI.len hp
    have pl_lt : ∀ k, k < (g_st (x_g X) p).length → m_pl (x_g X) p k < g_n (x_g X) := fun k hk => by
      have h9 : m_pl (x_g X) p k ∈ (g_st (x_g X) p).reverse := by
        unfold m_pl
        rw [List.getD_eq_getElem?_getD, List.getElem?_eq_getElem (by rw [List.length_reverse]; exact hk)]
        exact List.getElem_mem _
      exact ((hI.mem hp).mp (List.mem_reverse.mp h9)).1
    have hdrop : ∀ k, k < (g_st (x_g X) p).length → (g_st (x_g X) p).reverse.drop k = m_pl (x_g X) p k :: (g_st (x_g X) p).reverse.drop (k + 1) := fun k hk => by
      have h9 : k < (g_st (x_g X) p).reverse.length := by rw [List.length_reverse]; exact hk
      rw [List.drop_eq_getElem_cons h9]
      congr 1
      unfold m_pl
      rw [List.getD_eq_getElem?_getD, List.getElem?_eq_getElem h9]; rfl
    have hend : ∀ k, (g_st (x_g X) p).length ≤ k → (g_st (x_g X) p).reverse.drop k = [] := fun k hk => List.drop_eq_nil_of_le (by rw [List.length_reverse]; exact hk)
    have hj : j < (g_st (x_g X) p).length := by omega
    have li := pl_lt i hi
    have lj := pl_lt j hj
    have oi := ow_le hI li
    have oj := ow_le hI lj
    have kit : nI (g_ow (x_g X) (m_pl (x_g X) p i)) = nI t ↔ g_ow (x_g X) (m_pl (x_g X) p i) = t := nI_eq (by omega) (by omega)
    have kjt : nI (g_ow (x_g X) (m_pl (x_g X) p j)) = nI t ↔ g_ow (x_g X) (m_pl (x_g X) p j) = t := nI_eq (by omega) (by omega)
    have kj4 : nI (g_ow (x_g X) (m_pl (x_g X) p j)) = nI 4 ↔ g_ow (x_g X) (m_pl (x_g X) p j) = 4 := nI_eq (by omega) (by omega)
    rw [hdrop j hj] at hT
    have hT2 : S + (if g_ow (x_g X) (m_pl (x_g X) p i) = t then u_g (x_g X) t (m_pl (x_g X) p j) + u_cnt (x_g X) t ((g_st (x_g X) p).reverse.drop (j + 1)) else 0) = T := hT
    refine pm_iload (pc := 44) dX10_under_44 rfl ?_
    refine pm_aload_n (pc := 46) dX10_under_46 rfl ?_
    refine pm_getr (pc := 47) (ci := 8) (C0 := RX10) (T := TX10) (N := 34) (j := 5) rfl rfl in_X10 (by decide) wf_X10_22 rfl dX10_under_47 ?_
    refine pm_iload_n (pc := 50) dX10_under_50 rfl ?_
    refine pm_iald (pc := 51) rfl (by omega) (by decide) dX10_under_51 ?_
    refine pm_icmp_ge (pc := 52) (tgt := 119) dX10_under_52 rfl (fun h52 => (by simp (disch := omega) only [hG.mn hp, pm_leI, nI_toInt] at h52; omega)) (fun h52 => ?_)
    refine pm_aload_n (pc := 55) dX10_under_55 rfl ?_
    refine pm_aload_n (pc := 56) dX10_under_56 rfl ?_
    refine pm_getr (pc := 57) (ci := 8) (C0 := RX10) (T := TX10) (N := 34) (j := 6) rfl rfl in_X10 (by decide) wf_X10_25 rfl dX10_under_57 ?_
    refine pm_bipush (pc := 60) (v := nI 12) dX10_under_60 (by decide) ?_
    refine pm_iload_n (pc := 62) dX10_under_62 rfl ?_
    refine pm_imul (pc := 63) dX10_under_63 ?_
    refine pm_iload (pc := 64) dX10_under_64 rfl ?_
    refine pm_iadd (pc := 66) dX10_under_66 ?_
    refine pm_top (x' := nI (12 * p + j)) (by rw [pk_mul, nI_add]) ?_
    refine pm_iald (pc := 67) rfl (by omega) (by decide) dX10_under_67 ?_
    rw [hG.pl hp hj]
    refine pm_cVR (pc := 68) dX10_under_68 (c_mTownOf hG hI lj) wq_X10_townOf wm_X10_118 wi_X10_townOf ws_X10_townOf rfl rfl ⟨Nat.le_of_ble_eq_true rfl, Nat.le_of_ble_eq_true rfl⟩ ⟨Nat.le_of_ble_eq_true rfl, Nat.le_of_ble_eq_true rfl⟩ rfl (Nat.le_of_ble_eq_true rfl) ?_
    refine pm_istore (pc := 71) dX10_under_71 (by decide) rfl ?_
    refine pm_iload_n (pc := 73) dX10_under_73 rfl ?_
    refine pm_aload_n (pc := 74) dX10_under_74 rfl ?_
    refine pm_aload_n (pc := 75) dX10_under_75 rfl ?_
    refine pm_getr (pc := 76) (ci := 8) (C0 := RX10) (T := TX10) (N := 34) (j := 6) rfl rfl in_X10 (by decide) wf_X10_25 rfl dX10_under_76 ?_
    refine pm_bipush (pc := 79) (v := nI 12) dX10_under_79 (by decide) ?_
    refine pm_iload_n (pc := 81) dX10_under_81 rfl ?_
    refine pm_imul (pc := 82) dX10_under_82 ?_
    refine pm_iload (pc := 83) dX10_under_83 rfl ?_
    refine pm_iadd (pc := 85) dX10_under_85 ?_
    refine pm_top (x' := nI (12 * p + i)) (by rw [pk_mul, nI_add]) ?_
    refine pm_iald (pc := 86) rfl (by omega) (by decide) dX10_under_86 ?_
    rw [hG.pl hp hi]
    refine pm_cVR (pc := 87) dX10_under_87 (c_mTownOf hG hI li) wq_X10_townOf wm_X10_118 wi_X10_townOf ws_X10_townOf rfl rfl ⟨Nat.le_of_ble_eq_true rfl, Nat.le_of_ble_eq_true rfl⟩ ⟨Nat.le_of_ble_eq_true rfl, Nat.le_of_ble_eq_true rfl⟩ rfl (Nat.le_of_ble_eq_true rfl) ?_
    refine pm_iload_n (pc := 90) dX10_under_90 rfl ?_
    refine pm_icmp_ne (pc := 91) (tgt := 110) dX10_under_91 rfl (fun h91 => ?_) (fun h91 => ?_)
    · have hni : ¬ g_ow (x_g X) (m_pl (x_g X) p i) = t := fun z => h91 (kit.mpr z)
      refine pm_iconst (pc := 110) (v := nI 0) dX10_under_110 (by decide) ?_
      refine pm_iadd (pc := 111) dX10_under_111 ?_
      refine pm_top (nI_add _ _) ?_
      refine pm_istore_n (pc := 112) dX10_under_112 (by decide) rfl ?_
      refine pm_iinc (pc := 113) dX10_under_113 rfl (pm_inc1 _) (by decide) rfl ?_
      refine pm_goto (pc := 116) (tgt := 44) dX10_under_116 rfl ?_
      refine pm_kill 6 ?_
      exact l_yu44 hR hX ht hp hi k119 m (j + 1) _ (by omega) (by
        first
          | (rw [if_neg hni] at hT2 ⊢; exact hT2)
          | (rw [if_pos hpi, hu] at hT2; rw [if_pos hpi]; omega))
    · have hpi : g_ow (x_g X) (m_pl (x_g X) p i) = t := kit.mp h91
      refine pm_iload (pc := 94) dX10_under_94 rfl ?_
      refine pm_iload_n (pc := 96) dX10_under_96 rfl ?_
      refine pm_icmp_eq (pc := 97) (tgt := 110) dX10_under_97 rfl (fun h97 => ?_) (fun h97 => ?_)
      · have hu : u_g (x_g X) t (m_pl (x_g X) p j) = 0 := if_neg (fun z => z.1 (kjt.mp h97))
        refine pm_iconst (pc := 110) (v := nI 0) dX10_under_110 (by decide) ?_
        refine pm_iadd (pc := 111) dX10_under_111 ?_
        refine pm_top (nI_add _ _) ?_
        refine pm_istore_n (pc := 112) dX10_under_112 (by decide) rfl ?_
        refine pm_iinc (pc := 113) dX10_under_113 rfl (pm_inc1 _) (by decide) rfl ?_
        refine pm_goto (pc := 116) (tgt := 44) dX10_under_116 rfl ?_
        refine pm_kill 6 ?_
        exact l_yu44 hR hX ht hp hi k119 m (j + 1) _ (by omega) (by
          first
            | (rw [if_neg hni] at hT2 ⊢; exact hT2)
            | (rw [if_pos hpi, hu] at hT2; rw [if_pos hpi]; omega))
      · refine pm_iload (pc := 100) dX10_under_100 rfl ?_
        refine pm_iconst (pc := 102) (v := nI 4) dX10_under_102 (by decide) ?_
        refine pm_icmp_eq (pc := 103) (tgt := 110) dX10_under_103 rfl (fun h103 => ?_) (fun h103 => ?_)
        · have hu : u_g (x_g X) t (m_pl (x_g X) p j) = 0 := if_neg (fun z => z.2 (kj4.mp h103))
          refine pm_iconst (pc := 110) (v := nI 0) dX10_under_110 (by decide) ?_
          refine pm_iadd (pc := 111) dX10_under_111 ?_
          refine pm_top (nI_add _ _) ?_
          refine pm_istore_n (pc := 112) dX10_under_112 (by decide) rfl ?_
          refine pm_iinc (pc := 113) dX10_under_113 rfl (pm_inc1 _) (by decide) rfl ?_
          refine pm_goto (pc := 116) (tgt := 44) dX10_under_116 rfl ?_
          refine pm_kill 6 ?_
          exact l_yu44 hR hX ht hp hi k119 m (j + 1) _ (by omega) (by
            first
              | (rw [if_neg hni] at hT2 ⊢; exact hT2)
              | (rw [if_pos hpi, hu] at hT2; rw [if_pos hpi]; omega))
        · have hu : u_g (x_g X) t (m_pl (x_g X) p j) = 1 := if_pos ⟨fun z => h97 (kjt.mpr z), fun z => h103 (kj4.mpr z)⟩
          refine pm_iconst (pc := 106) (v := nI 1) dX10_under_106 (by decide) ?_
          refine pm_goto (pc := 107) (tgt := 111) dX10_under_107 rfl ?_
          refine pm_iadd (pc := 111) dX10_under_111 ?_
          refine pm_top (nI_add _ _) ?_
          refine pm_istore_n (pc := 112) dX10_under_112 (by decide) rfl ?_
          refine pm_iinc (pc := 113) dX10_under_113 rfl (pm_inc1 _) (by decide) rfl ?_
          refine pm_goto (pc := 116) (tgt := 44) dX10_under_116 rfl ?_
          refine pm_kill 6 ?_
          exact l_yu44 hR hX ht hp hi k119 m (j + 1) _ (by omega) (by
            first
              | (rw [if_neg hni] at hT2 ⊢; exact hT2)
              | (rw [if_pos hpi, hu] at hT2; rw [if_pos hpi]; omega))
set_option maxRecDepth 100000 in
set_option maxHeartbeats 1000000 in
theorem l_yu27 {I : pm_I} {L : pm_L} {X : xS} (hR : MR I L X) (hX : xInv X) {t : Nat} (ht : t < 4) {la : Launch} {P : pm_E} {p T : Nat} (hp : p < 6) (k125 : PW la P yX10_under cX10_under 7 (some (.int)) (pm_rm 1 0 0) (pm_Tg P (YQ I L (nI (d_under (x_g X) t)) X) 0 0) 0 0 125 [some (.ref 40), some (.int (nI t)), some (.int (nI T)), some (.int (nI p)), none, none, none] [] GG I L) : ∀ (m i S : Nat), i + m = (g_st (x_g X) p).length → S + u_up (x_g X) t ((g_st (x_g X) p).reverse.drop i) = T → PW la P yX10_under cX10_under 7 (some (.int)) (pm_rm 1 0 0) (pm_Tg P (YQ I L (nI (d_under (x_g X) t)) X) 0 0) 0 0 27 [some (.ref 40), some (.int (nI t)), some (.int (nI S)), some (.int (nI p)), some (.int (nI i)), none, none] [] GG I L
  | 0, i, S, hm, hT => by
    have hG := hR.1
    have hI := hX.s
    have h12 := hI.n12
    have hlen := hI.len hp
    have pl_lt : ∀ k, k < (g_st (x_g X) p).length → m_pl (x_g X) p k < g_n (x_g X) := fun k hk => by
      have h9 : m_pl (x_g X) p k ∈ (g_st (x_g X) p).reverse := by
        unfold m_pl
        rw [List.getD_eq_getElem?_getD, List.getElem?_eq_getElem (by rw [List.length_reverse]; exact hk)]
        exact List.getElem_mem _
      exact ((hI.mem hp).mp (List.mem_reverse.mp h9)).1
    have hdrop : ∀ k, k < (g_st (x_g X) p).length → (g_st (x_g X) p).reverse.drop k = m_pl (x_g X) p k :: (g_st (x_g X) p).reverse.drop (k + 1) := fun k hk => by
      have h9 : k < (g_st (x_g X) p).reverse.length := by rw [List.length_reverse]; exact hk
      rw [List.drop_eq_getElem_cons h9]
      congr 1
      unfold m_pl
      rw [List.getD_eq_getElem?_getD, List.getElem?_eq_getElem h9]; rfl
    have hend : ∀ k, (g_st (x_g X) p).length ≤ k → (g_st (x_g X) p).reverse.drop k = [] := fun k hk => List.drop_eq_nil_of_le (by rw [List.length_reverse]; exact hk)
    rw [hend i (by omega)] at hT
    have hT2 : S = T := hT
    subst hT2
    refine pm_iload (pc := 27) dX10_under_27 rfl ?_
    refine pm_aload_n (pc := 29) dX10_under_29 rfl ?_
    refine pm_getr (pc := 30) (ci := 8) (C0 := RX10) (T := TX10) (N := 34) (j := 5) rfl rfl in_X10 (by decide) wf_X10_22 rfl dX10_under_30 ?_
    refine pm_iload_n (pc := 33) dX10_under_33 rfl ?_
    refine pm_iald (pc := 34) rfl (by omega) (by decide) dX10_under_34 ?_
    refine pm_icmp_ge (pc := 35) (tgt := 125) dX10_under_35 rfl (fun h35 => ?_) (fun h35 => (by simp (disch := omega) only [hG.mn hp, pm_leI, nI_toInt] at h35; omega))
    refine pm_kill 4 ?_
    exact k125
  | m + 1, i, S, hm, hT => by
    have hG := hR.1
    have hI := hX.s
    have h12 := hI.n12
    have hlen := hI.len hp
    have pl_lt : ∀ k, k < (g_st (x_g X) p).length → m_pl (x_g X) p k < g_n (x_g X) := fun k hk => by
      have h9 : m_pl (x_g X) p k ∈ (g_st (x_g X) p).reverse := by
        unfold m_pl
        rw [List.getD_eq_getElem?_getD, List.getElem?_eq_getElem (by rw [List.length_reverse]; exact hk)]
        exact List.getElem_mem _
      exact ((hI.mem hp).mp (List.mem_reverse.mp h9)).1
    have hdrop : ∀ k, k < (g_st (x_g X) p).length → (g_st (x_g X) p).reverse.drop k = m_pl (x_g X) p k :: (g_st (x_g X) p).reverse.drop (k + 1) := fun k hk => by
      have h9 : k < (g_st (x_g X) p).reverse.length := by rw [List.length_reverse]; exact hk
      rw [List.drop_eq_getElem_cons h9]
      congr 1
      unfold m_pl
      rw [List.getD_eq_getElem?_getD, List.getElem?_eq_getElem h9]; rfl
    have hend : ∀ k, (g_st (x_g X) p).length ≤ k → (g_st (x_g X) p).reverse.drop k = [] := fun k hk => List.drop_eq_nil_of_le (by rw [List.length_reverse]; exact hk)
    have hi : i < (g_st (x_g X) p).length := by omega
    rw [hdrop i hi] at hT
    have hT2 : S + ((if g_ow (x_g X) (m_pl (x_g X) p i) = t then u_cnt (x_g X) t ((g_st (x_g X) p).reverse.drop (i + 1)) else 0) + u_up (x_g X) t ((g_st (x_g X) p).reverse.drop (i + 1))) = T := hT
    have k119 : PW la P yX10_under cX10_under 7 (some (.int)) (pm_rm 1 0 0) (pm_Tg P (YQ I L (nI (d_under (x_g X) t)) X) 0 0) 0 0 119 [some (.ref 40), some (.int (nI t)), some (.int (nI (S + (if g_ow (x_g X) (m_pl (x_g X) p i) = t then u_cnt (x_g X) t ((g_st (x_g X) p).reverse.drop (i + 1)) else 0)))), some (.int (nI p)), some (.int (nI i)), none, none] [] GG I L := by
      refine pm_iinc (pc := 119) dX10_under_119 rfl (pm_inc1 _) (by decide) rfl ?_
      refine pm_goto (pc := 122) (tgt := 27) dX10_under_122 rfl ?_
      exact l_yu27 hR hX ht hp k125 m (i + 1) _ (by omega) (by omega)
    refine pm_iload (pc := 27) dX10_under_27 rfl ?_
    refine pm_aload_n (pc := 29) dX10_under_29 rfl ?_
    refine pm_getr (pc := 30) (ci := 8) (C0 := RX10) (T := TX10) (N := 34) (j := 5) rfl rfl in_X10 (by decide) wf_X10_22 rfl dX10_under_30 ?_
    refine pm_iload_n (pc := 33) dX10_under_33 rfl ?_
    refine pm_iald (pc := 34) rfl (by omega) (by decide) dX10_under_34 ?_
    refine pm_icmp_ge (pc := 35) (tgt := 125) dX10_under_35 rfl (fun h35 => (by simp (disch := omega) only [hG.mn hp, pm_leI, nI_toInt] at h35; omega)) (fun h35 => ?_)
    refine pm_iload (pc := 38) dX10_under_38 rfl ?_
    refine pm_iconst (pc := 40) (v := nI 1) dX10_under_40 (by decide) ?_
    refine pm_iadd (pc := 41) dX10_under_41 ?_
    refine pm_top (nI_add _ _) ?_
    refine pm_istore (pc := 42) dX10_under_42 (by decide) rfl ?_
    exact l_yu44 hR hX ht hp hi k119 m (i + 1) S (by omega) rfl
set_option maxRecDepth 100000 in
set_option maxHeartbeats 1000000 in
theorem l_yu18 {I : pm_I} {L : pm_L} {X : xS} (hR : MR I L X) (hX : xInv X) {t : Nat} (ht : t < 4) {la : Launch} {P : pm_E} : ∀ (m p : Nat), p + m = 6 → PW la P yX10_under cX10_under 7 (some (.int)) (pm_rm 1 0 0) (pm_Tg P (YQ I L (nI (d_under (x_g X) t)) X) 0 0) 0 0 18 [some (.ref 40), some (.int (nI t)), some (.int (nI (fb_sm (fun p => u_run (x_g X) t (g_st (x_g X) p) 0) p))), some (.int (nI p)), none, none, none] [] GG I L
  | 0, p, hm => by
    have e : p = 6 := by omega
    subst e
    refine pm_iload_n (pc := 18) dX10_under_18 rfl ?_
    refine pm_bipush (pc := 19) (v := nI 6) dX10_under_19 (by decide) ?_
    refine pm_icmp_ge (pc := 21) (tgt := 131) dX10_under_21 rfl (fun h21 => ?_) (fun h21 => (by simp (disch := omega) only [pm_eqI, pm_ltI, pm_leI, nI_toInt, pm_t0, pm_t1, pm_tm1] at h21; omega))
    refine pm_iload_n (pc := 131) dX10_under_131 rfl ?_
    refine pm_iret (pc := 132) rfl (Nat.le_refl _) (Nat.le_refl _) dX10_under_132 ?_
    exact YQ.r rfl hR yF.rf
  | m + 1, p, hm => by
    have hp : p < 6 := by omega
    have k18 := l_yu18 hR hX ht m (p + 1) (by omega) (la := la) (P := P)
    rw [fb_sm_succ] at k18
    have k125 : PW la P yX10_under cX10_under 7 (some (.int)) (pm_rm 1 0 0) (pm_Tg P (YQ I L (nI (d_under (x_g X) t)) X) 0 0) 0 0 125 [some (.ref 40), some (.int (nI t)), some (.int (nI (fb_sm (fun p => u_run (x_g X) t (g_st (x_g X) p) 0) p + u_run (x_g X) t (g_st (x_g X) p) 0))), some (.int (nI p)), none, none, none] [] GG I L := by
      refine pm_iinc (pc := 125) dX10_under_125 rfl (pm_inc1 _) (by decide) rfl ?_
      refine pm_goto (pc := 128) (tgt := 18) dX10_under_128 rfl ?_
      exact k18
    refine pm_iload_n (pc := 18) dX10_under_18 rfl ?_
    refine pm_bipush (pc := 19) (v := nI 6) dX10_under_19 (by decide) ?_
    refine pm_icmp_ge (pc := 21) (tgt := 131) dX10_under_21 rfl (fun h21 => (by simp (disch := omega) only [pm_eqI, pm_ltI, pm_leI, nI_toInt, pm_t0, pm_t1, pm_tm1] at h21; omega)) (fun h21 => ?_)
    refine pm_iconst (pc := 24) (v := nI 0) dX10_under_24 (by decide) ?_
    refine pm_istore (pc := 25) dX10_under_25 (by decide) rfl ?_
    exact l_yu27 hR hX ht hp k125 (g_st (x_g X) p).length 0 _ (by omega) (by rw [List.drop_zero, u_eq])
set_option maxRecDepth 100000 in
set_option maxHeartbeats 1000000 in
theorem y_under {I : pm_I} {L : pm_L} {X : xS} (hR : MR I L X) (hX : xInv X) {t : Int32} : PC 1 0 0 yX10_under cX10_under 7 (some (.int)) [.ref 40, .int t] GG I L (YQ I L (sp_under X t).1 (sp_under X t).2) := by
  have hG := hR.1
  have hI := hX.s
  refine PC.of [some (.ref 40), some (.int t), none, none, none, none, none] (by decide) (Nat.le_of_ble_eq_true rfl) rfl (fun l P => ?_)
  refine pm_iload_n (pc := 0) dX10_under_0 rfl ?_
  refine pm_i2l (pc := 1) dX10_under_1 ?_
  refine pm_lconst (pc := 2) (v := 0) dX10_under_2 (by decide) ?_
  refine pm_ldc2 (pc := 3) wk_X10_104 dX10_under_3 ?_
  refine pm_cSR (pc := 6) dX10_under_6 (c_mInI (a := 0) (b := 3) (by decide) (by decide)) wq_X10_in wm_X10_87 wt_X10_in ⟨Nat.le_of_ble_eq_true rfl, Nat.le_of_ble_eq_true rfl⟩ ⟨Nat.le_of_ble_eq_true rfl, Nat.le_of_ble_eq_true rfl⟩ rfl (Nat.le_of_ble_eq_true rfl) ?_
  refine pm_if_ne (pc := 9) (tgt := 14) dX10_under_9 rfl (fun h9 => ?_) (fun h9 => ?_)
  · obtain ⟨t, ht, rfl⟩ := sh_of (b1_nt h9)
    rw [sp_under_t ht]
    refine pm_iconst (pc := 14) (v := nI 0) dX10_under_14 (by decide) ?_
    refine pm_istore_n (pc := 15) dX10_under_15 (by decide) rfl ?_
    refine pm_iconst (pc := 16) (v := nI 0) dX10_under_16 (by decide) ?_
    refine pm_istore_n (pc := 17) dX10_under_17 (by decide) rfl ?_
    exact l_yu18 hR hX ht 6 0 (by omega)
  · refine pm_iconst (pc := 12) (v := (-1)) dX10_under_12 (by decide) ?_
    refine pm_iret (pc := 13) rfl (Nat.le_refl _) (Nat.le_refl _) dX10_under_13 ?_
    rw [show sp_under X t = (-1, X) from if_neg (b1_nf h9)]
    exact YQ.r rfl hR yF.rf
