theorem pm_u2 {α : Type} (I : Nat → Nat → α) (o : Nat) (f g : Nat → α) : pm_u (pm_u I o f) o g = pm_u I o g := by
  funext a; unfold pm_u; split <;> rfl
set_option maxRecDepth 100000 in
theorem c_fill {G : List pm_S} {I : pm_I} {L : pm_L} {o N : Nat} {x : Int32} (hg : G[o]? = some (.inr (.inl (0, N)))) (hN : N < 1000) : PC 0 0 0 yJ7_fill_53178 cJ7_fill_53178 4 none [.ref o, .int x] G I L (QV G (fun I' L' => I' = (pm_u I o (fa_fill (fun _ => x) (I o) N)) ∧ L' = L)) := by
  refine PC.of [some (.ref o), some (.int x), none, none] (by decide) (Nat.le_of_ble_eq_true rfl) rfl (fun l P => ?_)
  have lp : ∀ (m i : Nat), i + m = N → PW l P yJ7_fill_53178 cJ7_fill_53178 4 none (pm_rm 0 0 0) (pm_Tg P (QV G (fun I' L' => I' = (pm_u I o (fa_fill (fun _ => x) (I o) N)) ∧ L' = L)) 0 0) 0 0 5 [some (.ref o), some (.int x), some (.int (nI i)), some (.int (nI N))] [] G (pm_u I o (fa_fill (fun _ => x) (I o) i)) L := by
    intro m
    induction m with
    | zero =>
      intro i hm
      refine pm_iload_n (pc := 5) dJ7_fill_53178_5 rfl ?_
      refine pm_iload_n (pc := 6) dJ7_fill_53178_6 rfl ?_
      refine pm_icmp_ge (pc := 7) (tgt := 20) dJ7_fill_53178_7 rfl (fun h7 => ?_) (fun h7 => (by simp (disch := omega) only [pm_eqI, pm_ltI, pm_leI, nI_toInt, pm_t0, pm_t1, pm_tm1] at h7; omega))
      refine pm_vret (pc := 20) rfl (Nat.le_refl _) (Nat.le_refl _) dJ7_fill_53178_20 ?_
      have e : i = N := by omega
      subst e
      exact QV.r ⟨rfl, rfl⟩
    | succ m ih =>
      intro i hm
      refine pm_iload_n (pc := 5) dJ7_fill_53178_5 rfl ?_
      refine pm_iload_n (pc := 6) dJ7_fill_53178_6 rfl ?_
      refine pm_icmp_ge (pc := 7) (tgt := 20) dJ7_fill_53178_7 rfl (fun h7 => (by simp (disch := omega) only [pm_eqI, pm_ltI, pm_leI, nI_toInt, pm_t0, pm_t1, pm_tm1] at h7; omega)) (fun h7 => ?_)
      refine pm_aload_n (pc := 10) dJ7_fill_53178_10 rfl ?_
      refine pm_iload_n (pc := 11) dJ7_fill_53178_11 rfl ?_
      refine pm_iload_n (pc := 12) dJ7_fill_53178_12 rfl ?_
      refine pm_iast (pc := 13) hg (show i < N by omega) (by omega) dJ7_fill_53178_13 ?_
      refine pm_iinc (pc := 14) dJ7_fill_53178_14 rfl (pm_inc1 _) (by decide) rfl ?_
      refine pm_goto (pc := 17) (tgt := 5) dJ7_fill_53178_17 rfl ?_
      have k9 := ih (i + 1) (by omega)
      refine pm_eq rfl rfl rfl ?_ rfl k9
      rw [pm_us, pm_u2]
      have hu : upd (fa_fill (fun _ => x) (I o) i) i x = fa_fill (fun _ => x) (I o) (i + 1) := by
        funext j
        unfold upd fa_fill
        by_cases e : j = i
        · subst e; rw [if_pos rfl, if_pos (by omega)]
        · rw [if_neg e]
          by_cases e2 : j < i
          · rw [if_pos e2, if_pos (by omega)]
          · rw [if_neg e2, if_neg (by omega)]
      rw [hu]
  have h0 : (pm_u I o (fa_fill (fun _ => x) (I o) 0)) = I := by
    have : fa_fill (fun _ => x) (I o) 0 = I o := by funext j; unfold fa_fill; rw [if_neg (Nat.not_lt_zero j)]
    rw [this, pm_uu]
  refine pm_iconst (pc := 0) (v := nI 0) dJ7_fill_53178_0 (by decide) ?_
  refine pm_istore_n (pc := 1) dJ7_fill_53178_1 (by decide) rfl ?_
  refine pm_aload_n (pc := 2) dJ7_fill_53178_2 rfl ?_
  refine pm_alen (pc := 3) (v := nI N) hg (by decide) rfl dJ7_fill_53178_3 ?_
  refine pm_istore_n (pc := 4) dJ7_fill_53178_4 (by decide) rfl ?_
  have k9 := lp N 0 (by omega)
  rw [h0] at k9
  exact k9
set_option maxRecDepth 100000 in
theorem c_fillL {G : List pm_S} {I : pm_I} {L : pm_L} {o N : Nat} {x : Int64} (hg : G[o]? = some (.inr (.inl (2, N)))) (hN : N < 1000) : PC 0 0 0 yJ7_fill_d0a16 cJ7_fill_d0a16 5 none [.ref o, .long x] G I L (QV G (fun I' L' => I' = I ∧ L' = (pm_u L o (fa_fill (fun _ => x) (L o) N)))) := by
  refine PC.of [some (.ref o), some (.long x), none, none, none] (by decide) (Nat.le_of_ble_eq_true rfl) rfl (fun l P => ?_)
  have lp : ∀ (m i : Nat), i + m = N → PW l P yJ7_fill_d0a16 cJ7_fill_d0a16 5 none (pm_rm 0 0 0) (pm_Tg P (QV G (fun I' L' => I' = I ∧ L' = (pm_u L o (fa_fill (fun _ => x) (L o) N)))) 0 0) 0 0 6 [some (.ref o), some (.long x), none, some (.int (nI i)), some (.int (nI N))] [] G I (pm_u L o (fa_fill (fun _ => x) (L o) i)) := by
    intro m
    induction m with
    | zero =>
      intro i hm
      refine pm_iload_n (pc := 6) dJ7_fill_d0a16_6 rfl ?_
      refine pm_iload (pc := 7) dJ7_fill_d0a16_7 rfl ?_
      refine pm_icmp_ge (pc := 9) (tgt := 22) dJ7_fill_d0a16_9 rfl (fun h9 => ?_) (fun h9 => (by simp (disch := omega) only [pm_eqI, pm_ltI, pm_leI, nI_toInt, pm_t0, pm_t1, pm_tm1] at h9; omega))
      refine pm_vret (pc := 22) rfl (Nat.le_refl _) (Nat.le_refl _) dJ7_fill_d0a16_22 ?_
      have e : i = N := by omega
      subst e
      exact QV.r ⟨rfl, rfl⟩
    | succ m ih =>
      intro i hm
      refine pm_iload_n (pc := 6) dJ7_fill_d0a16_6 rfl ?_
      refine pm_iload (pc := 7) dJ7_fill_d0a16_7 rfl ?_
      refine pm_icmp_ge (pc := 9) (tgt := 22) dJ7_fill_d0a16_9 rfl (fun h9 => (by simp (disch := omega) only [pm_eqI, pm_ltI, pm_leI, nI_toInt, pm_t0, pm_t1, pm_tm1] at h9; omega)) (fun h9 => ?_)
      refine pm_aload_n (pc := 12) dJ7_fill_d0a16_12 rfl ?_
      refine pm_iload_n (pc := 13) dJ7_fill_d0a16_13 rfl ?_
      refine pm_lload_n (pc := 14) dJ7_fill_d0a16_14 rfl ?_
      refine pm_last (pc := 15) hg (show i < N by omega) (by omega) dJ7_fill_d0a16_15 ?_
      refine pm_iinc (pc := 16) dJ7_fill_d0a16_16 rfl (pm_inc1 _) (by decide) rfl ?_
      refine pm_goto (pc := 19) (tgt := 6) dJ7_fill_d0a16_19 rfl ?_
      have k9 := ih (i + 1) (by omega)
      refine pm_eq rfl rfl rfl rfl ?_ k9
      rw [pm_us, pm_u2]
      have hu : vp_updL (fa_fill (fun _ => x) (L o) i) i x = fa_fill (fun _ => x) (L o) (i + 1) := by
        funext j
        unfold vp_updL fa_fill
        by_cases e : j = i
        · subst e; rw [if_pos rfl, if_pos (by omega)]
        · rw [if_neg e]
          by_cases e2 : j < i
          · rw [if_pos e2, if_pos (by omega)]
          · rw [if_neg e2, if_neg (by omega)]
      rw [hu]
  have h0 : (pm_u L o (fa_fill (fun _ => x) (L o) 0)) = L := by
    have : fa_fill (fun _ => x) (L o) 0 = L o := by funext j; unfold fa_fill; rw [if_neg (Nat.not_lt_zero j)]
    rw [this, pm_uu]
  refine pm_iconst (pc := 0) (v := nI 0) dJ7_fill_d0a16_0 (by decide) ?_
  refine pm_istore_n (pc := 1) dJ7_fill_d0a16_1 (by decide) rfl ?_
  refine pm_aload_n (pc := 2) dJ7_fill_d0a16_2 rfl ?_
  refine pm_alen (pc := 3) (v := nI N) hg (by decide) rfl dJ7_fill_d0a16_3 ?_
  refine pm_istore (pc := 4) dJ7_fill_d0a16_4 (by decide) rfl ?_
  have k9 := lp N 0 (by omega)
  rw [h0] at k9
  exact k9
def s_awk (s : gS) : gS := (g_n s, g_kd s, g_wt s, g_tw s, g_wh s, g_st s, g_sn s, g_aw s + 1)
theorem s_eat_awk (s : gS) : ∀ i, s_eat (s_awk s) i = s_eat s i
  | 0 => rfl
  | i + 1 => by rw [s_eat, s_eat, s_eat_awk s i]; rfl
theorem GR_awk {I : pm_I} {s : gS} (hG : GR I 1 s) : gX I (s_awk s) (pm_u I 1 (upd (I 1) 8 (I 1 8 + nI 1))) := by
  refine ⟨⟨hG.n, ?_, fun j hj => ⟨hG.kd hj, hG.wt hj, hG.tw hj, hG.wh hj⟩, fun q hq => ⟨hG.ch hq, hG.sn hq⟩⟩, gF.rf.u ⟨by decide, by decide⟩ _⟩
  show I 1 8 + nI 1 = g_aw s + 1
  rw [hG.aw]; rfl
theorem gInv_awk {s : gS} (h : gInv s) : gInv (s_awk s) := h
theorem s_eat_le {s : gS} (i : Nat) (h : i ≤ 12) : s_eat s i ≤ 12 := by
  rcases s_eat_in (s := s) i with q | q <;> omega
set_option maxRecDepth 100000 in
theorem c_eat {I : pm_I} {L : pm_L} {s : gS} (hG : GR I 1 s) (hI : gInv s) : PC 2 0 0 yX2_eat cX2_eat 4 none [.ref 1] GG I L (QV GG (fun I' L' => I' = (if s_eat s (g_n s) = 12 then I else pm_u I 5 (upd (I 5) (s_eat s (g_n s)) (nI 7))) ∧ L' = L)) := by
  have h12 := hI.n12
  refine PC.of [some (.ref 1), none, none, none] (by decide) (Nat.le_of_ble_eq_true rfl) rfl (fun l P => ?_)
  have lp : ∀ (m i : Nat), i + m = g_n s → PW l P yX2_eat cX2_eat 4 none (pm_rm 2 0 0) (pm_Tg P (QV GG (fun I' L' => I' = (if s_eat s (g_n s) = 12 then I else pm_u I 5 (upd (I 5) (s_eat s (g_n s)) (nI 7))) ∧ L' = L)) 0 0) 0 0 5 [some (.ref 1), some (.int (nI (s_eat s i))), some (.int (nI i)), none] [] GG I L := by
    intro m
    induction m with
    | zero =>
      intro i hm
      have e : i = g_n s := by omega
      subst e
      by_cases he : s_eat s (g_n s) = 12
      · rw [if_pos he, he]
        refine pm_iload_n (pc := 5) dX2_eat_5 rfl ?_
        refine pm_aload_n (pc := 6) dX2_eat_6 rfl ?_
        refine pm_get (pc := 7) (ci := 0) (C0 := RX2) (T := TX2) (N := 9) (j := 7) rfl rfl in_X2 (by decide) wf_X2_39 rfl dX2_eat_7 ?_
        refine pm_icmp_ge (pc := 10) (tgt := 69) dX2_eat_10 rfl (fun h10 => ?_) (fun h10 => (by simp (disch := omega) only [hG.n, pm_eqI, pm_ltI, pm_leI, nI_toInt, pm_t0, pm_t1, pm_tm1] at h10; omega))
        refine pm_aload_n (pc := 69) dX2_eat_69 rfl ?_
        refine pm_iload_n (pc := 70) dX2_eat_70 rfl ?_
        refine pm_cVR (pc := 71) dX2_eat_71 (c_isPieceN hG.n h12 (by simp (disch := omega) only [pm_ltI, pm_leI, nI_toInt, pm_t0]; omega)) wq_X2_isPiece wm_X2_46 wi_X2_isPiece ws_X2_isPiece rfl rfl ⟨Nat.le_of_ble_eq_true rfl, Nat.le_of_ble_eq_true rfl⟩ ⟨Nat.le_of_ble_eq_true rfl, Nat.le_of_ble_eq_true rfl⟩ rfl (Nat.le_of_ble_eq_true rfl) ?_
        refine pm_if_eq (pc := 74) (tgt := 85) dX2_eat_74 rfl (fun h74 => ?_) (fun h74 => absurd rfl h74)
        refine pm_vret (pc := 85) rfl (Nat.le_refl _) (Nat.le_refl _) dX2_eat_85 ?_
        exact QV.r ⟨rfl, rfl⟩
      · rw [if_neg he]
        have hlt : s_eat s (g_n s) < g_n s := ((s_eat_in (s := s) (g_n s)).resolve_left he).1
        refine pm_iload_n (pc := 5) dX2_eat_5 rfl ?_
        refine pm_aload_n (pc := 6) dX2_eat_6 rfl ?_
        refine pm_get (pc := 7) (ci := 0) (C0 := RX2) (T := TX2) (N := 9) (j := 7) rfl rfl in_X2 (by decide) wf_X2_39 rfl dX2_eat_7 ?_
        refine pm_icmp_ge (pc := 10) (tgt := 69) dX2_eat_10 rfl (fun h10 => ?_) (fun h10 => (by simp (disch := omega) only [hG.n, pm_eqI, pm_ltI, pm_leI, nI_toInt, pm_t0, pm_t1, pm_tm1] at h10; omega))
        refine pm_aload_n (pc := 69) dX2_eat_69 rfl ?_
        refine pm_iload_n (pc := 70) dX2_eat_70 rfl ?_
        refine pm_cVR (pc := 71) dX2_eat_71 (c_isPiece hG.n h12 hlt) wq_X2_isPiece wm_X2_46 wi_X2_isPiece ws_X2_isPiece rfl rfl ⟨Nat.le_of_ble_eq_true rfl, Nat.le_of_ble_eq_true rfl⟩ ⟨Nat.le_of_ble_eq_true rfl, Nat.le_of_ble_eq_true rfl⟩ rfl (Nat.le_of_ble_eq_true rfl) ?_
        refine pm_if_eq (pc := 74) (tgt := 85) dX2_eat_74 rfl (fun h74 => absurd h74 (by decide)) (fun h74 => ?_)
        refine pm_aload_n (pc := 77) dX2_eat_77 rfl ?_
        refine pm_getr (pc := 78) (ci := 0) (C0 := RX2) (T := TX2) (N := 9) (j := 3) rfl rfl in_X2 (by decide) wf_X2_21 rfl dX2_eat_78 ?_
        refine pm_iload_n (pc := 81) dX2_eat_81 rfl ?_
        refine pm_bipush (pc := 82) (v := nI 7) dX2_eat_82 (by decide) ?_
        refine pm_iast (pc := 84) rfl (by omega) (by decide) dX2_eat_84 ?_
        refine pm_vret (pc := 85) rfl (Nat.le_refl _) (Nat.le_refl _) dX2_eat_85 ?_
        exact QV.r ⟨rfl, rfl⟩
    | succ m ih =>
      intro i hm
      have hi : i < g_n s := by omega
      have hv := hI.2.1 i hi
      have k9 := ih (i + 1) (by omega)
      by_cases ew : g_wh s i = 6
      · by_cases ek : g_kd s i = 3
        · have es : s_eat s (i + 1) = s_eat s i := by rw [s_eat, if_neg]; exact fun z => z.2.1 ek
          refine pm_iload_n (pc := 5) dX2_eat_5 rfl ?_
          refine pm_aload_n (pc := 6) dX2_eat_6 rfl ?_
          refine pm_get (pc := 7) (ci := 0) (C0 := RX2) (T := TX2) (N := 9) (j := 7) rfl rfl in_X2 (by decide) wf_X2_39 rfl dX2_eat_7 ?_
          refine pm_icmp_ge (pc := 10) (tgt := 69) dX2_eat_10 rfl (fun h10 => (by simp (disch := omega) only [hG.n, pm_eqI, pm_ltI, pm_leI, nI_toInt, pm_t0, pm_t1, pm_tm1] at h10; omega)) (fun h10 => ?_)
          refine pm_aload_n (pc := 13) dX2_eat_13 rfl ?_
          refine pm_iload_n (pc := 14) dX2_eat_14 rfl ?_
          refine pm_cVR (pc := 15) dX2_eat_15 (c_placeOf hG hI (j := i) (by omega)) wq_X2_placeOf wm_X2_50 wi_X2_placeOf ws_X2_placeOf rfl rfl ⟨Nat.le_of_ble_eq_true rfl, Nat.le_of_ble_eq_true rfl⟩ ⟨Nat.le_of_ble_eq_true rfl, Nat.le_of_ble_eq_true rfl⟩ rfl (Nat.le_of_ble_eq_true rfl) ?_
          refine pm_bipush (pc := 18) (v := nI 6) dX2_eat_18 (by decide) ?_
          refine pm_icmp_ne (pc := 20) (tgt := 36) dX2_eat_20 rfl (fun h20 => absurd (by rw [ew]) h20) (fun h20 => ?_)
          refine pm_aload_n (pc := 23) dX2_eat_23 rfl ?_
          refine pm_iload_n (pc := 24) dX2_eat_24 rfl ?_
          refine pm_cVR (pc := 25) dX2_eat_25 (c_kindOf hG hI (j := i) (by omega)) wq_X2_kindOf wm_X2_135 wi_X2_kindOf ws_X2_kindOf rfl rfl ⟨Nat.le_of_ble_eq_true rfl, Nat.le_of_ble_eq_true rfl⟩ ⟨Nat.le_of_ble_eq_true rfl, Nat.le_of_ble_eq_true rfl⟩ rfl (Nat.le_of_ble_eq_true rfl) ?_
          refine pm_iconst (pc := 28) (v := nI 3) dX2_eat_28 (by decide) ?_
          refine pm_icmp_eq (pc := 29) (tgt := 36) dX2_eat_29 rfl (fun h29 => ?_) (fun h29 => absurd (by rw [ek]) h29)
          refine pm_iconst (pc := 36) (v := nI 0) dX2_eat_36 (by decide) ?_
          refine pm_istore_n (pc := 37) dX2_eat_37 (by decide) rfl ?_
          refine pm_iload_n (pc := 38) dX2_eat_38 rfl ?_
          refine pm_if_eq (pc := 39) (tgt := 63) dX2_eat_39 rfl (fun h39 => ?_) (fun h39 => absurd rfl h39)
          refine pm_iinc (pc := 63) dX2_eat_63 rfl (pm_inc1 _) (by decide) rfl ?_
          refine pm_goto (pc := 66) (tgt := 5) dX2_eat_66 rfl ?_
          refine pm_kill 3 ?_
          rw [es] at k9
          exact k9
        · by_cases e1 : s_eat s i = 12
          · have es : s_eat s (i + 1) = i := by rw [s_eat, if_pos ⟨ew, ek, Or.inl e1⟩]
            refine pm_iload_n (pc := 5) dX2_eat_5 rfl ?_
            refine pm_aload_n (pc := 6) dX2_eat_6 rfl ?_
            refine pm_get (pc := 7) (ci := 0) (C0 := RX2) (T := TX2) (N := 9) (j := 7) rfl rfl in_X2 (by decide) wf_X2_39 rfl dX2_eat_7 ?_
            refine pm_icmp_ge (pc := 10) (tgt := 69) dX2_eat_10 rfl (fun h10 => (by simp (disch := omega) only [hG.n, pm_eqI, pm_ltI, pm_leI, nI_toInt, pm_t0, pm_t1, pm_tm1] at h10; omega)) (fun h10 => ?_)
            refine pm_aload_n (pc := 13) dX2_eat_13 rfl ?_
            refine pm_iload_n (pc := 14) dX2_eat_14 rfl ?_
            refine pm_cVR (pc := 15) dX2_eat_15 (c_placeOf hG hI (j := i) (by omega)) wq_X2_placeOf wm_X2_50 wi_X2_placeOf ws_X2_placeOf rfl rfl ⟨Nat.le_of_ble_eq_true rfl, Nat.le_of_ble_eq_true rfl⟩ ⟨Nat.le_of_ble_eq_true rfl, Nat.le_of_ble_eq_true rfl⟩ rfl (Nat.le_of_ble_eq_true rfl) ?_
            refine pm_bipush (pc := 18) (v := nI 6) dX2_eat_18 (by decide) ?_
            refine pm_icmp_ne (pc := 20) (tgt := 36) dX2_eat_20 rfl (fun h20 => absurd (by rw [ew]) h20) (fun h20 => ?_)
            refine pm_aload_n (pc := 23) dX2_eat_23 rfl ?_
            refine pm_iload_n (pc := 24) dX2_eat_24 rfl ?_
            refine pm_cVR (pc := 25) dX2_eat_25 (c_kindOf hG hI (j := i) (by omega)) wq_X2_kindOf wm_X2_135 wi_X2_kindOf ws_X2_kindOf rfl rfl ⟨Nat.le_of_ble_eq_true rfl, Nat.le_of_ble_eq_true rfl⟩ ⟨Nat.le_of_ble_eq_true rfl, Nat.le_of_ble_eq_true rfl⟩ rfl (Nat.le_of_ble_eq_true rfl) ?_
            refine pm_iconst (pc := 28) (v := nI 3) dX2_eat_28 (by decide) ?_
            refine pm_icmp_eq (pc := 29) (tgt := 36) dX2_eat_29 rfl (fun h29 => absurd ((nI_eq (by omega) (by decide)).mp h29) ek) (fun h29 => ?_)
            refine pm_iconst (pc := 32) (v := nI 1) dX2_eat_32 (by decide) ?_
            refine pm_goto (pc := 33) (tgt := 37) dX2_eat_33 rfl ?_
            refine pm_istore_n (pc := 37) dX2_eat_37 (by decide) rfl ?_
            refine pm_iload_n (pc := 38) dX2_eat_38 rfl ?_
            refine pm_if_eq (pc := 39) (tgt := 63) dX2_eat_39 rfl (fun h39 => absurd h39 (by decide)) (fun h39 => ?_)
            refine pm_iload_n (pc := 42) dX2_eat_42 rfl ?_
            refine pm_bipush (pc := 43) (v := nI 12) dX2_eat_43 (by decide) ?_
            refine pm_icmp_eq (pc := 45) (tgt := 61) dX2_eat_45 rfl (fun h45 => ?_) (fun h45 => absurd (by rw [e1]) h45)
            refine pm_iload_n (pc := 61) dX2_eat_61 rfl ?_
            refine pm_istore_n (pc := 62) dX2_eat_62 (by decide) rfl ?_
            refine pm_iinc (pc := 63) dX2_eat_63 rfl (pm_inc1 _) (by decide) rfl ?_
            refine pm_goto (pc := 66) (tgt := 5) dX2_eat_66 rfl ?_
            refine pm_kill 3 ?_
            rw [es] at k9
            exact k9
          · have hlt : s_eat s i < i := ((s_eat_in (s := s) i).resolve_left e1).1
            have w1 := hI.w hi
            have w2 := hI.w (show s_eat s i < g_n s by omega)
            refine pm_iload_n (pc := 5) dX2_eat_5 rfl ?_
            refine pm_aload_n (pc := 6) dX2_eat_6 rfl ?_
            refine pm_get (pc := 7) (ci := 0) (C0 := RX2) (T := TX2) (N := 9) (j := 7) rfl rfl in_X2 (by decide) wf_X2_39 rfl dX2_eat_7 ?_
            refine pm_icmp_ge (pc := 10) (tgt := 69) dX2_eat_10 rfl (fun h10 => (by simp (disch := omega) only [hG.n, pm_eqI, pm_ltI, pm_leI, nI_toInt, pm_t0, pm_t1, pm_tm1] at h10; omega)) (fun h10 => ?_)
            refine pm_aload_n (pc := 13) dX2_eat_13 rfl ?_
            refine pm_iload_n (pc := 14) dX2_eat_14 rfl ?_
            refine pm_cVR (pc := 15) dX2_eat_15 (c_placeOf hG hI (j := i) (by omega)) wq_X2_placeOf wm_X2_50 wi_X2_placeOf ws_X2_placeOf rfl rfl ⟨Nat.le_of_ble_eq_true rfl, Nat.le_of_ble_eq_true rfl⟩ ⟨Nat.le_of_ble_eq_true rfl, Nat.le_of_ble_eq_true rfl⟩ rfl (Nat.le_of_ble_eq_true rfl) ?_
            refine pm_bipush (pc := 18) (v := nI 6) dX2_eat_18 (by decide) ?_
            refine pm_icmp_ne (pc := 20) (tgt := 36) dX2_eat_20 rfl (fun h20 => absurd (by rw [ew]) h20) (fun h20 => ?_)
            refine pm_aload_n (pc := 23) dX2_eat_23 rfl ?_
            refine pm_iload_n (pc := 24) dX2_eat_24 rfl ?_
            refine pm_cVR (pc := 25) dX2_eat_25 (c_kindOf hG hI (j := i) (by omega)) wq_X2_kindOf wm_X2_135 wi_X2_kindOf ws_X2_kindOf rfl rfl ⟨Nat.le_of_ble_eq_true rfl, Nat.le_of_ble_eq_true rfl⟩ ⟨Nat.le_of_ble_eq_true rfl, Nat.le_of_ble_eq_true rfl⟩ rfl (Nat.le_of_ble_eq_true rfl) ?_
            refine pm_iconst (pc := 28) (v := nI 3) dX2_eat_28 (by decide) ?_
            refine pm_icmp_eq (pc := 29) (tgt := 36) dX2_eat_29 rfl (fun h29 => absurd ((nI_eq (by omega) (by decide)).mp h29) ek) (fun h29 => ?_)
            refine pm_iconst (pc := 32) (v := nI 1) dX2_eat_32 (by decide) ?_
            refine pm_goto (pc := 33) (tgt := 37) dX2_eat_33 rfl ?_
            refine pm_istore_n (pc := 37) dX2_eat_37 (by decide) rfl ?_
            refine pm_iload_n (pc := 38) dX2_eat_38 rfl ?_
            refine pm_if_eq (pc := 39) (tgt := 63) dX2_eat_39 rfl (fun h39 => absurd h39 (by decide)) (fun h39 => ?_)
            refine pm_iload_n (pc := 42) dX2_eat_42 rfl ?_
            refine pm_bipush (pc := 43) (v := nI 12) dX2_eat_43 (by decide) ?_
            refine pm_icmp_eq (pc := 45) (tgt := 61) dX2_eat_45 rfl (fun h45 => absurd ((nI_eq (by omega) (by decide)).mp h45) e1) (fun h45 => ?_)
            refine pm_aload_n (pc := 48) dX2_eat_48 rfl ?_
            refine pm_iload_n (pc := 49) dX2_eat_49 rfl ?_
            refine pm_cVR (pc := 50) dX2_eat_50 (c_weighs hG hI hi) wq_X2_weighs wm_X2_60 wi_X2_weighs ws_X2_weighs rfl rfl ⟨Nat.le_of_ble_eq_true rfl, Nat.le_of_ble_eq_true rfl⟩ ⟨Nat.le_of_ble_eq_true rfl, Nat.le_of_ble_eq_true rfl⟩ rfl (Nat.le_of_ble_eq_true rfl) ?_
            refine pm_aload_n (pc := 53) dX2_eat_53 rfl ?_
            refine pm_iload_n (pc := 54) dX2_eat_54 rfl ?_
            refine pm_cVR (pc := 55) dX2_eat_55 (c_weighs hG hI (show s_eat s i < g_n s by omega)) wq_X2_weighs wm_X2_60 wi_X2_weighs ws_X2_weighs rfl rfl ⟨Nat.le_of_ble_eq_true rfl, Nat.le_of_ble_eq_true rfl⟩ ⟨Nat.le_of_ble_eq_true rfl, Nat.le_of_ble_eq_true rfl⟩ rfl (Nat.le_of_ble_eq_true rfl) ?_
            refine pm_icmp_ge (pc := 58) (tgt := 63) dX2_eat_58 rfl (fun h58 => ?_) (fun h58 => ?_)
            · rw [nI_leI (by omega) (by omega)] at h58
              have es : s_eat s (i + 1) = s_eat s i := by rw [s_eat, if_neg]; exact fun z => by have := z.2.2; omega
              refine pm_iinc (pc := 63) dX2_eat_63 rfl (pm_inc1 _) (by decide) rfl ?_
              refine pm_goto (pc := 66) (tgt := 5) dX2_eat_66 rfl ?_
              refine pm_kill 3 ?_
              rw [es] at k9
              exact k9
            · rw [nI_leI (by omega) (by omega)] at h58
              have es : s_eat s (i + 1) = i := by rw [s_eat, if_pos ⟨ew, ek, Or.inr (by omega)⟩]
              refine pm_iload_n (pc := 61) dX2_eat_61 rfl ?_
              refine pm_istore_n (pc := 62) dX2_eat_62 (by decide) rfl ?_
              refine pm_iinc (pc := 63) dX2_eat_63 rfl (pm_inc1 _) (by decide) rfl ?_
              refine pm_goto (pc := 66) (tgt := 5) dX2_eat_66 rfl ?_
              refine pm_kill 3 ?_
              rw [es] at k9
              exact k9
      · have es : s_eat s (i + 1) = s_eat s i := by rw [s_eat, if_neg]; exact fun z => ew z.1
        refine pm_iload_n (pc := 5) dX2_eat_5 rfl ?_
        refine pm_aload_n (pc := 6) dX2_eat_6 rfl ?_
        refine pm_get (pc := 7) (ci := 0) (C0 := RX2) (T := TX2) (N := 9) (j := 7) rfl rfl in_X2 (by decide) wf_X2_39 rfl dX2_eat_7 ?_
        refine pm_icmp_ge (pc := 10) (tgt := 69) dX2_eat_10 rfl (fun h10 => (by simp (disch := omega) only [hG.n, pm_eqI, pm_ltI, pm_leI, nI_toInt, pm_t0, pm_t1, pm_tm1] at h10; omega)) (fun h10 => ?_)
        refine pm_aload_n (pc := 13) dX2_eat_13 rfl ?_
        refine pm_iload_n (pc := 14) dX2_eat_14 rfl ?_
        refine pm_cVR (pc := 15) dX2_eat_15 (c_placeOf hG hI (j := i) (by omega)) wq_X2_placeOf wm_X2_50 wi_X2_placeOf ws_X2_placeOf rfl rfl ⟨Nat.le_of_ble_eq_true rfl, Nat.le_of_ble_eq_true rfl⟩ ⟨Nat.le_of_ble_eq_true rfl, Nat.le_of_ble_eq_true rfl⟩ rfl (Nat.le_of_ble_eq_true rfl) ?_
        refine pm_bipush (pc := 18) (v := nI 6) dX2_eat_18 (by decide) ?_
        refine pm_icmp_ne (pc := 20) (tgt := 36) dX2_eat_20 rfl (fun h20 => ?_) (fun h20 => absurd ((nI_eq (by omega) (by decide)).mp h20) ew)
        refine pm_iconst (pc := 36) (v := nI 0) dX2_eat_36 (by decide) ?_
        refine pm_istore_n (pc := 37) dX2_eat_37 (by decide) rfl ?_
        refine pm_iload_n (pc := 38) dX2_eat_38 rfl ?_
        refine pm_if_eq (pc := 39) (tgt := 63) dX2_eat_39 rfl (fun h39 => ?_) (fun h39 => absurd rfl h39)
        refine pm_iinc (pc := 63) dX2_eat_63 rfl (pm_inc1 _) (by decide) rfl ?_
        refine pm_goto (pc := 66) (tgt := 5) dX2_eat_66 rfl ?_
        refine pm_kill 3 ?_
        rw [es] at k9
        exact k9
  refine pm_bipush (pc := 0) (v := nI 12) dX2_eat_0 (by decide) ?_
  refine pm_istore_n (pc := 2) dX2_eat_2 (by decide) rfl ?_
  refine pm_iconst (pc := 3) (v := nI 0) dX2_eat_3 (by decide) ?_
  refine pm_istore_n (pc := 4) dX2_eat_4 (by decide) rfl ?_
  exact lp (g_n s) 0 (by omega)
set_option maxRecDepth 100000 in
set_option maxHeartbeats 4000000 in
theorem c_tryAct {I : pm_I} {L : pm_L} {s : gS} {c : Nat} (hG : GR I 1 s) (hI : gInv s) (ho : a_ok s c) : PC 4 0 0 yX2_tryAct cX2_tryAct 2 (some (.int)) [.ref 1, .int (nI c)] GG I L (QI GG (fun r I' L' => r = (s_try s c).1 ∧ gX I (s_try s c).2 I' ∧ L' = L)) := by
  refine PC.of [some (.ref 1), some (.int (nI c))] (by decide) (Nat.le_of_ble_eq_true rfl) rfl (fun l P => ?_)
  refine pm_aload_n (pc := 0) dX2_tryAct_0 rfl ?_
  refine pm_iload_n (pc := 1) dX2_tryAct_1 rfl ?_
  refine pm_cVR (pc := 2) dX2_tryAct_2 (c_canBe hG hI ho) wq_X2_canBe wm_X2_97 wi_X2_canBe ws_X2_canBe rfl rfl ⟨Nat.le_of_ble_eq_true rfl, Nat.le_of_ble_eq_true rfl⟩ ⟨Nat.le_of_ble_eq_true rfl, Nat.le_of_ble_eq_true rfl⟩ rfl (Nat.le_of_ble_eq_true rfl) ?_
  refine pm_if_ne (pc := 5) (tgt := 11) dX2_tryAct_5 rfl (fun h5 => ?_) (fun h5 => ?_)
  · have hc : a_can s c := Decidable.not_not.mp (fun z => h5 (b1_0.mpr z))
    refine pm_aload_n (pc := 11) dX2_tryAct_11 rfl ?_
    refine pm_iload_n (pc := 12) dX2_tryAct_12 rfl ?_
    refine pm_cVR (pc := 13) dX2_tryAct_13 (c_isFelt hG hI ho hc) wq_X2_isFelt wm_X2_100 wi_X2_isFelt ws_X2_isFelt rfl rfl ⟨Nat.le_of_ble_eq_true rfl, Nat.le_of_ble_eq_true rfl⟩ ⟨Nat.le_of_ble_eq_true rfl, Nat.le_of_ble_eq_true rfl⟩ rfl (Nat.le_of_ble_eq_true rfl) ?_
    refine pm_if_eq (pc := 16) (tgt := 36) dX2_tryAct_16 rfl (fun h16 => ?_) (fun h16 => ?_)
    · have hf : ¬ a_felt s c := b1_0.mp h16
      refine pm_aload_n (pc := 36) dX2_tryAct_36 rfl ?_
      refine pm_iload_n (pc := 37) dX2_tryAct_37 rfl ?_
      refine pm_cVV (pc := 38) dX2_tryAct_38 (c_doAct hG hI ho hc) wq_X2_doAct wm_X2_106 wi_X2_doAct ws_X2_doAct rfl rfl ⟨Nat.le_of_ble_eq_true rfl, Nat.le_of_ble_eq_true rfl⟩ ⟨Nat.le_of_ble_eq_true rfl, Nat.le_of_ble_eq_true rfl⟩ rfl (Nat.le_of_ble_eq_true rfl) (fun I38 L38 q38 => ?_)
      obtain ⟨qx, ql⟩ := q38
      subst ql
      refine pm_iconst (pc := 41) (v := nI 0) dX2_tryAct_41 (by decide) ?_
      refine pm_iret (pc := 42) rfl (Nat.le_refl _) (Nat.le_refl _) dX2_tryAct_42 ?_
      have et : s_try s c = (0, s_do s c) := by unfold s_try; rw [if_neg (fun z => z hc), if_neg hf]
      exact QI.r ⟨by rw [et]; rfl, by rw [et]; exact qx, rfl⟩
    · have hf : a_felt s c := Decidable.not_not.mp (fun z => h16 (b1_0.mpr z))
      refine pm_aload_n (pc := 19) dX2_tryAct_19 rfl ?_
      refine pm_dup (pc := 20) dX2_tryAct_20 rfl ?_
      refine pm_get (pc := 21) (ci := 0) (C0 := RX2) (T := TX2) (N := 9) (j := 8) rfl rfl in_X2 (by decide) wf_X2_43 rfl dX2_tryAct_21 ?_
      refine pm_iconst (pc := 24) (v := nI 1) dX2_tryAct_24 (by decide) ?_
      refine pm_iadd (pc := 25) dX2_tryAct_25 ?_
      refine pm_put (pc := 26) (ci := 0) (C0 := RX2) (T := TX2) (N := 9) (j := 8) (ty := .int) rfl rfl in_X2 tyX2 tyX2_ok nmX2 (by decide) wf_X2_43 rfl rfl (by decide +kernel) rfl rfl dX2_tryAct_26 ?_
      refine pm_aload_n (pc := 29) dX2_tryAct_29 rfl ?_
      refine pm_cVV (pc := 30) dX2_tryAct_30 (c_eat (s := s_awk s) (GR_awk hG).1 (gInv_awk hI)) wq_X2_eat wm_X2_103 wi_X2_eat ws_X2_eat rfl rfl ⟨Nat.le_of_ble_eq_true rfl, Nat.le_of_ble_eq_true rfl⟩ ⟨Nat.le_of_ble_eq_true rfl, Nat.le_of_ble_eq_true rfl⟩ rfl (Nat.le_of_ble_eq_true rfl) (fun I30 L30 q30 => ?_)
      obtain ⟨qx, ql⟩ := q30
      subst ql
      subst qx
      refine pm_bipush (pc := 33) (v := (-3)) dX2_tryAct_33 (by decide) ?_
      refine pm_iret (pc := 35) rfl (Nat.le_refl _) (Nat.le_refl _) dX2_tryAct_35 ?_
      have et : s_try s c = (-3, s_wake s) := by unfold s_try; rw [if_neg (fun z => z hc), if_pos hf]
      refine QI.r ⟨by rw [et], ?_, rfl⟩
      rw [et]
      have e1 : s_eat (s_awk s) (g_n (s_awk s)) = s_eat s (g_n s) := s_eat_awk s _
      rw [e1]
      by_cases he : s_eat s (g_n s) = 12
      · rw [if_pos he]; exact GR_wake0 hG hI he
      · rw [if_neg he]; exact GR_wake hG hI he
  · have hc : ¬ a_can s c := b1_0.mp h5
    refine pm_bipush (pc := 8) (v := (-2)) dX2_tryAct_8 (by decide) ?_
    refine pm_iret (pc := 10) rfl (Nat.le_refl _) (Nat.le_refl _) dX2_tryAct_10 ?_
    exact QI.r ⟨by unfold s_try; rw [if_pos hc], by unfold s_try; rw [if_pos hc]; exact ⟨hG, gF.rf⟩, rfl⟩
set_option maxRecDepth 100000 in
set_option maxHeartbeats 4000000 in
theorem c_add {I : pm_I} {L : pm_L} {s : gS} {k w t p : Nat} (hG : GR I 1 s) (hI : gInv s) (hn : g_n s < 12) (hk : k < 4) (hw : 1 ≤ w ∧ w ≤ 99) (ht : t < 4) (hp : p < 6) : PC 2 0 0 yX2_add cX2_add 6 (some (.int)) [.ref 1, .int (nI k), .int (nI w), .int (nI t), .int (nI p)] GG I L (QI GG (fun r I' L' => r = nI (g_n s) ∧ gX I (s_add s k w t p) I' ∧ L' = L)) := by
  have h12 := hI.n12
  have hX := GR_add0 hG hI (k := k) (w := w) (t := t)
  refine PC.of [some (.ref 1), some (.int (nI k)), some (.int (nI w)), some (.int (nI t)), some (.int (nI p)), none] (by decide) (Nat.le_of_ble_eq_true rfl) rfl (fun l P => ?_)
  refine pm_aload_n (pc := 0) dX2_add_0 rfl ?_
  refine pm_get (pc := 1) (ci := 0) (C0 := RX2) (T := TX2) (N := 9) (j := 7) rfl rfl in_X2 (by decide) wf_X2_39 rfl dX2_add_1 ?_
  rw [hG.n]
  refine pm_istore (pc := 4) dX2_add_4 (by decide) rfl ?_
  refine pm_iload (pc := 6) dX2_add_6 rfl ?_
  refine pm_if_lt (pc := 8) (tgt := 18) dX2_add_8 rfl (fun h8 => (by simp (disch := omega) only [pm_eqI, pm_ltI, pm_leI, nI_toInt, pm_t0, pm_t1, pm_tm1] at h8; omega)) (fun h8 => ?_)
  refine pm_iload (pc := 11) dX2_add_11 rfl ?_
  refine pm_bipush (pc := 13) (v := nI 12) dX2_add_13 (by decide) ?_
  refine pm_icmp_lt (pc := 15) (tgt := 21) dX2_add_15 rfl (fun h15 => ?_) (fun h15 => (by simp (disch := omega) only [pm_eqI, pm_ltI, pm_leI, nI_toInt, pm_t0, pm_t1, pm_tm1] at h15; omega))
  refine pm_aload_n (pc := 21) dX2_add_21 rfl ?_
  refine pm_iload (pc := 22) dX2_add_22 rfl ?_
  refine pm_iconst (pc := 24) (v := nI 1) dX2_add_24 (by decide) ?_
  refine pm_iadd (pc := 25) dX2_add_25 ?_
  refine pm_top (nI_add _ _) ?_
  refine pm_put (pc := 26) (ci := 0) (C0 := RX2) (T := TX2) (N := 9) (j := 7) (ty := .int) rfl rfl in_X2 tyX2 tyX2_ok nmX2 (by decide) wf_X2_39 rfl rfl (by decide +kernel) rfl rfl dX2_add_26 ?_
  refine pm_aload_n (pc := 29) dX2_add_29 rfl ?_
  refine pm_getr (pc := 30) (ci := 0) (C0 := RX2) (T := TX2) (N := 9) (j := 0) rfl rfl in_X2 (by decide) wf_X2_9 rfl dX2_add_30 ?_
  refine pm_iload (pc := 33) dX2_add_33 rfl ?_
  refine pm_iload_n (pc := 35) dX2_add_35 rfl ?_
  refine pm_iast (pc := 36) rfl (by omega) (by decide) dX2_add_36 ?_
  refine pm_aload_n (pc := 37) dX2_add_37 rfl ?_
  refine pm_getr (pc := 38) (ci := 0) (C0 := RX2) (T := TX2) (N := 9) (j := 1) rfl rfl in_X2 (by decide) wf_X2_15 rfl dX2_add_38 ?_
  refine pm_iload (pc := 41) dX2_add_41 rfl ?_
  refine pm_iload_n (pc := 43) dX2_add_43 rfl ?_
  refine pm_iast (pc := 44) rfl (by omega) (by decide) dX2_add_44 ?_
  refine pm_aload_n (pc := 45) dX2_add_45 rfl ?_
  refine pm_getr (pc := 46) (ci := 0) (C0 := RX2) (T := TX2) (N := 9) (j := 2) rfl rfl in_X2 (by decide) wf_X2_18 rfl dX2_add_46 ?_
  refine pm_iload (pc := 49) dX2_add_49 rfl ?_
  refine pm_iload_n (pc := 51) dX2_add_51 rfl ?_
  refine pm_iast (pc := 52) rfl (by omega) (by decide) dX2_add_52 ?_
  refine pm_aload_n (pc := 53) dX2_add_53 rfl ?_
  refine pm_getr (pc := 54) (ci := 0) (C0 := RX2) (T := TX2) (N := 9) (j := 3) rfl rfl in_X2 (by decide) wf_X2_21 rfl dX2_add_54 ?_
  refine pm_iload (pc := 57) dX2_add_57 rfl ?_
  refine pm_bipush (pc := 59) (v := nI 6) dX2_add_59 (by decide) ?_
  refine pm_iast (pc := 61) rfl (by omega) (by decide) dX2_add_61 ?_
  refine pm_aload_n (pc := 62) dX2_add_62 rfl ?_
  refine pm_getr (pc := 63) (ci := 0) (C0 := RX2) (T := TX2) (N := 9) (j := 4) rfl rfl in_X2 (by decide) wf_X2_24 rfl dX2_add_63 ?_
  refine pm_iload (pc := 66) dX2_add_66 rfl ?_
  refine pm_bipush (pc := 68) (v := nI 12) dX2_add_68 (by decide) ?_
  refine pm_iast (pc := 70) rfl (by omega) (by decide) dX2_add_70 ?_
  refine pm_aload_n (pc := 71) dX2_add_71 rfl ?_
  refine pm_iload (pc := 72) dX2_add_72 rfl ?_
  refine pm_iload (pc := 74) dX2_add_74 rfl ?_
  refine pm_cVV (pc := 76) dX2_add_76 (c_put (s := s_add0 s k w t) hX.1 (gInv_add0 hI hn hk hw ht) (show g_n s < g_n s + 1 by omega) (show 6 ≤ (if g_n s = g_n s then 6 else _) by rw [if_pos rfl]; exact Nat.le_refl 6) hp) wq_X2_put wm_X2_84 wi_X2_put ws_X2_put rfl rfl ⟨Nat.le_of_ble_eq_true rfl, Nat.le_of_ble_eq_true rfl⟩ ⟨Nat.le_of_ble_eq_true rfl, Nat.le_of_ble_eq_true rfl⟩ rfl (Nat.le_of_ble_eq_true rfl) (fun I76 L76 q76 => ?_)
  obtain ⟨qx, ql⟩ := q76
  subst ql
  refine pm_iload (pc := 79) dX2_add_79 rfl ?_
  refine pm_iret (pc := 81) rfl (Nat.le_refl _) (Nat.le_refl _) dX2_add_81 ?_
  exact QI.r ⟨rfl, by unfold s_add; rw [if_pos hp]; exact hX.tr qx, rfl⟩
set_option maxRecDepth 100000 in
set_option maxHeartbeats 4000000 in
theorem c_add6 {I : pm_I} {L : pm_L} {s : gS} {k w t : Nat} (hG : GR I 1 s) (hI : gInv s) (hn : g_n s < 12) (hk : k < 4) (hw : 1 ≤ w ∧ w ≤ 99) (ht : t < 4) : PC 2 0 0 yX2_add cX2_add 6 (some (.int)) [.ref 1, .int (nI k), .int (nI w), .int (nI t), .int (nI 6)] GG I L (QI GG (fun r I' L' => r = nI (g_n s) ∧ gX I (s_add s k w t 6) I' ∧ L' = L)) := by
  have h12 := hI.n12
  have hX := GR_add0 hG hI (k := k) (w := w) (t := t)
  refine PC.of [some (.ref 1), some (.int (nI k)), some (.int (nI w)), some (.int (nI t)), some (.int (nI 6)), none] (by decide) (Nat.le_of_ble_eq_true rfl) rfl (fun l P => ?_)
  refine pm_aload_n (pc := 0) dX2_add_0 rfl ?_
  refine pm_get (pc := 1) (ci := 0) (C0 := RX2) (T := TX2) (N := 9) (j := 7) rfl rfl in_X2 (by decide) wf_X2_39 rfl dX2_add_1 ?_
  rw [hG.n]
  refine pm_istore (pc := 4) dX2_add_4 (by decide) rfl ?_
  refine pm_iload (pc := 6) dX2_add_6 rfl ?_
  refine pm_if_lt (pc := 8) (tgt := 18) dX2_add_8 rfl (fun h8 => (by simp (disch := omega) only [pm_eqI, pm_ltI, pm_leI, nI_toInt, pm_t0, pm_t1, pm_tm1] at h8; omega)) (fun h8 => ?_)
  refine pm_iload (pc := 11) dX2_add_11 rfl ?_
  refine pm_bipush (pc := 13) (v := nI 12) dX2_add_13 (by decide) ?_
  refine pm_icmp_lt (pc := 15) (tgt := 21) dX2_add_15 rfl (fun h15 => ?_) (fun h15 => (by simp (disch := omega) only [pm_eqI, pm_ltI, pm_leI, nI_toInt, pm_t0, pm_t1, pm_tm1] at h15; omega))
  refine pm_aload_n (pc := 21) dX2_add_21 rfl ?_
  refine pm_iload (pc := 22) dX2_add_22 rfl ?_
  refine pm_iconst (pc := 24) (v := nI 1) dX2_add_24 (by decide) ?_
  refine pm_iadd (pc := 25) dX2_add_25 ?_
  refine pm_top (nI_add _ _) ?_
  refine pm_put (pc := 26) (ci := 0) (C0 := RX2) (T := TX2) (N := 9) (j := 7) (ty := .int) rfl rfl in_X2 tyX2 tyX2_ok nmX2 (by decide) wf_X2_39 rfl rfl (by decide +kernel) rfl rfl dX2_add_26 ?_
  refine pm_aload_n (pc := 29) dX2_add_29 rfl ?_
  refine pm_getr (pc := 30) (ci := 0) (C0 := RX2) (T := TX2) (N := 9) (j := 0) rfl rfl in_X2 (by decide) wf_X2_9 rfl dX2_add_30 ?_
  refine pm_iload (pc := 33) dX2_add_33 rfl ?_
  refine pm_iload_n (pc := 35) dX2_add_35 rfl ?_
  refine pm_iast (pc := 36) rfl (by omega) (by decide) dX2_add_36 ?_
  refine pm_aload_n (pc := 37) dX2_add_37 rfl ?_
  refine pm_getr (pc := 38) (ci := 0) (C0 := RX2) (T := TX2) (N := 9) (j := 1) rfl rfl in_X2 (by decide) wf_X2_15 rfl dX2_add_38 ?_
  refine pm_iload (pc := 41) dX2_add_41 rfl ?_
  refine pm_iload_n (pc := 43) dX2_add_43 rfl ?_
  refine pm_iast (pc := 44) rfl (by omega) (by decide) dX2_add_44 ?_
  refine pm_aload_n (pc := 45) dX2_add_45 rfl ?_
  refine pm_getr (pc := 46) (ci := 0) (C0 := RX2) (T := TX2) (N := 9) (j := 2) rfl rfl in_X2 (by decide) wf_X2_18 rfl dX2_add_46 ?_
  refine pm_iload (pc := 49) dX2_add_49 rfl ?_
  refine pm_iload_n (pc := 51) dX2_add_51 rfl ?_
  refine pm_iast (pc := 52) rfl (by omega) (by decide) dX2_add_52 ?_
  refine pm_aload_n (pc := 53) dX2_add_53 rfl ?_
  refine pm_getr (pc := 54) (ci := 0) (C0 := RX2) (T := TX2) (N := 9) (j := 3) rfl rfl in_X2 (by decide) wf_X2_21 rfl dX2_add_54 ?_
  refine pm_iload (pc := 57) dX2_add_57 rfl ?_
  refine pm_bipush (pc := 59) (v := nI 6) dX2_add_59 (by decide) ?_
  refine pm_iast (pc := 61) rfl (by omega) (by decide) dX2_add_61 ?_
  refine pm_aload_n (pc := 62) dX2_add_62 rfl ?_
  refine pm_getr (pc := 63) (ci := 0) (C0 := RX2) (T := TX2) (N := 9) (j := 4) rfl rfl in_X2 (by decide) wf_X2_24 rfl dX2_add_63 ?_
  refine pm_iload (pc := 66) dX2_add_66 rfl ?_
  refine pm_bipush (pc := 68) (v := nI 12) dX2_add_68 (by decide) ?_
  refine pm_iast (pc := 70) rfl (by omega) (by decide) dX2_add_70 ?_
  refine pm_aload_n (pc := 71) dX2_add_71 rfl ?_
  refine pm_iload (pc := 72) dX2_add_72 rfl ?_
  refine pm_iload (pc := 74) dX2_add_74 rfl ?_
  refine pm_cVV (pc := 76) dX2_add_76 (c_putN (s := s_add0 s k w t) hX.1 (gInv_add0 hI hn hk hw ht) (show g_n s < g_n s + 1 by omega)) wq_X2_put wm_X2_84 wi_X2_put ws_X2_put rfl rfl ⟨Nat.le_of_ble_eq_true rfl, Nat.le_of_ble_eq_true rfl⟩ ⟨Nat.le_of_ble_eq_true rfl, Nat.le_of_ble_eq_true rfl⟩ rfl (Nat.le_of_ble_eq_true rfl) (fun I76 L76 q76 => ?_)
  obtain ⟨qx, ql⟩ := q76
  subst ql
  subst qx
  refine pm_iload (pc := 79) dX2_add_79 rfl ?_
  refine pm_iret (pc := 81) rfl (Nat.le_refl _) (Nat.le_refl _) dX2_add_81 ?_
  exact QI.r ⟨rfl, by unfold s_add; rw [if_neg (by decide)]; exact hX, rfl⟩
set_option maxRecDepth 100000 in
set_option maxHeartbeats 4000000 in
theorem c_addF {I : pm_I} {L : pm_L} {s : gS} {k w t p : Int32} (hG : GR I 1 s) (hn : g_n s = 12) : PC 2 0 0 yX2_add cX2_add 6 (some (.int)) [.ref 1, .int k, .int w, .int t, .int p] GG I L (QR GG I L (-3)) := by
  refine PC.of [some (.ref 1), some (.int k), some (.int w), some (.int t), some (.int p), none] (by decide) (Nat.le_of_ble_eq_true rfl) rfl (fun l P => ?_)
  refine pm_aload_n (pc := 0) dX2_add_0 rfl ?_
  refine pm_get (pc := 1) (ci := 0) (C0 := RX2) (T := TX2) (N := 9) (j := 7) rfl rfl in_X2 (by decide) wf_X2_39 rfl dX2_add_1 ?_
  rw [hG.n, hn]
  refine pm_istore (pc := 4) dX2_add_4 (by decide) rfl ?_
  refine pm_iload (pc := 6) dX2_add_6 rfl ?_
  refine pm_if_lt (pc := 8) (tgt := 18) dX2_add_8 rfl (fun h8 => (by simp (disch := omega) only [pm_eqI, pm_ltI, pm_leI, nI_toInt, pm_t0, pm_t1, pm_tm1] at h8; omega)) (fun h8 => ?_)
  refine pm_iload (pc := 11) dX2_add_11 rfl ?_
  refine pm_bipush (pc := 13) (v := nI 12) dX2_add_13 (by decide) ?_
  refine pm_icmp_lt (pc := 15) (tgt := 21) dX2_add_15 rfl (fun h15 => (by simp (disch := omega) only [pm_eqI, pm_ltI, pm_leI, nI_toInt, pm_t0, pm_t1, pm_tm1] at h15; omega)) (fun h15 => ?_)
  refine pm_bipush (pc := 18) (v := (-3)) dX2_add_18 (by decide) ?_
  refine pm_iret (pc := 20) rfl (Nat.le_refl _) (Nat.le_refl _) dX2_add_20 ?_
  exact QR.r rfl
set_option maxRecDepth 100000 in
set_option maxHeartbeats 4000000 in
theorem c_clearPieces {I : pm_I} {L : pm_L} {s : gS} (hG : GR I 1 s) (hI : gInv s) : PC 1 0 0 yX2_clearPieces cX2_clearPieces 1 none [.ref 1] GG I L (QV GG (fun I' L' => gX I (s_clear s) I' ∧ L' = L)) := by
  refine PC.of [some (.ref 1)] (by decide) (Nat.le_of_ble_eq_true rfl) rfl (fun l P => ?_)
  refine pm_aload_n (pc := 0) dX2_clearPieces_0 rfl ?_
  refine pm_iconst (pc := 1) (v := nI 0) dX2_clearPieces_1 (by decide) ?_
  refine pm_put (pc := 2) (ci := 0) (C0 := RX2) (T := TX2) (N := 9) (j := 7) (ty := .int) rfl rfl in_X2 tyX2 tyX2_ok nmX2 (by decide) wf_X2_39 rfl rfl (by decide +kernel) rfl rfl dX2_clearPieces_2 ?_
  refine pm_aload_n (pc := 5) dX2_clearPieces_5 rfl ?_
  refine pm_getr (pc := 6) (ci := 0) (C0 := RX2) (T := TX2) (N := 9) (j := 5) rfl rfl in_X2 (by decide) wf_X2_27 rfl dX2_clearPieces_6 ?_
  refine pm_bipush (pc := 9) (v := nI 12) dX2_clearPieces_9 (by decide) ?_
  refine pm_cSV (pc := 11) dX2_clearPieces_11 (c_fill (N := 6) rfl (by decide)) wq_J7_fill_53178 wm_X2_33 wt_J7_fill_53178 ⟨Nat.le_of_ble_eq_true rfl, Nat.le_of_ble_eq_true rfl⟩ ⟨Nat.le_of_ble_eq_true rfl, Nat.le_of_ble_eq_true rfl⟩ rfl (Nat.le_of_ble_eq_true rfl) (fun I11 L11 q11 => ?_)
  obtain ⟨qx, ql⟩ := q11
  subst ql
  subst qx
  refine pm_vret (pc := 14) rfl (Nat.le_refl _) (Nat.le_refl _) dX2_clearPieces_14 ?_
  refine QV.r ⟨⟨⟨rfl, hG.aw, fun j hj => absurd hj (Nat.not_lt_zero j), fun q hq => ⟨?_, hG.sn hq⟩⟩, (gF.rf.u ⟨by decide, by decide⟩ _).u ⟨by decide, by decide⟩ _⟩, rfl⟩
  show (if q < 6 then nI 12 else _) = nI 12
  rw [if_pos hq]
set_option maxRecDepth 100000 in
set_option maxHeartbeats 4000000 in
theorem c_becomeFine {I : pm_I} {L : pm_L} {s : gS} {p v : Nat} (hG : GR I 1 s) (hp : p < 6) : PC 1 0 0 yX2_becomeFine cX2_becomeFine 3 none [.ref 1, .int (nI p), .int (nI v)] GG I L (QV GG (fun I' L' => gX I (s_sense s p v) I' ∧ L' = L)) := by
  refine PC.of [some (.ref 1), some (.int (nI p)), some (.int (nI v))] (by decide) (Nat.le_of_ble_eq_true rfl) rfl (fun l P => ?_)
  refine pm_iload_n (pc := 0) dX2_becomeFine_0 rfl ?_
  refine pm_cSNR (hst := RX9) (pc := 1) dX2_becomeFine_1 (c_isPlace) wq_X9_isPlace (by decide +kernel) wt_X9_isPlace ⟨Nat.le_of_ble_eq_true rfl, Nat.le_of_ble_eq_true rfl⟩ ⟨Nat.le_of_ble_eq_true rfl, Nat.le_of_ble_eq_true rfl⟩ rfl (Nat.le_of_ble_eq_true rfl) ?_
  refine pm_if_eq (pc := 4) (tgt := 14) dX2_becomeFine_4 rfl (fun h4 => (b1_0.mp h4 ⟨by simp (disch := omega) only [pm_leI, nI_toInt, pm_t0]; omega, by simp (disch := omega) only [pm_ltI, nI_toInt]; omega⟩).elim) (fun h4 => ?_)
  refine pm_aload_n (pc := 7) dX2_becomeFine_7 rfl ?_
  refine pm_getr (pc := 8) (ci := 0) (C0 := RX2) (T := TX2) (N := 9) (j := 6) rfl rfl in_X2 (by decide) wf_X2_30 rfl dX2_becomeFine_8 ?_
  refine pm_iload_n (pc := 11) dX2_becomeFine_11 rfl ?_
  refine pm_iload_n (pc := 12) dX2_becomeFine_12 rfl ?_
  refine pm_iast (pc := 13) rfl (by omega) (by decide) dX2_becomeFine_13 ?_
  refine pm_vret (pc := 14) rfl (Nat.le_refl _) (Nat.le_refl _) dX2_becomeFine_14 ?_
  exact QV.r ⟨GR_sense hG, rfl⟩
theorem pm_cp {α : Type} {f g : Nat → α} {N j : Nat} (hj : j < N) (hN : N < 2 ^ 31) : va_cpy f g (nI 0).toNatClampNeg (nI 0).toNatClampNeg (nI N).toNatClampNeg j = f j := by
  rw [nI_clamp (by decide), nI_clamp hN]
  show (if 0 ≤ j ∧ j < 0 + N then f (0 + (j - 0)) else g j) = f j
  rw [if_pos ⟨by omega, by omega⟩]
  congr 1; omega
set_option maxRecDepth 100000 in
set_option maxHeartbeats 4000000 in
theorem c_likeG {I : pm_I} {L : pm_L} {s : gS} (hG : GR I 9 s) (hI : gInv s) : PC 1 0 0 yX2_becomeLike cX2_becomeLike 2 none [.ref 1, .ref 9] GG I L (QV GG (fun I' L' => GR I' 1 s ∧ (∀ a, a < 1 ∨ 9 ≤ a → I' a = I a) ∧ L' = L)) := by
  have h12 := hI.n12
  refine PC.of [some (.ref 1), some (.ref 9)] (by decide) (Nat.le_of_ble_eq_true rfl) rfl (fun l P => ?_)
  refine pm_aload_n (pc := 0) dX2_becomeLike_0 rfl ?_
  refine pm_getr (pc := 1) (ci := 0) (C0 := RX2) (T := TX2) (N := 9) (j := 0) rfl rfl in_X2 (by decide) wf_X2_9 rfl dX2_becomeLike_1 ?_
  refine pm_iconst (pc := 4) (v := nI 0) dX2_becomeLike_4 (by decide) ?_
  refine pm_aload_n (pc := 5) dX2_becomeLike_5 rfl ?_
  refine pm_getr (pc := 6) (ci := 0) (C0 := RX2) (T := TX2) (N := 9) (j := 0) rfl rfl in_X2 (by decide) wf_X2_9 rfl dX2_becomeLike_6 ?_
  refine pm_iconst (pc := 9) (v := nI 0) dX2_becomeLike_9 (by decide) ?_
  refine pm_bipush (pc := 10) (v := nI 12) dX2_becomeLike_10 (by decide) ?_
  refine pm_copyi (pc := 12) wm_X2_88 wna wta wz_sys rfl rfl (by decide) (by decide) (by decide) (by decide) (by decide) ⟨Nat.le_of_ble_eq_true rfl, Nat.le_of_ble_eq_true rfl⟩ (Nat.le_of_ble_eq_true rfl) dX2_becomeLike_12 ?_
  refine pm_aload_n (pc := 15) dX2_becomeLike_15 rfl ?_
  refine pm_getr (pc := 16) (ci := 0) (C0 := RX2) (T := TX2) (N := 9) (j := 1) rfl rfl in_X2 (by decide) wf_X2_15 rfl dX2_becomeLike_16 ?_
  refine pm_iconst (pc := 19) (v := nI 0) dX2_becomeLike_19 (by decide) ?_
  refine pm_aload_n (pc := 20) dX2_becomeLike_20 rfl ?_
  refine pm_getr (pc := 21) (ci := 0) (C0 := RX2) (T := TX2) (N := 9) (j := 1) rfl rfl in_X2 (by decide) wf_X2_15 rfl dX2_becomeLike_21 ?_
  refine pm_iconst (pc := 24) (v := nI 0) dX2_becomeLike_24 (by decide) ?_
  refine pm_bipush (pc := 25) (v := nI 12) dX2_becomeLike_25 (by decide) ?_
  refine pm_copyi (pc := 27) wm_X2_88 wna wta wz_sys rfl rfl (by decide) (by decide) (by decide) (by decide) (by decide) ⟨Nat.le_of_ble_eq_true rfl, Nat.le_of_ble_eq_true rfl⟩ (Nat.le_of_ble_eq_true rfl) dX2_becomeLike_27 ?_
  refine pm_aload_n (pc := 30) dX2_becomeLike_30 rfl ?_
  refine pm_getr (pc := 31) (ci := 0) (C0 := RX2) (T := TX2) (N := 9) (j := 2) rfl rfl in_X2 (by decide) wf_X2_18 rfl dX2_becomeLike_31 ?_
  refine pm_iconst (pc := 34) (v := nI 0) dX2_becomeLike_34 (by decide) ?_
  refine pm_aload_n (pc := 35) dX2_becomeLike_35 rfl ?_
  refine pm_getr (pc := 36) (ci := 0) (C0 := RX2) (T := TX2) (N := 9) (j := 2) rfl rfl in_X2 (by decide) wf_X2_18 rfl dX2_becomeLike_36 ?_
  refine pm_iconst (pc := 39) (v := nI 0) dX2_becomeLike_39 (by decide) ?_
  refine pm_bipush (pc := 40) (v := nI 12) dX2_becomeLike_40 (by decide) ?_
  refine pm_copyi (pc := 42) wm_X2_88 wna wta wz_sys rfl rfl (by decide) (by decide) (by decide) (by decide) (by decide) ⟨Nat.le_of_ble_eq_true rfl, Nat.le_of_ble_eq_true rfl⟩ (Nat.le_of_ble_eq_true rfl) dX2_becomeLike_42 ?_
  refine pm_aload_n (pc := 45) dX2_becomeLike_45 rfl ?_
  refine pm_getr (pc := 46) (ci := 0) (C0 := RX2) (T := TX2) (N := 9) (j := 3) rfl rfl in_X2 (by decide) wf_X2_21 rfl dX2_becomeLike_46 ?_
  refine pm_iconst (pc := 49) (v := nI 0) dX2_becomeLike_49 (by decide) ?_
  refine pm_aload_n (pc := 50) dX2_becomeLike_50 rfl ?_
  refine pm_getr (pc := 51) (ci := 0) (C0 := RX2) (T := TX2) (N := 9) (j := 3) rfl rfl in_X2 (by decide) wf_X2_21 rfl dX2_becomeLike_51 ?_
  refine pm_iconst (pc := 54) (v := nI 0) dX2_becomeLike_54 (by decide) ?_
  refine pm_bipush (pc := 55) (v := nI 12) dX2_becomeLike_55 (by decide) ?_
  refine pm_copyi (pc := 57) wm_X2_88 wna wta wz_sys rfl rfl (by decide) (by decide) (by decide) (by decide) (by decide) ⟨Nat.le_of_ble_eq_true rfl, Nat.le_of_ble_eq_true rfl⟩ (Nat.le_of_ble_eq_true rfl) dX2_becomeLike_57 ?_
  refine pm_aload_n (pc := 60) dX2_becomeLike_60 rfl ?_
  refine pm_getr (pc := 61) (ci := 0) (C0 := RX2) (T := TX2) (N := 9) (j := 4) rfl rfl in_X2 (by decide) wf_X2_24 rfl dX2_becomeLike_61 ?_
  refine pm_iconst (pc := 64) (v := nI 0) dX2_becomeLike_64 (by decide) ?_
  refine pm_aload_n (pc := 65) dX2_becomeLike_65 rfl ?_
  refine pm_getr (pc := 66) (ci := 0) (C0 := RX2) (T := TX2) (N := 9) (j := 4) rfl rfl in_X2 (by decide) wf_X2_24 rfl dX2_becomeLike_66 ?_
  refine pm_iconst (pc := 69) (v := nI 0) dX2_becomeLike_69 (by decide) ?_
  refine pm_bipush (pc := 70) (v := nI 12) dX2_becomeLike_70 (by decide) ?_
  refine pm_copyi (pc := 72) wm_X2_88 wna wta wz_sys rfl rfl (by decide) (by decide) (by decide) (by decide) (by decide) ⟨Nat.le_of_ble_eq_true rfl, Nat.le_of_ble_eq_true rfl⟩ (Nat.le_of_ble_eq_true rfl) dX2_becomeLike_72 ?_
  refine pm_aload_n (pc := 75) dX2_becomeLike_75 rfl ?_
  refine pm_getr (pc := 76) (ci := 0) (C0 := RX2) (T := TX2) (N := 9) (j := 5) rfl rfl in_X2 (by decide) wf_X2_27 rfl dX2_becomeLike_76 ?_
  refine pm_iconst (pc := 79) (v := nI 0) dX2_becomeLike_79 (by decide) ?_
  refine pm_aload_n (pc := 80) dX2_becomeLike_80 rfl ?_
  refine pm_getr (pc := 81) (ci := 0) (C0 := RX2) (T := TX2) (N := 9) (j := 5) rfl rfl in_X2 (by decide) wf_X2_27 rfl dX2_becomeLike_81 ?_
  refine pm_iconst (pc := 84) (v := nI 0) dX2_becomeLike_84 (by decide) ?_
  refine pm_bipush (pc := 85) (v := nI 6) dX2_becomeLike_85 (by decide) ?_
  refine pm_copyi (pc := 87) wm_X2_88 wna wta wz_sys rfl rfl (by decide) (by decide) (by decide) (by decide) (by decide) ⟨Nat.le_of_ble_eq_true rfl, Nat.le_of_ble_eq_true rfl⟩ (Nat.le_of_ble_eq_true rfl) dX2_becomeLike_87 ?_
  refine pm_aload_n (pc := 90) dX2_becomeLike_90 rfl ?_
  refine pm_getr (pc := 91) (ci := 0) (C0 := RX2) (T := TX2) (N := 9) (j := 6) rfl rfl in_X2 (by decide) wf_X2_30 rfl dX2_becomeLike_91 ?_
  refine pm_iconst (pc := 94) (v := nI 0) dX2_becomeLike_94 (by decide) ?_
  refine pm_aload_n (pc := 95) dX2_becomeLike_95 rfl ?_
  refine pm_getr (pc := 96) (ci := 0) (C0 := RX2) (T := TX2) (N := 9) (j := 6) rfl rfl in_X2 (by decide) wf_X2_30 rfl dX2_becomeLike_96 ?_
  refine pm_iconst (pc := 99) (v := nI 0) dX2_becomeLike_99 (by decide) ?_
  refine pm_bipush (pc := 100) (v := nI 6) dX2_becomeLike_100 (by decide) ?_
  refine pm_copyi (pc := 102) wm_X2_88 wna wta wz_sys rfl rfl (by decide) (by decide) (by decide) (by decide) (by decide) ⟨Nat.le_of_ble_eq_true rfl, Nat.le_of_ble_eq_true rfl⟩ (Nat.le_of_ble_eq_true rfl) dX2_becomeLike_102 ?_
  refine pm_aload_n (pc := 105) dX2_becomeLike_105 rfl ?_
  refine pm_aload_n (pc := 106) dX2_becomeLike_106 rfl ?_
  refine pm_get (pc := 107) (ci := 0) (C0 := RX2) (T := TX2) (N := 9) (j := 7) rfl rfl in_X2 (by decide) wf_X2_39 rfl dX2_becomeLike_107 ?_
  refine pm_put (pc := 110) (ci := 0) (C0 := RX2) (T := TX2) (N := 9) (j := 7) (ty := .int) rfl rfl in_X2 tyX2 tyX2_ok nmX2 (by decide) wf_X2_39 rfl rfl (by decide +kernel) rfl rfl dX2_becomeLike_110 ?_
  refine pm_aload_n (pc := 113) dX2_becomeLike_113 rfl ?_
  refine pm_aload_n (pc := 114) dX2_becomeLike_114 rfl ?_
  refine pm_get (pc := 115) (ci := 0) (C0 := RX2) (T := TX2) (N := 9) (j := 8) rfl rfl in_X2 (by decide) wf_X2_43 rfl dX2_becomeLike_115 ?_
  refine pm_put (pc := 118) (ci := 0) (C0 := RX2) (T := TX2) (N := 9) (j := 8) (ty := .int) rfl rfl in_X2 tyX2 tyX2_ok nmX2 (by decide) wf_X2_43 rfl rfl (by decide +kernel) rfl rfl dX2_becomeLike_118 ?_
  refine pm_vret (pc := 121) rfl (Nat.le_refl _) (Nat.le_refl _) dX2_becomeLike_121 ?_
  refine QV.r ⟨⟨hG.1, hG.2.1, fun j hj => ⟨(pm_cp (by omega) (by decide)).trans (hG.2.2.1 j hj).1, (pm_cp (by omega) (by decide)).trans (hG.2.2.1 j hj).2.1, (pm_cp (by omega) (by decide)).trans (hG.2.2.1 j hj).2.2.1, (pm_cp (by omega) (by decide)).trans (hG.2.2.1 j hj).2.2.2⟩, fun p hp => ⟨?_, (pm_cp hp (by decide)).trans (hG.2.2.2 p hp).2⟩⟩, fun a ha => ?_, rfl⟩
  · show gCh (va_cpy (I 14) (I 6) _ _ _) (g_st s p) (va_cpy (I 15) (I 7) _ _ _ p)
    rw [pm_cp hp (by decide)]
    exact gCh_congr (b := I 14) (fun x hx => pm_cp (by have := ((hI.mem hp).mp hx).1; omega) (by decide)) (hG.2.2.2 p hp).1
  · simp only [pm_u]
    repeat rw [if_neg (by omega)]
set_option maxRecDepth 100000 in
set_option maxHeartbeats 4000000 in
theorem c_likeK {I : pm_I} {L : pm_L} {s : gS} (hG : GR I 1 s) (hI : gInv s) : PC 1 0 0 yX2_becomeLike cX2_becomeLike 2 none [.ref 9, .ref 1] GG I L (QV GG (fun I' L' => GR I' 9 s ∧ (∀ a, a < 9 ∨ 17 ≤ a → I' a = I a) ∧ L' = L)) := by
  have h12 := hI.n12
  refine PC.of [some (.ref 9), some (.ref 1)] (by decide) (Nat.le_of_ble_eq_true rfl) rfl (fun l P => ?_)
  refine pm_aload_n (pc := 0) dX2_becomeLike_0 rfl ?_
  refine pm_getr (pc := 1) (ci := 0) (C0 := RX2) (T := TX2) (N := 9) (j := 0) rfl rfl in_X2 (by decide) wf_X2_9 rfl dX2_becomeLike_1 ?_
  refine pm_iconst (pc := 4) (v := nI 0) dX2_becomeLike_4 (by decide) ?_
  refine pm_aload_n (pc := 5) dX2_becomeLike_5 rfl ?_
  refine pm_getr (pc := 6) (ci := 0) (C0 := RX2) (T := TX2) (N := 9) (j := 0) rfl rfl in_X2 (by decide) wf_X2_9 rfl dX2_becomeLike_6 ?_
  refine pm_iconst (pc := 9) (v := nI 0) dX2_becomeLike_9 (by decide) ?_
  refine pm_bipush (pc := 10) (v := nI 12) dX2_becomeLike_10 (by decide) ?_
  refine pm_copyi (pc := 12) wm_X2_88 wna wta wz_sys rfl rfl (by decide) (by decide) (by decide) (by decide) (by decide) ⟨Nat.le_of_ble_eq_true rfl, Nat.le_of_ble_eq_true rfl⟩ (Nat.le_of_ble_eq_true rfl) dX2_becomeLike_12 ?_
  refine pm_aload_n (pc := 15) dX2_becomeLike_15 rfl ?_
  refine pm_getr (pc := 16) (ci := 0) (C0 := RX2) (T := TX2) (N := 9) (j := 1) rfl rfl in_X2 (by decide) wf_X2_15 rfl dX2_becomeLike_16 ?_
  refine pm_iconst (pc := 19) (v := nI 0) dX2_becomeLike_19 (by decide) ?_
  refine pm_aload_n (pc := 20) dX2_becomeLike_20 rfl ?_
  refine pm_getr (pc := 21) (ci := 0) (C0 := RX2) (T := TX2) (N := 9) (j := 1) rfl rfl in_X2 (by decide) wf_X2_15 rfl dX2_becomeLike_21 ?_
  refine pm_iconst (pc := 24) (v := nI 0) dX2_becomeLike_24 (by decide) ?_
  refine pm_bipush (pc := 25) (v := nI 12) dX2_becomeLike_25 (by decide) ?_
  refine pm_copyi (pc := 27) wm_X2_88 wna wta wz_sys rfl rfl (by decide) (by decide) (by decide) (by decide) (by decide) ⟨Nat.le_of_ble_eq_true rfl, Nat.le_of_ble_eq_true rfl⟩ (Nat.le_of_ble_eq_true rfl) dX2_becomeLike_27 ?_
  refine pm_aload_n (pc := 30) dX2_becomeLike_30 rfl ?_
  refine pm_getr (pc := 31) (ci := 0) (C0 := RX2) (T := TX2) (N := 9) (j := 2) rfl rfl in_X2 (by decide) wf_X2_18 rfl dX2_becomeLike_31 ?_
  refine pm_iconst (pc := 34) (v := nI 0) dX2_becomeLike_34 (by decide) ?_
  refine pm_aload_n (pc := 35) dX2_becomeLike_35 rfl ?_
  refine pm_getr (pc := 36) (ci := 0) (C0 := RX2) (T := TX2) (N := 9) (j := 2) rfl rfl in_X2 (by decide) wf_X2_18 rfl dX2_becomeLike_36 ?_
  refine pm_iconst (pc := 39) (v := nI 0) dX2_becomeLike_39 (by decide) ?_
  refine pm_bipush (pc := 40) (v := nI 12) dX2_becomeLike_40 (by decide) ?_
  refine pm_copyi (pc := 42) wm_X2_88 wna wta wz_sys rfl rfl (by decide) (by decide) (by decide) (by decide) (by decide) ⟨Nat.le_of_ble_eq_true rfl, Nat.le_of_ble_eq_true rfl⟩ (Nat.le_of_ble_eq_true rfl) dX2_becomeLike_42 ?_
  refine pm_aload_n (pc := 45) dX2_becomeLike_45 rfl ?_
  refine pm_getr (pc := 46) (ci := 0) (C0 := RX2) (T := TX2) (N := 9) (j := 3) rfl rfl in_X2 (by decide) wf_X2_21 rfl dX2_becomeLike_46 ?_
  refine pm_iconst (pc := 49) (v := nI 0) dX2_becomeLike_49 (by decide) ?_
  refine pm_aload_n (pc := 50) dX2_becomeLike_50 rfl ?_
  refine pm_getr (pc := 51) (ci := 0) (C0 := RX2) (T := TX2) (N := 9) (j := 3) rfl rfl in_X2 (by decide) wf_X2_21 rfl dX2_becomeLike_51 ?_
  refine pm_iconst (pc := 54) (v := nI 0) dX2_becomeLike_54 (by decide) ?_
  refine pm_bipush (pc := 55) (v := nI 12) dX2_becomeLike_55 (by decide) ?_
  refine pm_copyi (pc := 57) wm_X2_88 wna wta wz_sys rfl rfl (by decide) (by decide) (by decide) (by decide) (by decide) ⟨Nat.le_of_ble_eq_true rfl, Nat.le_of_ble_eq_true rfl⟩ (Nat.le_of_ble_eq_true rfl) dX2_becomeLike_57 ?_
  refine pm_aload_n (pc := 60) dX2_becomeLike_60 rfl ?_
  refine pm_getr (pc := 61) (ci := 0) (C0 := RX2) (T := TX2) (N := 9) (j := 4) rfl rfl in_X2 (by decide) wf_X2_24 rfl dX2_becomeLike_61 ?_
  refine pm_iconst (pc := 64) (v := nI 0) dX2_becomeLike_64 (by decide) ?_
  refine pm_aload_n (pc := 65) dX2_becomeLike_65 rfl ?_
  refine pm_getr (pc := 66) (ci := 0) (C0 := RX2) (T := TX2) (N := 9) (j := 4) rfl rfl in_X2 (by decide) wf_X2_24 rfl dX2_becomeLike_66 ?_
  refine pm_iconst (pc := 69) (v := nI 0) dX2_becomeLike_69 (by decide) ?_
  refine pm_bipush (pc := 70) (v := nI 12) dX2_becomeLike_70 (by decide) ?_
  refine pm_copyi (pc := 72) wm_X2_88 wna wta wz_sys rfl rfl (by decide) (by decide) (by decide) (by decide) (by decide) ⟨Nat.le_of_ble_eq_true rfl, Nat.le_of_ble_eq_true rfl⟩ (Nat.le_of_ble_eq_true rfl) dX2_becomeLike_72 ?_
  refine pm_aload_n (pc := 75) dX2_becomeLike_75 rfl ?_
  refine pm_getr (pc := 76) (ci := 0) (C0 := RX2) (T := TX2) (N := 9) (j := 5) rfl rfl in_X2 (by decide) wf_X2_27 rfl dX2_becomeLike_76 ?_
  refine pm_iconst (pc := 79) (v := nI 0) dX2_becomeLike_79 (by decide) ?_
  refine pm_aload_n (pc := 80) dX2_becomeLike_80 rfl ?_
  refine pm_getr (pc := 81) (ci := 0) (C0 := RX2) (T := TX2) (N := 9) (j := 5) rfl rfl in_X2 (by decide) wf_X2_27 rfl dX2_becomeLike_81 ?_
  refine pm_iconst (pc := 84) (v := nI 0) dX2_becomeLike_84 (by decide) ?_
  refine pm_bipush (pc := 85) (v := nI 6) dX2_becomeLike_85 (by decide) ?_
  refine pm_copyi (pc := 87) wm_X2_88 wna wta wz_sys rfl rfl (by decide) (by decide) (by decide) (by decide) (by decide) ⟨Nat.le_of_ble_eq_true rfl, Nat.le_of_ble_eq_true rfl⟩ (Nat.le_of_ble_eq_true rfl) dX2_becomeLike_87 ?_
  refine pm_aload_n (pc := 90) dX2_becomeLike_90 rfl ?_
  refine pm_getr (pc := 91) (ci := 0) (C0 := RX2) (T := TX2) (N := 9) (j := 6) rfl rfl in_X2 (by decide) wf_X2_30 rfl dX2_becomeLike_91 ?_
  refine pm_iconst (pc := 94) (v := nI 0) dX2_becomeLike_94 (by decide) ?_
  refine pm_aload_n (pc := 95) dX2_becomeLike_95 rfl ?_
  refine pm_getr (pc := 96) (ci := 0) (C0 := RX2) (T := TX2) (N := 9) (j := 6) rfl rfl in_X2 (by decide) wf_X2_30 rfl dX2_becomeLike_96 ?_
  refine pm_iconst (pc := 99) (v := nI 0) dX2_becomeLike_99 (by decide) ?_
  refine pm_bipush (pc := 100) (v := nI 6) dX2_becomeLike_100 (by decide) ?_
  refine pm_copyi (pc := 102) wm_X2_88 wna wta wz_sys rfl rfl (by decide) (by decide) (by decide) (by decide) (by decide) ⟨Nat.le_of_ble_eq_true rfl, Nat.le_of_ble_eq_true rfl⟩ (Nat.le_of_ble_eq_true rfl) dX2_becomeLike_102 ?_
  refine pm_aload_n (pc := 105) dX2_becomeLike_105 rfl ?_
  refine pm_aload_n (pc := 106) dX2_becomeLike_106 rfl ?_
  refine pm_get (pc := 107) (ci := 0) (C0 := RX2) (T := TX2) (N := 9) (j := 7) rfl rfl in_X2 (by decide) wf_X2_39 rfl dX2_becomeLike_107 ?_
  refine pm_put (pc := 110) (ci := 0) (C0 := RX2) (T := TX2) (N := 9) (j := 7) (ty := .int) rfl rfl in_X2 tyX2 tyX2_ok nmX2 (by decide) wf_X2_39 rfl rfl (by decide +kernel) rfl rfl dX2_becomeLike_110 ?_
  refine pm_aload_n (pc := 113) dX2_becomeLike_113 rfl ?_
  refine pm_aload_n (pc := 114) dX2_becomeLike_114 rfl ?_
  refine pm_get (pc := 115) (ci := 0) (C0 := RX2) (T := TX2) (N := 9) (j := 8) rfl rfl in_X2 (by decide) wf_X2_43 rfl dX2_becomeLike_115 ?_
  refine pm_put (pc := 118) (ci := 0) (C0 := RX2) (T := TX2) (N := 9) (j := 8) (ty := .int) rfl rfl in_X2 tyX2 tyX2_ok nmX2 (by decide) wf_X2_43 rfl rfl (by decide +kernel) rfl rfl dX2_becomeLike_118 ?_
  refine pm_vret (pc := 121) rfl (Nat.le_refl _) (Nat.le_refl _) dX2_becomeLike_121 ?_
  refine QV.r ⟨⟨hG.1, hG.2.1, fun j hj => ⟨(pm_cp (by omega) (by decide)).trans (hG.2.2.1 j hj).1, (pm_cp (by omega) (by decide)).trans (hG.2.2.1 j hj).2.1, (pm_cp (by omega) (by decide)).trans (hG.2.2.1 j hj).2.2.1, (pm_cp (by omega) (by decide)).trans (hG.2.2.1 j hj).2.2.2⟩, fun p hp => ⟨?_, (pm_cp hp (by decide)).trans (hG.2.2.2 p hp).2⟩⟩, fun a ha => ?_, rfl⟩
  · show gCh (va_cpy (I 6) (I 14) _ _ _) (g_st s p) (va_cpy (I 7) (I 15) _ _ _ p)
    rw [pm_cp hp (by decide)]
    exact gCh_congr (b := I 6) (fun x hx => pm_cp (by have := ((hI.mem hp).mp hx).1; omega) (by decide)) (hG.2.2.2 p hp).1
  · simp only [pm_u]
    repeat rw [if_neg (by omega)]
theorem l_turned {p n : Nat} (h12 : n ≤ 12) : ∀ (q dn : List Nat) (k : Nat) (t ov : Int32) (I : pm_I), I 1 7 = nI n → gCh (I 6) q t → gCh (I 6) dn ov → (q.reverse ++ dn).Nodup → (∀ x, x ∈ q → x < n) → q.length + k ≤ 12 → ∀ {l : Launch} {P : pm_E} {L : pm_L} {Q : pm_QT}, (∀ (r : Int32) (I' : pm_I), gCh (I' 6) (q.reverse ++ dn) r → (∀ x, x ∉ q.reverse ++ dn → I' 6 x = I 6 x) → (∀ a, a ≠ 6 → I' a = I a) → Q (some (.int r)) GG I' L) → PW l P yX2_turned cX2_turned 6 (some (.int)) (pm_rm 2 0 0) (pm_Tg P Q 0 0) 0 0 12 [some (.ref 1), some (.int (nI p)), some (.int ov), some (.int t), some (.int (nI k)), none] [] GG I L
  | [], dn, k, t, ov, I, hn, hc, hd, hnd, hb, hk, l, P, L, Q, hQ => by
    have ht : t = nI 12 := hc
    subst ht
    have hk0 : k ≤ 12 := by simpa using hk
    have hQ' := hQ ov I hd (fun _ _ => rfl) (fun _ _ => rfl)
    refine pm_iload (pc := 12) dX2_turned_12 rfl ?_
    refine pm_bipush (pc := 14) (v := nI 12) dX2_turned_14 (by decide) ?_
    refine pm_icmp_ge (pc := 16) (tgt := 53) dX2_turned_16 rfl (fun h16 => ?_) (fun h16 => ?_)
    · refine pm_iload_n (pc := 53) dX2_turned_53 rfl ?_
      refine pm_iret (pc := 54) rfl (Nat.le_refl _) (Nat.le_refl _) dX2_turned_54 ?_
      exact hQ'
    · refine pm_aload_n (pc := 19) dX2_turned_19 rfl ?_
      refine pm_iload_n (pc := 20) dX2_turned_20 rfl ?_
      refine pm_cVR (pc := 21) dX2_turned_21 (c_isPieceN hn h12 (by simp (disch := omega) only [pm_ltI, pm_leI, nI_toInt, pm_t0]; omega)) wq_X2_isPiece wm_X2_46 wi_X2_isPiece ws_X2_isPiece rfl rfl ⟨Nat.le_of_ble_eq_true rfl, Nat.le_of_ble_eq_true rfl⟩ ⟨Nat.le_of_ble_eq_true rfl, Nat.le_of_ble_eq_true rfl⟩ rfl (Nat.le_of_ble_eq_true rfl) ?_
      refine pm_if_eq (pc := 24) (tgt := 53) dX2_turned_24 rfl (fun h24 => ?_) (fun h24 => absurd rfl h24)
      refine pm_iload_n (pc := 53) dX2_turned_53 rfl ?_
      refine pm_iret (pc := 54) rfl (Nat.le_refl _) (Nat.le_refl _) dX2_turned_54 ?_
      exact hQ'
  | a :: q, dn, k, t, ov, I, hn, hc, hd, hnd, hb, hk, l, P, L, Q, hQ => by
    obtain ⟨ht, hc⟩ := hc
    subst ht
    have ha := hb a List.mem_cons_self
    have hk1 : q.length + 1 + k ≤ 12 := by simpa using hk
    rw [List.reverse_cons, List.append_assoc, List.singleton_append] at hnd hQ
    have hna : a ∉ q ∧ a ∉ dn := by
      have h1 := List.nodup_iff_pairwise_ne.mp hnd
      rw [List.pairwise_append] at h1
      refine ⟨fun z => h1.2.2 a (List.mem_reverse.mpr z) a List.mem_cons_self rfl, (List.nodup_cons.mp (List.nodup_iff_pairwise_ne.mpr h1.2.1)).1⟩
    refine pm_iload (pc := 12) dX2_turned_12 rfl ?_
    refine pm_bipush (pc := 14) (v := nI 12) dX2_turned_14 (by decide) ?_
    refine pm_icmp_ge (pc := 16) (tgt := 53) dX2_turned_16 rfl (fun h16 => (by simp (disch := omega) only [pm_eqI, pm_ltI, pm_leI, nI_toInt, pm_t0, pm_t1, pm_tm1] at h16; omega)) (fun h16 => ?_)
    refine pm_aload_n (pc := 19) dX2_turned_19 rfl ?_
    refine pm_iload_n (pc := 20) dX2_turned_20 rfl ?_
    refine pm_cVR (pc := 21) dX2_turned_21 (c_isPiece hn h12 ha) wq_X2_isPiece wm_X2_46 wi_X2_isPiece ws_X2_isPiece rfl rfl ⟨Nat.le_of_ble_eq_true rfl, Nat.le_of_ble_eq_true rfl⟩ ⟨Nat.le_of_ble_eq_true rfl, Nat.le_of_ble_eq_true rfl⟩ rfl (Nat.le_of_ble_eq_true rfl) ?_
    refine pm_if_eq (pc := 24) (tgt := 53) dX2_turned_24 rfl (fun h24 => absurd h24 (by decide)) (fun h24 => ?_)
    refine pm_aload_n (pc := 27) dX2_turned_27 rfl ?_
    refine pm_getr (pc := 28) (ci := 0) (C0 := RX2) (T := TX2) (N := 9) (j := 4) rfl rfl in_X2 (by decide) wf_X2_24 rfl dX2_turned_28 ?_
    refine pm_iload_n (pc := 31) dX2_turned_31 rfl ?_
    refine pm_iald (pc := 32) rfl (by omega) (by decide) dX2_turned_32 ?_
    refine pm_istore (pc := 33) dX2_turned_33 (by decide) rfl ?_
    refine pm_aload_n (pc := 35) dX2_turned_35 rfl ?_
    refine pm_getr (pc := 36) (ci := 0) (C0 := RX2) (T := TX2) (N := 9) (j := 4) rfl rfl in_X2 (by decide) wf_X2_24 rfl dX2_turned_36 ?_
    refine pm_iload_n (pc := 39) dX2_turned_39 rfl ?_
    refine pm_iload_n (pc := 40) dX2_turned_40 rfl ?_
    refine pm_iast (pc := 41) rfl (by omega) (by decide) dX2_turned_41 ?_
    refine pm_iload_n (pc := 42) dX2_turned_42 rfl ?_
    refine pm_istore_n (pc := 43) dX2_turned_43 (by decide) rfl ?_
    refine pm_iload (pc := 44) dX2_turned_44 rfl ?_
    refine pm_istore_n (pc := 46) dX2_turned_46 (by decide) rfl ?_
    refine pm_iinc (pc := 47) dX2_turned_47 rfl (pm_inc1 _) (by decide) rfl ?_
    refine pm_goto (pc := 50) (tgt := 12) dX2_turned_50 rfl ?_
    refine pm_kill 5 ?_
    refine l_turned h12 q (a :: dn) (k + 1) _ _ (pm_u I 6 (upd (I 6) a ov)) hn ?_ ?_ hnd (fun x hx => hb x (List.mem_cons_of_mem _ hx)) (by omega) ?_
    · exact gCh_congr (b := I 6) (fun x hx => pk_un (fun z => hna.1 (by rw [← z]; exact hx))) hc
    · exact ⟨rfl, by rw [show (pm_u I 6 (upd (I 6) a ov)) 6 a = ov from pk_us]; exact gCh_congr (b := I 6) (fun x hx => pk_un (fun z => hna.2 (by rw [← z]; exact hx))) hd⟩
    · intro r I' g1 g2 g3
      refine hQ r I' g1 (fun x hx => (g2 x hx).trans ?_) (fun a ha => (g3 a ha).trans (pm_un ha))
      exact pk_un (fun z => hx (by rw [z]; exact List.mem_append_right _ List.mem_cons_self))
set_option maxRecDepth 100000 in
set_option maxHeartbeats 4000000 in
theorem c_topOf0 {I : pm_I} {L : pm_L} {p : Nat} (hp : p < 6) : PC 1 0 0 yX2_topOf cX2_topOf 2 (some (.int)) [.ref 1, .int (nI p)] GG I L (QR GG I L (I 7 p)) := by
  refine PC.of [some (.ref 1), some (.int (nI p))] (by decide) (Nat.le_of_ble_eq_true rfl) rfl (fun l P => ?_)
  refine pm_iload_n (pc := 0) dX2_topOf_0 rfl ?_
  refine pm_cSNR (hst := RX9) (pc := 1) dX2_topOf_1 (c_isPlace) wq_X9_isPlace (by decide +kernel) wt_X9_isPlace ⟨Nat.le_of_ble_eq_true rfl, Nat.le_of_ble_eq_true rfl⟩ ⟨Nat.le_of_ble_eq_true rfl, Nat.le_of_ble_eq_true rfl⟩ rfl (Nat.le_of_ble_eq_true rfl) ?_
  refine pm_if_eq (pc := 4) (tgt := 16) dX2_topOf_4 rfl (fun h4 => (b1_0.mp h4 ⟨by simp (disch := omega) only [pm_leI, nI_toInt, pm_t0]; omega, by simp (disch := omega) only [pm_ltI, nI_toInt]; omega⟩).elim) (fun h4 => ?_)
  refine pm_aload_n (pc := 7) dX2_topOf_7 rfl ?_
  refine pm_getr (pc := 8) (ci := 0) (C0 := RX2) (T := TX2) (N := 9) (j := 5) rfl rfl in_X2 (by decide) wf_X2_27 rfl dX2_topOf_8 ?_
  refine pm_iload_n (pc := 11) dX2_topOf_11 rfl ?_
  refine pm_iald (pc := 12) rfl (by omega) (by decide) dX2_topOf_12 ?_
  refine pm_goto (pc := 13) (tgt := 18) dX2_topOf_13 rfl ?_
  refine pm_iret (pc := 18) rfl (Nat.le_refl _) (Nat.le_refl _) dX2_topOf_18 ?_
  exact QR.r rfl
set_option maxRecDepth 100000 in
set_option maxHeartbeats 4000000 in
theorem c_turned {I : pm_I} {L : pm_L} {n p : Nat} {q : List Nat} (hn : I 1 7 = nI n) (h12 : n ≤ 12) (hp : p < 6) (hc : gCh (I 6) q (I 7 p)) (hnd : q.Nodup) (hb : ∀ x, x ∈ q → x < n) (hl : q.length ≤ 12) : PC 2 0 0 yX2_turned cX2_turned 6 (some (.int)) [.ref 1, .int (nI p)] GG I L (QI GG (fun r I' L' => (gCh (I' 6) q.reverse r ∧ (∀ x, x ∉ q → I' 6 x = I 6 x) ∧ (∀ a, a ≠ 6 → I' a = I a)) ∧ L' = L)) := by
  refine PC.of [some (.ref 1), some (.int (nI p)), none, none, none, none] (by decide) (Nat.le_of_ble_eq_true rfl) rfl (fun l P => ?_)
  refine pm_bipush (pc := 0) (v := nI 12) dX2_turned_0 (by decide) ?_
  refine pm_istore_n (pc := 2) dX2_turned_2 (by decide) rfl ?_
  refine pm_aload_n (pc := 3) dX2_turned_3 rfl ?_
  refine pm_iload_n (pc := 4) dX2_turned_4 rfl ?_
  refine pm_cVR (pc := 5) dX2_turned_5 (c_topOf0 hp) wq_X2_topOf wm_X2_54 wi_X2_topOf ws_X2_topOf rfl rfl ⟨Nat.le_of_ble_eq_true rfl, Nat.le_of_ble_eq_true rfl⟩ ⟨Nat.le_of_ble_eq_true rfl, Nat.le_of_ble_eq_true rfl⟩ rfl (Nat.le_of_ble_eq_true rfl) ?_
  refine pm_istore_n (pc := 8) dX2_turned_8 (by decide) rfl ?_
  refine pm_iconst (pc := 9) (v := nI 0) dX2_turned_9 (by decide) ?_
  refine pm_istore (pc := 10) dX2_turned_10 (by decide) rfl ?_
  refine l_turned h12 q [] 0 _ _ I hn hc rfl (by rw [List.append_nil, List.nodup_iff_pairwise_ne, List.pairwise_reverse]; exact List.Pairwise.imp (fun z => Ne.symm z) hnd) hb (by omega) ?_
  intro r I' g1 g2 g3
  rw [List.append_nil] at g1 g2
  exact QI.r ⟨⟨g1, fun x hx => g2 x (fun z => hx (List.mem_reverse.mp z)), g3⟩, rfl⟩
