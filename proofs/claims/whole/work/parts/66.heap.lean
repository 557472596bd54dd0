def y_DK (J : pm_I) (l : List z_P) : Prop := ∀ k, k < l.length → J 49 k = nI (z_at l k).1 ∧ J 50 k = nI (z_at l k).2.1 ∧ J 51 k = nI (z_at l k).2.2.1 ∧ J 52 k = nI (z_at l k).2.2.2
/-- the pieces read so far stand in the rows -/
def y_HD (I J : pm_I) (l : List z_P) : Prop := (∀ c : Nat, c ≠ 40 → c < 49 ∨ 52 < c → J c = I c) ∧ (∀ k : Nat, k ≠ 11 → k ≠ 12 → k ≠ 13 → J 40 k = I 40 k) ∧ J 40 13 = nI l.length ∧ y_DK J l
theorem y_HD.app {I J K : pm_I} {l : List z_P} {x : z_P} (h : y_HD I J l) (hK : y_HK J K l.length) (hx : K 49 l.length = nI x.1 ∧ K 50 l.length = nI x.2.1 ∧ K 51 l.length = nI x.2.2.1 ∧ K 52 l.length = nI x.2.2.2) (hn : K 40 13 = nI (l.length + 1)) : y_HD I K (l ++ [x]) := by
  refine ⟨fun c h1 h2 => (hK.1 c h1 h2).trans (h.1 c h1 h2), fun k h1 h2 h3 => (hK.2.2 k h3).trans (h.2.1 k h1 h2 h3), by rw [hn, List.length_append, List.length_singleton], fun k hk => ?_⟩
  rw [List.length_append, List.length_singleton] at hk
  by_cases e : k = l.length
  · have e2 : z_at (l ++ [x]) k = x := by
      unfold z_at
      rw [e, List.getD_eq_getElem?_getD, List.getElem?_append_right (Nat.le_refl _), Nat.sub_self]; rfl
    rw [e2, e]; exact hx
  · have e2 : z_at (l ++ [x]) k = z_at l k := by
      unfold z_at
      rw [List.getD_eq_getElem?_getD, List.getD_eq_getElem?_getD, List.getElem?_append_left (by omega)]
    rw [e2, hK.2.1 49 k (by decide) e, hK.2.1 50 k (by decide) e, hK.2.1 51 k (by decide) e, hK.2.1 52 k (by decide) e]
    exact h.2.2.2 k (by omega)
theorem y_HD.K {I J K : pm_I} {l : List z_P} (h : y_HD I J l) (hK : y_HK J K l.length) : (∀ c : Nat, c ≠ 40 → c < 49 ∨ 52 < c → K c = I c) ∧ ∀ k : Nat, k ≠ 11 → k ≠ 12 → k ≠ 13 → K 40 k = I 40 k := ⟨fun c h1 h2 => (hK.1 c h1 h2).trans (h.1 c h1 h2), fun k h1 h2 h3 => (hK.2.2 k h3).trans (h.2.1 k h1 h2 h3)⟩
theorem y_HD.B {I J : pm_I} {l : List z_P} {t : List Nat} (h : y_HD I J l) (hB : y_B I t) : y_B J t := ⟨by rw [h.2.1 10 (by decide) (by decide) (by decide)]; exact hB.1, fun k hk => by rw [h.1 48 (by decide) (by omega)]; exact hB.2 k hk⟩
def y_HE (I J : pm_I) (τ : Nat × Option (List z_P)) : Prop := match τ.2 with
  | none => ∃ (K : pm_I) (a : Nat), ((∀ c : Nat, c ≠ 40 → c < 49 ∨ 52 < c → K c = I c) ∧ ∀ k : Nat, k ≠ 11 → k ≠ 12 → k ≠ 13 → K 40 k = I 40 k) ∧ y_S K J a (z_F τ.1)
  | some l => ∃ (K : pm_I) (a : Nat), y_HD I K l ∧ y_S K J a 0
theorem y_PQ.n {I J : pm_I} {j : Nat} {τ : Nat × Option z_P} (h : y_PQ I J j τ) (e : τ.2 = none) : ∃ (K : pm_I) (b : Nat), y_HK I K j ∧ y_S K J b (z_F τ.1) := by unfold y_PQ at h; rw [e] at h; exact h
theorem y_PQ.s {I J : pm_I} {j : Nat} {τ : Nat × Option z_P} {x : z_P} (h : y_PQ I J j τ) (e : τ.2 = some x) : ∃ K : pm_I, y_HK I K j ∧ y_S K J τ.1 0 ∧ (K 49 j = nI x.1 ∧ K 50 j = nI x.2.1 ∧ K 51 j = nI x.2.2.1 ∧ K 52 j = nI x.2.2.2) ∧ K 40 13 = nI (j + 1) := by unfold y_PQ at h; rw [e] at h; exact h
theorem z_p_mk {t : List Nat} {m a : Nat} : z_p t (z_m m) a = some 0 ↔ z_sk t a < t.length ∧ t.getD (z_sk t a) 0 = m := by
  unfold z_p z_m
  by_cases h : z_sk t a < t.length
  · rw [if_pos h]
    by_cases e : t.getD (z_sk t a) 0 = m
    · rw [if_pos e]; exact ⟨fun _ => ⟨h, e⟩, fun _ => rfl⟩
    · rw [if_neg e]; exact ⟨fun z => absurd z (by simp), fun z => absurd z.2 e⟩
  · rw [if_neg h]; exact ⟨fun z => absurd z (by simp), fun z => absurd z.1 h⟩
theorem z_p_mn {t : List Nat} {m a : Nat} (h : ¬ (z_sk t a < t.length ∧ t.getD (z_sk t a) 0 = m)) : z_p t (z_m m) a = none := by
  cases e : z_p t (z_m m) a with
  | none => rfl
  | some x =>
    have hx := zb_m (z_get e)
    subst hx
    exact absurd (z_p_mk.mp e) h
set_option maxRecDepth 100000 in
set_option maxHeartbeats 1000000 in
theorem l_yhF {I : pm_I} {L : pm_L} {t : List Nat} (hB : y_B I t) (ht : z_ok t) {τ : Nat × Option (List z_P)} (hτ : τ.1 ≤ t.length) {Q : pm_QT} {la : Launch} {P : pm_E} (k79 : ∀ J : pm_I, y_HE I J τ → PW la P yX10_heap cX10_heap 2 (some (.int)) (pm_rm 3 0 0) (pm_Tg P Q 0 0) 0 0 79 [some (.ref 40), none] [] GG J L) {K J : pm_I} (hD : (∀ c : Nat, c ≠ 40 → c < 49 ∨ 52 < c → K c = I c) ∧ ∀ k : Nat, k ≠ 11 → k ≠ 12 → k ≠ 13 → K 40 k = I 40 k) {a : Nat} (hS : y_S K J a (z_F τ.1)) (e : τ.2 = none) : PW la P yX10_heap cX10_heap 2 (some (.int)) (pm_rm 3 0 0) (pm_Tg P Q 0 0) 0 0 19 [some (.ref 40), none] [] GG J L := by
  have h120 := ht.1
  refine pm_aload_n (pc := 19) dX10_heap_19 rfl ?_
  refine pm_get (pc := 20) (ci := 8) (C0 := RX10) (T := TX10) (N := 34) (j := 12) rfl rfl in_X10 (by decide) wf_X10_157 rfl dX10_heap_20 ?_
  rw [hS.2.2.1]
  refine pm_if_ne (pc := 23) (tgt := 79) dX10_heap_23 rfl (fun h23 => ?_) (fun h23 => absurd h23 (z_F_0 (by omega)))
  refine k79 J ?_
  unfold y_HE
  rw [e]
  exact ⟨K, a, hD, hS⟩
set_option maxRecDepth 100000 in
set_option maxHeartbeats 1000000 in
theorem l_yh19 {I : pm_I} {L : pm_L} {t : List Nat} (hB : y_B I t) (ht : z_ok t) {τ : Nat × Option (List z_P)} (hτ : τ.1 ≤ t.length) {Q : pm_QT} {la : Launch} {P : pm_E} (k79 : ∀ J : pm_I, y_HE I J τ → PW la P yX10_heap cX10_heap 2 (some (.int)) (pm_rm 3 0 0) (pm_Tg P Q 0 0) 0 0 79 [some (.ref 40), none] [] GG J L) : ∀ (m : Nat) (done : List z_P) (K : pm_I) (a : Nat) (J : pm_I), done.length + m = 12 → 1 ≤ done.length → a ≤ t.length → y_HD I K done → y_S K J a 0 → z_pre done (z_more t 44 (z_pc t) m a) = τ → PW la P yX10_heap cX10_heap 2 (some (.int)) (pm_rm 3 0 0) (pm_Tg P Q 0 0) 0 0 19 [some (.ref 40), none] [] GG J L
  | 0, done, K, a, J, hm, h1, ha, hD, hS, hT => by
    have h120 := ht.1
    have hB2 := hD.B hB
    obtain ⟨b1_, b2_, b3_⟩ := z_sk_sp ha
    have hDw := hD
    refine pm_aload_n (pc := 19) dX10_heap_19 rfl ?_
    refine pm_get (pc := 20) (ci := 8) (C0 := RX10) (T := TX10) (N := 34) (j := 12) rfl rfl in_X10 (by decide) wf_X10_157 rfl dX10_heap_20 ?_
    rw [hS.2.2.1]
    refine pm_if_ne (pc := 23) (tgt := 79) dX10_heap_23 rfl (fun h23 => absurd rfl h23) (fun h23 => ?_)
    refine pm_aload_n (pc := 26) dX10_heap_26 rfl ?_
    refine pm_cVI (pc := 27) dX10_heap_27 (c_here hB2 ht ha hS) wq_X10_here wm_X10_160 wi_X10_here ws_X10_here rfl rfl ⟨Nat.le_of_ble_eq_true rfl, Nat.le_of_ble_eq_true rfl⟩ ⟨Nat.le_of_ble_eq_true rfl, Nat.le_of_ble_eq_true rfl⟩ rfl (Nat.le_of_ble_eq_true rfl) (fun r27 I27 L27 q27 => ?_)
    obtain ⟨⟨er27, S27⟩, el27⟩ := q27
    subst el27
    refine pm_if_lt (pc := 30) (tgt := 79) dX10_heap_30 rfl (fun h30 => ?_) (fun h30 => ?_)
    · have hl27 : ¬ z_sk t a < t.length := (y_c0 ht).mp (by rw [← er27]; exact h30)
      have hT2 := z_pre_e (Or.inr (z_p_m hl27)) hT
      rw [if_neg hl27] at hT2
      refine k79 I27 ?_
      rw [hT2]
      exact ⟨K, _, hD, S27⟩
    · have hl27 : z_sk t a < t.length := Classical.not_not.mp (fun z => h30 (by rw [er27]; exact (y_c0 ht).mpr z))
      refine pm_aload_n (pc := 33) dX10_heap_33 rfl ?_
      refine pm_cVI (pc := 34) dX10_heap_34 (c_here hB2 ht b2_ S27) wq_X10_here wm_X10_160 wi_X10_here ws_X10_here rfl rfl ⟨Nat.le_of_ble_eq_true rfl, Nat.le_of_ble_eq_true rfl⟩ ⟨Nat.le_of_ble_eq_true rfl, Nat.le_of_ble_eq_true rfl⟩ rfl (Nat.le_of_ble_eq_true rfl) (fun r34 I34 L34 q34 => ?_)
      obtain ⟨⟨er34, S34⟩, el34⟩ := q34
      subst el34
      rw [z_sk_i ha] at S34
      have ec : y_c t (z_sk t a) = y_c t a := by unfold y_c; rw [z_sk_i ha]
      rw [ec] at er34
      refine pm_bipush (pc := 37) (v := nI 44) dX10_heap_37 (by decide) ?_
      refine pm_icmp_ne (pc := 39) (tgt := 51) dX10_heap_39 rfl (fun h39 => ?_) (fun h39 => ?_)
      · refine pm_aload_n (pc := 51) dX10_heap_51 rfl ?_
        refine pm_aload_n (pc := 52) dX10_heap_52 rfl ?_
        refine pm_get (pc := 53) (ci := 8) (C0 := RX10) (T := TX10) (N := 34) (j := 11) rfl rfl in_X10 (by decide) wf_X10_154 rfl dX10_heap_53 ?_
        rw [S34.2.1]
        refine pm_cVV (pc := 56) dX10_heap_56 (c_fails S34) wq_X10_fails wm_X10_163 wi_X10_fails ws_X10_fails rfl rfl ⟨Nat.le_of_ble_eq_true rfl, Nat.le_of_ble_eq_true rfl⟩ ⟨Nat.le_of_ble_eq_true rfl, Nat.le_of_ble_eq_true rfl⟩ rfl (Nat.le_of_ble_eq_true rfl) (fun I56 L56 q56 => ?_)
        obtain ⟨S56, el56⟩ := q56
        subst el56
        rw [if_pos rfl] at S56
        refine pm_goto (pc := 59) (tgt := 19) dX10_heap_59 rfl ?_
        have hT2 := z_pre_e (Or.inl rfl) hT
        rw [if_pos hl27] at hT2
        exact l_yhF hB ht hτ k79 ⟨hD.1, hD.2.1⟩ (by rw [hT2]; exact S56) (by rw [hT2])
      · refine pm_aload_n (pc := 42) dX10_heap_42 rfl ?_
        refine pm_get (pc := 43) (ci := 8) (C0 := RX10) (T := TX10) (N := 34) (j := 13) rfl rfl in_X10 (by decide) wf_X10_171 rfl dX10_heap_43 ?_
        rw [show I34 40 13 = nI done.length from by rw [S34.2.2.2 13 (by decide) (by decide)]; exact hD.2.2.1]
        refine pm_bipush (pc := 46) (v := nI 12) dX10_heap_46 (by decide) ?_
        refine pm_icmp_ne (pc := 48) (tgt := 62) dX10_heap_48 rfl (fun h48 => (by simp (disch := omega) only [pm_eqI, pm_ltI, pm_leI, nI_toInt, pm_t0, pm_t1, pm_tm1] at h48; omega)) (fun h48 => ?_)
        refine pm_aload_n (pc := 51) dX10_heap_51 rfl ?_
        refine pm_aload_n (pc := 52) dX10_heap_52 rfl ?_
        refine pm_get (pc := 53) (ci := 8) (C0 := RX10) (T := TX10) (N := 34) (j := 11) rfl rfl in_X10 (by decide) wf_X10_154 rfl dX10_heap_53 ?_
        rw [S34.2.1]
        refine pm_cVV (pc := 56) dX10_heap_56 (c_fails S34) wq_X10_fails wm_X10_163 wi_X10_fails ws_X10_fails rfl rfl ⟨Nat.le_of_ble_eq_true rfl, Nat.le_of_ble_eq_true rfl⟩ ⟨Nat.le_of_ble_eq_true rfl, Nat.le_of_ble_eq_true rfl⟩ rfl (Nat.le_of_ble_eq_true rfl) (fun I56 L56 q56 => ?_)
        obtain ⟨S56, el56⟩ := q56
        subst el56
        rw [if_pos rfl] at S56
        refine pm_goto (pc := 59) (tgt := 19) dX10_heap_59 rfl ?_
        have hT2 := z_pre_e (Or.inl rfl) hT
        rw [if_pos hl27] at hT2
        exact l_yhF hB ht hτ k79 ⟨hD.1, hD.2.1⟩ (by rw [hT2]; exact S56) (by rw [hT2])
  | m + 1, done, K, a, J, hm, h1, ha, hD, hS, hT => by
    have h120 := ht.1
    have hB2 := hD.B hB
    obtain ⟨b1_, b2_, b3_⟩ := z_sk_sp ha
    have hDw := hD
    have hq := z_q_le (f := z_m 44) ha
    refine pm_aload_n (pc := 19) dX10_heap_19 rfl ?_
    refine pm_get (pc := 20) (ci := 8) (C0 := RX10) (T := TX10) (N := 34) (j := 12) rfl rfl in_X10 (by decide) wf_X10_157 rfl dX10_heap_20 ?_
    rw [hS.2.2.1]
    refine pm_if_ne (pc := 23) (tgt := 79) dX10_heap_23 rfl (fun h23 => absurd rfl h23) (fun h23 => ?_)
    refine pm_aload_n (pc := 26) dX10_heap_26 rfl ?_
    refine pm_cVI (pc := 27) dX10_heap_27 (c_here hB2 ht ha hS) wq_X10_here wm_X10_160 wi_X10_here ws_X10_here rfl rfl ⟨Nat.le_of_ble_eq_true rfl, Nat.le_of_ble_eq_true rfl⟩ ⟨Nat.le_of_ble_eq_true rfl, Nat.le_of_ble_eq_true rfl⟩ rfl (Nat.le_of_ble_eq_true rfl) (fun r27 I27 L27 q27 => ?_)
    obtain ⟨⟨er27, S27⟩, el27⟩ := q27
    subst el27
    refine pm_if_lt (pc := 30) (tgt := 79) dX10_heap_30 rfl (fun h30 => ?_) (fun h30 => ?_)
    · have hl27 : ¬ z_sk t a < t.length := (y_c0 ht).mp (by rw [← er27]; exact h30)
      have hT2 := z_pre_e (Or.inr (z_p_m hl27)) hT
      rw [if_neg hl27] at hT2
      refine k79 I27 ?_
      rw [hT2]
      exact ⟨K, _, hD, S27⟩
    · have hl27 : z_sk t a < t.length := Classical.not_not.mp (fun z => h30 (by rw [er27]; exact (y_c0 ht).mpr z))
      refine pm_aload_n (pc := 33) dX10_heap_33 rfl ?_
      refine pm_cVI (pc := 34) dX10_heap_34 (c_here hB2 ht b2_ S27) wq_X10_here wm_X10_160 wi_X10_here ws_X10_here rfl rfl ⟨Nat.le_of_ble_eq_true rfl, Nat.le_of_ble_eq_true rfl⟩ ⟨Nat.le_of_ble_eq_true rfl, Nat.le_of_ble_eq_true rfl⟩ rfl (Nat.le_of_ble_eq_true rfl) (fun r34 I34 L34 q34 => ?_)
      obtain ⟨⟨er34, S34⟩, el34⟩ := q34
      subst el34
      rw [z_sk_i ha] at S34
      have ec : y_c t (z_sk t a) = y_c t a := by unfold y_c; rw [z_sk_i ha]
      rw [ec] at er34
      refine pm_bipush (pc := 37) (v := nI 44) dX10_heap_37 (by decide) ?_
      refine pm_icmp_ne (pc := 39) (tgt := 51) dX10_heap_39 rfl (fun h39 => ?_) (fun h39 => ?_)
      · have hp := z_p_mn (m := 44) (fun z => h39 (by rw [er34]; exact (y_ck ht (by decide)).mpr z))
        refine pm_aload_n (pc := 51) dX10_heap_51 rfl ?_
        refine pm_aload_n (pc := 52) dX10_heap_52 rfl ?_
        refine pm_get (pc := 53) (ci := 8) (C0 := RX10) (T := TX10) (N := 34) (j := 11) rfl rfl in_X10 (by decide) wf_X10_154 rfl dX10_heap_53 ?_
        rw [S34.2.1]
        refine pm_cVV (pc := 56) dX10_heap_56 (c_fails S34) wq_X10_fails wm_X10_163 wi_X10_fails ws_X10_fails rfl rfl ⟨Nat.le_of_ble_eq_true rfl, Nat.le_of_ble_eq_true rfl⟩ ⟨Nat.le_of_ble_eq_true rfl, Nat.le_of_ble_eq_true rfl⟩ rfl (Nat.le_of_ble_eq_true rfl) (fun I56 L56 q56 => ?_)
        obtain ⟨S56, el56⟩ := q56
        subst el56
        rw [if_pos rfl] at S56
        refine pm_goto (pc := 59) (tgt := 19) dX10_heap_59 rfl ?_
        have hT2 := z_pre_e (Or.inr hp) hT
        rw [if_pos hl27] at hT2
        exact l_yhF hB ht hτ k79 ⟨hD.1, hD.2.1⟩ (by rw [hT2]; exact S56) (by rw [hT2])
      · have hp := z_p_mk.mpr ((y_ck ht (show 44 < 127 by decide)).mp (by rw [← er34]; exact h39))
        refine pm_aload_n (pc := 42) dX10_heap_42 rfl ?_
        refine pm_get (pc := 43) (ci := 8) (C0 := RX10) (T := TX10) (N := 34) (j := 13) rfl rfl in_X10 (by decide) wf_X10_171 rfl dX10_heap_43 ?_
        rw [show I34 40 13 = nI done.length from by rw [S34.2.2.2 13 (by decide) (by decide)]; exact hD.2.2.1]
        refine pm_bipush (pc := 46) (v := nI 12) dX10_heap_46 (by decide) ?_
        refine pm_icmp_ne (pc := 48) (tgt := 62) dX10_heap_48 rfl (fun h48 => ?_) (fun h48 => (by simp (disch := omega) only [pm_eqI, pm_ltI, pm_leI, nI_toInt, pm_t0, pm_t1, pm_tm1] at h48; omega))
        refine pm_aload_n (pc := 62) dX10_heap_62 rfl ?_
        refine pm_dup (pc := 63) dX10_heap_63 rfl ?_
        refine pm_get (pc := 64) (ci := 8) (C0 := RX10) (T := TX10) (N := 34) (j := 11) rfl rfl in_X10 (by decide) wf_X10_154 rfl dX10_heap_64 ?_
        rw [S34.2.1]
        refine pm_iconst (pc := 67) (v := nI 1) dX10_heap_67 (by decide) ?_
        refine pm_iadd (pc := 68) dX10_heap_68 ?_
        refine pm_top (nI_add _ _) ?_
        refine pm_put (pc := 69) (ci := 8) (C0 := RX10) (T := TX10) (N := 34) (j := 11) (ty := .int) rfl rfl in_X10 tyX10 tyX10_ok nmX10 (by decide) wf_X10_154 rfl rfl (by decide +kernel) rfl rfl dX10_heap_69 ?_
        refine pm_aload_n (pc := 72) dX10_heap_72 rfl ?_
        refine pm_cVV (pc := 73) dX10_heap_73 (c_takePiece hB2 ht hq.2 (show done.length < 12 by omega) hD.2.2.1 (by rw [z_q_s hp]; exact S34.at (z_sk t a + 1))) wq_X10_takePiece wm_X10_181 wi_X10_takePiece ws_X10_takePiece rfl rfl ⟨Nat.le_of_ble_eq_true rfl, Nat.le_of_ble_eq_true rfl⟩ ⟨Nat.le_of_ble_eq_true rfl, Nat.le_of_ble_eq_true rfl⟩ rfl (Nat.le_of_ble_eq_true rfl) (fun I73 L73 q73 => ?_)
        obtain ⟨A73, el73⟩ := q73
        subst el73
        refine pm_goto (pc := 76) (tgt := 19) dX10_heap_76 rfl ?_
        cases ec2 : (z_pc t (z_q t (z_m 44) a)).2 with
        | none =>
          obtain ⟨K2, b, hK2, S73⟩ := A73.n ec2
          have hT2 := z_pre_f hp ec2 hT
          exact l_yhF hB ht hτ k79 (hD.K hK2) (by rw [hT2]; exact S73) (by rw [hT2])
        | some x =>
          obtain ⟨K2, hK2, S73, hx, hn⟩ := A73.s ec2
          exact l_yh19 hB ht hτ k79 m (done ++ [x]) K2 _ I73 (by rw [List.length_append, List.length_singleton]; omega) (by rw [List.length_append, List.length_singleton]; omega) (z_pc_ok hq.2).2.1 (hD.app hK2 hx hn) S73 (z_pre_s hp ec2 rfl hT)
set_option maxRecDepth 100000 in
set_option maxHeartbeats 1000000 in
theorem l_yl124 {I : pm_I} {L : pm_L} {lst : List z_P} (hl : lst.length ≤ 12) (hD : y_DK I lst) (hA : I 40 13 = nI lst.length) {S : gS} {Q : pm_QT} (hend : ∀ I' : pm_I, MG I' S → mF I I' → Q (some (.int (nI (g_n S)))) GG I' L) {la : Launch} {P : pm_E} : ∀ (r : List z_P) (k : Nat) (s : gS) (J : pm_I), lst.drop k = r → k ≤ lst.length → g_n s = k → MG J s → gInv s → mF I J → (∀ x, x ∈ r → z_pok x) → z_lay r s = S → PW la P yX10_heap cX10_heap 2 (some (.int)) (pm_rm 3 0 0) (pm_Tg P Q 0 0) 0 0 124 [some (.ref 40), some (.int (nI k))] [] GG J L
  | [], k, s, J, hr, hk, hn, hG, hI, hf, hv, hS => by
    have hge : lst.length ≤ k := List.drop_eq_nil_iff.mp hr
    have hS2 : s = S := hS
    subst hS2
    refine pm_iload_n (pc := 124) dX10_heap_124 rfl ?_
    refine pm_aload_n (pc := 125) dX10_heap_125 rfl ?_
    refine pm_get (pc := 126) (ci := 8) (C0 := RX10) (T := TX10) (N := 34) (j := 13) rfl rfl in_X10 (by decide) wf_X10_171 rfl dX10_heap_126 ?_
    rw [show J 40 13 = nI lst.length from by rw [hf.2 13 (by decide) (by decide)]; exact hA]
    refine pm_icmp_ge (pc := 129) (tgt := 166) dX10_heap_129 rfl (fun h129 => ?_) (fun h129 => (by simp (disch := omega) only [pm_eqI, pm_ltI, pm_leI, nI_toInt, pm_t0, pm_t1, pm_tm1] at h129; omega))
    refine pm_aload_n (pc := 166) dX10_heap_166 rfl ?_
    refine pm_get (pc := 167) (ci := 8) (C0 := RX10) (T := TX10) (N := 34) (j := 0) rfl rfl in_X10 (by decide) wf_X10_83 rfl dX10_heap_167 ?_
    rw [hG.n]
    refine pm_iret (pc := 170) rfl (Nat.le_refl _) (Nat.le_refl _) dX10_heap_170 ?_
    exact hend J hG hf
  | x :: r, k, s, J, hr, hk, hn, hG, hI, hf, hv, hS => by
    have hlt : k < lst.length := by
      refine Nat.lt_of_not_le (fun z => ?_)
      rw [List.drop_eq_nil_iff.mpr z] at hr
      exact absurd hr (by simp)
    rw [List.drop_eq_getElem_cons hlt] at hr
    obtain ⟨hc, hr2⟩ := List.cons.inj hr
    have ex : z_at lst k = x := by unfold z_at; rw [List.getD_eq_getElem?_getD, List.getElem?_eq_getElem hlt, hc]; rfl
    have hd := hD k hlt
    rw [ex] at hd
    have e49 : J 49 k = nI x.1 := by rw [hf.1 49 (by omega)]; exact hd.1
    have e50 : J 50 k = nI x.2.1 := by rw [hf.1 50 (by omega)]; exact hd.2.1
    have e51 : J 51 k = nI x.2.2.1 := by rw [hf.1 51 (by omega)]; exact hd.2.2.1
    have e52 : J 52 k = nI x.2.2.2 := by rw [hf.1 52 (by omega)]; exact hd.2.2.2
    have hx := hv x List.mem_cons_self
    have hI2 := gInv_add hI (p := x.2.2.2) (by omega) hx.1 hx.2.1 hx.2.2.1
    refine pm_iload_n (pc := 124) dX10_heap_124 rfl ?_
    refine pm_aload_n (pc := 125) dX10_heap_125 rfl ?_
    refine pm_get (pc := 126) (ci := 8) (C0 := RX10) (T := TX10) (N := 34) (j := 13) rfl rfl in_X10 (by decide) wf_X10_171 rfl dX10_heap_126 ?_
    rw [show J 40 13 = nI lst.length from by rw [hf.2 13 (by decide) (by decide)]; exact hA]
    refine pm_icmp_ge (pc := 129) (tgt := 166) dX10_heap_129 rfl (fun h129 => (by simp (disch := omega) only [pm_eqI, pm_ltI, pm_leI, nI_toInt, pm_t0, pm_t1, pm_tm1] at h129; omega)) (fun h129 => ?_)
    refine pm_aload_n (pc := 132) dX10_heap_132 rfl ?_
    refine pm_aload_n (pc := 133) dX10_heap_133 rfl ?_
    refine pm_getr (pc := 134) (ci := 8) (C0 := RX10) (T := TX10) (N := 34) (j := 14) rfl rfl in_X10 (by decide) wf_X10_34 rfl dX10_heap_134 ?_
    refine pm_iload_n (pc := 137) dX10_heap_137 rfl ?_
    refine pm_iald (pc := 138) rfl (by omega) (by decide) dX10_heap_138 ?_
    rw [e49]
    refine pm_aload_n (pc := 139) dX10_heap_139 rfl ?_
    refine pm_getr (pc := 140) (ci := 8) (C0 := RX10) (T := TX10) (N := 34) (j := 15) rfl rfl in_X10 (by decide) wf_X10_37 rfl dX10_heap_140 ?_
    refine pm_iload_n (pc := 143) dX10_heap_143 rfl ?_
    refine pm_iald (pc := 144) rfl (by omega) (by decide) dX10_heap_144 ?_
    rw [e50]
    refine pm_aload_n (pc := 145) dX10_heap_145 rfl ?_
    refine pm_getr (pc := 146) (ci := 8) (C0 := RX10) (T := TX10) (N := 34) (j := 16) rfl rfl in_X10 (by decide) wf_X10_40 rfl dX10_heap_146 ?_
    refine pm_iload_n (pc := 149) dX10_heap_149 rfl ?_
    refine pm_iald (pc := 150) rfl (by omega) (by decide) dX10_heap_150 ?_
    rw [e51]
    refine pm_aload_n (pc := 151) dX10_heap_151 rfl ?_
    refine pm_getr (pc := 152) (ci := 8) (C0 := RX10) (T := TX10) (N := 34) (j := 17) rfl rfl in_X10 (by decide) wf_X10_43 rfl dX10_heap_152 ?_
    refine pm_iload_n (pc := 155) dX10_heap_155 rfl ?_
    refine pm_iald (pc := 156) rfl (by omega) (by decide) dX10_heap_156 ?_
    rw [e52]
    refine pm_cVV (pc := 157) dX10_heap_157 (c_mAddPiece hG hI (by omega) hx.1 hx.2.1 hx.2.2.1 (by have := hx.2.2.2; omega)) wq_X10_addPiece wm_X10_110 wi_X10_addPiece ws_X10_addPiece rfl rfl ⟨Nat.le_of_ble_eq_true rfl, Nat.le_of_ble_eq_true rfl⟩ ⟨Nat.le_of_ble_eq_true rfl, Nat.le_of_ble_eq_true rfl⟩ rfl (Nat.le_of_ble_eq_true rfl) (fun I157 L157 q157 => ?_)
    obtain ⟨⟨g157, f157⟩, el⟩ := q157
    subst el
    refine pm_iinc (pc := 160) dX10_heap_160 rfl (pm_inc1 _) (by decide) rfl ?_
    refine pm_goto (pc := 163) (tgt := 124) dX10_heap_163 rfl ?_
    exact l_yl124 hl hD hA hend r (k + 1) _ I157 hr2 hlt (by rw [z_add_n, hn]) g157 hI2 (hf.tr f157) (fun y hy => hv y (List.mem_cons_of_mem _ hy)) hS
set_option maxRecDepth 100000 in
set_option maxHeartbeats 1000000 in
theorem l_yl103 {I : pm_I} {L : pm_L} {Q : pm_QT} {la : Launch} {P : pm_E} (k122 : ∀ J : pm_I, (∀ c : Nat, c ≠ 45 → J c = I c) → (∀ q, q < 6 → J 45 q = nI 0) → PW la P yX10_heap cX10_heap 2 (some (.int)) (pm_rm 3 0 0) (pm_Tg P Q 0 0) 0 0 122 [some (.ref 40), none] [] GG J L) : ∀ (m p : Nat) (J : pm_I), p + m = 6 → (∀ c : Nat, c ≠ 45 → J c = I c) → (∀ q, q < p → J 45 q = nI 0) → PW la P yX10_heap cX10_heap 2 (some (.int)) (pm_rm 3 0 0) (pm_Tg P Q 0 0) 0 0 103 [some (.ref 40), some (.int (nI p))] [] GG J L
  | 0, p, J, hm, h1, h2 => by
    have e : p = 6 := by omega
    subst e
    refine pm_iload_n (pc := 103) dX10_heap_103 rfl ?_
    refine pm_bipush (pc := 104) (v := nI 6) dX10_heap_104 (by decide) ?_
    refine pm_icmp_ge (pc := 106) (tgt := 122) dX10_heap_106 rfl (fun h106 => ?_) (fun h106 => (by simp (disch := omega) only [pm_eqI, pm_ltI, pm_leI, nI_toInt, pm_t0, pm_t1, pm_tm1] at h106; omega))
    refine pm_kill 1 ?_
    exact k122 J h1 h2
  | m + 1, p, J, hm, h1, h2 => by
    refine pm_iload_n (pc := 103) dX10_heap_103 rfl ?_
    refine pm_bipush (pc := 104) (v := nI 6) dX10_heap_104 (by decide) ?_
    refine pm_icmp_ge (pc := 106) (tgt := 122) dX10_heap_106 rfl (fun h106 => (by simp (disch := omega) only [pm_eqI, pm_ltI, pm_leI, nI_toInt, pm_t0, pm_t1, pm_tm1] at h106; omega)) (fun h106 => ?_)
    refine pm_aload_n (pc := 109) dX10_heap_109 rfl ?_
    refine pm_getr (pc := 110) (ci := 8) (C0 := RX10) (T := TX10) (N := 34) (j := 5) rfl rfl in_X10 (by decide) wf_X10_22 rfl dX10_heap_110 ?_
    refine pm_iload_n (pc := 113) dX10_heap_113 rfl ?_
    refine pm_iconst (pc := 114) (v := nI 0) dX10_heap_114 (by decide) ?_
    refine pm_iast (pc := 115) rfl (by omega) (by decide) dX10_heap_115 ?_
    refine pm_iinc (pc := 116) dX10_heap_116 rfl (pm_inc1 _) (by decide) rfl ?_
    refine pm_goto (pc := 119) (tgt := 103) dX10_heap_119 rfl ?_
    refine l_yl103 k122 m (p + 1) _ (by omega) (fun c hc => (pm_un hc).trans (h1 c hc)) (fun q hq => ?_)
    rw [pm_us]
    by_cases e : q = p
    · rw [e, z_upd]
    · rw [z_updn _ _ e]; exact h2 q (by omega)
set_option maxRecDepth 100000 in
set_option maxHeartbeats 1000000 in
theorem y_heap {I : pm_I} {L : pm_L} {X : xS} (hR : MR I L X) (hX : xInv X) : PC 3 0 0 yX10_heap cX10_heap 2 (some (.int)) [.ref 40] GG I L (YQ I L (sp_heap X).1 (sp_heap X).2) := by
  have ht : z_ok (x_t X) := hX.2.2.1
  have hI := hX.s
  have h12 := hI.n12
  have hok := z_all_ok (sep := 44) (m := 11) (t := x_t X) (fun a ha => z_pc_ok ha)
  have h120 := ht.1
  have hB0 : y_B I (x_t X) := ⟨hR.2.2.1.1, hR.2.2.1.2⟩
  have hoka := z_pc_ok (Nat.zero_le (x_t X).length)
  refine PC.of [some (.ref 40), none] (by decide) (Nat.le_of_ble_eq_true rfl) rfl (fun l P => ?_)
  refine pm_aload_n (pc := 0) dX10_heap_0 rfl ?_
  refine pm_iconst (pc := 1) (v := nI 0) dX10_heap_1 (by decide) ?_
  refine pm_put (pc := 2) (ci := 8) (C0 := RX10) (T := TX10) (N := 34) (j := 11) (ty := .int) rfl rfl in_X10 tyX10 tyX10_ok nmX10 (by decide) wf_X10_154 rfl rfl (by decide +kernel) rfl rfl dX10_heap_2 ?_
  refine pm_aload_n (pc := 5) dX10_heap_5 rfl ?_
  refine pm_iconst (pc := 6) (v := nI 0) dX10_heap_6 (by decide) ?_
  refine pm_put (pc := 7) (ci := 8) (C0 := RX10) (T := TX10) (N := 34) (j := 12) (ty := .int) rfl rfl in_X10 tyX10 tyX10_ok nmX10 (by decide) wf_X10_157 rfl rfl (by decide +kernel) rfl rfl dX10_heap_7 ?_
  refine pm_aload_n (pc := 10) dX10_heap_10 rfl ?_
  refine pm_iconst (pc := 11) (v := nI 0) dX10_heap_11 (by decide) ?_
  refine pm_put (pc := 12) (ci := 8) (C0 := RX10) (T := TX10) (N := 34) (j := 13) (ty := .int) rfl rfl in_X10 tyX10 tyX10_ok nmX10 (by decide) wf_X10_171 rfl rfl (by decide +kernel) rfl rfl dX10_heap_12 ?_
  have k79 : ∀ J : pm_I, y_HE I J (z_heap (x_t X)) → PW l P yX10_heap cX10_heap 2 (some (.int)) (pm_rm 3 0 0) (pm_Tg P (YQ I L (sp_heap X).1 (sp_heap X).2) 0 0) 0 0 79 [some (.ref 40), none] [] GG J L := fun J hE => by
    cases et : (z_heap (x_t X)).2 with
    | none =>
      unfold y_HE at hE
      rw [et] at hE
      obtain ⟨K, a, hD, hS⟩ := hE
      have eo : ∀ c : Nat, c ≠ 40 → c < 49 ∨ 52 < c → J c = I c := fun c h1 h2 => (hS.1 c h1).trans (hD.1 c h1 h2)
      have e40 : ∀ k : Nat, k ≠ 11 → k ≠ 12 → k ≠ 13 → J 40 k = I 40 k := fun k h1 h2 h3 => (hS.2.2.2 k h1 h2).trans (hD.2 k h1 h2 h3)
      refine pm_aload_n (pc := 79) dX10_heap_79 rfl ?_
      refine pm_iconst (pc := 80) (v := nI 0) dX10_heap_80 (by decide) ?_
      refine pm_put (pc := 81) (ci := 8) (C0 := RX10) (T := TX10) (N := 34) (j := 10) (ty := .int) rfl rfl in_X10 tyX10 tyX10_ok nmX10 (by decide) wf_X10_151 rfl rfl (by decide +kernel) rfl rfl dX10_heap_81 ?_
      have e5 : ∀ c : Nat, c ≠ 40 → c < 49 ∨ 52 < c → (pm_u J 40 (upd (J 40) 10 (nI 0))) c = I c := fun c h1 h2 => (pm_un h1).trans (eo c h1 h2)
      have e6 : ∀ k : Nat, k ≠ 10 → k ≠ 11 → k ≠ 12 → k ≠ 13 → (pm_u J 40 (upd (J 40) 10 (nI 0))) 40 k = I 40 k := fun k h0 h1 h2 h3 => by
        rw [pm_us]; show (if k = 10 then _ else J 40 k) = _; rw [if_neg h0]; exact e40 k h1 h2 h3
      have e10 : (pm_u J 40 (upd (J 40) 10 (nI 0))) 40 10 = nI 0 := by rw [pm_us]; rfl
      have e12 : (pm_u J 40 (upd (J 40) 10 (nI 0))) 40 12 = J 40 12 := by rw [pm_us]; rfl
      refine pm_aload_n (pc := 84) dX10_heap_84 rfl ?_
      refine pm_get (pc := 85) (ci := 8) (C0 := RX10) (T := TX10) (N := 34) (j := 12) rfl rfl in_X10 (by decide) wf_X10_157 rfl dX10_heap_85 ?_
      rw [e12, hS.2.2.1]
      refine pm_if_eq (pc := 88) (tgt := 96) dX10_heap_88 rfl (fun h88 => absurd h88 (z_F_0 (Nat.le_trans hok.2.1 h120))) (fun h88 => ?_)
      refine pm_aload_n (pc := 91) dX10_heap_91 rfl ?_
      refine pm_get (pc := 92) (ci := 8) (C0 := RX10) (T := TX10) (N := 34) (j := 12) rfl rfl in_X10 (by decide) wf_X10_157 rfl dX10_heap_92 ?_
      rw [e12, hS.2.2.1]
      refine pm_iret (pc := 95) rfl (Nat.le_refl _) (Nat.le_refl _) dX10_heap_95 ?_
      have g1 : MG (pm_u J 40 (upd (J 40) 10 (nI 0))) (x_g X) := hR.1.k (fun c h1 h2 => e5 c (by omega) (by omega)) (e6 0 (by decide) (by decide) (by decide) (by decide)) (e6 8 (by decide) (by decide) (by decide) (by decide))
      have e7 : sp_heap X = (z_F (z_heap (x_t X)).1, xt X []) := by unfold sp_heap; rw [et]
      rw [e7]
      exact YQ.r rfl (hR.n (s := x_g X) g1 ⟨e5 60 (by decide) (by decide), e5 61 (by decide) (by decide), e5 62 (by decide) (by decide)⟩ ⟨e6 26 (by decide) (by decide) (by decide) (by decide), e6 27 (by decide) (by decide) (by decide) (by decide), e6 28 (by decide) (by decide) (by decide) (by decide)⟩ e10) (fun c hc => ⟨e5 c (by omega) (by omega), rfl⟩)
    | some lst =>
      unfold y_HE at hE
      rw [et] at hE
      obtain ⟨K, a, hD, hS⟩ := hE
      have hlst := (hok.2.2 lst et).1
      have eo : ∀ c : Nat, c ≠ 40 → c < 49 ∨ 52 < c → J c = I c := fun c h1 h2 => (hS.1 c h1).trans (hD.1 c h1 h2)
      have e40 : ∀ k : Nat, k ≠ 11 → k ≠ 12 → k ≠ 13 → J 40 k = I 40 k := fun k h1 h2 h3 => (hS.2.2.2 k h1 h2).trans (hD.2.1 k h1 h2 h3)
      refine pm_aload_n (pc := 79) dX10_heap_79 rfl ?_
      refine pm_iconst (pc := 80) (v := nI 0) dX10_heap_80 (by decide) ?_
      refine pm_put (pc := 81) (ci := 8) (C0 := RX10) (T := TX10) (N := 34) (j := 10) (ty := .int) rfl rfl in_X10 tyX10 tyX10_ok nmX10 (by decide) wf_X10_151 rfl rfl (by decide +kernel) rfl rfl dX10_heap_81 ?_
      have e5 : ∀ c : Nat, c ≠ 40 → c < 49 ∨ 52 < c → (pm_u J 40 (upd (J 40) 10 (nI 0))) c = I c := fun c h1 h2 => (pm_un h1).trans (eo c h1 h2)
      have e6 : ∀ k : Nat, k ≠ 10 → k ≠ 11 → k ≠ 12 → k ≠ 13 → (pm_u J 40 (upd (J 40) 10 (nI 0))) 40 k = I 40 k := fun k h0 h1 h2 h3 => by
        rw [pm_us]; show (if k = 10 then _ else J 40 k) = _; rw [if_neg h0]; exact e40 k h1 h2 h3
      have e10 : (pm_u J 40 (upd (J 40) 10 (nI 0))) 40 10 = nI 0 := by rw [pm_us]; rfl
      have e12 : (pm_u J 40 (upd (J 40) 10 (nI 0))) 40 12 = J 40 12 := by rw [pm_us]; rfl
      refine pm_aload_n (pc := 84) dX10_heap_84 rfl ?_
      refine pm_get (pc := 85) (ci := 8) (C0 := RX10) (T := TX10) (N := 34) (j := 12) rfl rfl in_X10 (by decide) wf_X10_157 rfl dX10_heap_85 ?_
      rw [e12, hS.2.2.1]
      refine pm_if_eq (pc := 88) (tgt := 96) dX10_heap_88 rfl (fun h88 => ?_) (fun h88 => absurd rfl h88)
      refine pm_aload_n (pc := 96) dX10_heap_96 rfl ?_
      refine pm_iconst (pc := 97) (v := nI 0) dX10_heap_97 (by decide) ?_
      refine pm_put (pc := 98) (ci := 8) (C0 := RX10) (T := TX10) (N := 34) (j := 0) (ty := .int) rfl rfl in_X10 tyX10 tyX10_ok nmX10 (by decide) wf_X10_83 rfl rfl (by decide +kernel) rfl rfl dX10_heap_98 ?_
      refine pm_iconst (pc := 101) (v := nI 0) dX10_heap_101 (by decide) ?_
      refine pm_istore_n (pc := 102) dX10_heap_102 (by decide) rfl ?_
      refine l_yl103 (I := (pm_u (pm_u J 40 (upd (J 40) 10 (nI 0))) 40 (upd ((pm_u J 40 (upd (J 40) 10 (nI 0))) 40) 0 (nI 0)))) (fun J4 f4 c4 => ?_) 6 0 (pm_u (pm_u J 40 (upd (J 40) 10 (nI 0))) 40 (upd ((pm_u J 40 (upd (J 40) 10 (nI 0))) 40) 0 (nI 0))) (by omega) (fun _ _ => rfl) (fun q hq => absurd hq (Nat.not_lt_zero _))
      refine pm_iconst (pc := 122) (v := nI 0) dX10_heap_122 (by decide) ?_
      refine pm_istore_n (pc := 123) dX10_heap_123 (by decide) rfl ?_
      have hD4 : y_DK J4 lst := fun k hk => by
        rw [f4 49 (by decide), f4 50 (by decide), f4 51 (by decide), f4 52 (by decide), pm_un (by decide), pm_un (by decide), pm_un (by decide), pm_un (by decide), pm_un (by decide), pm_un (by decide), pm_un (by decide), pm_un (by decide), hS.1 49 (by decide), hS.1 50 (by decide), hS.1 51 (by decide), hS.1 52 (by decide)]
        exact hD.2.2.2 k hk
      have e13 : J4 40 13 = nI lst.length := by
        rw [f4 40 (by decide), pm_us, z_updn _ _ (by decide), pm_us, z_updn _ _ (by decide), hS.2.2.2 13 (by decide) (by decide)]; exact hD.2.2.1
      have f6 : ∀ c : Nat, c ≠ 40 → c ≠ 45 → c < 49 ∨ 52 < c → J4 c = I c := fun c h1 h2 h3 => (f4 c h2).trans ((pm_un h1).trans (e5 c h1 h3))
      have f7 : ∀ k : Nat, k ≠ 0 → k ≠ 10 → k ≠ 11 → k ≠ 12 → k ≠ 13 → J4 40 k = I 40 k := fun k k0 k1 k2 k3 k4 => by
        rw [f4 40 (by decide), pm_us, z_updn _ _ k0]; exact e6 k k1 k2 k3 k4
      have f10 : J4 40 10 = nI 0 := by rw [f4 40 (by decide), pm_us, z_updn _ _ (by decide)]; exact e10
      have g4 : MG J4 (s_clear (x_g X)) := by
        refine ⟨?_, ?_, fun j hj => absurd hj (Nat.not_lt_zero _), fun p hp => ⟨c4 p hp, ?_, fun k hk => absurd hk (Nat.not_lt_zero _)⟩⟩
        · rw [f4 40 (by decide), pm_us, z_upd]; rfl
        · rw [f7 8 (by decide) (by decide) (by decide) (by decide) (by decide)]; exact hR.1.aw
        · rw [f6 47 (by decide) (by decide) (by omega)]; exact hR.1.sn hp
      have hli := z_lay_inv lst (s_clear (x_g X)) (gInv_clear hI) (by show 0 + lst.length ≤ 12; omega) hlst.2.2
      have hgn : g_n (z_lay lst (s_clear (x_g X))) = lst.length := by rw [hli.2]; exact Nat.zero_add _
      refine l_yl124 (I := J4) (lst := lst) (by omega) hD4 e13 (S := z_lay lst (s_clear (x_g X))) (fun I2 hG2 hf2 => ?_) lst 0 (s_clear (x_g X)) J4 rfl (Nat.zero_le _) rfl g4 (gInv_clear hI) mF.rf hlst.2.2 rfl
      have e7 : sp_heap X = (nI lst.length, xt (xg X (z_lay lst (s_clear (x_g X)))) []) := by unfold sp_heap; rw [et]
      rw [e7, hgn]
      exact YQ.r rfl (hR.n hG2 ⟨(hf2.1 60 (by omega)).trans (f6 60 (by decide) (by decide) (by decide)), (hf2.1 61 (by omega)).trans (f6 61 (by decide) (by decide) (by decide)), (hf2.1 62 (by omega)).trans (f6 62 (by decide) (by decide) (by decide))⟩ ⟨(hf2.2 26 (by decide) (by decide)).trans (f7 26 (by decide) (by decide) (by decide) (by decide) (by decide)), (hf2.2 27 (by decide) (by decide)).trans (f7 27 (by decide) (by decide) (by decide) (by decide) (by decide)), (hf2.2 28 (by decide) (by decide)).trans (f7 28 (by decide) (by decide) (by decide) (by decide) (by decide))⟩ ((hf2.2 10 (by decide) (by decide)).trans f10)) (fun c hc => ⟨(hf2.1 c (by omega)).trans (f6 c (by omega) (by omega) (by omega)), rfl⟩)
  
  have hK : y_HD I (pm_u I 40 (upd (I 40) 13 (nI 0))) [] := ⟨fun c h1 h2 => pm_un h1, fun k h1 h2 h3 => by rw [pm_us]; show (if k = 13 then _ else I 40 k) = _; rw [if_neg h3], by rw [pm_us]; rfl, fun k hk => absurd hk (Nat.not_lt_zero _)⟩
  have hS0 : y_S (pm_u I 40 (upd (I 40) 13 (nI 0))) (pm_u (pm_u (pm_u I 40 (upd (I 40) 11 (nI 0))) 40 (upd (pm_u I 40 (upd (I 40) 11 (nI 0)) 40) 12 (nI 0))) 40 (upd (pm_u (pm_u I 40 (upd (I 40) 11 (nI 0))) 40 (upd (pm_u I 40 (upd (I 40) 11 (nI 0)) 40) 12 (nI 0)) 40) 13 (nI 0))) 0 0 := by
    refine ⟨fun c hc => ?_, ?_, ?_, fun k h1 h2 => ?_⟩
    · rw [pm_un hc, pm_un hc, pm_un hc, pm_un hc]
    · rw [pm_us, pm_us, pm_us]; rfl
    · rw [pm_us, pm_us, pm_us]; rfl
    · rw [pm_us, pm_us, pm_us, pm_us]
      show (if k = 13 then nI 0 else if k = 12 then nI 0 else if k = 11 then nI 0 else I 40 k) = (if k = 13 then nI 0 else I 40 k)
      rw [if_neg h2, if_neg h1]
  have hBK : y_B (pm_u I 40 (upd (I 40) 13 (nI 0))) (x_t X) := hK.B hB0
  refine pm_aload_n (pc := 15) dX10_heap_15 rfl ?_
  refine pm_cVV (pc := 16) dX10_heap_16 (c_takePiece hBK ht (Nat.zero_le _) (show ([] : List z_P).length < 12 by decide) hK.2.2.1 hS0) wq_X10_takePiece wm_X10_181 wi_X10_takePiece ws_X10_takePiece rfl rfl ⟨Nat.le_of_ble_eq_true rfl, Nat.le_of_ble_eq_true rfl⟩ ⟨Nat.le_of_ble_eq_true rfl, Nat.le_of_ble_eq_true rfl⟩ rfl (Nat.le_of_ble_eq_true rfl) (fun I16 L16 q16 => ?_)
  obtain ⟨A16, el16⟩ := q16
  subst el16
  cases ec : (z_pc (x_t X) 0).2 with
  | none =>
    obtain ⟨K2, b, hK2, S16⟩ := A16.n ec
    have et : (z_heap (x_t X)) = ((z_pc (x_t X) 0).1, none) := by unfold z_heap z_all; rw [z_bind_n ec]
    exact l_yhF (τ := (z_heap (x_t X))) hB0 ht hok.2.1 k79 (hK.K hK2) (by rw [et]; exact S16) (by rw [et])
  | some x =>
    obtain ⟨K2, hK2, S16, hx, hn⟩ := A16.s ec
    refine l_yh19 (τ := (z_heap (x_t X))) hB0 ht hok.2.1 k79 11 ([] ++ [x]) K2 _ I16 rfl (Nat.le_refl _) hoka.2.1 (hK.app hK2 hx hn) S16 ?_
    unfold z_heap z_all
    rw [z_bind_s ec]
    unfold z_pre
    cases er : (z_more (x_t X) 44 (z_pc (x_t X)) 11 (z_pc (x_t X) 0).1).2 with
    | none => rw [z_bind_n er]; rfl
    | some l => rw [z_bind_s er]; rfl
