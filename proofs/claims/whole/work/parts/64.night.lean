/-- the acts read so far stand in the row -/
def y_ND (I J : pm_I) (l : List Nat) : Prop := (∀ c : Nat, c ≠ 40 → c ≠ 53 → J c = I c) ∧ (∀ k : Nat, k ≠ 11 → k ≠ 12 → k ≠ 18 → J 40 k = I 40 k) ∧ J 40 18 = nI l.length ∧ ∀ k, k < l.length → J 53 k = nI (l.getD k 0)
theorem y_ND.app {I J : pm_I} {l : List Nat} {c : Nat} (h : y_ND I J l) : y_ND I (y_st J l.length c) (l ++ [c]) := by
  unfold y_st
  refine ⟨fun b h1 h2 => (pm_un h1).trans ((pm_un h2).trans (h.1 b h1 h2)), fun k h1 h2 h3 => ?_, ?_, fun k hk => ?_⟩
  · rw [pm_us]; show (if k = 18 then _ else J 40 k) = _; rw [if_neg h3]; exact h.2.1 k h1 h2 h3
  · rw [pm_us, List.length_append, List.length_singleton]; rfl
  · rw [pm_un (by decide), pm_us]
    rw [List.length_append, List.length_singleton] at hk
    show (if k = l.length then nI c else J 53 k) = _
    by_cases e : k = l.length
    · rw [if_pos e, e, List.getD_eq_getElem?_getD, List.getElem?_append_right (Nat.le_refl _), Nat.sub_self]; rfl
    · rw [if_neg e, h.2.2.2 k (by omega), List.getD_eq_getElem?_getD, List.getD_eq_getElem?_getD, List.getElem?_append_left (by omega)]
theorem y_ND.B {I J : pm_I} {l : List Nat} {t : List Nat} (h : y_ND I J l) (hB : y_B I t) : y_B J t := ⟨by rw [h.2.1 10 (by decide) (by decide) (by decide)]; exact hB.1, fun k hk => by rw [h.1 48 (by decide) (by decide)]; exact hB.2 k hk⟩
/-- the end of the reading -/
def y_NE (I J : pm_I) (τ : Nat × Option (List Nat)) : Prop := match τ.2 with
  | none => ∃ (K : pm_I) (l : List Nat) (a : Nat), y_ND I K l ∧ y_S K J a (z_F τ.1)
  | some l => ∃ (K : pm_I) (a : Nat), y_ND I K l ∧ y_S K J a 0
theorem z_p_m {t : List Nat} {m a : Nat} (h : ¬ z_sk t a < t.length) : z_p t (z_m m) a = none := if_neg h
set_option maxRecDepth 100000 in
set_option maxHeartbeats 1000000 in
theorem l_ynF {I : pm_I} {L : pm_L} {t : List Nat} (hB : y_B I t) (ht : z_ok t) {n : Nat} (hn : n ≤ 12) (hN : I 40 0 = nI n) {τ : Nat × Option (List Nat)} (hτ : τ.1 ≤ t.length) {Q : pm_QT} {la : Launch} {P : pm_E} (k53 : ∀ J : pm_I, y_NE I J τ → PW la P yX10_night cX10_night 2 (some (.int)) (pm_rm 4 0 0) (pm_Tg P Q 0 0) 0 0 53 [some (.ref 40), none] [] GG J L) {K J : pm_I} {l : List Nat} (hD : y_ND I K l) {a : Nat} (hS : y_S K J a (z_F τ.1)) (e : τ.2 = none) : PW la P yX10_night cX10_night 2 (some (.int)) (pm_rm 4 0 0) (pm_Tg P Q 0 0) 0 0 19 [some (.ref 40), none] [] GG J L := by
  have h120 := ht.1
  refine pm_aload_n (pc := 19) dX10_night_19 rfl ?_
  refine pm_get (pc := 20) (ci := 8) (C0 := RX10) (T := TX10) (N := 34) (j := 12) rfl rfl in_X10 (by decide) wf_X10_157 rfl dX10_night_20 ?_
  rw [hS.2.2.1]
  refine pm_if_ne (pc := 23) (tgt := 53) dX10_night_23 rfl (fun h23 => ?_) (fun h23 => absurd h23 (z_F_0 (by omega)))
  refine k53 J ?_
  unfold y_NE
  rw [e]
  exact ⟨K, l, a, hD, hS⟩
set_option maxRecDepth 100000 in
set_option maxHeartbeats 1000000 in
theorem l_yn19 {I : pm_I} {L : pm_L} {t : List Nat} (hB : y_B I t) (ht : z_ok t) {n : Nat} (hn : n ≤ 12) (hN : I 40 0 = nI n) {τ : Nat × Option (List Nat)} (hτ : τ.1 ≤ t.length) {Q : pm_QT} {la : Launch} {P : pm_E} (k53 : ∀ J : pm_I, y_NE I J τ → PW la P yX10_night cX10_night 2 (some (.int)) (pm_rm 4 0 0) (pm_Tg P Q 0 0) 0 0 53 [some (.ref 40), none] [] GG J L) : ∀ (m : Nat) (done : List Nat) (K : pm_I) (a : Nat) (J : pm_I), done.length + m = 59 + 1 → 1 ≤ done.length → a ≤ t.length → 3 * done.length ≤ a + 1 → y_ND I K done → y_S K J a 0 → z_pre done (z_more t 59 (z_act t n) m a) = τ → PW la P yX10_night cX10_night 2 (some (.int)) (pm_rm 4 0 0) (pm_Tg P Q 0 0) 0 0 19 [some (.ref 40), none] [] GG J L
  | 0, done, K, a, J, hm, h1, ha, hb, hD, hS, hT => by
    have h120 := ht.1
    omega
  | m + 1, done, K, a, J, hm, h1, ha, hb, hD, hS, hT => by
    have h120 := ht.1
    have hB2 := hD.B hB
    have hN2 : K 40 0 = nI n := by rw [hD.2.1 0 (by decide) (by decide) (by decide)]; exact hN
    obtain ⟨b1_, b2_, b3_⟩ := z_sk_sp ha
    have hq := z_q_le (f := z_m 59) ha
    have hok := z_act_ok hn hq.2
    refine pm_aload_n (pc := 19) dX10_night_19 rfl ?_
    refine pm_get (pc := 20) (ci := 8) (C0 := RX10) (T := TX10) (N := 34) (j := 12) rfl rfl in_X10 (by decide) wf_X10_157 rfl dX10_night_20 ?_
    rw [hS.2.2.1]
    refine pm_if_ne (pc := 23) (tgt := 53) dX10_night_23 rfl (fun h23 => absurd rfl h23) (fun h23 => ?_)
    refine pm_aload_n (pc := 26) dX10_night_26 rfl ?_
    refine pm_cVI (pc := 27) dX10_night_27 (c_here hB2 ht ha hS) wq_X10_here wm_X10_160 wi_X10_here ws_X10_here rfl rfl ⟨Nat.le_of_ble_eq_true rfl, Nat.le_of_ble_eq_true rfl⟩ ⟨Nat.le_of_ble_eq_true rfl, Nat.le_of_ble_eq_true rfl⟩ rfl (Nat.le_of_ble_eq_true rfl) (fun r27 I27 L27 q27 => ?_)
    obtain ⟨⟨er27, S27⟩, el27⟩ := q27
    subst el27
    refine pm_if_lt (pc := 30) (tgt := 53) dX10_night_30 rfl (fun h30 => ?_) (fun h30 => ?_)
    · have hl27 : ¬ z_sk t a < t.length := (y_c0 ht).mp (by rw [← er27]; exact h30)
      have hT2 := z_pre_e (Or.inr (z_p_m hl27)) hT
      rw [if_neg hl27] at hT2
      refine k53 I27 ?_
      rw [hT2]
      exact ⟨K, _, hD, S27⟩
    · have hl27 : z_sk t a < t.length := Classical.not_not.mp (fun z => h30 (by rw [er27]; exact (y_c0 ht).mpr z))
      refine pm_aload_n (pc := 33) dX10_night_33 rfl ?_
      refine pm_bipush (pc := 34) (v := nI 59) dX10_night_34 (by decide) ?_
      refine pm_cVV (pc := 36) dX10_night_36 (c_takeMark hB2 ht (σ := ((z_sk t a, some 0) : Nat × Option Nat)) b2_ (y_P.ms (v := 0) rfl S27) (m := 59) (by decide)) wq_X10_takeMark wm_X10_187 wi_X10_takeMark ws_X10_takeMark rfl rfl ⟨Nat.le_of_ble_eq_true rfl, Nat.le_of_ble_eq_true rfl⟩ ⟨Nat.le_of_ble_eq_true rfl, Nat.le_of_ble_eq_true rfl⟩ rfl (Nat.le_of_ble_eq_true rfl) (fun I36 L36 q36 => ?_)
      obtain ⟨P36, el36⟩ := q36
      subst el36
      rw [z_bind_s (r := ((z_sk t a, some 0) : Nat × Option Nat)) rfl, z_p_sk ha] at P36
      cases hp : z_p t (z_m 59) a with
      | none =>
        obtain ⟨b, hb2, S36⟩ := P36.n hp
        have hT2 := z_pre_e (Or.inr hp) hT
        rw [if_pos hl27] at hT2
        have S36b : y_S K I36 b (z_F τ.1) := by rw [hT2]; show y_S K I36 b (z_F (z_sk t a)); rw [← z_q_n hp]; exact S36
        have h0b : ¬ z_F τ.1 = 0 := z_F_0 (by omega)
        refine pm_aload_n (pc := 39) dX10_night_39 rfl ?_
        refine pm_get (pc := 40) (ci := 8) (C0 := RX10) (T := TX10) (N := 34) (j := 12) rfl rfl in_X10 (by decide) wf_X10_157 rfl dX10_night_40 ?_
        rw [S36b.2.2.1]
        refine pm_if_ne (pc := 43) (tgt := 19) dX10_night_43 rfl (fun h43 => ?_) (fun h43 => absurd h43 h0b)
        exact l_ynF hB ht hn hN hτ k53 hD S36b (by rw [hT2])
      | some v0 =>
        have hv0 := zb_m (z_get hp)
        subst hv0
        have S36 := P36.s hp
        refine pm_aload_n (pc := 39) dX10_night_39 rfl ?_
        refine pm_get (pc := 40) (ci := 8) (C0 := RX10) (T := TX10) (N := 34) (j := 12) rfl rfl in_X10 (by decide) wf_X10_157 rfl dX10_night_40 ?_
        rw [S36.2.2.1]
        refine pm_if_ne (pc := 43) (tgt := 19) dX10_night_43 rfl (fun h43 => absurd rfl h43) (fun h43 => ?_)
        refine pm_aload_n (pc := 46) dX10_night_46 rfl ?_
        refine pm_cVV (pc := 47) dX10_night_47 (c_takeAct hB2 ht hq.2 hn hN2 (show done.length < 60 by omega) hD.2.2.1 S36 rfl) wq_X10_takeAct wm_X10_193 wi_X10_takeAct ws_X10_takeAct rfl rfl ⟨Nat.le_of_ble_eq_true rfl, Nat.le_of_ble_eq_true rfl⟩ ⟨Nat.le_of_ble_eq_true rfl, Nat.le_of_ble_eq_true rfl⟩ rfl (Nat.le_of_ble_eq_true rfl) (fun I47 L47 q47 => ?_)
        obtain ⟨A47, el47⟩ := q47
        subst el47
        refine pm_goto (pc := 50) (tgt := 19) dX10_night_50 rfl ?_
        cases ec : (z_act t n (z_q t (z_m 59) a)).2 with
        | none =>
          obtain ⟨b, hb2, S47⟩ := A47.n ec
          have hT2 := z_pre_f hp ec hT
          exact l_ynF hB ht hn hN hτ k53 hD (by rw [hT2]; exact S47) (by rw [hT2])
        | some c =>
          have S47 := A47.s ec
          have hl := (hok.2.2 c ec).2
          have hq1 := z_q_lt ha hp
          exact l_yn19 hB ht hn hN hτ k53 m (done ++ [c]) _ _ I47 (by rw [List.length_append, List.length_singleton]; omega) (by rw [List.length_append, List.length_singleton]; omega) hok.2.1 (by rw [List.length_append, List.length_singleton]; omega) hD.app S47 (z_pre_s hp ec rfl hT)
theorem z_tgo {s : gS} {c : Nat} (hc : a_can s c) : (a_felt s c → s_try s c = (-3, s_wake s)) ∧ (¬ a_felt s c → s_try s c = (0, s_do s c)) := ⟨fun h => by unfold s_try; rw [if_neg (not_not_intro hc), if_pos h], fun h => by unfold s_try; rw [if_neg (not_not_intro hc), if_neg h]⟩
theorem MG.k {I J : pm_I} {s : gS} (h : MG I s) (e : ∀ c : Nat, 41 ≤ c → c ≤ 47 → J c = I c) (e0 : J 40 0 = I 40 0) (e8 : J 40 8 = I 40 8) : MG J s := by
  unfold MG at h ⊢
  simp only [e 41 (by omega) (by omega), e 42 (by omega) (by omega), e 43 (by omega) (by omega), e 44 (by omega) (by omega), e 45 (by omega) (by omega), e 46 (by omega) (by omega), e 47 (by omega) (by omega), e0, e8]
  exact h
theorem MR.n {I J : pm_I} {L : pm_L} {X : xS} {s : gS} (h : MR I L X) (hG : MG J s) (e : J 60 = I 60 ∧ J 61 = I 61 ∧ J 62 = I 62) (f : J 40 26 = I 40 26 ∧ J 40 27 = I 40 27 ∧ J 40 28 = I 40 28) (h0 : J 40 10 = nI 0) : MR J L (xt (xg X s) []) := by
  refine ⟨hG, ?_, ⟨h0, fun k hk => absurd hk (Nat.not_lt_zero _)⟩, fun q hq => ⟨?_, (h.2.2.2 q hq).2⟩⟩
  · have h1 := h.2.1
    show MO J (x_i X)
    unfold MO MI at h1 ⊢
    rw [f.1, f.2.1, f.2.2, e.1]
    exact h1
  · have h1 := (h.2.2.2 q hq).1
    show MS J q (x_s X q)
    unfold MS at h1 ⊢
    rw [e.2.1, e.2.2]; exact h1
set_option maxRecDepth 100000 in
set_option maxHeartbeats 1000000 in
theorem l_ya72 {I : pm_I} {L : pm_L} {lst : List Nat} (hl : lst.length ≤ 60) (hF : ∀ k, k < lst.length → I 53 k = nI (lst.getD k 0)) (hA : I 40 18 = nI lst.length) {V : Nat} {S : gS} {Q : pm_QT} (hend : ∀ I' : pm_I, MG I' S → mF I I' → Q (some (.int (nI V))) GG I' L) {la : Launch} {P : pm_E} : ∀ (r : List Nat) (k : Nat) (s : gS) (J : pm_I), lst.drop k = r → k ≤ lst.length → MG J s → gInv s → mF I J → (∀ c, c ∈ r → z_aok (g_n s) c) → k + (z_run r s).1 = V → (z_run r s).2 = S → PW la P yX10_night cX10_night 2 (some (.int)) (pm_rm 4 0 0) (pm_Tg P Q 0 0) 0 0 72 [some (.ref 40), some (.int (nI k))] [] GG J L
  | [], k, s, J, hr, hk, hG, hI, hf, hv, hV, hS => by
    have hge : lst.length ≤ k := List.drop_eq_nil_iff.mp hr
    have hV2 : k + 0 = V := hV
    have hS2 : s = S := hS
    subst hS2
    refine pm_iload_n (pc := 72) dX10_night_72 rfl ?_
    refine pm_aload_n (pc := 73) dX10_night_73 rfl ?_
    refine pm_get (pc := 74) (ci := 8) (C0 := RX10) (T := TX10) (N := 34) (j := 18) rfl rfl in_X10 (by decide) wf_X10_190 rfl dX10_night_74 ?_
    rw [show J 40 18 = nI lst.length from by rw [hf.2 18 (by decide) (by decide)]; exact hA]
    refine pm_icmp_ge (pc := 77) (tgt := 112) dX10_night_77 rfl (fun h77 => ?_) (fun h77 => (by simp (disch := omega) only [pm_eqI, pm_ltI, pm_leI, nI_toInt, pm_t0, pm_t1, pm_tm1] at h77; omega))
    refine pm_iload_n (pc := 112) dX10_night_112 rfl ?_
    refine pm_iret (pc := 113) rfl (Nat.le_refl _) (Nat.le_refl _) dX10_night_113 ?_
    rw [show k = V by omega]
    exact hend J hG hf
  | c :: r, k, s, J, hr, hk, hG, hI, hf, hv, hV, hS => by
    have hlt : k < lst.length := by
      refine Nat.lt_of_not_le (fun z => ?_)
      rw [List.drop_eq_nil_iff.mpr z] at hr
      exact absurd hr (by simp)
    rw [List.drop_eq_getElem_cons hlt] at hr
    obtain ⟨hc, hr2⟩ := List.cons.inj hr
    have e53 : J 53 k = nI c := by rw [hf.1 53 (by omega), hF k hlt, List.getD_eq_getElem?_getD, List.getElem?_eq_getElem hlt, hc]; rfl
    have ho : a_ok s c := hv c List.mem_cons_self
    have e0 : z_run (c :: r) s = if (s_try s c).1 = 0 then ((z_run r (s_try s c).2).1 + 1, (z_run r (s_try s c).2).2) else (0, (s_try s c).2) := rfl
    rw [e0] at hV hS
    have hcW : a_canW s c ↔ a_can s c := ⟨fun z => z.1, fun z => ⟨z, fun y w => (ho.2.2.2 y).2 w.symm⟩⟩
    refine pm_iload_n (pc := 72) dX10_night_72 rfl ?_
    refine pm_aload_n (pc := 73) dX10_night_73 rfl ?_
    refine pm_get (pc := 74) (ci := 8) (C0 := RX10) (T := TX10) (N := 34) (j := 18) rfl rfl in_X10 (by decide) wf_X10_190 rfl dX10_night_74 ?_
    rw [show J 40 18 = nI lst.length from by rw [hf.2 18 (by decide) (by decide)]; exact hA]
    refine pm_icmp_ge (pc := 77) (tgt := 112) dX10_night_77 rfl (fun h77 => (by simp (disch := omega) only [pm_eqI, pm_ltI, pm_leI, nI_toInt, pm_t0, pm_t1, pm_tm1] at h77; omega)) (fun h77 => ?_)
    refine pm_aload_n (pc := 80) dX10_night_80 rfl ?_
    refine pm_aload_n (pc := 81) dX10_night_81 rfl ?_
    refine pm_getr (pc := 82) (ci := 8) (C0 := RX10) (T := TX10) (N := 34) (j := 19) rfl rfl in_X10 (by decide) wf_X10_46 rfl dX10_night_82 ?_
    refine pm_iload_n (pc := 85) dX10_night_85 rfl ?_
    refine pm_iald (pc := 86) rfl (by omega) (by decide) dX10_night_86 ?_
    rw [e53]
    refine pm_cVR (pc := 87) dX10_night_87 (c_mCanBe hG hI ho.W) wq_X10_canBe wm_X10_196 wi_X10_canBe ws_X10_canBe rfl rfl ⟨Nat.le_of_ble_eq_true rfl, Nat.le_of_ble_eq_true rfl⟩ ⟨Nat.le_of_ble_eq_true rfl, Nat.le_of_ble_eq_true rfl⟩ rfl (Nat.le_of_ble_eq_true rfl) ?_
    refine pm_if_eq (pc := 90) (tgt := 112) dX10_night_90 rfl (fun h90 => ?_) (fun h90 => ?_)
    · have hnc : ¬ a_can s c := fun z => b1_nf h90 (hcW.mpr z)
      have et : s_try s c = (-2, s) := by unfold s_try; rw [if_pos hnc]
      rw [et, if_neg (show ¬ (-2 : Int32) = 0 by decide)] at hV hS
      have hV2 : k + 0 = V := hV
      have hS2 : s = S := hS
      subst hS2
      refine pm_iload_n (pc := 112) dX10_night_112 rfl ?_
      refine pm_iret (pc := 113) rfl (Nat.le_refl _) (Nat.le_refl _) dX10_night_113 ?_
      first
        | (rw [show k = V by omega]; exact hend J hG hf)
        | (rw [show k = V by omega]; exact hend I100 g100 (hf.tr f100))
    · have hcan := (b1_nt h90).1
      refine pm_aload_n (pc := 93) dX10_night_93 rfl ?_
      refine pm_aload_n (pc := 94) dX10_night_94 rfl ?_
      refine pm_getr (pc := 95) (ci := 8) (C0 := RX10) (T := TX10) (N := 34) (j := 19) rfl rfl in_X10 (by decide) wf_X10_46 rfl dX10_night_95 ?_
      refine pm_iload_n (pc := 98) dX10_night_98 rfl ?_
      refine pm_iald (pc := 99) rfl (by omega) (by decide) dX10_night_99 ?_
      rw [e53]
      refine pm_cVI (pc := 100) dX10_night_100 (c_mGoes hG hI ho.W hcan) wq_X10_goes wm_X10_199 wi_X10_goes ws_X10_goes rfl rfl ⟨Nat.le_of_ble_eq_true rfl, Nat.le_of_ble_eq_true rfl⟩ ⟨Nat.le_of_ble_eq_true rfl, Nat.le_of_ble_eq_true rfl⟩ rfl (Nat.le_of_ble_eq_true rfl) (fun r100 I100 L100 q100 => ?_)
      obtain ⟨er, ⟨g100, f100⟩, el⟩ := q100
      subst el
      subst er
      refine pm_if_eq (pc := 103) (tgt := 112) dX10_night_103 rfl (fun h103 => ?_) (fun h103 => ?_)
      · have hfe : a_felt s c := Classical.not_not.mp (b1_nf h103)
        have et := (z_tgo hcan).1 hfe
        rw [et, if_neg (show ¬ (-3 : Int32) = 0 by decide)] at hV hS
        have hV2 : k + 0 = V := hV
        have hS2 : s_wake s = S := hS
        rw [show s_goes s c = s_wake s from if_pos hfe, hS2] at g100
        refine pm_iload_n (pc := 112) dX10_night_112 rfl ?_
        refine pm_iret (pc := 113) rfl (Nat.le_refl _) (Nat.le_refl _) dX10_night_113 ?_
        first
          | (rw [show k = V by omega]; exact hend J hG hf)
          | (rw [show k = V by omega]; exact hend I100 g100 (hf.tr f100))
      · have hfe : ¬ a_felt s c := b1_nt h103
        have et := (z_tgo hcan).2 hfe
        rw [et, if_pos rfl] at hV hS
        have hV2 : k + ((z_run r (s_do s c)).1 + 1) = V := hV
        rw [show s_goes s c = s_do s c from if_neg hfe] at g100
        refine pm_iinc (pc := 106) dX10_night_106 rfl (pm_inc1 _) (by decide) rfl ?_
        refine pm_goto (pc := 109) (tgt := 72) dX10_night_109 rfl ?_
        exact l_ya72 hl hF hA hend r (k + 1) (s_do s c) I100 hr2 hlt g100 (gInv_do hI ho hcan) (hf.tr f100) (fun d hd => by rw [(h_same s c).1]; exact hv d (List.mem_cons_of_mem _ hd)) (by omega) hS
set_option maxRecDepth 100000 in
set_option maxHeartbeats 1000000 in
theorem y_night {I : pm_I} {L : pm_L} {X : xS} (hR : MR I L X) (hX : xInv X) : PC 4 0 0 yX10_night cX10_night 2 (some (.int)) [.ref 40] GG I L (YQ I L (sp_night X).1 (sp_night X).2) := by
  have ht : z_ok (x_t X) := hX.2.2.1
  have hI := hX.s
  have h12 := hI.n12
  have hok := z_all_ok (sep := 59) (m := 59) (t := x_t X) (fun a ha => z_act_ok h12 ha)
  have h120 := ht.1
  have hB0 : y_B I (x_t X) := ⟨hR.2.2.1.1, hR.2.2.1.2⟩
  have hoka := z_act_ok h12 (Nat.zero_le (x_t X).length)
  refine PC.of [some (.ref 40), none] (by decide) (Nat.le_of_ble_eq_true rfl) rfl (fun l P => ?_)
  refine pm_aload_n (pc := 0) dX10_night_0 rfl ?_
  refine pm_iconst (pc := 1) (v := nI 0) dX10_night_1 (by decide) ?_
  refine pm_put (pc := 2) (ci := 8) (C0 := RX10) (T := TX10) (N := 34) (j := 11) (ty := .int) rfl rfl in_X10 tyX10 tyX10_ok nmX10 (by decide) wf_X10_154 rfl rfl (by decide +kernel) rfl rfl dX10_night_2 ?_
  refine pm_aload_n (pc := 5) dX10_night_5 rfl ?_
  refine pm_iconst (pc := 6) (v := nI 0) dX10_night_6 (by decide) ?_
  refine pm_put (pc := 7) (ci := 8) (C0 := RX10) (T := TX10) (N := 34) (j := 12) (ty := .int) rfl rfl in_X10 tyX10 tyX10_ok nmX10 (by decide) wf_X10_157 rfl rfl (by decide +kernel) rfl rfl dX10_night_7 ?_
  refine pm_aload_n (pc := 10) dX10_night_10 rfl ?_
  refine pm_iconst (pc := 11) (v := nI 0) dX10_night_11 (by decide) ?_
  refine pm_put (pc := 12) (ci := 8) (C0 := RX10) (T := TX10) (N := 34) (j := 18) (ty := .int) rfl rfl in_X10 tyX10 tyX10_ok nmX10 (by decide) wf_X10_190 rfl rfl (by decide +kernel) rfl rfl dX10_night_12 ?_
  have k53 : ∀ J : pm_I, y_NE I J (z_night (x_t X) (g_n (x_g X))) → PW l P yX10_night cX10_night 2 (some (.int)) (pm_rm 4 0 0) (pm_Tg P (YQ I L (sp_night X).1 (sp_night X).2) 0 0) 0 0 53 [some (.ref 40), none] [] GG J L := fun J hE => by
    cases et : (z_night (x_t X) (g_n (x_g X))).2 with
    | none =>
      unfold y_NE at hE
      rw [et] at hE
      obtain ⟨K, l9, a, hD, hS⟩ := hE
      have eo : ∀ c : Nat, c ≠ 40 → c ≠ 53 → J c = I c := fun c h1 h2 => (hS.1 c h1).trans (hD.1 c h1 h2)
      have e40 : ∀ k : Nat, k ≠ 11 → k ≠ 12 → k ≠ 18 → J 40 k = I 40 k := fun k h1 h2 h3 => (hS.2.2.2 k h1 h2).trans (hD.2.1 k h1 h2 h3)
      refine pm_aload_n (pc := 53) dX10_night_53 rfl ?_
      refine pm_iconst (pc := 54) (v := nI 0) dX10_night_54 (by decide) ?_
      refine pm_put (pc := 55) (ci := 8) (C0 := RX10) (T := TX10) (N := 34) (j := 10) (ty := .int) rfl rfl in_X10 tyX10 tyX10_ok nmX10 (by decide) wf_X10_151 rfl rfl (by decide +kernel) rfl rfl dX10_night_55 ?_
      have e5 : ∀ c : Nat, c ≠ 40 → c ≠ 53 → (pm_u J 40 (upd (J 40) 10 (nI 0))) c = I c := fun c h1 h2 => (pm_un h1).trans (eo c h1 h2)
      have e6 : ∀ k : Nat, k ≠ 10 → k ≠ 11 → k ≠ 12 → k ≠ 18 → (pm_u J 40 (upd (J 40) 10 (nI 0))) 40 k = I 40 k := fun k h0 h1 h2 h3 => by
        rw [pm_us]; show (if k = 10 then _ else J 40 k) = _; rw [if_neg h0]; exact e40 k h1 h2 h3
      have e10 : (pm_u J 40 (upd (J 40) 10 (nI 0))) 40 10 = nI 0 := by rw [pm_us]; rfl
      have g1 : MG (pm_u J 40 (upd (J 40) 10 (nI 0))) (x_g X) := hR.1.k (fun c h1 h2 => e5 c (by omega) (by omega)) (e6 0 (by decide) (by decide) (by decide) (by decide)) (e6 8 (by decide) (by decide) (by decide) (by decide))
      have e12 : (pm_u J 40 (upd (J 40) 10 (nI 0))) 40 12 = J 40 12 := by rw [pm_us]; rfl
      refine pm_aload_n (pc := 58) dX10_night_58 rfl ?_
      refine pm_get (pc := 59) (ci := 8) (C0 := RX10) (T := TX10) (N := 34) (j := 12) rfl rfl in_X10 (by decide) wf_X10_157 rfl dX10_night_59 ?_
      rw [e12, hS.2.2.1]
      refine pm_if_eq (pc := 62) (tgt := 70) dX10_night_62 rfl (fun h62 => absurd h62 (z_F_0 (Nat.le_trans hok.2.1 h120))) (fun h62 => ?_)
      refine pm_aload_n (pc := 65) dX10_night_65 rfl ?_
      refine pm_get (pc := 66) (ci := 8) (C0 := RX10) (T := TX10) (N := 34) (j := 12) rfl rfl in_X10 (by decide) wf_X10_157 rfl dX10_night_66 ?_
      rw [e12, hS.2.2.1]
      refine pm_iret (pc := 69) rfl (Nat.le_refl _) (Nat.le_refl _) dX10_night_69 ?_
      have e7 : sp_night X = (z_F (z_night (x_t X) (g_n (x_g X))).1, xt X []) := by unfold sp_night; rw [et]
      rw [e7]
      exact YQ.r rfl (hR.n (s := x_g X) g1 ⟨e5 60 (by decide) (by decide), e5 61 (by decide) (by decide), e5 62 (by decide) (by decide)⟩ ⟨e6 26 (by decide) (by decide) (by decide) (by decide), e6 27 (by decide) (by decide) (by decide) (by decide), e6 28 (by decide) (by decide) (by decide) (by decide)⟩ e10) (fun c hc => ⟨e5 c (by omega) (by omega), rfl⟩)
    | some lst =>
      unfold y_NE at hE
      rw [et] at hE
      obtain ⟨K, a, hD, hS⟩ := hE
      have hlst := (hok.2.2 lst et).1
      have eo : ∀ c : Nat, c ≠ 40 → c ≠ 53 → J c = I c := fun c h1 h2 => (hS.1 c h1).trans (hD.1 c h1 h2)
      have e40 : ∀ k : Nat, k ≠ 11 → k ≠ 12 → k ≠ 18 → J 40 k = I 40 k := fun k h1 h2 h3 => (hS.2.2.2 k h1 h2).trans (hD.2.1 k h1 h2 h3)
      refine pm_aload_n (pc := 53) dX10_night_53 rfl ?_
      refine pm_iconst (pc := 54) (v := nI 0) dX10_night_54 (by decide) ?_
      refine pm_put (pc := 55) (ci := 8) (C0 := RX10) (T := TX10) (N := 34) (j := 10) (ty := .int) rfl rfl in_X10 tyX10 tyX10_ok nmX10 (by decide) wf_X10_151 rfl rfl (by decide +kernel) rfl rfl dX10_night_55 ?_
      have e5 : ∀ c : Nat, c ≠ 40 → c ≠ 53 → (pm_u J 40 (upd (J 40) 10 (nI 0))) c = I c := fun c h1 h2 => (pm_un h1).trans (eo c h1 h2)
      have e6 : ∀ k : Nat, k ≠ 10 → k ≠ 11 → k ≠ 12 → k ≠ 18 → (pm_u J 40 (upd (J 40) 10 (nI 0))) 40 k = I 40 k := fun k h0 h1 h2 h3 => by
        rw [pm_us]; show (if k = 10 then _ else J 40 k) = _; rw [if_neg h0]; exact e40 k h1 h2 h3
      have e10 : (pm_u J 40 (upd (J 40) 10 (nI 0))) 40 10 = nI 0 := by rw [pm_us]; rfl
      have g1 : MG (pm_u J 40 (upd (J 40) 10 (nI 0))) (x_g X) := hR.1.k (fun c h1 h2 => e5 c (by omega) (by omega)) (e6 0 (by decide) (by decide) (by decide) (by decide)) (e6 8 (by decide) (by decide) (by decide) (by decide))
      have e12 : (pm_u J 40 (upd (J 40) 10 (nI 0))) 40 12 = J 40 12 := by rw [pm_us]; rfl
      refine pm_aload_n (pc := 58) dX10_night_58 rfl ?_
      refine pm_get (pc := 59) (ci := 8) (C0 := RX10) (T := TX10) (N := 34) (j := 12) rfl rfl in_X10 (by decide) wf_X10_157 rfl dX10_night_59 ?_
      rw [e12, hS.2.2.1]
      refine pm_if_eq (pc := 62) (tgt := 70) dX10_night_62 rfl (fun h62 => ?_) (fun h62 => absurd rfl h62)
      refine pm_iconst (pc := 70) (v := nI 0) dX10_night_70 (by decide) ?_
      refine pm_istore_n (pc := 71) dX10_night_71 (by decide) rfl ?_
      have e7 : sp_night X = (nI (z_run lst (x_g X)).1, xt (xg X (z_run lst (x_g X)).2) []) := by unfold sp_night; rw [et]
      refine l_ya72 (I := (pm_u J 40 (upd (J 40) 10 (nI 0)))) (lst := lst) (by have := hlst.2.1; omega) (fun k hk => ?_) ?_ (V := (z_run lst (x_g X)).1) (S := (z_run lst (x_g X)).2) (fun I2 hG2 hf2 => ?_) lst 0 (x_g X) (pm_u J 40 (upd (J 40) 10 (nI 0))) rfl (Nat.zero_le _) g1 hI mF.rf hlst.2.2 (Nat.zero_add _) rfl
      · rw [pm_un (by decide), hS.1 53 (by decide)]; exact hD.2.2.2 k hk
      · rw [pm_us]; show J 40 18 = _; rw [hS.2.2.2 18 (by decide) (by decide)]; exact hD.2.2.1
      · rw [e7]
        exact YQ.r rfl (hR.n hG2 ⟨(hf2.1 60 (by omega)).trans (e5 60 (by decide) (by decide)), (hf2.1 61 (by omega)).trans (e5 61 (by decide) (by decide)), (hf2.1 62 (by omega)).trans (e5 62 (by decide) (by decide))⟩ ⟨(hf2.2 26 (by decide) (by decide)).trans (e6 26 (by decide) (by decide) (by decide) (by decide)), (hf2.2 27 (by decide) (by decide)).trans (e6 27 (by decide) (by decide) (by decide) (by decide)), (hf2.2 28 (by decide) (by decide)).trans (e6 28 (by decide) (by decide) (by decide) (by decide))⟩ ((hf2.2 10 (by decide) (by decide)).trans e10)) (fun c hc => ⟨(hf2.1 c (by omega)).trans (e5 c (by omega) (by omega)), rfl⟩)
  
  have hK : y_ND I (pm_u I 40 (upd (I 40) 18 (nI 0))) [] := ⟨fun c h1 h2 => pm_un h1, fun k h1 h2 h3 => by rw [pm_us]; show (if k = 18 then _ else I 40 k) = _; rw [if_neg h3], by rw [pm_us]; rfl, fun k hk => absurd hk (Nat.not_lt_zero _)⟩
  have hS0 : y_S (pm_u I 40 (upd (I 40) 18 (nI 0))) (pm_u (pm_u (pm_u I 40 (upd (I 40) 11 (nI 0))) 40 (upd (pm_u I 40 (upd (I 40) 11 (nI 0)) 40) 12 (nI 0))) 40 (upd (pm_u (pm_u I 40 (upd (I 40) 11 (nI 0))) 40 (upd (pm_u I 40 (upd (I 40) 11 (nI 0)) 40) 12 (nI 0)) 40) 18 (nI 0))) 0 0 := by
    refine ⟨fun c hc => ?_, ?_, ?_, fun k h1 h2 => ?_⟩
    · rw [pm_un hc, pm_un hc, pm_un hc, pm_un hc]
    · rw [pm_us, pm_us, pm_us]; rfl
    · rw [pm_us, pm_us, pm_us]; rfl
    · rw [pm_us, pm_us, pm_us, pm_us]
      show (if k = 18 then nI 0 else if k = 12 then nI 0 else if k = 11 then nI 0 else I 40 k) = (if k = 18 then nI 0 else I 40 k)
      rw [if_neg h2, if_neg h1]
  have hBK : y_B (pm_u I 40 (upd (I 40) 18 (nI 0))) (x_t X) := hK.B hB0
  have hNK : (pm_u I 40 (upd (I 40) 18 (nI 0))) 40 0 = nI (g_n (x_g X)) := by rw [hK.2.1 0 (by decide) (by decide) (by decide)]; exact hR.1.n
  refine pm_aload_n (pc := 15) dX10_night_15 rfl ?_
  refine pm_cVV (pc := 16) dX10_night_16 (c_takeAct hBK ht (Nat.zero_le _) h12 hNK (show ([] : List Nat).length < 60 by decide) hK.2.2.1 hS0 rfl) wq_X10_takeAct wm_X10_193 wi_X10_takeAct ws_X10_takeAct rfl rfl ⟨Nat.le_of_ble_eq_true rfl, Nat.le_of_ble_eq_true rfl⟩ ⟨Nat.le_of_ble_eq_true rfl, Nat.le_of_ble_eq_true rfl⟩ rfl (Nat.le_of_ble_eq_true rfl) (fun I16 L16 q16 => ?_)
  obtain ⟨A16, el16⟩ := q16
  subst el16
  cases ec : (z_act (x_t X) (g_n (x_g X)) 0).2 with
  | none =>
    obtain ⟨b, hb2, S16⟩ := A16.n ec
    have et : (z_night (x_t X) (g_n (x_g X))) = ((z_act (x_t X) (g_n (x_g X)) 0).1, none) := by unfold z_night z_all; rw [z_bind_n ec]
    exact l_ynF (τ := (z_night (x_t X) (g_n (x_g X)))) hB0 ht h12 hR.1.n hok.2.1 k53 hK (by rw [et]; exact S16) (by rw [et])
  | some c =>
    have S16 := A16.s ec
    have hl := (hoka.2.2 c ec).2
    refine l_yn19 hB0 ht h12 hR.1.n hok.2.1 k53 59 ([] ++ [c]) _ _ I16 rfl (Nat.le_refl _) hoka.2.1 (by show 3 * 1 ≤ _; omega) hK.app S16 ?_
    show _ = z_all (x_t X) 59 (z_act (x_t X) (g_n (x_g X))) 59
    unfold z_all
    rw [z_bind_s ec]
    unfold z_pre
    cases er : (z_more (x_t X) 59 (z_act (x_t X) (g_n (x_g X))) 59 (z_act (x_t X) (g_n (x_g X)) 0).1).2 with
    | none => rw [z_bind_n er]; rfl
    | some l => rw [z_bind_s er]; rfl
