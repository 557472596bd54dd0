theorem z_com {I : pm_I} {a c i : Nat} {f : Nat → Int32} {x : Int32} (hc : c ≠ 22) : pm_u (z_s (pm_u I c f) a) c (upd (z_s (pm_u I c f) a c) i x) = z_s (pm_u I c (upd f i x)) a := by
  funext b
  by_cases e : b = c
  · subst e
    rw [pm_us, z_s_ne hc, pm_us, z_s_ne hc, pm_us]
  · rw [pm_un e]
    by_cases e2 : b = 22
    · subst e2
      unfold z_s
      rw [pm_us, pm_us, pm_un e, pm_un e]
    · rw [z_s_ne e2, z_s_ne e2, pm_un e, pm_un e]
theorem z_com0 {I : pm_I} {a c i : Nat} {x : Int32} (hc : c ≠ 22) : pm_u (z_s I a) c (upd (z_s I a c) i x) = z_s (pm_u I c (upd (I c) i x)) a := by
  have h := z_com (I := I) (a := a) (f := I c) (i := i) (x := x) hc
  rw [pm_uu] at h; exact h
theorem z_B.c {I : pm_I} {t : List Nat} (h : z_B I t) {c : Nat} (h1 : c ≠ 22) (h2 : c ≠ 23) (f : Nat → Int32) : z_B (pm_u I c f) t := ⟨by rw [pm_un (fun z => h1 z.symm)]; exact h.1, fun k hk => by rw [pm_un (fun z => h2 z.symm)]; exact h.2 k hk⟩
theorem z_s0 {I : pm_I} (h : I 22 2 = nI 0) : z_s I 0 = I := by
  unfold z_s
  have e : upd (I 22) 2 (nI 0) = I 22 := by
    funext k
    show (if k = 2 then nI 0 else I 22 k) = I 22 k
    split
    · rename_i z; rw [z, h]
    · rfl
  rw [e, pm_uu]
def z_rl {α : Type} (τ : Nat × Option (List α)) : Int32 := match τ.2 with
  | none => z_F τ.1
  | some l => nI l.length
def z_pre {α : Type} (done : List α) (σ : Nat × Option (List α)) : Nat × Option (List α) := (σ.1, σ.2.map (fun l => done ++ l))
def z_RQ (I : pm_I) (L : pm_L) (τ : Nat × Option (List Nat)) : pm_QT := QI GG (fun r I' L' => (∃ (F : Nat → Int32) (a : Nat), r = z_rl τ ∧ I' = z_s (pm_u I 30 F) a ∧ ∀ l, τ.2 = some l → ∀ k, k < l.length → F k = nI (l.getD k 0)) ∧ L' = L)
theorem z_pre_s {α : Type} {t : List Nat} {sep : Nat} {item : Nat → Nat × Option α} {m a a1 : Nat} {x : α} {done : List α} {τ : Nat × Option (List α)} (hs : z_p t (z_m sep) a = some 0) (hi : (item (z_q t (z_m sep) a)).2 = some x) (h1 : (item (z_q t (z_m sep) a)).1 = a1) (hT : z_pre done (z_more t sep item (m + 1) a) = τ) : z_pre (done ++ [x]) (z_more t sep item m a1) = τ := by
  have hl : z_sk t a < t.length := by
    refine Classical.byContradiction (fun z => ?_)
    unfold z_p at hs
    rw [if_neg z] at hs; exact absurd hs (by simp)
  have hg := z_get hs
  have hc : t.getD (z_sk t a) 0 = sep := by
    unfold z_m at hg
    split at hg
    · assumption
    · exact absurd hg (by simp)
  have e : z_more t sep item (m + 1) a = z_bind (item (z_sk t a + 1)) fun x a1 => z_bind (z_more t sep item m a1) fun l a2 => (a2, some (x :: l)) := by
    show (if z_sk t a < t.length then (if t.getD (z_sk t a) 0 = sep then _ else _) else _) = _
    rw [if_pos hl, if_pos hc]
  rw [z_q_s hs] at hi h1
  rw [e, z_bind_s hi, h1] at hT
  rw [← hT]
  unfold z_pre
  cases er : (z_more t sep item m a1).2 with
  | none => rw [z_bind_n er]; rfl
  | some l => rw [z_bind_s er]; show _ = (_, some (done ++ x :: l)); rw [show done ++ x :: l = done ++ [x] ++ l by simp]; rfl
theorem z_pre_f {α : Type} {t : List Nat} {sep : Nat} {item : Nat → Nat × Option α} {m a : Nat} {done : List α} {τ : Nat × Option (List α)} (hs : z_p t (z_m sep) a = some 0) (hi : (item (z_q t (z_m sep) a)).2 = none) (hT : z_pre done (z_more t sep item (m + 1) a) = τ) : τ = ((item (z_q t (z_m sep) a)).1, none) := by
  have hl : z_sk t a < t.length := by
    refine Classical.byContradiction (fun z => ?_)
    unfold z_p at hs
    rw [if_neg z] at hs; exact absurd hs (by simp)
  have hg := z_get hs
  have hc : t.getD (z_sk t a) 0 = sep := by
    unfold z_m at hg
    split at hg
    · assumption
    · exact absurd hg (by simp)
  have e : z_more t sep item (m + 1) a = z_bind (item (z_sk t a + 1)) fun x a1 => z_bind (z_more t sep item m a1) fun l a2 => (a2, some (x :: l)) := by
    show (if z_sk t a < t.length then (if t.getD (z_sk t a) 0 = sep then _ else _) else _) = _
    rw [if_pos hl, if_pos hc]
  rw [z_q_s hs] at hi ⊢
  rw [e, z_bind_n hi] at hT
  rw [← hT]; rfl
theorem z_pre_e {α : Type} {t : List Nat} {sep : Nat} {item : Nat → Nat × Option α} {m a : Nat} {done : List α} {τ : Nat × Option (List α)} (hs : m = 0 ∨ z_p t (z_m sep) a = none) (hT : z_pre done (z_more t sep item m a) = τ) : τ = if z_sk t a < t.length then (z_sk t a, none) else (z_sk t a, some done) := by
  rw [← hT]
  unfold z_pre
  cases m with
  | zero =>
    show ((if z_sk t a < t.length then (z_sk t a, none) else (z_sk t a, some []) : Nat × Option (List α)).1, Option.map _ (if z_sk t a < t.length then (z_sk t a, none) else (z_sk t a, some []) : Nat × Option (List α)).2) = _
    split
    · rfl
    · show (z_sk t a, some (done ++ [])) = _; rw [List.append_nil]
  | succ m =>
    have hp := hs.resolve_left (by omega)
    have e : z_more t sep item (m + 1) a = if z_sk t a < t.length then (z_sk t a, none) else (z_sk t a, some []) := by
      show (if z_sk t a < t.length then (if t.getD (z_sk t a) 0 = sep then _ else _) else _) = _
      by_cases h : z_sk t a < t.length
      · rw [if_pos h, if_pos h, if_neg]
        intro z
        unfold z_p z_m at hp
        rw [if_pos h, if_pos z] at hp; exact absurd hp (by simp)
      · rw [if_neg h, if_neg h]
    rw [e]
    split
    · rfl
    · show (z_sk t a, some (done ++ [])) = _; rw [List.append_nil]
set_option maxRecDepth 100000 in
set_option maxHeartbeats 1000000 in
theorem l_nr24 {I : pm_I} {L : pm_L} {t : List Nat} (hB : z_B I t) (ht : z_ok t) {n : Nat} (hn : n ≤ 12) {τ : Nat × Option (List Nat)} {la : Launch} {P : pm_E} {done : List Nat} (hd : done.length < 60) {F : Nat → Int32} {a : Nat} (ha : a ≤ t.length) (hF : ∀ k, k < done.length → F k = nI (done.getD k 0)) (kf : (z_act t n a).2 = none → τ = ((z_act t n a).1, none)) (k2 : ∀ (x : Nat) (F' : Nat → Int32), (z_act t n a).2 = some x → (∀ k, k < (done ++ [x]).length → F' k = nI ((done ++ [x]).getD k 0)) → PW la P yX4_read cX4_read 5 (some (.int)) (pm_rm 7 0 0) (pm_Tg P (z_RQ I L τ) 0 0) 0 0 2 [some (.ref 29), some (.ref 22), some (.int (nI n)), some (.int (nI (done ++ [x]).length)), none] [] GG (z_s (pm_u I 30 F') (z_act t n a).1) L) : PW la P yX4_read cX4_read 5 (some (.int)) (pm_rm 7 0 0) (pm_Tg P (z_RQ I L τ) 0 0) 0 0 24 [some (.ref 29), some (.ref 22), some (.int (nI n)), some (.int (nI done.length)), none] [] GG (z_s (pm_u I 30 F) a) L := by
  have h120 := ht.1
  have hok := z_act_ok hn ha
  refine pm_aload_n (pc := 24) dX4_read_24 rfl ?_
  refine pm_iload_n (pc := 25) dX4_read_25 rfl ?_
  refine pm_cSI (pc := 26) dX4_read_26 (c_readAct (hB.c (by decide) (by decide) F) ht ha hn) wq_X4_readAct wm_X4_23 wt_X4_readAct ⟨Nat.le_of_ble_eq_true rfl, Nat.le_of_ble_eq_true rfl⟩ ⟨Nat.le_of_ble_eq_true rfl, Nat.le_of_ble_eq_true rfl⟩ rfl (Nat.le_of_ble_eq_true rfl) (fun r26 I26 L26 q26 => ?_)
  obtain ⟨⟨er, eI⟩, el⟩ := q26
  subst el
  subst eI
  refine pm_istore (pc := 29) dX4_read_29 (by decide) rfl ?_
  refine pm_iload (pc := 31) dX4_read_31 rfl ?_
  refine pm_if_ge (pc := 33) (tgt := 41) dX4_read_33 rfl (fun h33 => ?_) (fun h33 => ?_)
  · obtain ⟨x, ex⟩ : ∃ x, (z_act t n a).2 = some x := by
      cases e : (z_act t n a).2 with
      | none => rw [er, e] at h33; exact absurd (show 0 ≤ (-1 : Int32) from h33) (by decide)
      | some x => exact ⟨x, rfl⟩
    rw [ex] at er
    have er2 : r26 = nI x := er
    subst er2
    refine pm_aload_n (pc := 41) dX4_read_41 rfl ?_
    refine pm_getr (pc := 42) (ci := 2) (C0 := RX4) (T := TX4) (N := 1) (j := 0) rfl rfl in_X4 (by decide) wf_X4_11 rfl dX4_read_42 ?_
    refine pm_iload_n (pc := 45) dX4_read_45 rfl ?_
    refine pm_iload (pc := 46) dX4_read_46 rfl ?_
    refine pm_iast (pc := 48) rfl (by omega) (by decide) dX4_read_48 ?_
    refine pm_eq rfl rfl rfl (z_com (by decide)) rfl ?_
    refine pm_iinc (pc := 49) dX4_read_49 rfl (pm_inc1 _) (by decide) rfl ?_
    refine pm_goto (pc := 52) (tgt := 2) dX4_read_52 rfl ?_
    refine pm_kill 4 ?_
    have k9 := k2 x (upd F done.length (nI x)) ex (fun k hk => ?_)
    · rw [List.length_append] at k9
      exact k9
    rw [List.length_append, List.length_singleton] at hk
    show (if k = done.length then nI x else F k) = _
    by_cases e : k = done.length
    · rw [if_pos e, e, List.getD_eq_getElem?_getD, List.getElem?_append_right (Nat.le_refl _), Nat.sub_self]; rfl
    · rw [if_neg e, hF k (by omega), List.getD_eq_getElem?_getD, List.getD_eq_getElem?_getD, List.getElem?_append_left (by omega)]
  · have e9 : (z_act t n a).2 = none := by
      cases e : (z_act t n a).2 with
      | none => rfl
      | some x =>
        have hx := a_lt (s := (n, fun _ => 0, fun _ => 0, fun _ => 0, fun _ => 0, fun _ => [], fun _ => 0, 0)) (hok.2.2 x e).1
        rw [er, e] at h33
        have h2 : ¬ 0 ≤ nI x := h33
        rw [pm_leI, nI_toInt (by omega), pm_t0] at h2; omega
    refine pm_aload_n (pc := 36) dX4_read_36 rfl ?_
    refine pm_cVR (pc := 37) dX4_read_37 (c_fault) wq_X6_fault wm_X4_27 wi_X6_fault ws_X6_fault rfl rfl ⟨Nat.le_of_ble_eq_true rfl, Nat.le_of_ble_eq_true rfl⟩ ⟨Nat.le_of_ble_eq_true rfl, Nat.le_of_ble_eq_true rfl⟩ rfl (Nat.le_of_ble_eq_true rfl) ?_
    refine pm_iret (pc := 40) rfl (Nat.le_refl _) (Nat.le_refl _) dX4_read_40 ?_
    have e8 := kf e9
    rw [e8]
    exact QI.r ⟨⟨F, _, rfl, rfl, fun l hl => absurd hl (by simp)⟩, rfl⟩
set_option maxRecDepth 100000 in
set_option maxHeartbeats 1000000 in
theorem l_nr55 {I : pm_I} {L : pm_L} {t : List Nat} (hB : z_B I t) (ht : z_ok t) {n : Nat} (hn : n ≤ 12) {τ : Nat × Option (List Nat)} {la : Launch} {P : pm_E} {done : List Nat} (hd : done.length ≤ 60) {F : Nat → Int32} {a : Nat} (ha : a ≤ t.length) (hF : ∀ k, k < done.length → F k = nI (done.getD k 0)) (hT : τ = if z_sk t a < t.length then (z_sk t a, none) else (z_sk t a, some done)) : PW la P yX4_read cX4_read 5 (some (.int)) (pm_rm 7 0 0) (pm_Tg P (z_RQ I L τ) 0 0) 0 0 55 [some (.ref 29), some (.ref 22), some (.int (nI n)), some (.int (nI done.length)), none] [] GG (z_s (pm_u I 30 F) a) L := by
  have h120 := ht.1
  refine pm_aload_n (pc := 55) dX4_read_55 rfl ?_
  refine pm_cVI (pc := 56) dX4_read_56 (c_isAtEnd (hB.c (by decide) (by decide) F) ht ha) wq_X6_isAtEnd wm_X4_31 wi_X6_isAtEnd ws_X6_isAtEnd rfl rfl ⟨Nat.le_of_ble_eq_true rfl, Nat.le_of_ble_eq_true rfl⟩ ⟨Nat.le_of_ble_eq_true rfl, Nat.le_of_ble_eq_true rfl⟩ rfl (Nat.le_of_ble_eq_true rfl) (fun r56 I56 L56 q56 => ?_)
  obtain ⟨⟨er, eI⟩, el⟩ := q56
  subst el
  subst eI
  subst er
  refine pm_if_eq (pc := 59) (tgt := 66) dX4_read_59 rfl (fun h59 => ?_) (fun h59 => ?_)
  · rw [if_pos (Nat.lt_of_not_le (b1_nf h59))] at hT
    refine pm_aload_n (pc := 66) dX4_read_66 rfl ?_
    refine pm_cVR (pc := 67) dX4_read_67 (c_fault) wq_X6_fault wm_X4_27 wi_X6_fault ws_X6_fault rfl rfl ⟨Nat.le_of_ble_eq_true rfl, Nat.le_of_ble_eq_true rfl⟩ ⟨Nat.le_of_ble_eq_true rfl, Nat.le_of_ble_eq_true rfl⟩ rfl (Nat.le_of_ble_eq_true rfl) ?_
    refine pm_iret (pc := 70) rfl (Nat.le_refl _) (Nat.le_refl _) dX4_read_70 ?_
    rw [hT]
    first
      | exact QI.r ⟨⟨F, _, rfl, rfl, fun l hl => by rw [← Option.some.inj hl]; exact hF⟩, rfl⟩
      | exact QI.r ⟨⟨F, _, rfl, rfl, fun l hl => absurd hl (by simp)⟩, rfl⟩
  · rw [if_neg (Nat.not_lt.mpr (b1_nt h59))] at hT
    refine pm_iload_n (pc := 62) dX4_read_62 rfl ?_
    refine pm_goto (pc := 63) (tgt := 70) dX4_read_63 rfl ?_
    refine pm_iret (pc := 70) rfl (Nat.le_refl _) (Nat.le_refl _) dX4_read_70 ?_
    rw [hT]
    first
      | exact QI.r ⟨⟨F, _, rfl, rfl, fun l hl => by rw [← Option.some.inj hl]; exact hF⟩, rfl⟩
      | exact QI.r ⟨⟨F, _, rfl, rfl, fun l hl => absurd hl (by simp)⟩, rfl⟩
set_option maxRecDepth 100000 in
set_option maxHeartbeats 1000000 in
theorem l_nr2 {I : pm_I} {L : pm_L} {t : List Nat} (hB : z_B I t) (ht : z_ok t) {n : Nat} (hn : n ≤ 12) {τ : Nat × Option (List Nat)} {la : Launch} {P : pm_E} : ∀ (m : Nat) (done : List Nat) (F : Nat → Int32) (a : Nat), done.length + m = 60 → 1 ≤ done.length → a ≤ t.length → (∀ k, k < done.length → F k = nI (done.getD k 0)) → z_pre done (z_more t 59 (z_act t n) m a) = τ → PW la P yX4_read cX4_read 5 (some (.int)) (pm_rm 7 0 0) (pm_Tg P (z_RQ I L τ) 0 0) 0 0 2 [some (.ref 29), some (.ref 22), some (.int (nI n)), some (.int (nI done.length)), none] [] GG (z_s (pm_u I 30 F) a) L
  | 0, done, F, a, hm, h1, ha, hF, hT => by
    have h120 := ht.1
    refine pm_iload_n (pc := 2) dX4_read_2 rfl ?_
    refine pm_aload_n (pc := 3) dX4_read_3 rfl ?_
    refine pm_getr (pc := 4) (ci := 2) (C0 := RX4) (T := TX4) (N := 1) (j := 0) rfl rfl in_X4 (by decide) wf_X4_11 rfl dX4_read_4 ?_
    refine pm_alen (pc := 7) (v := nI 60) rfl (by decide) rfl dX4_read_7 ?_
    refine pm_icmp_ge (pc := 8) (tgt := 55) dX4_read_8 rfl (fun h8 => ?_) (fun h8 => (by simp (disch := omega) only [pm_eqI, pm_ltI, pm_leI, nI_toInt, pm_t0, pm_t1, pm_tm1] at h8; omega))
    exact l_nr55 hB ht hn (by omega) ha hF (z_pre_e (Or.inl rfl) hT)
  | m + 1, done, F, a, hm, h1, ha, hF, hT => by
    have h120 := ht.1
    have hq := z_q_le (f := z_m 59) ha
    have hok := z_act_ok hn hq.2
    refine pm_iload_n (pc := 2) dX4_read_2 rfl ?_
    refine pm_aload_n (pc := 3) dX4_read_3 rfl ?_
    refine pm_getr (pc := 4) (ci := 2) (C0 := RX4) (T := TX4) (N := 1) (j := 0) rfl rfl in_X4 (by decide) wf_X4_11 rfl dX4_read_4 ?_
    refine pm_alen (pc := 7) (v := nI 60) rfl (by decide) rfl dX4_read_7 ?_
    refine pm_icmp_ge (pc := 8) (tgt := 55) dX4_read_8 rfl (fun h8 => (by simp (disch := omega) only [pm_eqI, pm_ltI, pm_leI, nI_toInt, pm_t0, pm_t1, pm_tm1] at h8; omega)) (fun h8 => ?_)
    refine pm_iload_n (pc := 11) dX4_read_11 rfl ?_
    refine pm_if_eq (pc := 12) (tgt := 24) dX4_read_12 rfl (fun h12 => (by simp (disch := omega) only [pm_eqI, pm_ltI, pm_leI, nI_toInt, pm_t0, pm_t1, pm_tm1] at h12; omega)) (fun h12 => ?_)
    refine pm_aload_n (pc := 15) dX4_read_15 rfl ?_
    refine pm_ldcS (pc := 16) (RX4, 17, ";", 6) (by decide) rfl rfl (by decide) dX4_read_16 ?_
    refine pm_cVI (pc := 18) dX4_read_18 (c_choice1 (hB.c (by decide) (by decide) F) ht ha (q := 6) (by decide) zf_6) wq_X6_choice wm_X4_19 wi_X6_choice ws_X6_choice rfl rfl ⟨Nat.le_of_ble_eq_true rfl, Nat.le_of_ble_eq_true rfl⟩ ⟨Nat.le_of_ble_eq_true rfl, Nat.le_of_ble_eq_true rfl⟩ rfl (Nat.le_of_ble_eq_true rfl) (fun r18 I18 L18 q18 => ?_)
    obtain ⟨⟨er, eI⟩, el⟩ := q18
    subst el
    have eJ : I18 = z_s (pm_u I 30 F) (z_q t (z_m 59) a) := eI
    subst eJ
    have er2 : r18 = z_o (z_p t (z_m 59) a) := er
    refine pm_if_ne (pc := 21) (tgt := 55) dX4_read_21 rfl (fun h21 => ?_) (fun h21 => ?_)
    · have hp := z_mk1 er2 h21
      rw [z_q_n hp]
      exact l_nr55 hB ht hn (by omega) (z_sk_sp ha).2.1 hF (by rw [z_sk_i ha]; exact z_pre_e (Or.inr hp) hT)
    · have hp := z_mk0 er2 h21
      exact l_nr24 hB ht hn (by omega) hq.2 hF (fun z => z_pre_f hp z hT) (fun x F' ex hF2 => l_nr2 hB ht hn m (done ++ [x]) F' _ (by rw [List.length_append, List.length_singleton]; omega) (by rw [List.length_append, List.length_singleton]; omega) hok.2.1 hF2 (z_pre_s hp ex rfl hT))
set_option maxRecDepth 100000 in
set_option maxHeartbeats 1000000 in
theorem c_readN {I : pm_I} {L : pm_L} {t : List Nat} (hB : z_B I t) (ht : z_ok t) {n : Nat} (hn : n ≤ 12) : PC 7 0 0 yX4_read cX4_read 5 (some (.int)) [.ref 29, .ref 22, .int (nI n)] GG (z_s I 0) L (z_RQ I L (z_night t n)) := by
  have h120 := ht.1
  refine PC.of [some (.ref 29), some (.ref 22), some (.int (nI n)), none, none] (by decide) (Nat.le_of_ble_eq_true rfl) rfl (fun l P => ?_)
  refine pm_iconst (pc := 0) (v := nI 0) dX4_read_0 (by decide) ?_
  refine pm_istore_n (pc := 1) dX4_read_1 (by decide) rfl ?_
  refine pm_iload_n (pc := 2) dX4_read_2 rfl ?_
  refine pm_aload_n (pc := 3) dX4_read_3 rfl ?_
  refine pm_getr (pc := 4) (ci := 2) (C0 := RX4) (T := TX4) (N := 1) (j := 0) rfl rfl in_X4 (by decide) wf_X4_11 rfl dX4_read_4 ?_
  refine pm_alen (pc := 7) (v := nI 60) rfl (by decide) rfl dX4_read_7 ?_
  refine pm_icmp_ge (pc := 8) (tgt := 55) dX4_read_8 rfl (fun h8 => (by simp (disch := omega) only [pm_eqI, pm_ltI, pm_leI, nI_toInt, pm_t0, pm_t1, pm_tm1] at h8; omega)) (fun h8 => ?_)
  refine pm_iload_n (pc := 11) dX4_read_11 rfl ?_
  refine pm_if_eq (pc := 12) (tgt := 24) dX4_read_12 rfl (fun h12 => ?_) (fun h12 => absurd (show nI 0 = 0 by decide) h12)
  have hok := z_act_ok hn (Nat.zero_le t.length)
  refine pm_eq rfl rfl rfl (I' := z_s (pm_u I 30 (I 30)) 0) (by rw [pm_uu]) rfl ?_
  refine l_nr24 hB ht hn (done := []) (by decide) (Nat.zero_le _) (fun k hk => absurd hk (Nat.not_lt_zero _)) (fun z => ?_) (fun x F' ex hF2 => l_nr2 hB ht hn 59 ([] ++ [x]) F' _ rfl (Nat.le_refl _) hok.2.1 hF2 ?_)
  · unfold z_night z_all; rw [z_bind_n z]
  · unfold z_night z_all; rw [z_bind_s ex]
    unfold z_pre
    cases er : (z_more t 59 (z_act t n) 59 (z_act t n 0).1).2 with
    | none => rw [z_bind_n er]; rfl
    | some l => rw [z_bind_s er]; rfl
theorem z_tn (s : gS) (c : Nat) : g_n (s_try s c).2 = g_n s := by
  unfold s_try
  split
  · rfl
  · split
    · rfl
    · exact (h_same s c).1
theorem z_run_inv : ∀ (l : List Nat) (s : gS), gInv s → (∀ c, c ∈ l → z_aok (g_n s) c) → gInv (z_run l s).2
  | [], s, h, _ => h
  | c :: l, s, h, ha => by
    have h1 := gInv_try h (ha c List.mem_cons_self)
    have h2 := z_run_inv l (s_try s c).2 h1 (fun d hd => by rw [z_tn]; exact ha d (List.mem_cons_of_mem _ hd))
    show gInv (if (s_try s c).1 = 0 then ((z_run l (s_try s c).2).1 + 1, (z_run l (s_try s c).2).2) else (0, (s_try s c).2)).2
    split
    · exact h2
    · exact h1
theorem z_run_le : ∀ (l : List Nat) (s : gS), (z_run l s).1 ≤ l.length
  | [], s => Nat.le_refl _
  | c :: l, s => by
    have h2 := z_run_le l (s_try s c).2
    show (if (s_try s c).1 = 0 then ((z_run l (s_try s c).2).1 + 1, (z_run l (s_try s c).2).2) else (0, (s_try s c).2)).1 ≤ l.length + 1
    split
    · show (z_run l (s_try s c).2).1 + 1 ≤ _; omega
    · show 0 ≤ _; omega
set_option maxRecDepth 100000 in
set_option maxHeartbeats 1000000 in
theorem l_na {I : pm_I} {L : pm_L} {l : List Nat} (hl : l.length ≤ 60) (hF : ∀ k, k < l.length → I 30 k = nI (l.getD k 0)) {V : Nat} {S : gS} {la : Launch} {P : pm_E} : ∀ (r : List Nat) (k : Nat) (s : gS) (J : pm_I), l.drop k = r → k ≤ l.length → GR J 1 s → gInv s → gF I J → (∀ c, c ∈ r → z_aok (g_n s) c) → k + (z_run r s).1 = V → (z_run r s).2 = S → PW la P yX4_act cX4_act 4 (some (.int)) (pm_rm 5 0 0) (pm_Tg P (QI GG (fun v I' L' => (v = nI V ∧ GR I' 1 S ∧ gF I I') ∧ L' = L)) 0 0) 0 0 2 [some (.ref 29), some (.ref 1), some (.int (nI l.length)), some (.int (nI k))] [] GG J L
  | [], k, s, J, hr, hk, hG, hI, hf, hv, hV, hS => by
    have hge : l.length ≤ k := List.drop_eq_nil_iff.mp hr
    have hV2 : k + 0 = V := hV
    have hS2 : s = S := hS
    subst hS2
    refine pm_iload_n (pc := 2) dX4_act_2 rfl ?_
    refine pm_iload_n (pc := 3) dX4_act_3 rfl ?_
    refine pm_icmp_ge (pc := 4) (tgt := 35) dX4_act_4 rfl (fun h4 => ?_) (fun h4 => (by simp (disch := omega) only [pm_eqI, pm_ltI, pm_leI, nI_toInt, pm_t0, pm_t1, pm_tm1] at h4; omega))
    refine pm_iload_n (pc := 35) dX4_act_35 rfl ?_
    refine pm_iret (pc := 36) rfl (Nat.le_refl _) (Nat.le_refl _) dX4_act_36 ?_
    exact QI.r ⟨⟨congrArg nI (by omega), hG, hf⟩, rfl⟩
  | c :: r, k, s, J, hr, hk, hG, hI, hf, hv, hV, hS => by
    have hlt : k < l.length := by
      refine Nat.lt_of_not_le (fun z => ?_)
      rw [List.drop_eq_nil_iff.mpr z] at hr
      exact absurd hr (by simp)
    rw [List.drop_eq_getElem_cons hlt] at hr
    obtain ⟨hc, hr2⟩ := List.cons.inj hr
    have e30 : J 30 k = nI c := by rw [hf 30 (by omega), hF k hlt, List.getD_eq_getElem?_getD, List.getElem?_eq_getElem hlt, hc]; rfl
    have ho : a_ok s c := hv c List.mem_cons_self
    have e0 : z_run (c :: r) s = if (s_try s c).1 = 0 then ((z_run r (s_try s c).2).1 + 1, (z_run r (s_try s c).2).2) else (0, (s_try s c).2) := rfl
    rw [e0] at hV hS
    refine pm_iload_n (pc := 2) dX4_act_2 rfl ?_
    refine pm_iload_n (pc := 3) dX4_act_3 rfl ?_
    refine pm_icmp_ge (pc := 4) (tgt := 35) dX4_act_4 rfl (fun h4 => (by simp (disch := omega) only [pm_eqI, pm_ltI, pm_leI, nI_toInt, pm_t0, pm_t1, pm_tm1] at h4; omega)) (fun h4 => ?_)
    refine pm_iload_n (pc := 7) dX4_act_7 rfl ?_
    refine pm_aload_n (pc := 8) dX4_act_8 rfl ?_
    refine pm_getr (pc := 9) (ci := 2) (C0 := RX4) (T := TX4) (N := 1) (j := 0) rfl rfl in_X4 (by decide) wf_X4_11 rfl dX4_act_9 ?_
    refine pm_alen (pc := 12) (v := nI 60) rfl (by decide) rfl dX4_act_12 ?_
    refine pm_icmp_ge (pc := 13) (tgt := 35) dX4_act_13 rfl (fun h13 => (by simp (disch := omega) only [pm_eqI, pm_ltI, pm_leI, nI_toInt, pm_t0, pm_t1, pm_tm1] at h13; omega)) (fun h13 => ?_)
    refine pm_aload_n (pc := 16) dX4_act_16 rfl ?_
    refine pm_aload_n (pc := 17) dX4_act_17 rfl ?_
    refine pm_getr (pc := 18) (ci := 2) (C0 := RX4) (T := TX4) (N := 1) (j := 0) rfl rfl in_X4 (by decide) wf_X4_11 rfl dX4_act_18 ?_
    refine pm_iload_n (pc := 21) dX4_act_21 rfl ?_
    refine pm_iald (pc := 22) rfl (by omega) (by decide) dX4_act_22 ?_
    rw [e30]
    refine pm_cVI (pc := 23) dX4_act_23 (c_tryAct hG hI ho) wq_X2_tryAct wm_X4_54 wi_X2_tryAct ws_X2_tryAct rfl rfl ⟨Nat.le_of_ble_eq_true rfl, Nat.le_of_ble_eq_true rfl⟩ ⟨Nat.le_of_ble_eq_true rfl, Nat.le_of_ble_eq_true rfl⟩ rfl (Nat.le_of_ble_eq_true rfl) (fun r23 I23 L23 q23 => ?_)
    obtain ⟨er, ⟨g23, f23⟩, el⟩ := q23
    subst el
    subst er
    refine pm_if_ne (pc := 26) (tgt := 35) dX4_act_26 rfl (fun h26 => ?_) (fun h26 => ?_)
    · rw [if_neg h26] at hV hS
      have hV2 : k + 0 = V := hV
      have hS2 : (s_try s c).2 = S := hS
      subst hS2
      refine pm_iload_n (pc := 35) dX4_act_35 rfl ?_
      refine pm_iret (pc := 36) rfl (Nat.le_refl _) (Nat.le_refl _) dX4_act_36 ?_
      exact QI.r ⟨⟨congrArg nI (by omega), g23, hf.tr f23⟩, rfl⟩
    · rw [if_pos h26] at hV hS
      have hV2 : k + ((z_run r (s_try s c).2).1 + 1) = V := hV
      refine pm_iinc (pc := 29) dX4_act_29 rfl (pm_inc1 _) (by decide) rfl ?_
      refine pm_goto (pc := 32) (tgt := 2) dX4_act_32 rfl ?_
      exact l_na hl hF r (k + 1) (s_try s c).2 I23 hr2 hlt g23 (gInv_try hI ho) (hf.tr f23) (fun d hd => by rw [z_tn]; exact hv d (List.mem_cons_of_mem _ hd)) (by omega) hS
set_option maxRecDepth 100000 in
set_option maxHeartbeats 1000000 in
theorem c_actN {I : pm_I} {L : pm_L} {lst : List Nat} (hl : lst.length ≤ 60) (hF : ∀ k, k < lst.length → I 30 k = nI (lst.getD k 0)) {s : gS} (hG : GR I 1 s) (hI : gInv s) (hv : ∀ c, c ∈ lst → z_aok (g_n s) c) : PC 5 0 0 yX4_act cX4_act 4 (some (.int)) [.ref 29, .ref 1, .int (nI lst.length)] GG I L (QI GG (fun v I' L' => (v = nI (z_run lst s).1 ∧ GR I' 1 (z_run lst s).2 ∧ gF I I') ∧ L' = L)) := by
  refine PC.of [some (.ref 29), some (.ref 1), some (.int (nI lst.length)), none] (by decide) (Nat.le_of_ble_eq_true rfl) rfl (fun l P => ?_)
  refine pm_iconst (pc := 0) (v := nI 0) dX4_act_0 (by decide) ?_
  refine pm_istore_n (pc := 1) dX4_act_1 (by decide) rfl ?_
  exact l_na hl hF lst 0 s I rfl (Nat.zero_le _) hG hI gF.rf hv (Nat.zero_add _) rfl
theorem XR.n {I I' : pm_I} {L : pm_L} {X : xS} {s : gS} {q : List Nat} (h : XR I L X) (hG : GR I' 1 s) (hT : XT I' q) (e : ∀ a : Nat, (a = 0 ∨ (9 ≤ a ∧ a ≤ 16) ∨ 32 ≤ a) → I' a = I a) : XR I' L (xt (xg X s) q) := by
  refine ⟨hG, ?_, hT, fun q hq => ⟨?_, (h.2.2.2 q hq).2⟩⟩
  · have h1 := h.2.1
    show XI I' (x_i X)
    unfold XI at h1 ⊢
    split
    · rename_i hz; rw [hz] at h1; rw [e 0 (by omega)]; exact h1
    · rename_i s' hz
      rw [hz] at h1
      exact ⟨by rw [e 0 (by omega)]; exact h1.1, h1.2.e (fun a _ _ => e a (by omega))⟩
  · have h1 := (h.2.2.2 q hq).1
    show XS I' q (x_s X q)
    unfold XS at h1 ⊢
    rw [e (32 + 2 * q) (by omega)]; exact h1
/-- the list that was read -/
theorem z_more_ok {α : Type} {t : List Nat} {sep d : Nat} {item : Nat → Nat × Option α} {φ : α → Prop} (hi : ∀ a, a ≤ t.length → z_G t a d φ (item a)) : ∀ (m a : Nat), a ≤ t.length → z_G t a 0 (fun l => l.length ≤ m ∧ (∀ x, x ∈ l → φ x) ∧ a + (d + 1) * l.length ≤ t.length) (z_more t sep item m a)
  | 0, a, ha => by
    have h := z_sk_sp ha
    show z_G t a 0 _ (if z_sk t a < t.length then (z_sk t a, none) else (z_sk t a, some []))
    split
    · exact ⟨h.1, h.2.1, fun x hx => absurd hx (by simp)⟩
    · exact ⟨h.1, h.2.1, fun x hx => ⟨by rw [← Option.some.inj hx]; exact ⟨Nat.le_refl _, fun x hx => absurd hx (by simp), by simpa using ha⟩, h.1⟩⟩
  | m + 1, a, ha => by
    have h := z_sk_sp ha
    show z_G t a 0 _ (if z_sk t a < t.length then (if t.getD (z_sk t a) 0 = sep then z_bind (item (z_sk t a + 1)) fun x a1 => z_bind (z_more t sep item m a1) fun l a2 => (a2, some (x :: l)) else (z_sk t a, none)) else (z_sk t a, some []))
    by_cases hl : z_sk t a < t.length
    · rw [if_pos hl]
      split
      · have hb := z_G.bind (e := 0) (ψ := fun l : List α => l.length ≤ m + 1 ∧ (∀ x, x ∈ l → φ x) ∧ z_sk t a + 1 + d + (d + 1) * (l.length - 1) ≤ t.length ∧ 1 ≤ l.length) (hi (z_sk t a + 1) hl) (k := fun x a1 => z_bind (z_more t sep item m a1) fun l a2 => (a2, some (x :: l))) (fun x a1 hx h1 h2 => by
          refine (z_G.bind (e := 0) (z_more_ok hi m a1 h2) (fun l a2 hl2 h3 h4 => ?_)).dn (by decide)
          refine z_G.ret h4 ⟨?_, ?_, ?_, ?_⟩
          · have := hl2.1; simp only [List.length_cons]; omega
          · intro y hy
            rcases List.mem_cons.mp hy with z | z
            · rw [z]; exact hx
            · exact hl2.2.1 y z
          · have := hl2.2.2
            simp only [List.length_cons, Nat.add_sub_cancel]; omega
          · simp)
        refine ⟨by have := hb.1; omega, hb.2.1, fun l hl3 => ⟨?_, by have := hb.1; omega⟩⟩
        obtain ⟨⟨p1, p2, p3, p4⟩, p5⟩ := hb.2.2 l hl3
        refine ⟨p1, p2, ?_⟩
        have e : (d + 1) * l.length = (d + 1) * (l.length - 1) + (d + 1) := by
          rw [← Nat.mul_succ]; congr 1; omega
        omega
      · exact ⟨h.1, h.2.1, fun x hx => absurd hx (by simp)⟩
    · rw [if_neg hl]
      exact ⟨h.1, h.2.1, fun x hx => ⟨by rw [← Option.some.inj hx]; exact ⟨Nat.zero_le _, fun x hx => absurd hx (by simp), by simpa using ha⟩, h.1⟩⟩
theorem z_all_ok {α : Type} {t : List Nat} {sep d : Nat} {item : Nat → Nat × Option α} {φ : α → Prop} (hi : ∀ a, a ≤ t.length → z_G t a d φ (item a)) (m : Nat) : z_G t 0 0 (fun l => 1 ≤ l.length ∧ l.length ≤ m + 1 ∧ ∀ x, x ∈ l → φ x) (z_all t sep item m) := by
  unfold z_all
  refine (z_G.bind (e := 0) (hi 0 (Nat.zero_le _)) (fun x a1 hx _ h1 => ?_)).dn (Nat.zero_le _)
  refine (z_G.bind (e := 0) (z_more_ok hi m a1 h1) (fun l a2 hl _ h2 => ?_)).dn (Nat.zero_le _)
  refine z_G.ret h2 ⟨by simp, by have := hl.1; simp only [List.length_cons]; omega, fun y hy => ?_⟩
  rcases List.mem_cons.mp hy with z | z
  · rw [z]; exact hx
  · exact hl.2.1 y z
set_option maxRecDepth 100000 in
set_option maxHeartbeats 1000000 in
theorem x_night {I : pm_I} {L : pm_L} {X : xS} (hR : XR I L X) (hX : xInv X) : PC 8 0 0 yX9_night cX9_night 2 (some (.int)) [.ref 0] GG I L (XQ I L (sp_night X).1 (sp_night X).2) := by
  have ht : z_ok (x_t X) := hX.2.2.1
  have hB : z_B I (x_t X) := ⟨hR.2.2.1.1, hR.2.2.1.2.2⟩
  have h0 : I 22 2 = nI 0 := hR.2.2.1.2.1
  have hI := hX.s
  have hok := z_all_ok (sep := 59) (m := 59) (t := x_t X) (fun a ha => z_act_ok hI.n12 ha)
  have h120 := ht.1
  refine PC.of [some (.ref 0), none] (by decide) (Nat.le_of_ble_eq_true rfl) rfl (fun l P => ?_)
  refine pm_aload_n (pc := 0) dX9_night_0 rfl ?_
  refine pm_getr (pc := 1) (ci := 7) (C0 := RX9) (T := TX9) (N := 9) (j := 7) rfl rfl in_X9 (by decide) wf_X9_50 rfl dX9_night_1 ?_
  refine pm_aload_n (pc := 4) dX9_night_4 rfl ?_
  refine pm_getr (pc := 5) (ci := 7) (C0 := RX9) (T := TX9) (N := 9) (j := 5) rfl rfl in_X9 (by decide) wf_X9_36 rfl dX9_night_5 ?_
  refine pm_aload_n (pc := 8) dX9_night_8 rfl ?_
  refine pm_getr (pc := 9) (ci := 7) (C0 := RX9) (T := TX9) (N := 9) (j := 0) rfl rfl in_X9 (by decide) wf_X9_10 rfl dX9_night_9 ?_
  refine pm_cVR (pc := 12) dX9_night_12 (c_pieces hR.1) wq_X2_pieces wm_X9_126 wi_X2_pieces ws_X2_pieces rfl rfl ⟨Nat.le_of_ble_eq_true rfl, Nat.le_of_ble_eq_true rfl⟩ ⟨Nat.le_of_ble_eq_true rfl, Nat.le_of_ble_eq_true rfl⟩ rfl (Nat.le_of_ble_eq_true rfl) ?_
  refine pm_eq rfl rfl rfl (z_s0 h0).symm rfl ?_
  refine pm_cVI (pc := 15) dX9_night_15 (c_readN hB ht hI.n12) wq_X4_read wm_X9_130 wi_X4_read ws_X4_read rfl rfl ⟨Nat.le_of_ble_eq_true rfl, Nat.le_of_ble_eq_true rfl⟩ ⟨Nat.le_of_ble_eq_true rfl, Nat.le_of_ble_eq_true rfl⟩ rfl (Nat.le_of_ble_eq_true rfl) (fun r15 I15 L15 q15 => ?_)
  obtain ⟨⟨F, a, er, eI, hF⟩, el⟩ := q15
  subst el
  subst eI
  refine pm_istore_n (pc := 18) dX9_night_18 (by decide) rfl ?_
  refine pm_aload_n (pc := 19) dX9_night_19 rfl ?_
  refine pm_getr (pc := 20) (ci := 7) (C0 := RX9) (T := TX9) (N := 9) (j := 5) rfl rfl in_X9 (by decide) wf_X9_36 rfl dX9_night_20 ?_
  refine pm_cVV (pc := 23) dX9_night_23 (c_empty) wq_X6_empty wm_X9_119 wi_X6_empty ws_X6_empty rfl rfl ⟨Nat.le_of_ble_eq_true rfl, Nat.le_of_ble_eq_true rfl⟩ ⟨Nat.le_of_ble_eq_true rfl, Nat.le_of_ble_eq_true rfl⟩ rfl (Nat.le_of_ble_eq_true rfl) (fun I23 L23 q23 => ?_)
  obtain ⟨⟨e1, e2, e3⟩, el⟩ := q23
  subst el
  have eo : ∀ c : Nat, c ≠ 22 → c ≠ 30 → I23 c = I c := fun c h1 h2 => (e1 c h1).trans ((z_s_ne h1).trans (pm_un h2))
  have e30 : I23 30 = F := (e1 30 (by decide)).trans ((z_s_ne (by decide)).trans pm_us)
  have hG2 : GR I23 1 (x_g X) := hR.1.e (fun c h1 h2 => eo c (by omega) (by omega))
  have hXT : ∀ J : pm_I, J 22 = I23 22 → XT J [] := fun J hJ => ⟨by rw [hJ]; exact e2, by rw [hJ]; exact e3, fun k hk => absurd hk (Nat.not_lt_zero _)⟩
  refine pm_iload_n (pc := 26) dX9_night_26 rfl ?_
  refine pm_if_le (pc := 27) (tgt := 45) dX9_night_27 rfl (fun h27 => ?_) (fun h27 => ?_)
  · have et : (z_night (x_t X) (g_n (x_g X))).2 = none := by
      cases e : (z_night (x_t X) (g_n (x_g X))).2 with
      | none => rfl
      | some l =>
        have hl := (hok.2.2 l e).1
        have e4 : r15 = nI l.length := by rw [er]; unfold z_rl; rw [e]
        rw [e4, pm_leI, nI_toInt (by omega), pm_t0] at h27; omega
    refine pm_iload_n (pc := 45) dX9_night_45 rfl ?_
    refine pm_iret (pc := 46) rfl (Nat.le_refl _) (Nat.le_refl _) dX9_night_46 ?_
    first
      | (have e5 : sp_night X = (z_F (z_night (x_t X) (g_n (x_g X))).1, xt X []) := by unfold sp_night; rw [et]
         rw [e5]
         exact XQ.r (by rw [er]; unfold z_rl; rw [et]) (hR.n hG2 (hXT _ rfl) (fun c hc => eo c (by omega) (by omega))) (fun c hc => ⟨eo c (by omega) (by omega), rfl⟩))
      | (have e5 : sp_night X = (nI (z_run l (x_g X)).1, xt (xg X (z_run l (x_g X)).2) []) := by unfold sp_night; rw [et]
         rw [e5]
         exact XQ.r er39 (hR.n g39 (hXT _ (f39 22 (by omega))) (fun c hc => (f39 c (by omega)).trans (eo c (by omega) (by omega)))) (fun c hc => ⟨(f39 c (by omega)).trans (eo c (by omega) (by omega)), rfl⟩))
  · obtain ⟨l, et⟩ : ∃ l, (z_night (x_t X) (g_n (x_g X))).2 = some l := by
      cases e : (z_night (x_t X) (g_n (x_g X))).2 with
      | none =>
        have e4 : r15 = z_F (z_night (x_t X) (g_n (x_g X))).1 := by rw [er]; unfold z_rl; rw [e]
        have := z_F_lt (a := (z_night (x_t X) (g_n (x_g X))).1) (Nat.le_trans hok.2.1 h120)
        rw [e4] at h27
        exact absurd (by rw [pm_leI]; rw [pm_ltI] at this; omega) h27
      | some l => exact ⟨l, rfl⟩
    have e4 : r15 = nI l.length := by rw [er]; unfold z_rl; rw [et]
    subst e4
    refine pm_aload_n (pc := 30) dX9_night_30 rfl ?_
    refine pm_getr (pc := 31) (ci := 7) (C0 := RX9) (T := TX9) (N := 9) (j := 7) rfl rfl in_X9 (by decide) wf_X9_50 rfl dX9_night_31 ?_
    refine pm_aload_n (pc := 34) dX9_night_34 rfl ?_
    refine pm_getr (pc := 35) (ci := 7) (C0 := RX9) (T := TX9) (N := 9) (j := 0) rfl rfl in_X9 (by decide) wf_X9_10 rfl dX9_night_35 ?_
    refine pm_iload_n (pc := 38) dX9_night_38 rfl ?_
    refine pm_cVI (pc := 39) dX9_night_39 (c_actN (lst := l) (by have := (hok.2.2 l et).1.2.1; omega) (fun k hk => by rw [e30]; exact hF l et k hk) hG2 hI (hok.2.2 l et).1.2.2) wq_X4_act wm_X9_133 wi_X4_act ws_X4_act rfl rfl ⟨Nat.le_of_ble_eq_true rfl, Nat.le_of_ble_eq_true rfl⟩ ⟨Nat.le_of_ble_eq_true rfl, Nat.le_of_ble_eq_true rfl⟩ rfl (Nat.le_of_ble_eq_true rfl) (fun r39 I39 L39 q39 => ?_)
    obtain ⟨⟨er39, g39, f39⟩, el⟩ := q39
    subst el
    refine pm_goto (pc := 42) (tgt := 46) dX9_night_42 rfl ?_
    refine pm_iret (pc := 46) rfl (Nat.le_refl _) (Nat.le_refl _) dX9_night_46 ?_
    first
      | (have e5 : sp_night X = (z_F (z_night (x_t X) (g_n (x_g X))).1, xt X []) := by unfold sp_night; rw [et]
         rw [e5]
         exact XQ.r (by rw [er]; unfold z_rl; rw [et]) (hR.n hG2 (hXT _ rfl) (fun c hc => eo c (by omega) (by omega))) (fun c hc => ⟨eo c (by omega) (by omega), rfl⟩))
      | (have e5 : sp_night X = (nI (z_run l (x_g X)).1, xt (xg X (z_run l (x_g X)).2) []) := by unfold sp_night; rw [et]
         rw [e5]
         exact XQ.r er39 (hR.n g39 (hXT _ (f39 22 (by omega))) (fun c hc => (f39 c (by omega)).trans (eo c (by omega) (by omega)))) (fun c hc => ⟨(f39 c (by omega)).trans (eo c (by omega) (by omega)), rfl⟩))
