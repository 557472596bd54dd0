def z_at (l : List z_P) (k : Nat) : z_P := l.getD k (0, 0, 0, 0)
def z_DK (J : pm_I) (l : List z_P) : Prop := ∀ k, k < l.length → J 25 k = nI (z_at l k).1 ∧ J 26 k = nI (z_at l k).2.1 ∧ J 27 k = nI (z_at l k).2.2.1 ∧ J 28 k = nI (z_at l k).2.2.2
def z_HQ (I : pm_I) (L : pm_L) (τ : Nat × Option (List z_P)) : pm_QT := QI GG (fun r I' L' => (∃ (J : pm_I) (a : Nat), r = z_rl τ ∧ I' = z_s J a ∧ (∀ c : Nat, c < 25 ∨ 28 < c → J c = I c) ∧ ∀ l, τ.2 = some l → z_DK J l) ∧ L' = L)
theorem z_DK.app {J J' : pm_I} {l : List z_P} {x : z_P} (h : z_DK J l) (hK : z_PK J J' l.length) (hx : J' 25 l.length = nI x.1 ∧ J' 26 l.length = nI x.2.1 ∧ J' 27 l.length = nI x.2.2.1 ∧ J' 28 l.length = nI x.2.2.2) : z_DK J' (l ++ [x]) := by
  intro k hk
  rw [List.length_append, List.length_singleton] at hk
  by_cases e : k = l.length
  · have e2 : z_at (l ++ [x]) k = x := by
      unfold z_at
      rw [e, List.getD_eq_getElem?_getD, List.getElem?_append_right (Nat.le_refl _), Nat.sub_self]; rfl
    rw [e2, e]; exact hx
  · have e2 : z_at (l ++ [x]) k = z_at l k := by
      unfold z_at
      rw [List.getD_eq_getElem?_getD, List.getD_eq_getElem?_getD, List.getElem?_append_left (by omega)]
    rw [e2, hK.2 25 k e, hK.2 26 k e, hK.2 27 k e, hK.2 28 k e]
    exact h k (by omega)
theorem z_vs {α : Type} {o : Option α} {r : Int32} (er : r = z_v o) (h : ¬ r = 0) : ∃ x, o = some x := by
  cases o with
  | none => rw [er] at h; exact absurd (show nI 0 = 0 by decide) h
  | some x => exact ⟨x, rfl⟩
theorem z_vn {α : Type} {o : Option α} {r : Int32} (er : r = z_v o) (h : r = 0) : o = none := by
  cases o with
  | none => rfl
  | some x => rw [er] at h; exact absurd h (show ¬ nI 1 = 0 by decide)
set_option maxRecDepth 100000 in
set_option maxHeartbeats 1000000 in
theorem l_hr21 {I : pm_I} {L : pm_L} {t : List Nat} (hB : z_B I t) (ht : z_ok t) {τ : Nat × Option (List z_P)} {la : Launch} {P : pm_E} {done : List z_P} (hd : done.length < 12) {J : pm_I} {a : Nat} (ha : a ≤ t.length) (hJ : ∀ c : Nat, c < 25 ∨ 28 < c → J c = I c) (hD : z_DK J done) (kf : (z_pc t a).2 = none → τ = ((z_pc t a).1, none)) (k2 : ∀ (x : z_P) (J' : pm_I), (z_pc t a).2 = some x → (∀ c : Nat, c < 25 ∨ 28 < c → J' c = I c) → z_DK J' (done ++ [x]) → PW la P yX3_read cX3_read 3 (some (.int)) (pm_rm 7 0 0) (pm_Tg P (z_HQ I L τ) 0 0) 0 0 2 [some (.ref 24), some (.ref 22), some (.int (nI (done ++ [x]).length))] [] GG (z_s J' (z_pc t a).1) L) : PW la P yX3_read cX3_read 3 (some (.int)) (pm_rm 7 0 0) (pm_Tg P (z_HQ I L τ) 0 0) 0 0 21 [some (.ref 24), some (.ref 22), some (.int (nI done.length))] [] GG (z_s J a) L := by
  have h120 := ht.1
  refine pm_aload_n (pc := 21) dX3_read_21 rfl ?_
  refine pm_aload_n (pc := 22) dX3_read_22 rfl ?_
  refine pm_iload_n (pc := 23) dX3_read_23 rfl ?_
  refine pm_cVI (pc := 24) dX3_read_24 (c_readPiece (hB.K hJ) ht ha hd) wq_X3_readPiece wm_X3_32 wi_X3_readPiece ws_X3_readPiece rfl rfl ⟨Nat.le_of_ble_eq_true rfl, Nat.le_of_ble_eq_true rfl⟩ ⟨Nat.le_of_ble_eq_true rfl, Nat.le_of_ble_eq_true rfl⟩ rfl (Nat.le_of_ble_eq_true rfl) (fun r24 I24 L24 q24 => ?_)
  obtain ⟨⟨J2, er, eI, hK2, hx2⟩, el⟩ := q24
  subst el
  subst eI
  have hJ2 : ∀ c : Nat, c < 25 ∨ 28 < c → J2 c = I c := fun c hc => (hK2.1 c hc).trans (hJ c hc)
  refine pm_if_ne (pc := 27) (tgt := 35) dX3_read_27 rfl (fun h27 => ?_) (fun h27 => ?_)
  · obtain ⟨x, ex⟩ := z_vs er h27
    refine pm_iinc (pc := 35) dX3_read_35 rfl (pm_inc1 _) (by decide) rfl ?_
    refine pm_goto (pc := 38) (tgt := 2) dX3_read_38 rfl ?_
    have k9 := k2 x J2 ex hJ2 (hD.app hK2 (hx2 x ex))
    rw [List.length_append] at k9
    exact k9
  · have e9 := z_vn er h27
    refine pm_aload_n (pc := 30) dX3_read_30 rfl ?_
    refine pm_cVR (pc := 31) dX3_read_31 (c_fault) wq_X6_fault wm_X3_36 wi_X6_fault ws_X6_fault rfl rfl ⟨Nat.le_of_ble_eq_true rfl, Nat.le_of_ble_eq_true rfl⟩ ⟨Nat.le_of_ble_eq_true rfl, Nat.le_of_ble_eq_true rfl⟩ rfl (Nat.le_of_ble_eq_true rfl) ?_
    refine pm_iret (pc := 34) rfl (Nat.le_refl _) (Nat.le_refl _) dX3_read_34 ?_
    have e8 := kf e9
    rw [e8]
    exact QI.r ⟨⟨J2, _, rfl, rfl, hJ2, fun l hl => absurd hl (by simp)⟩, rfl⟩
set_option maxRecDepth 100000 in
set_option maxHeartbeats 1000000 in
theorem l_hr41 {I : pm_I} {L : pm_L} {t : List Nat} (hB : z_B I t) (ht : z_ok t) {τ : Nat × Option (List z_P)} {la : Launch} {P : pm_E} {done : List z_P} (hd : done.length ≤ 12) {J : pm_I} {a : Nat} (ha : a ≤ t.length) (hJ : ∀ c : Nat, c < 25 ∨ 28 < c → J c = I c) (hD : z_DK J done) (hT : τ = if z_sk t a < t.length then (z_sk t a, none) else (z_sk t a, some done)) : PW la P yX3_read cX3_read 3 (some (.int)) (pm_rm 7 0 0) (pm_Tg P (z_HQ I L τ) 0 0) 0 0 41 [some (.ref 24), some (.ref 22), some (.int (nI done.length))] [] GG (z_s J a) L := by
  have h120 := ht.1
  refine pm_aload_n (pc := 41) dX3_read_41 rfl ?_
  refine pm_cVI (pc := 42) dX3_read_42 (c_isAtEnd (hB.K hJ) ht ha) wq_X6_isAtEnd wm_X3_40 wi_X6_isAtEnd ws_X6_isAtEnd rfl rfl ⟨Nat.le_of_ble_eq_true rfl, Nat.le_of_ble_eq_true rfl⟩ ⟨Nat.le_of_ble_eq_true rfl, Nat.le_of_ble_eq_true rfl⟩ rfl (Nat.le_of_ble_eq_true rfl) (fun r42 I42 L42 q42 => ?_)
  obtain ⟨⟨er, eI⟩, el⟩ := q42
  subst el
  subst eI
  subst er
  refine pm_if_eq (pc := 45) (tgt := 52) dX3_read_45 rfl (fun h45 => ?_) (fun h45 => ?_)
  · rw [if_pos (Nat.lt_of_not_le (b1_nf h45))] at hT
    refine pm_aload_n (pc := 52) dX3_read_52 rfl ?_
    refine pm_cVR (pc := 53) dX3_read_53 (c_fault) wq_X6_fault wm_X3_36 wi_X6_fault ws_X6_fault rfl rfl ⟨Nat.le_of_ble_eq_true rfl, Nat.le_of_ble_eq_true rfl⟩ ⟨Nat.le_of_ble_eq_true rfl, Nat.le_of_ble_eq_true rfl⟩ rfl (Nat.le_of_ble_eq_true rfl) ?_
    refine pm_iret (pc := 56) rfl (Nat.le_refl _) (Nat.le_refl _) dX3_read_56 ?_
    rw [hT]
    first
      | exact QI.r ⟨⟨J, _, rfl, rfl, hJ, fun l hl => by rw [← Option.some.inj hl]; exact hD⟩, rfl⟩
      | exact QI.r ⟨⟨J, _, rfl, rfl, hJ, fun l hl => absurd hl (by simp)⟩, rfl⟩
  · rw [if_neg (Nat.not_lt.mpr (b1_nt h45))] at hT
    refine pm_iload_n (pc := 48) dX3_read_48 rfl ?_
    refine pm_goto (pc := 49) (tgt := 56) dX3_read_49 rfl ?_
    refine pm_iret (pc := 56) rfl (Nat.le_refl _) (Nat.le_refl _) dX3_read_56 ?_
    rw [hT]
    first
      | exact QI.r ⟨⟨J, _, rfl, rfl, hJ, fun l hl => by rw [← Option.some.inj hl]; exact hD⟩, rfl⟩
      | exact QI.r ⟨⟨J, _, rfl, rfl, hJ, fun l hl => absurd hl (by simp)⟩, rfl⟩
set_option maxRecDepth 100000 in
set_option maxHeartbeats 1000000 in
theorem l_hr2 {I : pm_I} {L : pm_L} {t : List Nat} (hB : z_B I t) (ht : z_ok t) {τ : Nat × Option (List z_P)} {la : Launch} {P : pm_E} : ∀ (m : Nat) (done : List z_P) (J : pm_I) (a : Nat), done.length + m = 12 → 1 ≤ done.length → a ≤ t.length → (∀ c : Nat, c < 25 ∨ 28 < c → J c = I c) → z_DK J done → z_pre done (z_more t 44 (z_pc t) m a) = τ → PW la P yX3_read cX3_read 3 (some (.int)) (pm_rm 7 0 0) (pm_Tg P (z_HQ I L τ) 0 0) 0 0 2 [some (.ref 24), some (.ref 22), some (.int (nI done.length))] [] GG (z_s J a) L
  | 0, done, J, a, hm, h1, ha, hJ, hD, hT => by
    have h120 := ht.1
    refine pm_iload_n (pc := 2) dX3_read_2 rfl ?_
    refine pm_bipush (pc := 3) (v := nI 12) dX3_read_3 (by decide) ?_
    refine pm_icmp_ge (pc := 5) (tgt := 41) dX3_read_5 rfl (fun h5 => ?_) (fun h5 => (by simp (disch := omega) only [pm_eqI, pm_ltI, pm_leI, nI_toInt, pm_t0, pm_t1, pm_tm1] at h5; omega))
    exact l_hr41 hB ht (by omega) ha hJ hD (z_pre_e (Or.inl rfl) hT)
  | m + 1, done, J, a, hm, h1, ha, hJ, hD, hT => by
    have h120 := ht.1
    have hq := z_q_le (f := z_m 44) ha
    have hok := z_pc_ok hq.2
    refine pm_iload_n (pc := 2) dX3_read_2 rfl ?_
    refine pm_bipush (pc := 3) (v := nI 12) dX3_read_3 (by decide) ?_
    refine pm_icmp_ge (pc := 5) (tgt := 41) dX3_read_5 rfl (fun h5 => (by simp (disch := omega) only [pm_eqI, pm_ltI, pm_leI, nI_toInt, pm_t0, pm_t1, pm_tm1] at h5; omega)) (fun h5 => ?_)
    refine pm_iload_n (pc := 8) dX3_read_8 rfl ?_
    refine pm_if_eq (pc := 9) (tgt := 21) dX3_read_9 rfl (fun h9 => (by simp (disch := omega) only [pm_eqI, pm_ltI, pm_leI, nI_toInt, pm_t0, pm_t1, pm_tm1] at h9; omega)) (fun h9 => ?_)
    refine pm_aload_n (pc := 12) dX3_read_12 rfl ?_
    refine pm_ldcS (pc := 13) (RX3, 24, ",", 0) (by decide) rfl rfl (by decide) dX3_read_13 ?_
    refine pm_cVI (pc := 15) dX3_read_15 (c_choice1 (hB.K hJ) ht ha (q := 0) (by decide) zf_0) wq_X6_choice wm_X3_26 wi_X6_choice ws_X6_choice rfl rfl ⟨Nat.le_of_ble_eq_true rfl, Nat.le_of_ble_eq_true rfl⟩ ⟨Nat.le_of_ble_eq_true rfl, Nat.le_of_ble_eq_true rfl⟩ rfl (Nat.le_of_ble_eq_true rfl) (fun r15 I15 L15 q15 => ?_)
    obtain ⟨⟨er, eI⟩, el⟩ := q15
    subst el
    have eJ : I15 = z_s J (z_q t (z_m 44) a) := eI
    subst eJ
    have er2 : r15 = z_o (z_p t (z_m 44) a) := er
    refine pm_if_ne (pc := 18) (tgt := 41) dX3_read_18 rfl (fun h18 => ?_) (fun h18 => ?_)
    · have hp := z_mk1 er2 h18
      rw [z_q_n hp]
      exact l_hr41 hB ht (by omega) (z_sk_sp ha).2.1 hJ hD (by rw [z_sk_i ha]; exact z_pre_e (Or.inr hp) hT)
    · have hp := z_mk0 er2 h18
      exact l_hr21 hB ht (by omega) hq.2 hJ hD (fun z => z_pre_f hp z hT) (fun x J2 ex hJ2 hD2 => l_hr2 hB ht m (done ++ [x]) J2 _ (by rw [List.length_append, List.length_singleton]; omega) (by rw [List.length_append, List.length_singleton]; omega) hok.2.1 hJ2 hD2 (z_pre_s hp ex rfl hT))
set_option maxRecDepth 100000 in
set_option maxHeartbeats 1000000 in
theorem c_readH {I : pm_I} {L : pm_L} {t : List Nat} (hB : z_B I t) (ht : z_ok t) : PC 7 0 0 yX3_read cX3_read 3 (some (.int)) [.ref 24, .ref 22] GG (z_s I 0) L (z_HQ I L (z_heap t)) := by
  have h120 := ht.1
  refine PC.of [some (.ref 24), some (.ref 22), none] (by decide) (Nat.le_of_ble_eq_true rfl) rfl (fun l P => ?_)
  refine pm_iconst (pc := 0) (v := nI 0) dX3_read_0 (by decide) ?_
  refine pm_istore_n (pc := 1) dX3_read_1 (by decide) rfl ?_
  refine pm_iload_n (pc := 2) dX3_read_2 rfl ?_
  refine pm_bipush (pc := 3) (v := nI 12) dX3_read_3 (by decide) ?_
  refine pm_icmp_ge (pc := 5) (tgt := 41) dX3_read_5 rfl (fun h5 => (by simp (disch := omega) only [pm_eqI, pm_ltI, pm_leI, nI_toInt, pm_t0, pm_t1, pm_tm1] at h5; omega)) (fun h5 => ?_)
  refine pm_iload_n (pc := 8) dX3_read_8 rfl ?_
  refine pm_if_eq (pc := 9) (tgt := 21) dX3_read_9 rfl (fun h9 => ?_) (fun h9 => absurd (show nI 0 = 0 by decide) h9)
  have hok := z_pc_ok (Nat.zero_le t.length)
  refine l_hr21 hB ht (done := []) (by decide) (Nat.zero_le _) (fun _ _ => rfl) (fun k hk => absurd hk (Nat.not_lt_zero _)) (fun z => ?_) (fun x J2 ex hJ2 hD2 => l_hr2 hB ht 11 ([] ++ [x]) J2 _ rfl (Nat.le_refl _) hok.2.1 hJ2 hD2 ?_)
  · unfold z_heap z_all; rw [z_bind_n z]
  · unfold z_heap z_all; rw [z_bind_s ex]
    unfold z_pre
    cases er : (z_more t 44 (z_pc t) 11 (z_pc t 0).1).2 with
    | none => rw [z_bind_n er]; rfl
    | some l => rw [z_bind_s er]; rfl
theorem z_add_n (s : gS) (k w t p : Nat) : g_n (s_add s k w t p) = g_n s + 1 := by
  unfold s_add
  split <;> rfl
theorem z_lay_inv : ∀ (l : List z_P) (s : gS), gInv s → g_n s + l.length ≤ 12 → (∀ x, x ∈ l → z_pok x) → gInv (z_lay l s) ∧ g_n (z_lay l s) = g_n s + l.length
  | [], s, h, _, _ => ⟨h, rfl⟩
  | x :: l, s, h, hn, hv => by
    have hx := hv x List.mem_cons_self
    rw [List.length_cons] at hn
    have h1 := gInv_add h (p := x.2.2.2) (by omega) hx.1 hx.2.1 hx.2.2.1
    have h2 := z_lay_inv l _ h1 (by rw [z_add_n]; omega) (fun y hy => hv y (List.mem_cons_of_mem _ hy))
    refine ⟨h2.1, ?_⟩
    show g_n (z_lay l (s_add s x.1 x.2.1 x.2.2.1 x.2.2.2)) = _
    rw [h2.2, z_add_n, List.length_cons]; omega
theorem c_addA {I : pm_I} {L : pm_L} {s : gS} {k w t p : Nat} (hG : GR I 1 s) (hI : gInv s) (hn : g_n s < 12) (hk : k < 4) (hw : 1 ≤ w ∧ w ≤ 99) (ht : t < 4) (hp : p ≤ 6) : PC 2 0 0 yX2_add cX2_add 6 (some (.int)) [.ref 1, .int (nI k), .int (nI w), .int (nI t), .int (nI p)] GG I L (QI GG (fun r I' L' => r = nI (g_n s) ∧ gX I (s_add s k w t p) I' ∧ L' = L)) := by
  rcases (show p < 6 ∨ p = 6 by omega) with e | e
  · exact c_add hG hI hn hk hw ht e
  · rw [e]; exact c_add6 hG hI hn hk hw ht
set_option maxRecDepth 100000 in
set_option maxHeartbeats 1000000 in
theorem l_lo {I : pm_I} {L : pm_L} {lst : List z_P} (hl : lst.length ≤ 12) (hD : z_DK I lst) {S : gS} {la : Launch} {P : pm_E} : ∀ (r : List z_P) (k : Nat) (s : gS) (J : pm_I), lst.drop k = r → k ≤ lst.length → g_n s = k → GR J 1 s → gInv s → gF I J → (∀ x, x ∈ r → z_pok x) → z_lay r s = S → PW la P yX3_layOut cX3_layOut 4 none (pm_rm 3 0 0) (pm_Tg P (QV GG (fun I' L' => (GR I' 1 S ∧ gF I I') ∧ L' = L)) 0 0) 0 0 6 [some (.ref 24), some (.ref 1), some (.int (nI lst.length)), some (.int (nI k))] [] GG J L
  | [], k, s, J, hr, hk, hn, hG, hI, hf, hv, hS => by
    have hge : lst.length ≤ k := List.drop_eq_nil_iff.mp hr
    have hS2 : s = S := hS
    subst hS2
    refine pm_iload_n (pc := 6) dX3_layOut_6 rfl ?_
    refine pm_iload_n (pc := 7) dX3_layOut_7 rfl ?_
    refine pm_icmp_ge (pc := 8) (tgt := 52) dX3_layOut_8 rfl (fun h8 => ?_) (fun h8 => (by simp (disch := omega) only [pm_eqI, pm_ltI, pm_leI, nI_toInt, pm_t0, pm_t1, pm_tm1] at h8; omega))
    refine pm_vret (pc := 52) rfl (Nat.le_refl _) (Nat.le_refl _) dX3_layOut_52 ?_
    exact QV.r ⟨⟨hG, hf⟩, rfl⟩
  | x :: r, k, s, J, hr, hk, hn, hG, hI, hf, hv, hS => by
    have hlt : k < lst.length := by
      refine Nat.lt_of_not_le (fun z => ?_)
      rw [List.drop_eq_nil_iff.mpr z] at hr
      exact absurd hr (by simp)
    rw [List.drop_eq_getElem_cons hlt] at hr
    obtain ⟨hc, hr2⟩ := List.cons.inj hr
    have ex : z_at lst k = x := by unfold z_at; rw [List.getD_eq_getElem?_getD, List.getElem?_eq_getElem hlt, hc]; rfl
    have hd := hD k hlt
    rw [ex] at hd
    have e25 : J 25 k = nI x.1 := by rw [hf 25 (by omega)]; exact hd.1
    have e26 : J 26 k = nI x.2.1 := by rw [hf 26 (by omega)]; exact hd.2.1
    have e27 : J 27 k = nI x.2.2.1 := by rw [hf 27 (by omega)]; exact hd.2.2.1
    have e28 : J 28 k = nI x.2.2.2 := by rw [hf 28 (by omega)]; exact hd.2.2.2
    have hx := hv x List.mem_cons_self
    have hI2 := gInv_add hI (p := x.2.2.2) (by omega) hx.1 hx.2.1 hx.2.2.1
    refine pm_iload_n (pc := 6) dX3_layOut_6 rfl ?_
    refine pm_iload_n (pc := 7) dX3_layOut_7 rfl ?_
    refine pm_icmp_ge (pc := 8) (tgt := 52) dX3_layOut_8 rfl (fun h8 => (by simp (disch := omega) only [pm_eqI, pm_ltI, pm_leI, nI_toInt, pm_t0, pm_t1, pm_tm1] at h8; omega)) (fun h8 => ?_)
    refine pm_iload_n (pc := 11) dX3_layOut_11 rfl ?_
    refine pm_bipush (pc := 12) (v := nI 12) dX3_layOut_12 (by decide) ?_
    refine pm_icmp_ge (pc := 14) (tgt := 52) dX3_layOut_14 rfl (fun h14 => (by simp (disch := omega) only [pm_eqI, pm_ltI, pm_leI, nI_toInt, pm_t0, pm_t1, pm_tm1] at h14; omega)) (fun h14 => ?_)
    refine pm_aload_n (pc := 17) dX3_layOut_17 rfl ?_
    refine pm_aload_n (pc := 18) dX3_layOut_18 rfl ?_
    refine pm_getr (pc := 19) (ci := 1) (C0 := RX3) (T := TX3) (N := 4) (j := 0) rfl rfl in_X3 (by decide) wf_X3_9 rfl dX3_layOut_19 ?_
    refine pm_iload_n (pc := 22) dX3_layOut_22 rfl ?_
    refine pm_iald (pc := 23) rfl (by omega) (by decide) dX3_layOut_23 ?_
    rw [e25]
    refine pm_aload_n (pc := 24) dX3_layOut_24 rfl ?_
    refine pm_getr (pc := 25) (ci := 1) (C0 := RX3) (T := TX3) (N := 4) (j := 1) rfl rfl in_X3 (by decide) wf_X3_15 rfl dX3_layOut_25 ?_
    refine pm_iload_n (pc := 28) dX3_layOut_28 rfl ?_
    refine pm_iald (pc := 29) rfl (by omega) (by decide) dX3_layOut_29 ?_
    rw [e26]
    refine pm_aload_n (pc := 30) dX3_layOut_30 rfl ?_
    refine pm_getr (pc := 31) (ci := 1) (C0 := RX3) (T := TX3) (N := 4) (j := 2) rfl rfl in_X3 (by decide) wf_X3_18 rfl dX3_layOut_31 ?_
    refine pm_iload_n (pc := 34) dX3_layOut_34 rfl ?_
    refine pm_iald (pc := 35) rfl (by omega) (by decide) dX3_layOut_35 ?_
    rw [e27]
    refine pm_aload_n (pc := 36) dX3_layOut_36 rfl ?_
    refine pm_getr (pc := 37) (ci := 1) (C0 := RX3) (T := TX3) (N := 4) (j := 3) rfl rfl in_X3 (by decide) wf_X3_21 rfl dX3_layOut_37 ?_
    refine pm_iload_n (pc := 40) dX3_layOut_40 rfl ?_
    refine pm_iald (pc := 41) rfl (by omega) (by decide) dX3_layOut_41 ?_
    rw [e28]
    refine pm_cVI (pc := 42) dX3_layOut_42 (c_addA hG hI (by omega) hx.1 hx.2.1 hx.2.2.1 hx.2.2.2) wq_X2_add wm_X3_62 wi_X2_add ws_X2_add rfl rfl ⟨Nat.le_of_ble_eq_true rfl, Nat.le_of_ble_eq_true rfl⟩ ⟨Nat.le_of_ble_eq_true rfl, Nat.le_of_ble_eq_true rfl⟩ rfl (Nat.le_of_ble_eq_true rfl) (fun r42 I42 L42 q42 => ?_)
    obtain ⟨er, ⟨g42, f42⟩, el⟩ := q42
    subst el
    refine pm_pop (pc := 45) dX3_layOut_45 rfl ?_
    refine pm_iinc (pc := 46) dX3_layOut_46 rfl (pm_inc1 _) (by decide) rfl ?_
    refine pm_goto (pc := 49) (tgt := 6) dX3_layOut_49 rfl ?_
    exact l_lo hl hD r (k + 1) _ I42 hr2 hlt (by rw [z_add_n, hn]) g42 hI2 (hf.tr f42) (fun y hy => hv y (List.mem_cons_of_mem _ hy)) hS
set_option maxRecDepth 100000 in
set_option maxHeartbeats 1000000 in
theorem c_layOut {I : pm_I} {L : pm_L} {lst : List z_P} (hl : lst.length ≤ 12) (hD : z_DK I lst) {s : gS} (hG : GR I 1 s) (hI : gInv s) (hv : ∀ x, x ∈ lst → z_pok x) : PC 3 0 0 yX3_layOut cX3_layOut 4 none [.ref 24, .ref 1, .int (nI lst.length)] GG I L (QV GG (fun I' L' => (GR I' 1 (z_lay lst (s_clear s)) ∧ gF I I') ∧ L' = L)) := by
  refine PC.of [some (.ref 24), some (.ref 1), some (.int (nI lst.length)), none] (by decide) (Nat.le_of_ble_eq_true rfl) rfl (fun l P => ?_)
  refine pm_aload_n (pc := 0) dX3_layOut_0 rfl ?_
  refine pm_cVV (pc := 1) dX3_layOut_1 (c_clearPieces hG hI) wq_X2_clearPieces wm_X3_57 wi_X2_clearPieces ws_X2_clearPieces rfl rfl ⟨Nat.le_of_ble_eq_true rfl, Nat.le_of_ble_eq_true rfl⟩ ⟨Nat.le_of_ble_eq_true rfl, Nat.le_of_ble_eq_true rfl⟩ rfl (Nat.le_of_ble_eq_true rfl) (fun I1 L1 q1 => ?_)
  obtain ⟨⟨g1, f1⟩, el⟩ := q1
  subst el
  refine pm_iconst (pc := 4) (v := nI 0) dX3_layOut_4 (by decide) ?_
  refine pm_istore_n (pc := 5) dX3_layOut_5 (by decide) rfl ?_
  exact l_lo hl hD lst 0 (s_clear s) I1 rfl (Nat.zero_le _) rfl g1 (gInv_clear hI) f1 hv rfl
set_option maxRecDepth 100000 in
set_option maxHeartbeats 1000000 in
theorem x_heap {I : pm_I} {L : pm_L} {X : xS} (hR : XR I L X) (hX : xInv X) : PC 8 0 0 yX9_heap cX9_heap 2 (some (.int)) [.ref 0] GG I L (XQ I L (sp_heap X).1 (sp_heap X).2) := by
  have ht : z_ok (x_t X) := hX.2.2.1
  have hB : z_B I (x_t X) := ⟨hR.2.2.1.1, hR.2.2.1.2.2⟩
  have h0 : I 22 2 = nI 0 := hR.2.2.1.2.1
  have hI := hX.s
  have hok := z_all_ok (sep := 44) (m := 11) (t := x_t X) (fun a ha => z_pc_ok ha)
  have h120 := ht.1
  refine PC.of [some (.ref 0), none] (by decide) (Nat.le_of_ble_eq_true rfl) rfl (fun l P => ?_)
  refine pm_aload_n (pc := 0) dX9_heap_0 rfl ?_
  refine pm_getr (pc := 1) (ci := 7) (C0 := RX9) (T := TX9) (N := 9) (j := 6) rfl rfl in_X9 (by decide) wf_X9_43 rfl dX9_heap_1 ?_
  refine pm_aload_n (pc := 4) dX9_heap_4 rfl ?_
  refine pm_getr (pc := 5) (ci := 7) (C0 := RX9) (T := TX9) (N := 9) (j := 5) rfl rfl in_X9 (by decide) wf_X9_36 rfl dX9_heap_5 ?_
  refine pm_eq rfl rfl rfl (z_s0 h0).symm rfl ?_
  refine pm_cVI (pc := 8) dX9_heap_8 (c_readH hB ht) wq_X3_read wm_X9_115 wi_X3_read ws_X3_read rfl rfl ⟨Nat.le_of_ble_eq_true rfl, Nat.le_of_ble_eq_true rfl⟩ ⟨Nat.le_of_ble_eq_true rfl, Nat.le_of_ble_eq_true rfl⟩ rfl (Nat.le_of_ble_eq_true rfl) (fun r8 I8 L8 q8 => ?_)
  obtain ⟨⟨J, a, er, eI, hJ, hF⟩, el⟩ := q8
  subst el
  subst eI
  refine pm_istore_n (pc := 11) dX9_heap_11 (by decide) rfl ?_
  refine pm_aload_n (pc := 12) dX9_heap_12 rfl ?_
  refine pm_getr (pc := 13) (ci := 7) (C0 := RX9) (T := TX9) (N := 9) (j := 5) rfl rfl in_X9 (by decide) wf_X9_36 rfl dX9_heap_13 ?_
  refine pm_cVV (pc := 16) dX9_heap_16 (c_empty) wq_X6_empty wm_X9_119 wi_X6_empty ws_X6_empty rfl rfl ⟨Nat.le_of_ble_eq_true rfl, Nat.le_of_ble_eq_true rfl⟩ ⟨Nat.le_of_ble_eq_true rfl, Nat.le_of_ble_eq_true rfl⟩ rfl (Nat.le_of_ble_eq_true rfl) (fun I16 L16 q16 => ?_)
  obtain ⟨⟨e1, e2, e3⟩, el⟩ := q16
  subst el
  have eo : ∀ c : Nat, c ≠ 22 → I16 c = J c := fun c h1 => (e1 c h1).trans (z_s_ne h1)
  have eo2 : ∀ c : Nat, c ≠ 22 → c < 25 ∨ 28 < c → I16 c = I c := fun c h1 h2 => (eo c h1).trans (hJ c h2)
  have hG2 : GR I16 1 (x_g X) := hR.1.e (fun c h1 h2 => eo2 c (by omega) (by omega))
  have hXT : ∀ J2 : pm_I, J2 22 = I16 22 → XT J2 [] := fun J2 hJ => ⟨by rw [hJ]; exact e2, by rw [hJ]; exact e3, fun k hk => absurd hk (Nat.not_lt_zero _)⟩
  refine pm_iload_n (pc := 19) dX9_heap_19 rfl ?_
  refine pm_if_le (pc := 20) (tgt := 35) dX9_heap_20 rfl (fun h20 => ?_) (fun h20 => ?_)
  · have et : (z_heap (x_t X)).2 = none := by
      cases e : (z_heap (x_t X)).2 with
      | none => rfl
      | some l =>
        have hl := (hok.2.2 l e).1
        have e4 : r8 = nI l.length := by rw [er]; unfold z_rl; rw [e]
        rw [e4, pm_leI, nI_toInt (by omega), pm_t0] at h20; omega
    refine pm_iload_n (pc := 35) dX9_heap_35 rfl ?_
    refine pm_iret (pc := 36) rfl (Nat.le_refl _) (Nat.le_refl _) dX9_heap_36 ?_
    first
      | (have e5 : sp_heap X = (z_F (z_heap (x_t X)).1, xt X []) := by unfold sp_heap; rw [et]
         rw [e5]
         exact XQ.r (by rw [er]; unfold z_rl; rw [et]) (hR.n hG2 (hXT _ rfl) (fun c hc => eo2 c (by omega) (by omega))) (fun c hc => ⟨eo2 c (by omega) (by omega), rfl⟩))
      | (have e5 : sp_heap X = (nI l.length, xt (xg X (z_lay l (s_clear (x_g X)))) []) := by unfold sp_heap; rw [et]
         rw [e5]
         exact XQ.r rfl (hR.n g32 (hXT _ (f32 22 (by omega))) (fun c hc => (f32 c (by omega)).trans (eo2 c (by omega) (by omega)))) (fun c hc => ⟨(f32 c (by omega)).trans (eo2 c (by omega) (by omega)), rfl⟩))
  · obtain ⟨l, et⟩ : ∃ l, (z_heap (x_t X)).2 = some l := by
      cases e : (z_heap (x_t X)).2 with
      | none =>
        have e4 : r8 = z_F (z_heap (x_t X)).1 := by rw [er]; unfold z_rl; rw [e]
        have := z_F_lt (a := (z_heap (x_t X)).1) (Nat.le_trans hok.2.1 h120)
        rw [e4] at h20
        exact absurd (by rw [pm_leI]; rw [pm_ltI] at this; omega) h20
      | some l => exact ⟨l, rfl⟩
    have e4 : r8 = nI l.length := by rw [er]; unfold z_rl; rw [et]
    subst e4
    refine pm_aload_n (pc := 23) dX9_heap_23 rfl ?_
    refine pm_getr (pc := 24) (ci := 7) (C0 := RX9) (T := TX9) (N := 9) (j := 6) rfl rfl in_X9 (by decide) wf_X9_43 rfl dX9_heap_24 ?_
    refine pm_aload_n (pc := 27) dX9_heap_27 rfl ?_
    refine pm_getr (pc := 28) (ci := 7) (C0 := RX9) (T := TX9) (N := 9) (j := 0) rfl rfl in_X9 (by decide) wf_X9_10 rfl dX9_heap_28 ?_
    refine pm_iload_n (pc := 31) dX9_heap_31 rfl ?_
    refine pm_cVV (pc := 32) dX9_heap_32 (c_layOut (lst := l) (by have := (hok.2.2 l et).1.2.1; omega) (fun k hk => by rw [eo 25 (by decide), eo 26 (by decide), eo 27 (by decide), eo 28 (by decide)]; exact hF l et k hk) hG2 hI (hok.2.2 l et).1.2.2) wq_X3_layOut wm_X9_122 wi_X3_layOut ws_X3_layOut rfl rfl ⟨Nat.le_of_ble_eq_true rfl, Nat.le_of_ble_eq_true rfl⟩ ⟨Nat.le_of_ble_eq_true rfl, Nat.le_of_ble_eq_true rfl⟩ rfl (Nat.le_of_ble_eq_true rfl) (fun I32 L32 q32 => ?_)
    obtain ⟨⟨g32, f32⟩, el⟩ := q32
    subst el
    refine pm_iload_n (pc := 35) dX9_heap_35 rfl ?_
    refine pm_iret (pc := 36) rfl (Nat.le_refl _) (Nat.le_refl _) dX9_heap_36 ?_
    first
      | (have e5 : sp_heap X = (z_F (z_heap (x_t X)).1, xt X []) := by unfold sp_heap; rw [et]
         rw [e5]
         exact XQ.r (by rw [er]; unfold z_rl; rw [et]) (hR.n hG2 (hXT _ rfl) (fun c hc => eo2 c (by omega) (by omega))) (fun c hc => ⟨eo2 c (by omega) (by omega), rfl⟩))
      | (have e5 : sp_heap X = (nI l.length, xt (xg X (z_lay l (s_clear (x_g X)))) []) := by unfold sp_heap; rw [et]
         rw [e5]
         exact XQ.r rfl (hR.n g32 (hXT _ (f32 22 (by omega))) (fun c hc => (f32 c (by omega)).trans (eo2 c (by omega) (by omega)))) (fun c hc => ⟨(f32 c (by omega)).trans (eo2 c (by omega) (by omega)), rfl⟩))
theorem xi_heap {X : xS} (hX : xInv X) : xInv (sp_heap X).2 := by
  have hok := z_all_ok (sep := 44) (m := 11) (t := x_t X) (fun a ha => z_pc_ok ha)
  have h0 : ([] : List Nat).length ≤ 120 ∧ ∀ b, b ∈ ([] : List Nat) → 32 ≤ b ∧ b ≤ 126 := ⟨by decide, fun b hb => absurd hb (by simp)⟩
  unfold sp_heap
  cases et : (z_heap (x_t X)).2 with
  | none => exact ⟨hX.1, hX.2.1, h0, hX.2.2.2⟩
  | some l =>
    have hl := (hok.2.2 l et).1
    exact ⟨(z_lay_inv l (s_clear (x_g X)) (gInv_clear hX.s) (by show 0 + l.length ≤ 12; omega) hl.2.2).1, hX.2.1, h0, hX.2.2.2⟩
theorem xi_night {X : xS} (hX : xInv X) : xInv (sp_night X).2 := by
  have hok := z_all_ok (sep := 59) (m := 59) (t := x_t X) (fun a ha => z_act_ok hX.s.n12 ha)
  have h0 : ([] : List Nat).length ≤ 120 ∧ ∀ b, b ∈ ([] : List Nat) → 32 ≤ b ∧ b ≤ 126 := ⟨by decide, fun b hb => absurd hb (by simp)⟩
  unfold sp_night
  cases et : (z_night (x_t X) (g_n (x_g X))).2 with
  | none => exact ⟨hX.1, hX.2.1, h0, hX.2.2.2⟩
  | some l => exact ⟨z_run_inv l (x_g X) hX.s (hok.2.2 l et).1.2.2, hX.2.1, h0, hX.2.2.2⟩
