def z_B (I : pm_I) (t : List Nat) : Prop := I 22 1 = nI t.length ∧ ∀ k, k < t.length → I 23 k = nI (t.getD k 0)
def z_s (I : pm_I) (a : Nat) : pm_I := pm_u I 22 (upd (I 22) 2 (nI a))
theorem z_s_at {I : pm_I} {a : Nat} : z_s I a 22 2 = nI a := by unfold z_s; rw [pm_us]; rfl
theorem z_s_len {I : pm_I} {a : Nat} : z_s I a 22 1 = I 22 1 := by unfold z_s; rw [pm_us]; rfl
theorem z_s_ne {I : pm_I} {a c : Nat} (h : c ≠ 22) : z_s I a c = I c := pm_un h
theorem z_put {I : pm_I} {a b : Nat} : pm_u (z_s I a) 22 (upd (z_s I a 22) 2 (nI b)) = z_s I b := by
  unfold z_s
  rw [pm_u2, pm_us]
  congr 1
  funext k
  unfold upd
  split <;> rfl
def z_o : Option Nat → Int32
  | none => -1
  | some v => nI v
theorem z_nat {x : Int32} (h : ¬ x < 0) : nI x.toInt.toNat = x := by
  rw [pm_ltI, pm_t0] at h
  have := fb_rng x
  rw [pm_eqI, nI_toInt (by omega)]; omega
def z_Q (I : pm_I) (L : pm_L) (σ : Nat × Option Nat) : pm_QT := QI GG (fun r I' L' => (r = z_o σ.2 ∧ I' = z_s I σ.1) ∧ L' = L)
abbrev z_fq (q : Nat) (bd but : Int32) (c : Nat) : Option Nat := if z_ix (nI c) (NB.getD q []) 0 < 0 ∨ bd ≤ z_ix (nI c) (NB.getD q []) 0 ∨ z_ix (nI c) (NB.getD q []) 0 = but then none else some (z_ix (nI c) (NB.getD q []) 0).toInt.toNat
set_option maxRecDepth 100000 in
set_option maxHeartbeats 1000000 in
theorem l_zsk {I : pm_I} {L : pm_L} {t : List Nat} (hB : z_B I t) (ht : z_ok t) {a0 : Nat} {la : Launch} {P : pm_E} : ∀ (m a : Nat), a + m = t.length → z_sk t a = z_sk t a0 → PW la P yX6_skipBlanks cX6_skipBlanks 1 none (pm_rm 0 0 0) (pm_Tg P (QV GG (fun I' L' => I' = z_s I (z_sk t a0) ∧ L' = L)) 0 0) 0 0 0 [some (.ref 22)] [] GG (z_s I a) L
  | 0, a, hm, hT => by
    have h120 := ht.1
    refine pm_aload_n (pc := 0) dX6_skipBlanks_0 rfl ?_
    refine pm_get (pc := 1) (ci := 4) (C0 := RX6) (T := TX6) (N := 3) (j := 2) rfl rfl in_X6 (by decide) wf_X6_29 rfl dX6_skipBlanks_1 ?_
    rw [z_s_at]
    refine pm_aload_n (pc := 4) dX6_skipBlanks_4 rfl ?_
    refine pm_get (pc := 5) (ci := 4) (C0 := RX6) (T := TX6) (N := 3) (j := 1) rfl rfl in_X6 (by decide) wf_X6_23 rfl dX6_skipBlanks_5 ?_
    rw [z_s_len, hB.1]
    refine pm_icmp_ge (pc := 8) (tgt := 47) dX6_skipBlanks_8 rfl (fun h8 => ?_) (fun h8 => (by simp (disch := omega) only [pm_eqI, pm_ltI, pm_leI, nI_toInt, pm_t0, pm_t1, pm_tm1] at h8; omega))
    refine pm_vret (pc := 47) rfl (Nat.le_refl _) (Nat.le_refl _) dX6_skipBlanks_47 ?_
    rw [z_sk_n (fun z => by omega)] at hT
    rw [← hT]
    exact QV.r ⟨rfl, rfl⟩
  | m + 1, a, hm, hT => by
    have h120 := ht.1
    have ha : a < t.length := by omega
    have hby := z_byte ht ha
    have e23 : z_s I a 23 a = nI (t.getD a 0) := by rw [z_s_ne (by decide)]; exact hB.2 a ha
    have k32 : nI (t.getD a 0) = nI 32 ↔ t.getD a 0 = 32 := nI_eq (by omega) (by decide)
    refine pm_aload_n (pc := 0) dX6_skipBlanks_0 rfl ?_
    refine pm_get (pc := 1) (ci := 4) (C0 := RX6) (T := TX6) (N := 3) (j := 2) rfl rfl in_X6 (by decide) wf_X6_29 rfl dX6_skipBlanks_1 ?_
    rw [z_s_at]
    refine pm_aload_n (pc := 4) dX6_skipBlanks_4 rfl ?_
    refine pm_get (pc := 5) (ci := 4) (C0 := RX6) (T := TX6) (N := 3) (j := 1) rfl rfl in_X6 (by decide) wf_X6_23 rfl dX6_skipBlanks_5 ?_
    rw [z_s_len, hB.1]
    refine pm_icmp_ge (pc := 8) (tgt := 47) dX6_skipBlanks_8 rfl (fun h8 => (by simp (disch := omega) only [pm_eqI, pm_ltI, pm_leI, nI_toInt, pm_t0, pm_t1, pm_tm1] at h8; omega)) (fun h8 => ?_)
    refine pm_aload_n (pc := 11) dX6_skipBlanks_11 rfl ?_
    refine pm_get (pc := 12) (ci := 4) (C0 := RX6) (T := TX6) (N := 3) (j := 2) rfl rfl in_X6 (by decide) wf_X6_29 rfl dX6_skipBlanks_12 ?_
    rw [z_s_at]
    refine pm_bipush (pc := 15) (v := nI 120) dX6_skipBlanks_15 (by decide) ?_
    refine pm_icmp_ge (pc := 17) (tgt := 47) dX6_skipBlanks_17 rfl (fun h17 => (by simp (disch := omega) only [pm_eqI, pm_ltI, pm_leI, nI_toInt, pm_t0, pm_t1, pm_tm1] at h17; omega)) (fun h17 => ?_)
    refine pm_aload_n (pc := 20) dX6_skipBlanks_20 rfl ?_
    refine pm_getr (pc := 21) (ci := 4) (C0 := RX6) (T := TX6) (N := 3) (j := 0) rfl rfl in_X6 (by decide) wf_X6_11 rfl dX6_skipBlanks_21 ?_
    refine pm_aload_n (pc := 24) dX6_skipBlanks_24 rfl ?_
    refine pm_get (pc := 25) (ci := 4) (C0 := RX6) (T := TX6) (N := 3) (j := 2) rfl rfl in_X6 (by decide) wf_X6_29 rfl dX6_skipBlanks_25 ?_
    rw [z_s_at]
    refine pm_cald (pc := 28) rfl (by omega) (by decide) dX6_skipBlanks_28 ?_
    rw [e23]
    refine pm_bipush (pc := 29) (v := nI 32) dX6_skipBlanks_29 (by decide) ?_
    refine pm_icmp_ne (pc := 31) (tgt := 47) dX6_skipBlanks_31 rfl (fun h31 => ?_) (fun h31 => ?_)
    · refine pm_vret (pc := 47) rfl (Nat.le_refl _) (Nat.le_refl _) dX6_skipBlanks_47 ?_
      rw [z_sk_n (fun z => h31 (k32.mpr z.2))] at hT
      rw [← hT]
      exact QV.r ⟨rfl, rfl⟩
    · refine pm_aload_n (pc := 34) dX6_skipBlanks_34 rfl ?_
      refine pm_dup (pc := 35) dX6_skipBlanks_35 rfl ?_
      refine pm_get (pc := 36) (ci := 4) (C0 := RX6) (T := TX6) (N := 3) (j := 2) rfl rfl in_X6 (by decide) wf_X6_29 rfl dX6_skipBlanks_36 ?_
      rw [z_s_at]
      refine pm_iconst (pc := 39) (v := nI 1) dX6_skipBlanks_39 (by decide) ?_
      refine pm_iadd (pc := 40) dX6_skipBlanks_40 ?_
      refine pm_top (nI_add _ _) ?_
      refine pm_put (pc := 41) (ci := 4) (C0 := RX6) (T := TX6) (N := 3) (j := 2) (ty := .int) rfl rfl in_X6 tyX6 tyX6_ok nmX6 (by decide) wf_X6_29 rfl rfl (by decide +kernel) rfl rfl dX6_skipBlanks_41 ?_
      refine pm_goto (pc := 44) (tgt := 0) dX6_skipBlanks_44 rfl ?_
      refine pm_eq rfl rfl rfl z_put rfl ?_
      exact l_zsk hB ht m (a + 1) (by omega) (by rw [← hT, z_sk_b ha (k32.mp h31)])
set_option maxRecDepth 100000 in
set_option maxHeartbeats 1000000 in
theorem c_skip {I : pm_I} {L : pm_L} {t : List Nat} (hB : z_B I t) (ht : z_ok t) {a : Nat} (ha : a ≤ t.length) : PC 0 0 0 yX6_skipBlanks cX6_skipBlanks 1 none [.ref 22] GG (z_s I a) L (QV GG (fun I' L' => I' = z_s I (z_sk t a) ∧ L' = L)) := by
  refine PC.of [some (.ref 22)] (by decide) (Nat.le_of_ble_eq_true rfl) rfl (fun l P => ?_)
  exact l_zsk hB ht (t.length - a) a (by omega) rfl
set_option maxRecDepth 100000 in
set_option maxHeartbeats 1000000 in
theorem c_choice3 {I : pm_I} {L : pm_L} {t : List Nat} (hB : z_B I t) (ht : z_ok t) {a : Nat} (ha : a ≤ t.length) {q : Nat} (hq : q < 11) {bd but : Int32} {f : Nat → Option Nat} (hf : ∀ c, c < 127 → f c = z_fq q bd but c) : PC 4 0 0 yX6_choice_ cX6_choice_ 5 (some (.int)) [.ref 22, .ref (1000 + q), .int bd, .int but] GG (z_s I a) L (z_Q I L (z_ch t f a)) := by
  have h120 := ht.1
  obtain ⟨b1_, b2_, b3_⟩ := z_sk_sp ha
  have hby := fun h => z_byte ht (a := z_sk t a) h
  have e23 : ∀ b, b < t.length → z_s I b 23 b = nI (t.getD b 0) := fun b hb => by rw [z_s_ne (by decide)]; exact hB.2 b hb
  refine PC.of [some (.ref 22), some (.ref (1000 + q)), some (.int bd), some (.int but), none] (by decide) (Nat.le_of_ble_eq_true rfl) rfl (fun l P => ?_)
  refine pm_aload_n (pc := 0) dX6_choice__0 rfl ?_
  refine pm_cVV (pc := 1) dX6_choice__1 (c_skip hB ht ha) wq_X6_skipBlanks wm_X6_32 wi_X6_skipBlanks ws_X6_skipBlanks rfl rfl ⟨Nat.le_of_ble_eq_true rfl, Nat.le_of_ble_eq_true rfl⟩ ⟨Nat.le_of_ble_eq_true rfl, Nat.le_of_ble_eq_true rfl⟩ rfl (Nat.le_of_ble_eq_true rfl) (fun I1 L1 q1 => ?_)
  obtain ⟨qx, ql⟩ := q1
  subst ql
  subst qx
  refine pm_aload_n (pc := 4) dX6_choice__4 rfl ?_
  refine pm_get (pc := 5) (ci := 4) (C0 := RX6) (T := TX6) (N := 3) (j := 2) rfl rfl in_X6 (by decide) wf_X6_29 rfl dX6_choice__5 ?_
  rw [z_s_at]
  refine pm_aload_n (pc := 8) dX6_choice__8 rfl ?_
  refine pm_get (pc := 9) (ci := 4) (C0 := RX6) (T := TX6) (N := 3) (j := 1) rfl rfl in_X6 (by decide) wf_X6_23 rfl dX6_choice__9 ?_
  rw [z_s_len, hB.1]
  refine pm_icmp_ge (pc := 12) (tgt := 24) dX6_choice__12 rfl (fun h12 => ?_) (fun h12 => ?_)
  · simp (disch := omega) only [pm_eqI, pm_ltI, pm_leI, nI_toInt, pm_t0, pm_t1, pm_tm1] at h12
    have ep : z_p t f a = none := if_neg (by omega)
    refine pm_iconst (pc := 24) (v := (-1)) dX6_choice__24 (by decide) ?_
    refine pm_iret (pc := 25) rfl (Nat.le_refl _) (Nat.le_refl _) dX6_choice__25 ?_
    refine QI.r ⟨⟨?_, ?_⟩, rfl⟩
    · show _ = z_o (z_p t f a)
      rw [ep]; rfl
    · show _ = z_s I (z_q t f a)
      rw [z_q_n ep]
  · simp (disch := omega) only [pm_eqI, pm_ltI, pm_leI, nI_toInt, pm_t0, pm_t1, pm_tm1] at h12
    have hlt : z_sk t a < t.length := by omega
    have ep : z_p t f a = f (t.getD (z_sk t a) 0) := if_pos hlt
    rw [hf _ (by have := hby hlt; omega)] at ep
    refine pm_aload_n (pc := 15) dX6_choice__15 rfl ?_
    refine pm_get (pc := 16) (ci := 4) (C0 := RX6) (T := TX6) (N := 3) (j := 2) rfl rfl in_X6 (by decide) wf_X6_29 rfl dX6_choice__16 ?_
    rw [z_s_at]
    refine pm_bipush (pc := 19) (v := nI 120) dX6_choice__19 (by decide) ?_
    refine pm_icmp_lt (pc := 21) (tgt := 26) dX6_choice__21 rfl (fun h21 => ?_) (fun h21 => (by simp (disch := omega) only [pm_eqI, pm_ltI, pm_leI, nI_toInt, pm_t0, pm_t1, pm_tm1] at h21; omega))
    refine pm_aload_n (pc := 26) dX6_choice__26 rfl ?_
    refine pm_aload_n (pc := 27) dX6_choice__27 rfl ?_
    refine pm_getr (pc := 28) (ci := 4) (C0 := RX6) (T := TX6) (N := 3) (j := 0) rfl rfl in_X6 (by decide) wf_X6_11 rfl dX6_choice__28 ?_
    refine pm_aload_n (pc := 31) dX6_choice__31 rfl ?_
    refine pm_get (pc := 32) (ci := 4) (C0 := RX6) (T := TX6) (N := 3) (j := 2) rfl rfl in_X6 (by decide) wf_X6_29 rfl dX6_choice__32 ?_
    rw [z_s_at]
    refine pm_cald (pc := 35) rfl (by omega) (by decide) dX6_choice__35 ?_
    rw [e23 _ hlt]
    refine pm_cVs (pc := 36) dX6_choice__36 (c_ixI hq (show t.getD (z_sk t a) 0 < 128 by have := hby hlt; omega)) wq_J0_indexOf_0f7a4 wm_X6_44 wi_J0_indexOf_0f7a4 ws_J0_indexOf_0f7a4 rfl hq ⟨Nat.le_of_ble_eq_true rfl, Nat.le_of_ble_eq_true rfl⟩ ⟨Nat.le_of_ble_eq_true rfl, Nat.le_of_ble_eq_true rfl⟩ rfl (Nat.le_of_ble_eq_true rfl) ?_
    refine pm_istore (pc := 39) dX6_choice__39 (by decide) rfl ?_
    refine pm_iload (pc := 41) dX6_choice__41 rfl ?_
    refine pm_if_lt (pc := 43) (tgt := 58) dX6_choice__43 rfl (fun h43 => ?_) (fun h43 => ?_)
    · rw [show z_fq q bd but (t.getD (z_sk t a) 0) = none from if_pos (Or.inl h43)] at ep
      refine pm_iconst (pc := 58) (v := (-1)) dX6_choice__58 (by decide) ?_
      refine pm_iret (pc := 59) rfl (Nat.le_refl _) (Nat.le_refl _) dX6_choice__59 ?_
      refine QI.r ⟨⟨?_, ?_⟩, rfl⟩
      · show _ = z_o (z_p t f a)
        rw [ep]; rfl
      · show _ = z_s I (z_q t f a)
        rw [z_q_n ep]
    · refine pm_iload (pc := 46) dX6_choice__46 rfl ?_
      refine pm_iload_n (pc := 48) dX6_choice__48 rfl ?_
      refine pm_icmp_ge (pc := 49) (tgt := 58) dX6_choice__49 rfl (fun h49 => ?_) (fun h49 => ?_)
      · rw [show z_fq q bd but (t.getD (z_sk t a) 0) = none from if_pos (Or.inr (Or.inl h49))] at ep
        refine pm_iconst (pc := 58) (v := (-1)) dX6_choice__58 (by decide) ?_
        refine pm_iret (pc := 59) rfl (Nat.le_refl _) (Nat.le_refl _) dX6_choice__59 ?_
        refine QI.r ⟨⟨?_, ?_⟩, rfl⟩
        · show _ = z_o (z_p t f a)
          rw [ep]; rfl
        · show _ = z_s I (z_q t f a)
          rw [z_q_n ep]
      · refine pm_iload (pc := 52) dX6_choice__52 rfl ?_
        refine pm_iload_n (pc := 54) dX6_choice__54 rfl ?_
        refine pm_icmp_ne (pc := 55) (tgt := 60) dX6_choice__55 rfl (fun h55 => ?_) (fun h55 => ?_)
        · rw [show z_fq q bd but (t.getD (z_sk t a) 0) = some (z_ix (nI (t.getD (z_sk t a) 0)) (NB.getD q []) 0).toInt.toNat from if_neg (fun z => z.elim h43 (fun z => z.elim h49 h55))] at ep
          refine pm_aload_n (pc := 60) dX6_choice__60 rfl ?_
          refine pm_dup (pc := 61) dX6_choice__61 rfl ?_
          refine pm_get (pc := 62) (ci := 4) (C0 := RX6) (T := TX6) (N := 3) (j := 2) rfl rfl in_X6 (by decide) wf_X6_29 rfl dX6_choice__62 ?_
          rw [z_s_at]
          refine pm_iconst (pc := 65) (v := nI 1) dX6_choice__65 (by decide) ?_
          refine pm_iadd (pc := 66) dX6_choice__66 ?_
          refine pm_top (nI_add _ _) ?_
          refine pm_put (pc := 67) (ci := 4) (C0 := RX6) (T := TX6) (N := 3) (j := 2) (ty := .int) rfl rfl in_X6 tyX6 tyX6_ok nmX6 (by decide) wf_X6_29 rfl rfl (by decide +kernel) rfl rfl dX6_choice__67 ?_
          refine pm_eq rfl rfl rfl z_put rfl ?_
          refine pm_iload (pc := 70) dX6_choice__70 rfl ?_
          refine pm_iret (pc := 72) rfl (Nat.le_refl _) (Nat.le_refl _) dX6_choice__72 ?_
          refine QI.r ⟨⟨?_, ?_⟩, rfl⟩
          · show _ = z_o (z_p t f a)
            rw [ep]; exact (z_nat h43).symm
          · show _ = z_s I (z_q t f a)
            rw [z_q_s ep]
        · rw [show z_fq q bd but (t.getD (z_sk t a) 0) = none from if_pos (Or.inr (Or.inr h55))] at ep
          refine pm_iconst (pc := 58) (v := (-1)) dX6_choice__58 (by decide) ?_
          refine pm_iret (pc := 59) rfl (Nat.le_refl _) (Nat.le_refl _) dX6_choice__59 ?_
          refine QI.r ⟨⟨?_, ?_⟩, rfl⟩
          · show _ = z_o (z_p t f a)
            rw [ep]; rfl
          · show _ = z_s I (z_q t f a)
            rw [z_q_n ep]
set_option maxRecDepth 100000 in
set_option maxHeartbeats 1000000 in
theorem c_choice1 {I : pm_I} {L : pm_L} {t : List Nat} (hB : z_B I t) (ht : z_ok t) {a : Nat} (ha : a ≤ t.length) {q : Nat} (hq : q < 11) {f : Nat → Option Nat} (hf : ∀ c, c < 127 → f c = z_fq q (nI (NL.getD q 0)) (-1) c) : PC 5 0 0 yX6_choice cX6_choice 2 (some (.int)) [.ref 22, .ref (1000 + q)] GG (z_s I a) L (z_Q I L (z_ch t f a)) := by
  refine PC.of [some (.ref 22), some (.ref (1000 + q))] (by decide) (Nat.le_of_ble_eq_true rfl) rfl (fun l P => ?_)
  refine pm_aload_n (pc := 0) dX6_choice_0 rfl ?_
  refine pm_aload_n (pc := 1) dX6_choice_1 rfl ?_
  refine pm_aload_n (pc := 2) dX6_choice_2 rfl ?_
  refine pm_cVs (pc := 3) dX6_choice_3 (c_strLen hq) wq_J0_length_8abf5 wm_X6_35 wi_J0_length_8abf5 ws_J0_length_8abf5 rfl hq ⟨Nat.le_of_ble_eq_true rfl, Nat.le_of_ble_eq_true rfl⟩ ⟨Nat.le_of_ble_eq_true rfl, Nat.le_of_ble_eq_true rfl⟩ rfl (Nat.le_of_ble_eq_true rfl) ?_
  refine pm_iconst (pc := 6) (v := (-1)) dX6_choice_6 (by decide) ?_
  refine pm_cVI (pc := 7) dX6_choice_7 (c_choice3 hB ht ha hq hf) wq_X6_choice_ wm_X6_40 wi_X6_choice_ ws_X6_choice_ rfl rfl ⟨Nat.le_of_ble_eq_true rfl, Nat.le_of_ble_eq_true rfl⟩ ⟨Nat.le_of_ble_eq_true rfl, Nat.le_of_ble_eq_true rfl⟩ rfl (Nat.le_of_ble_eq_true rfl) (fun r7 I7 L7 q7 => ?_)
  refine pm_iret (pc := 10) rfl (Nat.le_refl _) (Nat.le_refl _) dX6_choice_10 ?_
  exact ⟨r7, rfl, rfl, q7⟩
set_option maxRecDepth 100000 in
set_option maxHeartbeats 1000000 in
theorem c_isAtEnd {I : pm_I} {L : pm_L} {t : List Nat} (hB : z_B I t) (ht : z_ok t) {a : Nat} (ha : a ≤ t.length) : PC 1 0 0 yX6_isAtEnd cX6_isAtEnd 1 (some (.boolean)) [.ref 22] GG (z_s I a) L (QI GG (fun r I' L' => (r = b1 (t.length ≤ z_sk t a) ∧ I' = z_s I (z_sk t a)) ∧ L' = L)) := by
  have h120 := ht.1
  obtain ⟨b1_, b2_, b3_⟩ := z_sk_sp ha
  have hby := fun h => z_byte ht (a := z_sk t a) h
  have e23 : ∀ b, b < t.length → z_s I b 23 b = nI (t.getD b 0) := fun b hb => by rw [z_s_ne (by decide)]; exact hB.2 b hb
  refine PC.of [some (.ref 22)] (by decide) (Nat.le_of_ble_eq_true rfl) rfl (fun l P => ?_)
  refine pm_aload_n (pc := 0) dX6_isAtEnd_0 rfl ?_
  refine pm_cVV (pc := 1) dX6_isAtEnd_1 (c_skip hB ht ha) wq_X6_skipBlanks wm_X6_32 wi_X6_skipBlanks ws_X6_skipBlanks rfl rfl ⟨Nat.le_of_ble_eq_true rfl, Nat.le_of_ble_eq_true rfl⟩ ⟨Nat.le_of_ble_eq_true rfl, Nat.le_of_ble_eq_true rfl⟩ rfl (Nat.le_of_ble_eq_true rfl) (fun I1 L1 q1 => ?_)
  obtain ⟨qx, ql⟩ := q1
  subst ql
  subst qx
  refine pm_aload_n (pc := 4) dX6_isAtEnd_4 rfl ?_
  refine pm_get (pc := 5) (ci := 4) (C0 := RX6) (T := TX6) (N := 3) (j := 2) rfl rfl in_X6 (by decide) wf_X6_29 rfl dX6_isAtEnd_5 ?_
  rw [z_s_at]
  refine pm_aload_n (pc := 8) dX6_isAtEnd_8 rfl ?_
  refine pm_get (pc := 9) (ci := 4) (C0 := RX6) (T := TX6) (N := 3) (j := 1) rfl rfl in_X6 (by decide) wf_X6_23 rfl dX6_isAtEnd_9 ?_
  rw [z_s_len, hB.1]
  refine pm_icmp_lt (pc := 12) (tgt := 19) dX6_isAtEnd_12 rfl (fun h12 => ?_) (fun h12 => ?_)
  · simp (disch := omega) only [pm_eqI, pm_ltI, pm_leI, nI_toInt, pm_t0, pm_t1, pm_tm1] at h12
    refine pm_iconst (pc := 19) (v := nI 0) dX6_isAtEnd_19 (by decide) ?_
    refine pm_zret (pc := 20) (by decide) rfl (Nat.le_refl _) (Nat.le_refl _) dX6_isAtEnd_20 ?_
    refine QI.r ⟨⟨?_, rfl⟩, rfl⟩
    first | exact (b1_t (by omega)).symm | exact (b1_f (by omega)).symm | exact b1_t (by omega) | exact b1_f (by omega)
  · simp (disch := omega) only [pm_eqI, pm_ltI, pm_leI, nI_toInt, pm_t0, pm_t1, pm_tm1] at h12
    refine pm_iconst (pc := 15) (v := nI 1) dX6_isAtEnd_15 (by decide) ?_
    refine pm_goto (pc := 16) (tgt := 20) dX6_isAtEnd_16 rfl ?_
    refine pm_zret (pc := 20) (by decide) rfl (Nat.le_refl _) (Nat.le_refl _) dX6_isAtEnd_20 ?_
    refine QI.r ⟨⟨?_, rfl⟩, rfl⟩
    first | exact (b1_t (by omega)).symm | exact (b1_f (by omega)).symm | exact b1_t (by omega) | exact b1_f (by omega)
set_option maxRecDepth 100000 in
set_option maxHeartbeats 1000000 in
theorem c_fault {I : pm_I} {L : pm_L} {a : Nat} : PC 0 0 0 yX6_fault cX6_fault 1 (some (.int)) [.ref 22] GG (z_s I a) L (QR GG (z_s I a) L (z_F a)) := by
  refine PC.of [some (.ref 22)] (by decide) (Nat.le_of_ble_eq_true rfl) rfl (fun l P => ?_)
  refine pm_bipush (pc := 0) (v := (-20)) dX6_fault_0 (by decide) ?_
  refine pm_aload_n (pc := 2) dX6_fault_2 rfl ?_
  refine pm_get (pc := 3) (ci := 4) (C0 := RX6) (T := TX6) (N := 3) (j := 2) rfl rfl in_X6 (by decide) wf_X6_29 rfl dX6_fault_3 ?_
  rw [z_s_at]
  refine pm_isub (pc := 6) dX6_fault_6 ?_
  refine pm_iret (pc := 7) rfl (Nat.le_refl _) (Nat.le_refl _) dX6_fault_7 ?_
  exact QR.r rfl
set_option maxRecDepth 100000 in
set_option maxHeartbeats 1000000 in
theorem c_empty {I : pm_I} {L : pm_L}  : PC 0 0 0 yX6_empty cX6_empty 1 none [.ref 22] GG I L (QV GG (fun I' L' => ((∀ c : Nat, c ≠ 22 → I' c = I c) ∧ I' 22 1 = nI 0 ∧ I' 22 2 = nI 0) ∧ L' = L)) := by
  refine PC.of [some (.ref 22)] (by decide) (Nat.le_of_ble_eq_true rfl) rfl (fun l P => ?_)
  refine pm_aload_n (pc := 0) dX6_empty_0 rfl ?_
  refine pm_iconst (pc := 1) (v := nI 0) dX6_empty_1 (by decide) ?_
  refine pm_put (pc := 2) (ci := 4) (C0 := RX6) (T := TX6) (N := 3) (j := 1) (ty := .int) rfl rfl in_X6 tyX6 tyX6_ok nmX6 (by decide) wf_X6_23 rfl rfl (by decide +kernel) rfl rfl dX6_empty_2 ?_
  refine pm_aload_n (pc := 5) dX6_empty_5 rfl ?_
  refine pm_iconst (pc := 6) (v := nI 0) dX6_empty_6 (by decide) ?_
  refine pm_put (pc := 7) (ci := 4) (C0 := RX6) (T := TX6) (N := 3) (j := 2) (ty := .int) rfl rfl in_X6 tyX6 tyX6_ok nmX6 (by decide) wf_X6_29 rfl rfl (by decide +kernel) rfl rfl dX6_empty_7 ?_
  refine pm_vret (pc := 10) rfl (Nat.le_refl _) (Nat.le_refl _) dX6_empty_10 ?_
  refine QV.r ⟨⟨fun c hc => (pm_un hc).trans (pm_un hc), ?_, ?_⟩, rfl⟩
  · rw [pm_us, pm_us]; rfl
  · rw [pm_us]; rfl
set_option maxRecDepth 100000 in
set_option maxHeartbeats 1000000 in
theorem l_zn86 {I : pm_I} {L : pm_L} {t : List Nat} (hB : z_B I t) (ht : z_ok t) {a0 : Nat} {la : Launch} {P : pm_E} {a v : Nat} (hv : v ≤ 100) (hT : z_dgs t (z_sk t a0) = (a, v)) : PW la P yX6_number cX6_number 3 (some (.int)) (pm_rm 1 0 0) (pm_Tg P (z_Q I L (z_num t a0)) 0 0) 0 0 86 [some (.ref 22), some (.int (nI (z_sk t a0))), some (.int (nI v))] [] GG (z_s I a) L := by
  have en : z_num t a0 = if 1 ≤ v ∧ v ≤ 99 then (a, some v) else (z_sk t a0, none) := by unfold z_num; rw [hT]
  have kR : iR (nI v) 1 99 ↔ 1 ≤ v ∧ v ≤ 99 := by unfold iR; rw [nI_toInt (by omega)]; omega
  refine pm_iload_n (pc := 86) dX6_number_86 rfl ?_
  refine pm_iconst (pc := 87) (v := nI 1) dX6_number_87 (by decide) ?_
  refine pm_bipush (pc := 88) (v := nI 99) dX6_number_88 (by decide) ?_
  refine pm_cSNR (hst := RX9) (pc := 90) dX6_number_90 (c_isIn (a := 1) (b := 99) (by decide) (by decide)) wq_X9_isIn (by decide +kernel) wt_X9_isIn ⟨Nat.le_of_ble_eq_true rfl, Nat.le_of_ble_eq_true rfl⟩ ⟨Nat.le_of_ble_eq_true rfl, Nat.le_of_ble_eq_true rfl⟩ rfl (Nat.le_of_ble_eq_true rfl) ?_
  refine pm_if_eq (pc := 93) (tgt := 98) dX6_number_93 rfl (fun h93 => ?_) (fun h93 => ?_)
  · rw [if_neg (fun z => b1_nf h93 (kR.mpr z))] at en
    refine pm_aload_n (pc := 98) dX6_number_98 rfl ?_
    refine pm_iload_n (pc := 99) dX6_number_99 rfl ?_
    refine pm_put (pc := 100) (ci := 4) (C0 := RX6) (T := TX6) (N := 3) (j := 2) (ty := .int) rfl rfl in_X6 tyX6 tyX6_ok nmX6 (by decide) wf_X6_29 rfl rfl (by decide +kernel) rfl rfl dX6_number_100 ?_
    refine pm_eq rfl rfl rfl z_put rfl ?_
    refine pm_iconst (pc := 103) (v := (-1)) dX6_number_103 (by decide) ?_
    refine pm_iret (pc := 104) rfl (Nat.le_refl _) (Nat.le_refl _) dX6_number_104 ?_
    rw [en]; exact QI.r ⟨⟨rfl, rfl⟩, rfl⟩
  · rw [if_pos (kR.mp (b1_nt h93))] at en
    refine pm_iload_n (pc := 96) dX6_number_96 rfl ?_
    refine pm_iret (pc := 97) rfl (Nat.le_refl _) (Nat.le_refl _) dX6_number_97 ?_
    rw [en]; exact QI.r ⟨⟨rfl, rfl⟩, rfl⟩
set_option maxRecDepth 100000 in
set_option maxHeartbeats 1000000 in
theorem l_zn11 {I : pm_I} {L : pm_L} {t : List Nat} (hB : z_B I t) (ht : z_ok t) {a0 : Nat} {la : Launch} {P : pm_E} : ∀ (m a v : Nat), a + m = t.length → v ≤ 100 → z_dg t m a v = z_dgs t (z_sk t a0) → PW la P yX6_number cX6_number 3 (some (.int)) (pm_rm 1 0 0) (pm_Tg P (z_Q I L (z_num t a0)) 0 0) 0 0 11 [some (.ref 22), some (.int (nI (z_sk t a0))), some (.int (nI v))] [] GG (z_s I a) L
  | 0, a, v, hm, hv, hT => by
    have h120 := ht.1
    refine pm_aload_n (pc := 11) dX6_number_11 rfl ?_
    refine pm_get (pc := 12) (ci := 4) (C0 := RX6) (T := TX6) (N := 3) (j := 2) rfl rfl in_X6 (by decide) wf_X6_29 rfl dX6_number_12 ?_
    rw [z_s_at]
    refine pm_aload_n (pc := 15) dX6_number_15 rfl ?_
    refine pm_get (pc := 16) (ci := 4) (C0 := RX6) (T := TX6) (N := 3) (j := 1) rfl rfl in_X6 (by decide) wf_X6_23 rfl dX6_number_16 ?_
    rw [z_s_len, hB.1]
    refine pm_icmp_ge (pc := 19) (tgt := 86) dX6_number_19 rfl (fun h19 => ?_) (fun h19 => (by simp (disch := omega) only [pm_eqI, pm_ltI, pm_leI, nI_toInt, pm_t0, pm_t1, pm_tm1] at h19; omega))
    exact l_zn86 hB ht hv hT.symm
  | m + 1, a, v, hm, hv, hT => by
    have h120 := ht.1
    have ha : a < t.length := by omega
    have hby := z_byte ht ha
    have e23 : z_s I a 23 a = nI (t.getD a 0) := by rw [z_s_ne (by decide)]; exact hB.2 a ha
    have kR : iR (nI (t.getD a 0)) 48 57 ↔ 48 ≤ t.getD a 0 ∧ t.getD a 0 ≤ 57 := by unfold iR; rw [nI_toInt (by omega)]; omega
    have e0 : z_dg t (m + 1) a v = if a < t.length ∧ 48 ≤ t.getD a 0 ∧ t.getD a 0 ≤ 57 then z_dg t m (a + 1) (if 100 < v * 10 + t.getD a 0 - 48 then 100 else v * 10 + t.getD a 0 - 48) else (a, v) := rfl
    refine pm_aload_n (pc := 11) dX6_number_11 rfl ?_
    refine pm_get (pc := 12) (ci := 4) (C0 := RX6) (T := TX6) (N := 3) (j := 2) rfl rfl in_X6 (by decide) wf_X6_29 rfl dX6_number_12 ?_
    rw [z_s_at]
    refine pm_aload_n (pc := 15) dX6_number_15 rfl ?_
    refine pm_get (pc := 16) (ci := 4) (C0 := RX6) (T := TX6) (N := 3) (j := 1) rfl rfl in_X6 (by decide) wf_X6_23 rfl dX6_number_16 ?_
    rw [z_s_len, hB.1]
    refine pm_icmp_ge (pc := 19) (tgt := 86) dX6_number_19 rfl (fun h19 => (by simp (disch := omega) only [pm_eqI, pm_ltI, pm_leI, nI_toInt, pm_t0, pm_t1, pm_tm1] at h19; omega)) (fun h19 => ?_)
    refine pm_aload_n (pc := 22) dX6_number_22 rfl ?_
    refine pm_get (pc := 23) (ci := 4) (C0 := RX6) (T := TX6) (N := 3) (j := 2) rfl rfl in_X6 (by decide) wf_X6_29 rfl dX6_number_23 ?_
    rw [z_s_at]
    refine pm_bipush (pc := 26) (v := nI 120) dX6_number_26 (by decide) ?_
    refine pm_icmp_ge (pc := 28) (tgt := 86) dX6_number_28 rfl (fun h28 => (by simp (disch := omega) only [pm_eqI, pm_ltI, pm_leI, nI_toInt, pm_t0, pm_t1, pm_tm1] at h28; omega)) (fun h28 => ?_)
    refine pm_aload_n (pc := 31) dX6_number_31 rfl ?_
    refine pm_getr (pc := 32) (ci := 4) (C0 := RX6) (T := TX6) (N := 3) (j := 0) rfl rfl in_X6 (by decide) wf_X6_11 rfl dX6_number_32 ?_
    refine pm_aload_n (pc := 35) dX6_number_35 rfl ?_
    refine pm_get (pc := 36) (ci := 4) (C0 := RX6) (T := TX6) (N := 3) (j := 2) rfl rfl in_X6 (by decide) wf_X6_29 rfl dX6_number_36 ?_
    rw [z_s_at]
    refine pm_cald (pc := 39) rfl (by omega) (by decide) dX6_number_39 ?_
    rw [e23]
    refine pm_bipush (pc := 40) (v := nI 48) dX6_number_40 (by decide) ?_
    refine pm_bipush (pc := 42) (v := nI 57) dX6_number_42 (by decide) ?_
    refine pm_cSNR (hst := RX9) (pc := 44) dX6_number_44 (c_isIn (a := 48) (b := 57) (by decide) (by decide)) wq_X9_isIn (by decide +kernel) wt_X9_isIn ⟨Nat.le_of_ble_eq_true rfl, Nat.le_of_ble_eq_true rfl⟩ ⟨Nat.le_of_ble_eq_true rfl, Nat.le_of_ble_eq_true rfl⟩ rfl (Nat.le_of_ble_eq_true rfl) ?_
    refine pm_if_eq (pc := 47) (tgt := 86) dX6_number_47 rfl (fun h47 => ?_) (fun h47 => ?_)
    · rw [e0, if_neg (fun z => b1_nf h47 (kR.mpr z.2))] at hT
      exact l_zn86 hB ht hv hT.symm
    · have h9 := kR.mp (b1_nt h47)
      rw [e0, if_pos ⟨ha, h9⟩] at hT
      refine pm_iload_n (pc := 50) dX6_number_50 rfl ?_
      refine pm_bipush (pc := 51) (v := nI 10) dX6_number_51 (by decide) ?_
      refine pm_imul (pc := 53) dX6_number_53 ?_
      refine pm_aload_n (pc := 54) dX6_number_54 rfl ?_
      refine pm_getr (pc := 55) (ci := 4) (C0 := RX6) (T := TX6) (N := 3) (j := 0) rfl rfl in_X6 (by decide) wf_X6_11 rfl dX6_number_55 ?_
      refine pm_aload_n (pc := 58) dX6_number_58 rfl ?_
      refine pm_get (pc := 59) (ci := 4) (C0 := RX6) (T := TX6) (N := 3) (j := 2) rfl rfl in_X6 (by decide) wf_X6_29 rfl dX6_number_59 ?_
      rw [z_s_at]
      refine pm_cald (pc := 62) rfl (by omega) (by decide) dX6_number_62 ?_
      rw [e23]
      refine pm_iadd (pc := 63) dX6_number_63 ?_
      refine pm_bipush (pc := 64) (v := nI 48) dX6_number_64 (by decide) ?_
      refine pm_isub (pc := 66) dX6_number_66 ?_
      refine pm_top (x' := nI (v * 10 + t.getD a 0 - 48)) (by rw [pk_mul, nI_add, pk_sub (by omega)]) ?_
      refine pm_bipush (pc := 67) (v := nI 100) dX6_number_67 (by decide) ?_
      refine pm_mmin (pc := 69) wm_X6_48 wt_mmin wz_math wo_mmin ⟨Nat.le_of_ble_eq_true rfl, Nat.le_of_ble_eq_true rfl, Nat.le_of_ble_eq_true rfl, Nat.le_of_ble_eq_true rfl⟩ (Nat.le_of_ble_eq_true rfl) dX6_number_69 ?_
      refine pm_top (w_minI (by decide) (by omega)) ?_
      refine pm_istore_n (pc := 72) dX6_number_72 (by decide) rfl ?_
      refine pm_aload_n (pc := 73) dX6_number_73 rfl ?_
      refine pm_dup (pc := 74) dX6_number_74 rfl ?_
      refine pm_get (pc := 75) (ci := 4) (C0 := RX6) (T := TX6) (N := 3) (j := 2) rfl rfl in_X6 (by decide) wf_X6_29 rfl dX6_number_75 ?_
      rw [z_s_at]
      refine pm_iconst (pc := 78) (v := nI 1) dX6_number_78 (by decide) ?_
      refine pm_iadd (pc := 79) dX6_number_79 ?_
      refine pm_top (nI_add _ _) ?_
      refine pm_put (pc := 80) (ci := 4) (C0 := RX6) (T := TX6) (N := 3) (j := 2) (ty := .int) rfl rfl in_X6 tyX6 tyX6_ok nmX6 (by decide) wf_X6_29 rfl rfl (by decide +kernel) rfl rfl dX6_number_80 ?_
      refine pm_eq rfl rfl rfl z_put rfl ?_
      refine pm_goto (pc := 83) (tgt := 11) dX6_number_83 rfl ?_
      exact l_zn11 hB ht m (a + 1) _ (by omega) (by split <;> omega) hT
set_option maxRecDepth 100000 in
set_option maxHeartbeats 1000000 in
theorem c_number {I : pm_I} {L : pm_L} {t : List Nat} (hB : z_B I t) (ht : z_ok t) {a : Nat} (ha : a ≤ t.length) : PC 1 0 0 yX6_number cX6_number 3 (some (.int)) [.ref 22] GG (z_s I a) L (z_Q I L (z_num t a)) := by
  have h120 := ht.1
  obtain ⟨b1_, b2_, b3_⟩ := z_sk_sp ha
  have hby := fun h => z_byte ht (a := z_sk t a) h
  have e23 : ∀ b, b < t.length → z_s I b 23 b = nI (t.getD b 0) := fun b hb => by rw [z_s_ne (by decide)]; exact hB.2 b hb
  refine PC.of [some (.ref 22), none, none] (by decide) (Nat.le_of_ble_eq_true rfl) rfl (fun l P => ?_)
  refine pm_aload_n (pc := 0) dX6_number_0 rfl ?_
  refine pm_cVV (pc := 1) dX6_number_1 (c_skip hB ht ha) wq_X6_skipBlanks wm_X6_32 wi_X6_skipBlanks ws_X6_skipBlanks rfl rfl ⟨Nat.le_of_ble_eq_true rfl, Nat.le_of_ble_eq_true rfl⟩ ⟨Nat.le_of_ble_eq_true rfl, Nat.le_of_ble_eq_true rfl⟩ rfl (Nat.le_of_ble_eq_true rfl) (fun I1 L1 q1 => ?_)
  obtain ⟨qx, ql⟩ := q1
  subst ql
  subst qx
  refine pm_aload_n (pc := 4) dX6_number_4 rfl ?_
  refine pm_get (pc := 5) (ci := 4) (C0 := RX6) (T := TX6) (N := 3) (j := 2) rfl rfl in_X6 (by decide) wf_X6_29 rfl dX6_number_5 ?_
  rw [z_s_at]
  refine pm_istore_n (pc := 8) dX6_number_8 (by decide) rfl ?_
  refine pm_iconst (pc := 9) (v := nI 0) dX6_number_9 (by decide) ?_
  refine pm_istore_n (pc := 10) dX6_number_10 (by decide) rfl ?_
  exact l_zn11 hB ht (t.length - z_sk t a) (z_sk t a) 0 (by omega) (by decide) rfl
