/-- byte i of a number, as a long and as a number of its own -/
def t_v (w : Int64) (i : Nat) : Int64 := (w >>> ((nI 8 * nI i).toInt64 &&& 63)) &&& 255
def t_b (w : Int64) (i : Nat) : Nat := (t_v w i).toInt.toNat
abbrev t_good (w : Int64) (i : Nat) : Prop := 32 ≤ t_b w i ∧ t_b w i ≤ 126
def t_add (w : Int64) : Nat → List Nat → List Nat
  | 0, q => q
  | m + 1, q => t_add w m (q ++ [t_b w m])
def sp_type (X : xS) (w : Int64) (n : Int32) : Int32 × xS := if ¬ iR n 1 8 then (-1, X) else if ¬ (∀ k, k < nt n → t_good w k) then (-1, X) else if 120 < (x_t X).length + nt n then (-3, X) else (nI ((x_t X).length + nt n), xt X (t_add w (nt n) (x_t X)))
theorem and255 (x : Int64) : 0 ≤ (x &&& 255).toInt ∧ (x &&& 255).toInt ≤ 255 := by
  have h : (x &&& 255).toBitVec = x.toBitVec &&& 255#64 := rfl
  have h2 : (x.toBitVec &&& 255#64).toNat ≤ 255 := by rw [BitVec.toNat_and]; exact Nat.and_le_right
  show 0 ≤ (x &&& 255).toBitVec.toInt ∧ (x &&& 255).toBitVec.toInt ≤ 255
  rw [h, BitVec.toInt_eq_toNat_of_lt (by omega)]
  omega
theorem t_v_r (w : Int64) (i : Nat) : 0 ≤ (t_v w i).toInt ∧ (t_v w i).toInt ≤ 255 := and255 _
theorem t_b_r (w : Int64) (i : Nat) : t_b w i ≤ 255 ∧ (t_v w i).toInt = t_b w i := by
  have := t_v_r w i
  unfold t_b; omega
theorem t_v32 (w : Int64) (i : Nat) : (t_v w i).toInt32 = nI (t_b w i) := by
  have h := t_v_r w i
  unfold t_b
  rw [pm_eqI, Int64.toInt_toInt32, nI_toInt (by omega), Int.bmod_eq_of_le_mul_two (by omega) (by omega)]
  omega
theorem t_chr {b : Nat} (h : b ≤ 255) : vp_nar .char ((nI b).toUInt32 % 65536).toInt32 = nI b := (by decide +kernel : ∀ b, b < 256 → vp_nar .char ((nI b).toUInt32 % 65536).toInt32 = nI b) b (by omega)
theorem t_add_len (w : Int64) : ∀ (m : Nat) (q : List Nat), (t_add w m q).length = q.length + m
  | 0, q => rfl
  | m + 1, q => by
    show (t_add w m (q ++ [t_b w m])).length = _
    rw [t_add_len w m, List.length_append]
    show q.length + 1 + m = _
    omega
theorem t_add_mem (w : Int64) : ∀ (m : Nat) (q : List Nat) (b : Nat), b ∈ t_add w m q → b ∈ q ∨ ∃ k, k < m ∧ b = t_b w k
  | 0, q, b, h => Or.inl h
  | m + 1, q, b, h => by
    have h2 : b ∈ t_add w m (q ++ [t_b w m]) := h
    rcases t_add_mem w m _ b h2 with z | ⟨k, hk, e⟩
    · rcases List.mem_append.mp z with y | y
      · exact Or.inl y
      · exact Or.inr ⟨m, by omega, List.mem_singleton.mp y⟩
    · exact Or.inr ⟨k, by omega, e⟩
theorem getD_app {q : List Nat} {b k : Nat} : (q ++ [b]).getD k 0 = if k = q.length then b else if k < q.length then q.getD k 0 else 0 := by
  rw [List.getD_eq_getElem?_getD]
  by_cases e : k = q.length
  · subst e; rw [if_pos rfl, List.getElem?_append_right (Nat.le_refl _), Nat.sub_self]; rfl
  · rw [if_neg e]
    by_cases e2 : k < q.length
    · rw [if_pos e2, List.getElem?_append_left e2, List.getD_eq_getElem?_getD]
    · rw [if_neg e2, List.getElem?_eq_none (by rw [List.length_append]; show q.length + 1 ≤ k; omega)]; rfl
theorem XR.t {I I' : pm_I} {L : pm_L} {X : xS} {q : List Nat} (h : XR I L X) (e : ∀ a : Nat, a ≠ 22 → a ≠ 23 → I' a = I a) (hT : XT I' q) : XR I' L (xt X q) ∧ xF I I' L L := by
  refine ⟨⟨?_, ?_, hT, fun p hp => ⟨?_, (h.2.2.2 p hp).2⟩⟩, fun a ha => ⟨e a (by omega) (by omega), rfl⟩⟩
  · have h0 := h.1
    show GR I' 1 (x_g X)
    unfold GR at h0 ⊢
    simp only [e 1 (by omega) (by omega), e (1 + 1) (by omega) (by omega), e (1 + 2) (by omega) (by omega), e (1 + 3) (by omega) (by omega), e (1 + 4) (by omega) (by omega), e (1 + 5) (by omega) (by omega), e (1 + 6) (by omega) (by omega), e (1 + 7) (by omega) (by omega)]
    exact h0
  · have h1 := h.2.1
    show XI I' (x_i X)
    unfold XI at h1 ⊢
    split
    · rename_i hz; rw [hz] at h1; rw [e 0 (by omega) (by omega)]; exact h1
    · rename_i s' hz
      rw [hz] at h1
      refine ⟨by rw [e 0 (by omega) (by omega)]; exact h1.1, ?_⟩
      have h2 := h1.2
      unfold GR at h2 ⊢
      simp only [e 9 (by omega) (by omega), e (9 + 1) (by omega) (by omega), e (9 + 2) (by omega) (by omega), e (9 + 3) (by omega) (by omega), e (9 + 4) (by omega) (by omega), e (9 + 5) (by omega) (by omega), e (9 + 6) (by omega) (by omega), e (9 + 7) (by omega) (by omega)]
      exact h2
  · have h1 := (h.2.2.2 p hp).1
    show XS I' p (x_s X p)
    unfold XS at h1 ⊢
    rw [e (32 + 2 * p) (by omega) (by omega)]; exact h1
theorem MR.t {I I' : pm_I} {L : pm_L} {X : xS} {q : List Nat} (h : MR I L X) (e : ∀ a : Nat, a ≠ 40 → a ≠ 48 → I' a = I a) (f : ∀ k : Nat, k ≠ 10 → I' 40 k = I 40 k) (hT : MT_ I' q) : MR I' L (xt X q) ∧ yF I I' L L := by
  refine ⟨⟨?_, ?_, hT, fun p hp => ⟨?_, (h.2.2.2 p hp).2⟩⟩, fun a ha => ⟨e a (by omega) (by omega), rfl⟩⟩
  · have h0 := h.1
    show MG I' (x_g X)
    unfold MG at h0 ⊢
    rw [f 0 (by decide), f 8 (by decide), e 41 (by decide) (by decide), e 42 (by decide) (by decide), e 43 (by decide) (by decide), e 44 (by decide) (by decide), e 45 (by decide) (by decide), e 46 (by decide) (by decide), e 47 (by decide) (by decide)]
    exact h0
  · have h1 := h.2.1
    show MO I' (x_i X)
    unfold MO at h1 ⊢
    split
    · rename_i hz; rw [hz] at h1; rw [f 26 (by decide)]; exact h1
    · rename_i s' hz
      rw [hz] at h1
      refine ⟨by rw [f 26 (by decide)]; exact h1.1, ?_⟩
      have h2 := h1.2
      unfold MI at h2 ⊢
      rw [f 27 (by decide), f 28 (by decide), e 60 (by decide) (by decide)]
      exact h2
  · have h1 := (h.2.2.2 p hp).1
    show MS I' p (x_s X p)
    unfold MS at h1 ⊢
    rw [e 61 (by decide) (by decide), e 62 (by decide) (by decide)]; exact h1
theorem sp_type_t {X : xS} {w : Int64} {n : Nat} (h1 : 1 ≤ n) (h8 : n ≤ 8) : sp_type X w (nI n) = if ¬ (∀ k, k < n → t_good w k) then (-1, X) else if 120 < (x_t X).length + n then (-3, X) else (nI ((x_t X).length + n), xt X (t_add w n (x_t X))) := by
  unfold sp_type
  rw [if_neg (not_not_intro ⟨by rw [nI_toInt (by omega)]; omega, by rw [nI_toInt (by omega)]; omega⟩), nt_nI (by omega)]
set_option maxRecDepth 100000 in
set_option maxHeartbeats 1000000 in
theorem c_byteOf {I : pm_I} {L : pm_L} {w : Int64} {i : Nat} : PC 0 0 0 yX6_byteOf cX6_byteOf 3 (some (.int)) [.long w, .int (nI i)] GG I L (QR GG I L (nI (t_b w i))) := by
  refine PC.of [some (.long w), none, some (.int (nI i))] (by decide) (Nat.le_of_ble_eq_true rfl) rfl (fun l P => ?_)
  refine pm_lload_n (pc := 0) dX6_byteOf_0 rfl ?_
  refine pm_bipush (pc := 1) (v := nI 8) dX6_byteOf_1 (by decide) ?_
  refine pm_iload_n (pc := 3) dX6_byteOf_3 rfl ?_
  refine pm_imul (pc := 4) dX6_byteOf_4 ?_
  refine pm_lshr (pc := 5) dX6_byteOf_5 ?_
  refine pm_ldc2 (pc := 6) wk_X6_27 dX6_byteOf_6 ?_
  refine pm_land (pc := 9) dX6_byteOf_9 ?_
  refine pm_l2i (pc := 10) dX6_byteOf_10 ?_
  refine pm_iret (pc := 11) rfl (Nat.le_refl _) (Nat.le_refl _) dX6_byteOf_11 ?_
  exact QR.r (t_v32 w i)
set_option maxRecDepth 100000 in
set_option maxHeartbeats 1000000 in
theorem l_ty15 {I : pm_I} {L : pm_L} {w : Int64} {n : Nat} (hn : n ≤ 8) {Q : pm_QT} {la : Launch} {P : pm_E} (hbad : ¬ (∀ k, k < n → t_good w k) → Q (some (.int (-1))) GG I L) (k45 : (∀ k, k < n → t_good w k) → PW la P yX6_append cX6_append 5 (some (.int)) (pm_rm 1 0 0) (pm_Tg P Q 0 0) 0 0 45 [some (.ref 22), some (.long w), none, some (.int (nI n)), none] [] GG I L) : ∀ (m i : Nat), i + m = n → (∀ k, k < i → t_good w k) → PW la P yX6_append cX6_append 5 (some (.int)) (pm_rm 1 0 0) (pm_Tg P Q 0 0) 0 0 15 [some (.ref 22), some (.long w), none, some (.int (nI n)), some (.int (nI i))] [] GG I L
  | 0, i, hm, hg => by
    have e : i = n := by omega
    subst e
    refine pm_iload (pc := 15) dX6_append_15 rfl ?_
    refine pm_iload_n (pc := 17) dX6_append_17 rfl ?_
    refine pm_icmp_ge (pc := 18) (tgt := 45) dX6_append_18 rfl (fun h18 => ?_) (fun h18 => (by simp (disch := omega) only [pm_eqI, pm_ltI, pm_leI, nI_toInt, pm_t0, pm_t1, pm_tm1] at h18; omega))
    refine pm_kill 4 ?_
    exact k45 hg
  | m + 1, i, hm, hg => by
    have hb := t_b_r w i
    have kb := nI_toInt (n := t_b w i) (by omega)
    refine pm_iload (pc := 15) dX6_append_15 rfl ?_
    refine pm_iload_n (pc := 17) dX6_append_17 rfl ?_
    refine pm_icmp_ge (pc := 18) (tgt := 45) dX6_append_18 rfl (fun h18 => (by simp (disch := omega) only [pm_eqI, pm_ltI, pm_leI, nI_toInt, pm_t0, pm_t1, pm_tm1] at h18; omega)) (fun h18 => ?_)
    refine pm_lload_n (pc := 21) dX6_append_21 rfl ?_
    refine pm_iload (pc := 22) dX6_append_22 rfl ?_
    refine pm_cSR (pc := 24) dX6_append_24 (c_byteOf (w := w) (i := i)) wq_X6_byteOf wm_X6_19 wt_X6_byteOf ⟨Nat.le_of_ble_eq_true rfl, Nat.le_of_ble_eq_true rfl⟩ ⟨Nat.le_of_ble_eq_true rfl, Nat.le_of_ble_eq_true rfl⟩ rfl (Nat.le_of_ble_eq_true rfl) ?_
    refine pm_bipush (pc := 27) (v := nI 32) dX6_append_27 (by decide) ?_
    refine pm_bipush (pc := 29) (v := nI 126) dX6_append_29 (by decide) ?_
    refine pm_cSNR (hst := RX9) (pc := 31) dX6_append_31 (c_isIn (a := 32) (b := 126) (by decide) (by decide)) wq_X9_isIn (by decide +kernel) wt_X9_isIn ⟨Nat.le_of_ble_eq_true rfl, Nat.le_of_ble_eq_true rfl⟩ ⟨Nat.le_of_ble_eq_true rfl, Nat.le_of_ble_eq_true rfl⟩ rfl (Nat.le_of_ble_eq_true rfl) ?_
    refine pm_if_ne (pc := 34) (tgt := 39) dX6_append_34 rfl (fun h34 => ?_) (fun h34 => ?_)
    · have hgi : t_good w i := by have z := b1_nt h34; have z1 := z.1; have z2 := z.2; exact ⟨by omega, by omega⟩
      refine pm_iinc (pc := 39) dX6_append_39 rfl (pm_inc1 _) (by decide) rfl ?_
      refine pm_goto (pc := 42) (tgt := 15) dX6_append_42 rfl ?_
      exact l_ty15 hn hbad k45 m (i + 1) (by omega) (fun k hk => by
        rcases (show k < i ∨ k = i by omega) with z | z
        · exact hg k z
        · rw [z]; exact hgi)
    · refine pm_iconst (pc := 37) (v := (-1)) dX6_append_37 (by decide) ?_
      refine pm_iret (pc := 38) rfl (Nat.le_refl _) (Nat.le_refl _) dX6_append_38 ?_
      exact hbad (fun z => b1_nf h34 (by have y := z i (by omega); have y1 := y.1; have y2 := y.2; exact ⟨by omega, by omega⟩))
theorem XT_app {I : pm_I} {q : List Nat} {b : Nat} (h : XT I q) : XT (pm_u (pm_u I 23 (upd (I 23) q.length (nI b))) 22 (upd (I 22) 1 (nI (q.length + 1)))) (q ++ [b]) := by
  refine ⟨?_, ?_, fun k hk => ?_⟩
  · rw [pm_us, pk_us, List.length_append]; rfl
  · rw [pm_us, pk_un (by decide)]; exact h.2.1
  · rw [List.length_append] at hk
    have hk2 : k < q.length + 1 := hk
    rw [pm_un (by decide), pm_us, getD_app]
    by_cases e : k = q.length
    · rw [if_pos e, e, pk_us]
    · rw [if_neg e, if_pos (by omega), pk_un e]; exact h.2.2 k (by omega)
theorem MT_app {I : pm_I} {q : List Nat} {b : Nat} (h : MT_ I q) : MT_ (pm_u (pm_u I 48 (upd (I 48) q.length (nI b))) 40 (upd (I 40) 10 (nI (q.length + 1)))) (q ++ [b]) := by
  refine ⟨?_, fun k hk => ?_⟩
  · rw [pm_us, pk_us, List.length_append]; rfl
  · rw [List.length_append] at hk
    have hk2 : k < q.length + 1 := hk
    rw [pm_un (by decide), pm_us, getD_app]
    by_cases e : k = q.length
    · rw [if_pos e, e, pk_us]
    · rw [if_neg e, if_pos (by omega), pk_un e]; exact h.2 k (by omega)
set_option maxRecDepth 100000 in
set_option maxHeartbeats 1000000 in
theorem l_ty64 {L : pm_L} {w : Int64} {n : Nat} {Q : pm_QT} {la : Launch} {P : pm_E} {I0 : pm_I} {R0 : List Nat} (hend : ∀ (J : pm_I) (q : List Nat), XT J q → (∀ a : Nat, a ≠ 22 → a ≠ 23 → J a = I0 a) → q = R0 → Q (some (.int (J 22 1))) GG J L) : ∀ (m : Nat) (x : Int32) (q : List Nat) (J : pm_I), x.toInt = (m : Int) - 1 → q.length + m ≤ 120 → XT J q → (∀ a : Nat, a ≠ 22 → a ≠ 23 → J a = I0 a) → t_add w m q = R0 → PW la P yX6_append cX6_append 5 (some (.int)) (pm_rm 1 0 0) (pm_Tg P Q 0 0) 0 0 64 [some (.ref 22), some (.long w), none, some (.int (nI n)), some (.int x)] [] GG J L
  | 0, x, q, J, hx, hl, hT, hF, hR0 => by
    refine pm_iload (pc := 64) dX6_append_64 rfl ?_
    refine pm_if_lt (pc := 66) (tgt := 110) dX6_append_66 rfl (fun h66 => ?_) (fun h66 => absurd (by rw [pm_ltI, pm_t0]; omega) h66)
    refine pm_aload_n (pc := 110) dX6_append_110 rfl ?_
    refine pm_get (pc := 111) (ci := 4) (C0 := RX6) (T := TX6) (N := 3) (j := 1) rfl rfl in_X6 (by decide) wf_X6_23 rfl dX6_append_111 ?_
    refine pm_iret (pc := 114) rfl (Nat.le_refl _) (Nat.le_refl _) dX6_append_114 ?_
    exact hend J q hT hF hR0
  | m + 1, x, q, J, hx, hl, hT, hF, hR0 => by
    have ex : x = nI m := by rw [pm_eqI, nI_toInt (by omega), hx]; omega
    subst ex
    have hb := t_b_r w m
    refine pm_iload (pc := 64) dX6_append_64 rfl ?_
    refine pm_if_lt (pc := 66) (tgt := 110) dX6_append_66 rfl (fun h66 => (by simp (disch := omega) only [pm_eqI, pm_ltI, pm_leI, nI_toInt, pm_t0, pm_t1, pm_tm1] at h66; omega)) (fun h66 => ?_)
    refine pm_aload_n (pc := 69) dX6_append_69 rfl ?_
    refine pm_get (pc := 70) (ci := 4) (C0 := RX6) (T := TX6) (N := 3) (j := 1) rfl rfl in_X6 (by decide) wf_X6_23 rfl dX6_append_70 ?_
    refine pm_bipush (pc := 73) (v := nI 120) dX6_append_73 (by decide) ?_
    refine pm_icmp_ge (pc := 75) (tgt := 110) dX6_append_75 rfl (fun h75 => (by simp (disch := omega) only [hT.1, pm_leI, nI_toInt] at h75; omega)) (fun h75 => ?_)
    refine pm_aload_n (pc := 78) dX6_append_78 rfl ?_
    refine pm_getr (pc := 79) (ci := 4) (C0 := RX6) (T := TX6) (N := 3) (j := 0) rfl rfl in_X6 (by decide) wf_X6_11 rfl dX6_append_79 ?_
    refine pm_aload_n (pc := 82) dX6_append_82 rfl ?_
    refine pm_get (pc := 83) (ci := 4) (C0 := RX6) (T := TX6) (N := 3) (j := 1) rfl rfl in_X6 (by decide) wf_X6_23 rfl dX6_append_83 ?_
    refine pm_top (x' := nI q.length) hT.1 ?_
    refine pm_lload_n (pc := 86) dX6_append_86 rfl ?_
    refine pm_iload (pc := 87) dX6_append_87 rfl ?_
    refine pm_cSR (pc := 89) dX6_append_89 (c_byteOf (w := w) (i := m)) wq_X6_byteOf wm_X6_19 wt_X6_byteOf ⟨Nat.le_of_ble_eq_true rfl, Nat.le_of_ble_eq_true rfl⟩ ⟨Nat.le_of_ble_eq_true rfl, Nat.le_of_ble_eq_true rfl⟩ rfl (Nat.le_of_ble_eq_true rfl) ?_
    refine pm_i2c (pc := 92) dX6_append_92 ?_
    refine pm_cast (pc := 93) rfl (by omega) (by decide) dX6_append_93 ?_
    rw [t_chr hb.1]
    refine pm_aload_n (pc := 94) dX6_append_94 rfl ?_
    refine pm_dup (pc := 95) dX6_append_95 rfl ?_
    refine pm_get (pc := 96) (ci := 4) (C0 := RX6) (T := TX6) (N := 3) (j := 1) rfl rfl in_X6 (by decide) wf_X6_23 rfl dX6_append_96 ?_
    refine pm_iconst (pc := 99) (v := nI 1) dX6_append_99 (by decide) ?_
    refine pm_iadd (pc := 100) dX6_append_100 ?_
    refine pm_top (x' := nI (q.length + 1)) (by show J 22 1 + nI 1 = _; rw [hT.1, nI_add]) ?_
    refine pm_put (pc := 101) (ci := 4) (C0 := RX6) (T := TX6) (N := 3) (j := 1) (ty := .int) rfl rfl in_X6 tyX6 tyX6_ok nmX6 (by decide) wf_X6_23 rfl rfl (by decide +kernel) rfl rfl dX6_append_101 ?_
    refine pm_iinc (pc := 104) dX6_append_104 rfl rfl (by decide) rfl ?_
    refine pm_goto (pc := 107) (tgt := 64) dX6_append_107 rfl ?_
    exact l_ty64 hend m _ (q ++ [t_b w m]) _ (by rw [show Int32.ofInt (-1) = -1 by decide, fb_addI (by rw [nI_toInt (by omega), pm_tm1]; omega) (by rw [nI_toInt (by omega), pm_tm1]; omega), nI_toInt (by omega), pm_tm1]; omega) (by rw [List.length_append]; show q.length + 1 + m ≤ 120; omega) (XT_app hT) (fun a h1 h2 => (pm_un h1).trans ((pm_un h2).trans (hF a h1 h2))) hR0
set_option maxRecDepth 100000 in
set_option maxHeartbeats 1000000 in
theorem c_append {I : pm_I} {L : pm_L} {X : xS} (hR : XR I L X) (hX : xInv X) {w : Int64} {n : Int32} : PC 1 0 0 yX6_append cX6_append 5 (some (.int)) [.ref 22, .long w, .int n] GG I L (XQ I L (sp_type X w n).1 (sp_type X w n).2) := by
  have hT := hR.2.2.1
  have hl := hX.2.2.1.1
  refine PC.of [some (.ref 22), some (.long w), none, some (.int n), none] (by decide) (Nat.le_of_ble_eq_true rfl) rfl (fun l P => ?_)
  refine pm_iload_n (pc := 0) dX6_append_0 rfl ?_
  refine pm_iconst (pc := 1) (v := nI 1) dX6_append_1 (by decide) ?_
  refine pm_bipush (pc := 2) (v := nI 8) dX6_append_2 (by decide) ?_
  refine pm_cSNR (hst := RX9) (pc := 4) dX6_append_4 (c_isIn (a := 1) (b := 8) (by decide) (by decide)) wq_X9_isIn (by decide +kernel) wt_X9_isIn ⟨Nat.le_of_ble_eq_true rfl, Nat.le_of_ble_eq_true rfl⟩ ⟨Nat.le_of_ble_eq_true rfl, Nat.le_of_ble_eq_true rfl⟩ rfl (Nat.le_of_ble_eq_true rfl) ?_
  refine pm_if_ne (pc := 7) (tgt := 12) dX6_append_7 rfl (fun h7 => ?_) (fun h7 => ?_)
  · obtain ⟨n, hn1, hn, rfl⟩ := iR1_of (b := 8) (by decide) (b1_nt h7)
    rw [sp_type_t hn1 hn]
    refine pm_iconst (pc := 12) (v := nI 0) dX6_append_12 (by decide) ?_
    refine pm_istore (pc := 13) dX6_append_13 (by decide) rfl ?_
    refine l_ty15 hn (fun hb => ?_) (fun hg => ?_) n 0 (by omega) (fun k hk => absurd hk (Nat.not_lt_zero k))
    · rw [if_pos hb]; exact XQ.r rfl hR xF.rf
    refine pm_aload_n (pc := 45) dX6_append_45 rfl ?_
    refine pm_get (pc := 46) (ci := 4) (C0 := RX6) (T := TX6) (N := 3) (j := 1) rfl rfl in_X6 (by decide) wf_X6_23 rfl dX6_append_46 ?_
    refine pm_bipush (pc := 49) (v := nI 120) dX6_append_49 (by decide) ?_
    refine pm_iload_n (pc := 51) dX6_append_51 rfl ?_
    refine pm_isub (pc := 52) dX6_append_52 ?_
    refine pm_top (x' := nI (120 - n)) (pk_sub (by omega)) ?_
    refine pm_icmp_le (pc := 53) (tgt := 59) dX6_append_53 rfl (fun h53 => ?_) (fun h53 => ?_)
    · have hroom : ¬ 120 < (x_t X).length + n := by simp (disch := omega) only [hT.1, pm_leI, nI_toInt] at h53; omega
      refine pm_iload_n (pc := 59) dX6_append_59 rfl ?_
      refine pm_iconst (pc := 60) (v := nI 1) dX6_append_60 (by decide) ?_
      refine pm_isub (pc := 61) dX6_append_61 ?_
      refine pm_istore (pc := 62) dX6_append_62 (by decide) rfl ?_
      refine l_ty64 (R0 := t_add w n (x_t X)) (fun J q hq hF hq2 => ?_) n _ (x_t X) I (nIm1 (by omega)) (by omega) hT (fun _ _ _ => rfl) rfl
      rw [if_neg (not_not_intro hg), if_neg hroom]
      subst hq2
      have k := hR.t hF hq
      exact XQ.r (by rw [hq.1, t_add_len]) k.1 k.2
    · have hfull : 120 < (x_t X).length + n := by simp (disch := omega) only [hT.1, pm_leI, nI_toInt] at h53; omega
      refine pm_bipush (pc := 56) (v := (-3)) dX6_append_56 (by decide) ?_
      refine pm_iret (pc := 58) rfl (Nat.le_refl _) (Nat.le_refl _) dX6_append_58 ?_
      rw [if_neg (not_not_intro hg), if_pos hfull]
      exact XQ.r rfl hR xF.rf
  · refine pm_iconst (pc := 10) (v := (-1)) dX6_append_10 (by decide) ?_
    refine pm_iret (pc := 11) rfl (Nat.le_refl _) (Nat.le_refl _) dX6_append_11 ?_
    first | (rw [show sp_type X w n = (-1, X) from if_pos (b1_nf h7)]; exact XQ.r rfl hR xF.rf)
set_option maxRecDepth 100000 in
set_option maxHeartbeats 1000000 in
theorem x_type {I : pm_I} {L : pm_L} {X : xS} (hR : XR I L X) (hX : xInv X) {w : Int64} {n : Int32} : PC 2 0 0 yX9_type cX9_type 4 (some (.int)) [.ref 0, .long w, .int n] GG I L (XQ I L (sp_type X w n).1 (sp_type X w n).2) := by
  refine PC.of [some (.ref 0), some (.long w), none, some (.int n)] (by decide) (Nat.le_of_ble_eq_true rfl) rfl (fun l P => ?_)
  refine pm_aload_n (pc := 0) dX9_type_0 rfl ?_
  refine pm_getr (pc := 1) (ci := 7) (C0 := RX9) (T := TX9) (N := 9) (j := 5) rfl rfl in_X9 (by decide) wf_X9_36 rfl dX9_type_1 ?_
  refine pm_lload_n (pc := 4) dX9_type_4 rfl ?_
  refine pm_iload_n (pc := 5) dX9_type_5 rfl ?_
  refine pm_cVI (pc := 6) dX9_type_6 (c_append hR hX) wq_X6_append wm_X9_111 wi_X6_append ws_X6_append rfl rfl ⟨Nat.le_of_ble_eq_true rfl, Nat.le_of_ble_eq_true rfl⟩ ⟨Nat.le_of_ble_eq_true rfl, Nat.le_of_ble_eq_true rfl⟩ rfl (Nat.le_of_ble_eq_true rfl) (fun r6 I6 L6 q6 => ?_)
  obtain ⟨q1, q2, q3⟩ := q6
  refine pm_iret (pc := 9) rfl (Nat.le_refl _) (Nat.le_refl _) dX9_type_9 ?_
  exact XQ.r q1 q2 q3
set_option maxRecDepth 100000 in
set_option maxHeartbeats 1000000 in
theorem l_yty17 {I : pm_I} {L : pm_L} {w : Int64} {n : Nat} (hn : n ≤ 8) {Q : pm_QT} {la : Launch} {P : pm_E} (hbad : ¬ (∀ k, k < n → t_good w k) → Q (some (.int (-1))) GG I L) (k54 : (∀ k, k < n → t_good w k) → PW la P yX10_type cX10_type 5 (some (.int)) (pm_rm 1 0 0) (pm_Tg P Q 0 0) 0 0 54 [some (.ref 40), some (.long w), none, some (.int (nI n)), none] [] GG I L) : ∀ (m i : Nat), i + m = n → (∀ k, k < i → t_good w k) → PW la P yX10_type cX10_type 5 (some (.int)) (pm_rm 1 0 0) (pm_Tg P Q 0 0) 0 0 17 [some (.ref 40), some (.long w), none, some (.int (nI n)), some (.int (nI i))] [] GG I L
  | 0, i, hm, hg => by
    have e : i = n := by omega
    subst e
    refine pm_iload (pc := 17) dX10_type_17 rfl ?_
    refine pm_iload_n (pc := 19) dX10_type_19 rfl ?_
    refine pm_icmp_ge (pc := 20) (tgt := 54) dX10_type_20 rfl (fun h20 => ?_) (fun h20 => (by simp (disch := omega) only [pm_eqI, pm_ltI, pm_leI, nI_toInt, pm_t0, pm_t1, pm_tm1] at h20; omega))
    refine pm_kill 4 ?_
    exact k54 hg
  | m + 1, i, hm, hg => by
    have hb := t_b_r w i
    have c32 : (32 : Int64).toInt = 32 := by decide
    have c126 : (126 : Int64).toInt = 126 := by decide
    refine pm_iload (pc := 17) dX10_type_17 rfl ?_
    refine pm_iload_n (pc := 19) dX10_type_19 rfl ?_
    refine pm_icmp_ge (pc := 20) (tgt := 54) dX10_type_20 rfl (fun h20 => (by simp (disch := omega) only [pm_eqI, pm_ltI, pm_leI, nI_toInt, pm_t0, pm_t1, pm_tm1] at h20; omega)) (fun h20 => ?_)
    refine pm_lload_n (pc := 23) dX10_type_23 rfl ?_
    refine pm_bipush (pc := 24) (v := nI 8) dX10_type_24 (by decide) ?_
    refine pm_iload (pc := 26) dX10_type_26 rfl ?_
    refine pm_imul (pc := 28) dX10_type_28 ?_
    refine pm_lshr (pc := 29) dX10_type_29 ?_
    refine pm_ldc2 (pc := 30) wk_X10_145 dX10_type_30 ?_
    refine pm_land (pc := 33) dX10_type_33 ?_
    refine pm_topl (x' := t_v w i) rfl ?_
    refine pm_ldc2 (pc := 34) wk_X10_147 dX10_type_34 ?_
    refine pm_ldc2 (pc := 37) wk_X10_149 dX10_type_37 ?_
    refine pm_cSR (pc := 40) dX10_type_40 (c_mIn) wq_X10_in wm_X10_87 wt_X10_in ⟨Nat.le_of_ble_eq_true rfl, Nat.le_of_ble_eq_true rfl⟩ ⟨Nat.le_of_ble_eq_true rfl, Nat.le_of_ble_eq_true rfl⟩ rfl (Nat.le_of_ble_eq_true rfl) ?_
    refine pm_if_ne (pc := 43) (tgt := 48) dX10_type_43 rfl (fun h43 => ?_) (fun h43 => ?_)
    · have hgi : t_good w i := by have z := b1_nt h43; rw [c32, c126, hb.2] at z; exact ⟨by omega, by omega⟩
      refine pm_iinc (pc := 48) dX10_type_48 rfl (pm_inc1 _) (by decide) rfl ?_
      refine pm_goto (pc := 51) (tgt := 17) dX10_type_51 rfl ?_
      exact l_yty17 hn hbad k54 m (i + 1) (by omega) (fun k hk => by
        rcases (show k < i ∨ k = i by omega) with z | z
        · exact hg k z
        · rw [z]; exact hgi)
    · refine pm_iconst (pc := 46) (v := (-1)) dX10_type_46 (by decide) ?_
      refine pm_iret (pc := 47) rfl (Nat.le_refl _) (Nat.le_refl _) dX10_type_47 ?_
      exact hbad (fun z => b1_nf h43 (by have y := z i (by omega); rw [c32, c126, hb.2]; exact ⟨by omega, by omega⟩))
set_option maxRecDepth 100000 in
set_option maxHeartbeats 1000000 in
theorem l_yty73 {L : pm_L} {w : Int64} {n : Nat} {Q : pm_QT} {la : Launch} {P : pm_E} {I0 : pm_I} {R0 : List Nat} (hend : ∀ (J : pm_I) (q : List Nat), MT_ J q → (∀ a : Nat, a ≠ 40 → a ≠ 48 → J a = I0 a) → (∀ k : Nat, k ≠ 10 → J 40 k = I0 40 k) → q = R0 → Q (some (.int (J 40 10))) GG J L) : ∀ (m : Nat) (x : Int32) (q : List Nat) (J : pm_I), x.toInt = (m : Int) - 1 → q.length + m ≤ 120 → MT_ J q → (∀ a : Nat, a ≠ 40 → a ≠ 48 → J a = I0 a) → (∀ k : Nat, k ≠ 10 → J 40 k = I0 40 k) → t_add w m q = R0 → PW la P yX10_type cX10_type 5 (some (.int)) (pm_rm 1 0 0) (pm_Tg P Q 0 0) 0 0 73 [some (.ref 40), some (.long w), none, some (.int (nI n)), some (.int x)] [] GG J L
  | 0, x, q, J, hx, hl, hT, hF, hF2, hR0 => by
    refine pm_iload (pc := 73) dX10_type_73 rfl ?_
    refine pm_if_lt (pc := 75) (tgt := 115) dX10_type_75 rfl (fun h75 => ?_) (fun h75 => absurd (by rw [pm_ltI, pm_t0]; omega) h75)
    refine pm_aload_n (pc := 115) dX10_type_115 rfl ?_
    refine pm_get (pc := 116) (ci := 8) (C0 := RX10) (T := TX10) (N := 34) (j := 10) rfl rfl in_X10 (by decide) wf_X10_151 rfl dX10_type_116 ?_
    refine pm_iret (pc := 119) rfl (Nat.le_refl _) (Nat.le_refl _) dX10_type_119 ?_
    exact hend J q hT hF hF2 hR0
  | m + 1, x, q, J, hx, hl, hT, hF, hF2, hR0 => by
    have ex : x = nI m := by rw [pm_eqI, nI_toInt (by omega), hx]; omega
    subst ex
    refine pm_iload (pc := 73) dX10_type_73 rfl ?_
    refine pm_if_lt (pc := 75) (tgt := 115) dX10_type_75 rfl (fun h75 => (by simp (disch := omega) only [pm_eqI, pm_ltI, pm_leI, nI_toInt, pm_t0, pm_t1, pm_tm1] at h75; omega)) (fun h75 => ?_)
    refine pm_aload_n (pc := 78) dX10_type_78 rfl ?_
    refine pm_getr (pc := 79) (ci := 8) (C0 := RX10) (T := TX10) (N := 34) (j := 9) rfl rfl in_X10 (by decide) wf_X10_31 rfl dX10_type_79 ?_
    refine pm_aload_n (pc := 82) dX10_type_82 rfl ?_
    refine pm_get (pc := 83) (ci := 8) (C0 := RX10) (T := TX10) (N := 34) (j := 10) rfl rfl in_X10 (by decide) wf_X10_151 rfl dX10_type_83 ?_
    refine pm_top (x' := nI q.length) hT.1 ?_
    refine pm_lload_n (pc := 86) dX10_type_86 rfl ?_
    refine pm_bipush (pc := 87) (v := nI 8) dX10_type_87 (by decide) ?_
    refine pm_iload (pc := 89) dX10_type_89 rfl ?_
    refine pm_imul (pc := 91) dX10_type_91 ?_
    refine pm_lshr (pc := 92) dX10_type_92 ?_
    refine pm_ldc2 (pc := 93) wk_X10_145 dX10_type_93 ?_
    refine pm_land (pc := 96) dX10_type_96 ?_
    refine pm_topl (x' := t_v w m) rfl ?_
    refine pm_l2i (pc := 97) dX10_type_97 ?_
    refine pm_top (t_v32 w m) ?_
    refine pm_iast (pc := 98) rfl (by omega) (by decide) dX10_type_98 ?_
    refine pm_aload_n (pc := 99) dX10_type_99 rfl ?_
    refine pm_dup (pc := 100) dX10_type_100 rfl ?_
    refine pm_get (pc := 101) (ci := 8) (C0 := RX10) (T := TX10) (N := 34) (j := 10) rfl rfl in_X10 (by decide) wf_X10_151 rfl dX10_type_101 ?_
    refine pm_iconst (pc := 104) (v := nI 1) dX10_type_104 (by decide) ?_
    refine pm_iadd (pc := 105) dX10_type_105 ?_
    refine pm_top (x' := nI (q.length + 1)) (by show J 40 10 + nI 1 = _; rw [hT.1, nI_add]) ?_
    refine pm_put (pc := 106) (ci := 8) (C0 := RX10) (T := TX10) (N := 34) (j := 10) (ty := .int) rfl rfl in_X10 tyX10 tyX10_ok nmX10 (by decide) wf_X10_151 rfl rfl (by decide +kernel) rfl rfl dX10_type_106 ?_
    refine pm_iinc (pc := 109) dX10_type_109 rfl rfl (by decide) rfl ?_
    refine pm_goto (pc := 112) (tgt := 73) dX10_type_112 rfl ?_
    exact l_yty73 hend m _ (q ++ [t_b w m]) _ (by rw [show Int32.ofInt (-1) = -1 by decide, fb_addI (by rw [nI_toInt (by omega), pm_tm1]; omega) (by rw [nI_toInt (by omega), pm_tm1]; omega), nI_toInt (by omega), pm_tm1]; omega) (by rw [List.length_append]; show q.length + 1 + m ≤ 120; omega) (MT_app hT) (fun a h1 h2 => (pm_un h1).trans ((pm_un h2).trans (hF a h1 h2))) (fun k hk => by rw [pm_us, pk_un hk]; exact hF2 k hk) hR0
set_option maxRecDepth 100000 in
set_option maxHeartbeats 1000000 in
theorem y_type {I : pm_I} {L : pm_L} {X : xS} (hR : MR I L X) (hX : xInv X) {w : Int64} {n : Int32} : PC 1 0 0 yX10_type cX10_type 5 (some (.int)) [.ref 40, .long w, .int n] GG I L (YQ I L (sp_type X w n).1 (sp_type X w n).2) := by
  have hT := hR.2.2.1
  have hl := hX.2.2.1.1
  refine PC.of [some (.ref 40), some (.long w), none, some (.int n), none] (by decide) (Nat.le_of_ble_eq_true rfl) rfl (fun l P => ?_)
  refine pm_iload_n (pc := 0) dX10_type_0 rfl ?_
  refine pm_i2l (pc := 1) dX10_type_1 ?_
  refine pm_lconst (pc := 2) (v := 1) dX10_type_2 (by decide) ?_
  refine pm_ldc2 (pc := 3) wk_X10_143 dX10_type_3 ?_
  refine pm_cSR (pc := 6) dX10_type_6 (c_mInI (a := 1) (b := 8) (by decide) (by decide)) wq_X10_in wm_X10_87 wt_X10_in ⟨Nat.le_of_ble_eq_true rfl, Nat.le_of_ble_eq_true rfl⟩ ⟨Nat.le_of_ble_eq_true rfl, Nat.le_of_ble_eq_true rfl⟩ rfl (Nat.le_of_ble_eq_true rfl) ?_
  refine pm_if_ne (pc := 9) (tgt := 14) dX10_type_9 rfl (fun h9 => ?_) (fun h9 => ?_)
  · obtain ⟨n, hn1, hn, rfl⟩ := iR1_of (b := 8) (by decide) (b1_nt h9)
    rw [sp_type_t hn1 hn]
    refine pm_iconst (pc := 14) (v := nI 0) dX10_type_14 (by decide) ?_
    refine pm_istore (pc := 15) dX10_type_15 (by decide) rfl ?_
    refine l_yty17 hn (fun hb => ?_) (fun hg => ?_) n 0 (by omega) (fun k hk => absurd hk (Nat.not_lt_zero k))
    · rw [if_pos hb]; exact YQ.r rfl hR yF.rf
    refine pm_aload_n (pc := 54) dX10_type_54 rfl ?_
    refine pm_get (pc := 55) (ci := 8) (C0 := RX10) (T := TX10) (N := 34) (j := 10) rfl rfl in_X10 (by decide) wf_X10_151 rfl dX10_type_55 ?_
    refine pm_iload_n (pc := 58) dX10_type_58 rfl ?_
    refine pm_iadd (pc := 59) dX10_type_59 ?_
    refine pm_top (x' := nI ((x_t X).length + n)) (by show I 40 10 + nI n = _; rw [hT.1, nI_add]) ?_
    refine pm_bipush (pc := 60) (v := nI 120) dX10_type_60 (by decide) ?_
    refine pm_icmp_le (pc := 62) (tgt := 68) dX10_type_62 rfl (fun h62 => ?_) (fun h62 => ?_)
    · have hroom : ¬ 120 < (x_t X).length + n := by simp (disch := omega) only [pm_leI, nI_toInt] at h62; omega
      refine pm_iload_n (pc := 68) dX10_type_68 rfl ?_
      refine pm_iconst (pc := 69) (v := nI 1) dX10_type_69 (by decide) ?_
      refine pm_isub (pc := 70) dX10_type_70 ?_
      refine pm_istore (pc := 71) dX10_type_71 (by decide) rfl ?_
      refine l_yty73 (R0 := t_add w n (x_t X)) (fun J q hq hF hF2 hq2 => ?_) n _ (x_t X) I (nIm1 (by omega)) (by omega) hT (fun _ _ _ => rfl) (fun _ _ => rfl) rfl
      rw [if_neg (not_not_intro hg), if_neg hroom]
      subst hq2
      have k := hR.t hF hF2 hq
      exact YQ.r (by rw [hq.1, t_add_len]) k.1 k.2
    · have hfull : 120 < (x_t X).length + n := by simp (disch := omega) only [pm_leI, nI_toInt] at h62; omega
      refine pm_bipush (pc := 65) (v := (-3)) dX10_type_65 (by decide) ?_
      refine pm_iret (pc := 67) rfl (Nat.le_refl _) (Nat.le_refl _) dX10_type_67 ?_
      rw [if_neg (not_not_intro hg), if_pos hfull]
      exact YQ.r rfl hR yF.rf
  · refine pm_iconst (pc := 12) (v := (-1)) dX10_type_12 (by decide) ?_
    refine pm_iret (pc := 13) rfl (Nat.le_refl _) (Nat.le_refl _) dX10_type_13 ?_
    first | (rw [show sp_type X w n = (-1, X) from if_pos (b1_nf h9)]; exact YQ.r rfl hR yF.rf)
