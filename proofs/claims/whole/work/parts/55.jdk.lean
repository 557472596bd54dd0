section PMS
variable {l : Launch} {P : pm_E} {y : MethodName} {cc : ByteArray} {nL : Nat} {ret : Option FieldType} {R : Room} {Tg : List Frame → Array Value → State → State → Prop} {k n pc : Nat} {ls : List (Option Value)} {st : List Value} {G : List pm_S} {I : pm_I} {L : pm_L}
theorem pm_adS {P : pm_E} {q : Nat} (hq : q < 11) : pm_ad P (1000 + q) = pm_aK P q := by
  rw [pm_ad, if_neg (by omega), if_pos (by omega), Nat.add_sub_cancel_left]
theorem pm_adB {P : pm_E} {q : Nat} (hq : q < 11) : pm_ad P (3000 + q) = pm_aV P q := by
  rw [pm_ad, if_neg (by omega), if_neg (by omega), if_neg (by omega), Nat.add_sub_cancel_left]
theorem wf_J0_9 : Cond.fieldLink RJ0 9 "java/lang/String" "value" "[B" ∈ TB := tb5 223 (by decide +kernel) rfl
theorem wf_J0_15 : Cond.fieldLink RJ0 15 "java/lang/String" "coder" "B" ∈ TB := tb5 224 (by decide +kernel) rfl
theorem ws_cs : Cond.fieldLink RJ0 38 "java/lang/String" "COMPACT_STRINGS" "Z" ∈ TB := tb2 68 (by decide +kernel) rfl
theorem pm_bret {Q : Option Value → List pm_S → pm_I → pm_L → Prop} {K N : Nat} {x : Int32} (hx : narrow .byte (.int x) = .int x) (hr : ret = some .byte) (hk : k ≤ K) (hn : n ≤ N) (hd : decode cc pc = .ok (.ireturn, 1)) (hQ : Q (some (.int x)) G I L) : PW l P y cc nL ret R (pm_Tg P Q K N) k n pc ls ([.int x]) G I L := by
  subst hr
  intro p e s m args below meth c H locs a C hT hX hH hS hL
  have hq : ∀ t : State, t.heap = H → s.WarmedH t.vm → pm_Q P Q args s (.returned (some (.int x))) t := fun t ht hW => ⟨⟨some (.int x), G, I, L, rfl, hQ, by rw [ht]; exact hH⟩, hS.F ht⟩
  refine W.widen hk hn ?_
  exact W.zret C.1 C.2.1 C.2.2.2.2.2.1 hx hq (fun q h => hS.2.2 q h) hd C.2.2.2.2.2.2.1
theorem pm_getsS {ix : Nat} {own : String} (hl : Cond.fieldLink own ix "java/lang/String" "COMPACT_STRINGS" "Z" ∈ TB) (hy : y.cls = own) (hd : decode cc pc = .ok (.getstatic ix, 3)) (kk : PW l P y cc nL ret R Tg k n (pc + 3) ls (.int (nI 1) :: st) G I L) : PW l P y cc nL ret R Tg k n pc ls st G I L := by
  subst hy
  intro p e s m args below meth c H locs a C hT hX hH hS hL
  exact va_gets C.1 C.2.1 hX.2.1 hS C.2.2.2.1 (C.2.2.2.2.2.2.2 _ hl) (fun _ h => h) hd (kk p e s m args below meth c H locs a C hT hX hH hS hL)
theorem pm_strC {q ix : Nat} {own : String} (hq : q < 11) (hl : Cond.fieldLink own ix "java/lang/String" "coder" "B" ∈ TB) (hy : y.cls = own) (hd : decode cc pc = .ok (.getfield ix, 3)) (kk : PW l P y cc nL ret R Tg k n (pc + 3) ls (.int (nI 0) :: st) G I L) : PW l P y cc nL ret R Tg k n pc ls (.ref (1000 + q) :: st) G I L := by
  subst hy
  intro p e s m args below meth c H locs a C hT hX hH hS hL
  show W p l e R s m args below meth c H locs k n (Tg below args s) (F0 m pc a (.ref (pm_ad P (1000 + q)) :: st.map (pm_v P)))
  rw [pm_adS hq]
  exact vk_getf C.1 C.2.1 (hX.1.1 q hq).2.1 hS C.2.2.2.1 (C.2.2.2.2.2.2.2 _ hl) (fun _ h => h) hd (kk p e s m args below meth c H locs a C hT hX hH hS hL)
theorem pm_strV {q ix : Nat} {own : String} (hq : q < 11) (hl : Cond.fieldLink own ix "java/lang/String" "value" "[B" ∈ TB) (hy : y.cls = own) (hd : decode cc pc = .ok (.getfield ix, 3)) (kk : PW l P y cc nL ret R Tg k n (pc + 3) ls (.ref (3000 + q) :: st) G I L) : PW l P y cc nL ret R Tg k n pc ls (.ref (1000 + q) :: st) G I L := by
  subst hy
  intro p e s m args below meth c H locs a C hT hX hH hS hL
  show W p l e R s m args below meth c H locs k n (Tg below args s) (F0 m pc a (.ref (pm_ad P (1000 + q)) :: st.map (pm_v P)))
  rw [pm_adS hq]
  have k1 := kk p e s m args below meth c H locs a C hT hX hH hS hL
  have e1 : (Value.ref (3000 + q) :: st).map (pm_v P) = .ref (pm_aV P q) :: st.map (pm_v P) := by
    show Value.ref (pm_ad P (3000 + q)) :: _ = _
    rw [pm_adB hq]
  rw [e1] at k1
  exact vk_getf C.1 C.2.1 (hX.1.1 q hq).2.2.1 hS C.2.2.2.1 (C.2.2.2.2.2.2.2 _ hl) (fun _ h => h) hd k1
theorem pm_blen {q : Nat} (hq : q < 11) (hd : decode cc pc = .ok (.arraylength, 1)) (kk : PW l P y cc nL ret R Tg k n (pc + 1) ls (.int (nI (NL.getD q 0)) :: st) G I L) : PW l P y cc nL ret R Tg k n pc ls (.ref (3000 + q) :: st) G I L := by
  intro p e s m args below meth c H locs a C hT hX hH hS hL
  show W p l e R s m args below meth c H locs k n (Tg below args s) (F0 m pc a (.ref (pm_ad P (3000 + q)) :: st.map (pm_v P)))
  rw [pm_adB hq]
  exact va_tlen C.1 C.2.1 (hX.1.1 q hq).2.2.2 hS rfl hd (kk p e s m args below meth c H locs a C hT hX hH hS hL)
theorem pm_bald {q i : Nat} (hq : q < 11) (hi : i < NL.getD q 0 ∧ NL.getD q 0 < 2 ^ 31) (hd : decode cc pc = .ok (.baload, 1)) (kk : PW l P y cc nL ret R Tg k n (pc + 1) ls (.int ((NB.getD q []).getD i 0) :: st) G I L) : PW l P y cc nL ret R Tg k n pc ls (.int (nI i) :: .ref (3000 + q) :: st) G I L := by
  intro p e s m args below meth c H locs a C hT hX hH hS hL
  show W p l e R s m args below meth c H locs k n (Tg below args s) (F0 m pc a (.int (nI i) :: .ref (pm_ad P (3000 + q)) :: st.map (pm_v P)))
  rw [pm_adB hq]
  have hin : vp_in (nI i) (NL.getD q 0) := vp_in_nI hi.1 hi.2
  exact va_tb C.1 C.2.1 (hX.1.1 q hq).2.2.2 hS hin (by rw [nI_clamp (Nat.lt_trans hi.1 hi.2)]; rfl) hd (kk p e s m args below meth c H locs a C hT hX hH hS hL)
variable {d ix : Nat} {y' : MethodName} {cc' : ByteArray} {nL' : Nat} {ret' : Option FieldType} {as stk : List Value}
theorem pm_cVs {q : Nat} {r : Int32} (hd : decode cc pc = .ok (.invokevirtual ix, 3)) (hM : PC d 0 0 y' cc' nL' ret' (.ref (1000 + q) :: as) G I L (QR G I L r)) (hw : pm_k y' cc' nL' ret' as.length) (hl : Cond.methodLink y.cls ix y' ∈ TB) (hi : Cond.instanceMethod y' ∈ TB) (hse : Cond.selects y'.cls y' y' ∈ TB) (hcl : y'.cls = "java/lang/String") (hq : q < 11)
    (hR : d + 1 ≤ R.frames ∧ 8 + (nL' + 11) + 64 * d ≤ R.locals) (hk : k ≤ R.cells ∧ n ≤ R.slots) (hs : stk = as.reverse ++ .ref (1000 + q) :: st) (hcat : (st.map (·.category)).sum ≤ 8)
    (kk : PW l P y cc nL ret R Tg k n (pc + 3) ls (.int r :: st) G I L) : PW l P y cc nL ret R Tg k n pc ls stk G I L := by
  intro p e s m args below meth c H locs a C hT hX hH hS hL
  have cb : CallB R s args y.cls ix y' cc' nL' ret' (pm_w y' cc' nL' ret') (pm_rm d 0 0) 0 0 as.length := pm_CB C hw hl hR
  have hrec : ∃ cell : Cell, H[pm_ad P (1000 + q)]? = some cell ∧ cell.vm.isStatics = false ∧ s.vm.findClass y'.cls = some cell.cls := by
    rw [hcl, pm_adS hq]; exact vk_recv hX.1 hq hS
  refine pm_back (va_runV (C := y'.cls) (As := as.map (pm_v P)) ⟨C.1, C.2.1, C.2.2.1, C.2.2.2.1, C.2.2.2.2.2.2.2⟩ (hM l P) ⟨cb, C.2.2.2.2.2.2.2 _ hi, C.2.2.2.2.2.2.2 _ hse⟩ ⟨pm_blind, hrec, pm_pre hT hX hH hS⟩ rfl (by simp) hL.1 ?_ (lv_room (pm_sum13 P hcat)) hd hk) C hT hX hS hL (fun v G' I' L' h => by obtain ⟨rfl, rfl, rfl, rfl⟩ := h; exact kk)
  rw [hs]; simp; rfl
end PMS
/-- the place of a byte among some -/
def z_ix (c : Int32) : List Int32 → Nat → Int32
  | [], _ => -1
  | b :: l, k => if b = c then nI k else z_ix c l (k + 1)
theorem z_len : ∀ q, q < 11 → (NB.getD q []).length = NL.getD q 0 ∧ 0 < NL.getD q 0 ∧ NL.getD q 0 ≤ 12 := by decide
theorem sh0 {n : Nat} (h : n < 2 ^ 31) : nI n >>> (nI 0 &&& 31) = nI n := by
  rw [pk_shrN h _ 0 (by decide), Nat.pow_zero, Nat.div_one]
set_option maxRecDepth 100000 in
set_option maxHeartbeats 1000000 in
theorem c_coder {I : pm_I} {L : pm_L} {G : List pm_S} {q : Nat} (hq : q < 11) : PC 0 0 0 yJ0_coder_7d493 cJ0_coder_7d493 1 (some (.byte)) [.ref (1000 + q)] G I L (QR G I L (nI 0)) := by
  refine PC.of [some (.ref (1000 + q))] (by decide) (Nat.le_of_ble_eq_true rfl) rfl (fun l P => ?_)
  refine pm_getsS (pc := 0) ws_cs rfl dJ0_coder_7d493_0 ?_
  refine pm_if_eq (pc := 3) (tgt := 13) dJ0_coder_7d493_3 rfl (fun h3 => absurd h3 (by decide)) (fun h3 => ?_)
  refine pm_aload_n (pc := 6) dJ0_coder_7d493_6 rfl ?_
  refine pm_strC (pc := 7) hq wf_J0_15 rfl dJ0_coder_7d493_7 ?_
  refine pm_goto (pc := 10) (tgt := 14) dJ0_coder_7d493_10 rfl ?_
  refine pm_bret (pc := 14) (by decide) rfl (Nat.le_refl _) (Nat.le_refl _) dJ0_coder_7d493_14 ?_
  exact QR.r rfl
set_option maxRecDepth 100000 in
set_option maxHeartbeats 1000000 in
theorem c_isLatin1 {I : pm_I} {L : pm_L} {G : List pm_S} {q : Nat} (hq : q < 11) : PC 0 0 0 yJ0_isLatin1_aae02 cJ0_isLatin1_aae02 1 (some (.boolean)) [.ref (1000 + q)] G I L (QR G I L (nI 1)) := by
  refine PC.of [some (.ref (1000 + q))] (by decide) (Nat.le_of_ble_eq_true rfl) rfl (fun l P => ?_)
  refine pm_getsS (pc := 0) ws_cs rfl dJ0_isLatin1_aae02_0 ?_
  refine pm_if_eq (pc := 3) (tgt := 17) dJ0_isLatin1_aae02_3 rfl (fun h3 => absurd h3 (by decide)) (fun h3 => ?_)
  refine pm_aload_n (pc := 6) dJ0_isLatin1_aae02_6 rfl ?_
  refine pm_strC (pc := 7) hq wf_J0_15 rfl dJ0_isLatin1_aae02_7 ?_
  refine pm_if_ne (pc := 10) (tgt := 17) dJ0_isLatin1_aae02_10 rfl (fun h10 => absurd (show nI 0 = 0 by decide) h10) (fun h10 => ?_)
  refine pm_iconst (pc := 13) (v := nI 1) dJ0_isLatin1_aae02_13 (by decide) ?_
  refine pm_goto (pc := 14) (tgt := 18) dJ0_isLatin1_aae02_14 rfl ?_
  refine pm_zret (pc := 18) (by decide) rfl (Nat.le_refl _) (Nat.le_refl _) dJ0_isLatin1_aae02_18 ?_
  exact QR.r rfl
set_option maxRecDepth 100000 in
set_option maxHeartbeats 1000000 in
theorem c_strLen {I : pm_I} {L : pm_L} {G : List pm_S} {q : Nat} (hq : q < 11) : PC 1 0 0 yJ0_length_8abf5 cJ0_length_8abf5 1 (some (.int)) [.ref (1000 + q)] G I L (QR G I L (nI (NL.getD q 0))) := by
  obtain ⟨hl1, hl2, hl3⟩ := z_len q hq
  refine PC.of [some (.ref (1000 + q))] (by decide) (Nat.le_of_ble_eq_true rfl) rfl (fun l P => ?_)
  refine pm_aload_n (pc := 0) dJ0_length_8abf5_0 rfl ?_
  refine pm_strV (pc := 1) hq wf_J0_9 rfl dJ0_length_8abf5_1 ?_
  refine pm_blen (pc := 4) hq dJ0_length_8abf5_4 ?_
  refine pm_aload_n (pc := 5) dJ0_length_8abf5_5 rfl ?_
  refine pm_cVs (pc := 6) dJ0_length_8abf5_6 (c_coder hq) wq_J0_coder_7d493 wm_J0_335 wi_J0_coder_7d493 ws_J0_coder_7d493 rfl hq ⟨Nat.le_of_ble_eq_true rfl, Nat.le_of_ble_eq_true rfl⟩ ⟨Nat.le_of_ble_eq_true rfl, Nat.le_of_ble_eq_true rfl⟩ rfl (Nat.le_of_ble_eq_true rfl) ?_
  refine pm_ishr (pc := 9) dJ0_length_8abf5_9 ?_
  refine pm_top (sh0 (by omega)) ?_
  refine pm_iret (pc := 10) rfl (Nat.le_refl _) (Nat.le_refl _) dJ0_length_8abf5_10 ?_
  exact QR.r rfl
set_option maxRecDepth 100000 in
set_option maxHeartbeats 1000000 in
theorem c_canEnc {I : pm_I} {L : pm_L} {G : List pm_S} {c : Nat} (hc : c < 128) : PC 0 0 0 yJ1_canEncode_9a6ad cJ1_canEncode_9a6ad 1 (some (.boolean)) [.int (nI c)] G I L (QR G I L (nI 1)) := by
  refine PC.of [some (.int (nI c))] (by decide) (Nat.le_of_ble_eq_true rfl) rfl (fun l P => ?_)
  refine pm_iload_n (pc := 0) dJ1_canEncode_9a6ad_0 rfl ?_
  refine pm_if_lt (pc := 1) (tgt := 15) dJ1_canEncode_9a6ad_1 rfl (fun h1 => (by simp (disch := omega) only [pm_eqI, pm_ltI, pm_leI, nI_toInt, pm_t0, pm_t1, pm_tm1] at h1; omega)) (fun h1 => ?_)
  refine pm_iload_n (pc := 4) dJ1_canEncode_9a6ad_4 rfl ?_
  refine pm_sipush (pc := 5) (v := nI 255) dJ1_canEncode_9a6ad_5 (by decide) ?_
  refine pm_icmp_gt (pc := 8) (tgt := 15) dJ1_canEncode_9a6ad_8 rfl (fun h8 => (by simp (disch := omega) only [pm_eqI, pm_ltI, pm_leI, nI_toInt, pm_t0, pm_t1, pm_tm1] at h8; omega)) (fun h8 => ?_)
  refine pm_iconst (pc := 11) (v := nI 1) dJ1_canEncode_9a6ad_11 (by decide) ?_
  refine pm_goto (pc := 12) (tgt := 16) dJ1_canEncode_9a6ad_12 rfl ?_
  refine pm_zret (pc := 16) (by decide) rfl (Nat.le_refl _) (Nat.le_refl _) dJ1_canEncode_9a6ad_16 ?_
  exact QR.r rfl
set_option maxRecDepth 100000 in
set_option maxHeartbeats 1000000 in
theorem l_ixc {G : List pm_S} {I : pm_I} {L : pm_L} {q : Nat} (hq : q < 11) {c : Nat} (hc : c < 128) {la : Launch} {P : pm_E} : ∀ (r : List Int32) (k : Nat), (NB.getD q []).drop k = r → k ≤ NL.getD q 0 → z_ix (nI c) r k = z_ix (nI c) (NB.getD q []) 0 → PW la P yJ1_indexOfChar_4cfef cJ1_indexOfChar_4cfef 6 (some (.int)) (pm_rm 0 0 0) (pm_Tg P (QR G I L (z_ix (nI c) (NB.getD q []) 0)) 0 0) 0 0 7 [some (.ref (3000 + q)), some (.int (nI c)), some (.int (nI 0)), some (.int (nI (NL.getD q 0))), some (.int (nI c)), some (.int (nI k))] [] G I L
  | [], k, hr, hk, hT => by
    obtain ⟨hl1, hl2, hl3⟩ := z_len q hq
    have hge : NL.getD q 0 ≤ k := by have := List.drop_eq_nil_iff.mp hr; omega
    refine pm_iload (pc := 7) dJ1_indexOfChar_4cfef_7 rfl ?_
    refine pm_iload_n (pc := 9) dJ1_indexOfChar_4cfef_9 rfl ?_
    refine pm_icmp_ge (pc := 10) (tgt := 31) dJ1_indexOfChar_4cfef_10 rfl (fun h10 => ?_) (fun h10 => (by simp (disch := omega) only [pm_eqI, pm_ltI, pm_leI, nI_toInt, pm_t0, pm_t1, pm_tm1] at h10; omega))
    refine pm_iconst (pc := 31) (v := (-1)) dJ1_indexOfChar_4cfef_31 (by decide) ?_
    refine pm_iret (pc := 32) rfl (Nat.le_refl _) (Nat.le_refl _) dJ1_indexOfChar_4cfef_32 ?_
    rw [← hT]; exact QR.r rfl
  | b :: r, k, hr, hk, hT => by
    obtain ⟨hl1, hl2, hl3⟩ := z_len q hq
    have hlt : k < NL.getD q 0 := by
      refine Nat.lt_of_not_le (fun z => ?_)
      rw [List.drop_eq_nil_iff.mpr (by omega)] at hr
      exact absurd hr (by simp)
    have hlt2 : k < (NB.getD q []).length := by omega
    rw [List.drop_eq_getElem_cons hlt2] at hr
    obtain ⟨hb, hr2⟩ := List.cons.inj hr
    have hg : (NB.getD q []).getD k 0 = b := by rw [List.getD_eq_getElem?_getD, List.getElem?_eq_getElem hlt2, hb]; rfl
    have e : z_ix (nI c) (b :: r) k = if b = nI c then nI k else z_ix (nI c) r (k + 1) := rfl
    rw [e] at hT
    refine pm_iload (pc := 7) dJ1_indexOfChar_4cfef_7 rfl ?_
    refine pm_iload_n (pc := 9) dJ1_indexOfChar_4cfef_9 rfl ?_
    refine pm_icmp_ge (pc := 10) (tgt := 31) dJ1_indexOfChar_4cfef_10 rfl (fun h10 => (by simp (disch := omega) only [pm_eqI, pm_ltI, pm_leI, nI_toInt, pm_t0, pm_t1, pm_tm1] at h10; omega)) (fun h10 => ?_)
    refine pm_aload_n (pc := 13) dJ1_indexOfChar_4cfef_13 rfl ?_
    refine pm_iload (pc := 14) dJ1_indexOfChar_4cfef_14 rfl ?_
    refine pm_bald (pc := 16) hq ⟨hlt, by omega⟩ dJ1_indexOfChar_4cfef_16 ?_
    rw [hg]
    refine pm_iload (pc := 17) dJ1_indexOfChar_4cfef_17 rfl ?_
    refine pm_icmp_ne (pc := 19) (tgt := 25) dJ1_indexOfChar_4cfef_19 rfl (fun h19 => ?_) (fun h19 => ?_)
    · rw [if_neg h19] at hT
      refine pm_iinc (pc := 25) dJ1_indexOfChar_4cfef_25 rfl (pm_inc1 _) (by decide) rfl ?_
      refine pm_goto (pc := 28) (tgt := 7) dJ1_indexOfChar_4cfef_28 rfl ?_
      exact l_ixc hq hc r (k + 1) hr2 (by omega) hT
    · rw [if_pos h19] at hT
      refine pm_iload (pc := 22) dJ1_indexOfChar_4cfef_22 rfl ?_
      refine pm_iret (pc := 24) rfl (Nat.le_refl _) (Nat.le_refl _) dJ1_indexOfChar_4cfef_24 ?_
      rw [← hT]; exact QR.r rfl
set_option maxRecDepth 100000 in
set_option maxHeartbeats 1000000 in
theorem c_ixChar {I : pm_I} {L : pm_L} {G : List pm_S} {q : Nat} (hq : q < 11) {c : Nat} (hc : c < 128) : PC 0 0 0 yJ1_indexOfChar_4cfef cJ1_indexOfChar_4cfef 6 (some (.int)) [.ref (3000 + q), .int (nI c), .int (nI 0), .int (nI (NL.getD q 0))] G I L (QR G I L (z_ix (nI c) (NB.getD q []) 0)) := by
  refine PC.of [some (.ref (3000 + q)), some (.int (nI c)), some (.int (nI 0)), some (.int (nI (NL.getD q 0))), none, none] (by decide) (Nat.le_of_ble_eq_true rfl) rfl (fun l P => ?_)
  refine pm_iload_n (pc := 0) dJ1_indexOfChar_4cfef_0 rfl ?_
  refine pm_i2b (pc := 1) dJ1_indexOfChar_4cfef_1 ?_
  refine pm_top (fa_byte_small hc) ?_
  refine pm_istore (pc := 2) dJ1_indexOfChar_4cfef_2 (by decide) rfl ?_
  refine pm_iload_n (pc := 4) dJ1_indexOfChar_4cfef_4 rfl ?_
  refine pm_istore (pc := 5) dJ1_indexOfChar_4cfef_5 (by decide) rfl ?_
  exact l_ixc hq hc (NB.getD q []) 0 rfl (Nat.zero_le _) rfl
set_option maxRecDepth 100000 in
set_option maxHeartbeats 1000000 in
theorem c_ixL {I : pm_I} {L : pm_L} {G : List pm_S} {q : Nat} (hq : q < 11) {c : Nat} (hc : c < 128) : PC 1 0 0 yJ1_indexOf_4cfef cJ1_indexOf_4cfef 4 (some (.int)) [.ref (3000 + q), .int (nI c), .int (nI 0), .int (nI (NL.getD q 0))] G I L (QR G I L (z_ix (nI c) (NB.getD q []) 0)) := by
  obtain ⟨hl1, hl2, hl3⟩ := z_len q hq
  refine PC.of [some (.ref (3000 + q)), some (.int (nI c)), some (.int (nI 0)), some (.int (nI (NL.getD q 0)))] (by decide) (Nat.le_of_ble_eq_true rfl) rfl (fun l P => ?_)
  refine pm_iload_n (pc := 0) dJ1_indexOf_4cfef_0 rfl ?_
  refine pm_cSR (pc := 1) dJ1_indexOf_4cfef_1 (c_canEnc hc) wq_J1_canEncode_9a6ad wm_J1_88 wt_J1_canEncode_9a6ad ⟨Nat.le_of_ble_eq_true rfl, Nat.le_of_ble_eq_true rfl⟩ ⟨Nat.le_of_ble_eq_true rfl, Nat.le_of_ble_eq_true rfl⟩ rfl (Nat.le_of_ble_eq_true rfl) ?_
  refine pm_if_ne (pc := 4) (tgt := 9) dJ1_indexOf_4cfef_4 rfl (fun h4 => ?_) (fun h4 => absurd h4 (show ¬ nI 1 = 0 by decide))
  refine pm_iload_n (pc := 9) dJ1_indexOf_4cfef_9 rfl ?_
  refine pm_iconst (pc := 10) (v := nI 0) dJ1_indexOf_4cfef_10 (by decide) ?_
  refine pm_mmax (pc := 11) wm_J1_92 wt_mmax wz_math wo_mmax ⟨Nat.le_of_ble_eq_true rfl, Nat.le_of_ble_eq_true rfl, Nat.le_of_ble_eq_true rfl, Nat.le_of_ble_eq_true rfl⟩ (Nat.le_of_ble_eq_true rfl) dJ1_indexOf_4cfef_11 ?_
  refine pm_top (x' := nI 0) (by decide) ?_
  refine pm_istore_n (pc := 14) dJ1_indexOf_4cfef_14 (by decide) rfl ?_
  refine pm_iload_n (pc := 15) dJ1_indexOf_4cfef_15 rfl ?_
  refine pm_aload_n (pc := 16) dJ1_indexOf_4cfef_16 rfl ?_
  refine pm_blen (pc := 17) hq dJ1_indexOf_4cfef_17 ?_
  refine pm_mmin (pc := 18) wm_J1_38 wt_mmin wz_math wo_mmin ⟨Nat.le_of_ble_eq_true rfl, Nat.le_of_ble_eq_true rfl, Nat.le_of_ble_eq_true rfl, Nat.le_of_ble_eq_true rfl⟩ (Nat.le_of_ble_eq_true rfl) dJ1_indexOf_4cfef_18 ?_
  refine pm_top (x' := nI (NL.getD q 0)) (ite_self _) ?_
  refine pm_istore_n (pc := 21) dJ1_indexOf_4cfef_21 (by decide) rfl ?_
  refine pm_iload_n (pc := 22) dJ1_indexOf_4cfef_22 rfl ?_
  refine pm_iload_n (pc := 23) dJ1_indexOf_4cfef_23 rfl ?_
  refine pm_icmp_lt (pc := 24) (tgt := 29) dJ1_indexOf_4cfef_24 rfl (fun h24 => ?_) (fun h24 => (by simp (disch := omega) only [pm_eqI, pm_ltI, pm_leI, nI_toInt, pm_t0, pm_t1, pm_tm1] at h24; omega))
  refine pm_aload_n (pc := 29) dJ1_indexOf_4cfef_29 rfl ?_
  refine pm_iload_n (pc := 30) dJ1_indexOf_4cfef_30 rfl ?_
  refine pm_iload_n (pc := 31) dJ1_indexOf_4cfef_31 rfl ?_
  refine pm_iload_n (pc := 32) dJ1_indexOf_4cfef_32 rfl ?_
  refine pm_cSR (pc := 33) dJ1_indexOf_4cfef_33 (c_ixChar hq hc) wq_J1_indexOfChar_4cfef wm_J1_95 wt_J1_indexOfChar_4cfef ⟨Nat.le_of_ble_eq_true rfl, Nat.le_of_ble_eq_true rfl⟩ ⟨Nat.le_of_ble_eq_true rfl, Nat.le_of_ble_eq_true rfl⟩ rfl (Nat.le_of_ble_eq_true rfl) ?_
  refine pm_iret (pc := 36) rfl (Nat.le_refl _) (Nat.le_refl _) dJ1_indexOf_4cfef_36 ?_
  exact QR.r rfl
set_option maxRecDepth 100000 in
set_option maxHeartbeats 1000000 in
theorem c_ixII {I : pm_I} {L : pm_L} {G : List pm_S} {q : Nat} (hq : q < 11) {c : Nat} (hc : c < 128) : PC 2 0 0 yJ0_indexOf_7cf53 cJ0_indexOf_7cf53 3 (some (.int)) [.ref (1000 + q), .int (nI c), .int (nI 0)] G I L (QR G I L (z_ix (nI c) (NB.getD q []) 0)) := by
  refine PC.of [some (.ref (1000 + q)), some (.int (nI c)), some (.int (nI 0))] (by decide) (Nat.le_of_ble_eq_true rfl) rfl (fun l P => ?_)
  refine pm_aload_n (pc := 0) dJ0_indexOf_7cf53_0 rfl ?_
  refine pm_cVs (pc := 1) dJ0_indexOf_7cf53_1 (c_isLatin1 hq) wq_J0_isLatin1_aae02 wm_J0_492 wi_J0_isLatin1_aae02 ws_J0_isLatin1_aae02 rfl hq ⟨Nat.le_of_ble_eq_true rfl, Nat.le_of_ble_eq_true rfl⟩ ⟨Nat.le_of_ble_eq_true rfl, Nat.le_of_ble_eq_true rfl⟩ rfl (Nat.le_of_ble_eq_true rfl) ?_
  refine pm_if_eq (pc := 4) (tgt := 23) dJ0_indexOf_7cf53_4 rfl (fun h4 => absurd h4 (show ¬ nI 1 = 0 by decide)) (fun h4 => ?_)
  refine pm_aload_n (pc := 7) dJ0_indexOf_7cf53_7 rfl ?_
  refine pm_strV (pc := 8) hq wf_J0_9 rfl dJ0_indexOf_7cf53_8 ?_
  refine pm_iload_n (pc := 11) dJ0_indexOf_7cf53_11 rfl ?_
  refine pm_iload_n (pc := 12) dJ0_indexOf_7cf53_12 rfl ?_
  refine pm_aload_n (pc := 13) dJ0_indexOf_7cf53_13 rfl ?_
  refine pm_cVs (pc := 14) dJ0_indexOf_7cf53_14 (c_strLen hq) wq_J0_length_8abf5 wm_J0_505 wi_J0_length_8abf5 ws_J0_length_8abf5 rfl hq ⟨Nat.le_of_ble_eq_true rfl, Nat.le_of_ble_eq_true rfl⟩ ⟨Nat.le_of_ble_eq_true rfl, Nat.le_of_ble_eq_true rfl⟩ rfl (Nat.le_of_ble_eq_true rfl) ?_
  refine pm_cSR (pc := 17) dJ0_indexOf_7cf53_17 (c_ixL hq hc) wq_J1_indexOf_4cfef wm_J0_637 wt_J1_indexOf_4cfef ⟨Nat.le_of_ble_eq_true rfl, Nat.le_of_ble_eq_true rfl⟩ ⟨Nat.le_of_ble_eq_true rfl, Nat.le_of_ble_eq_true rfl⟩ rfl (Nat.le_of_ble_eq_true rfl) ?_
  refine pm_goto (pc := 20) (tgt := 36) dJ0_indexOf_7cf53_20 rfl ?_
  refine pm_iret (pc := 36) rfl (Nat.le_refl _) (Nat.le_refl _) dJ0_indexOf_7cf53_36 ?_
  exact QR.r rfl
set_option maxRecDepth 100000 in
set_option maxHeartbeats 1000000 in
theorem c_ixI {I : pm_I} {L : pm_L} {G : List pm_S} {q : Nat} (hq : q < 11) {c : Nat} (hc : c < 128) : PC 3 0 0 yJ0_indexOf_0f7a4 cJ0_indexOf_0f7a4 2 (some (.int)) [.ref (1000 + q), .int (nI c)] G I L (QR G I L (z_ix (nI c) (NB.getD q []) 0)) := by
  refine PC.of [some (.ref (1000 + q)), some (.int (nI c))] (by decide) (Nat.le_of_ble_eq_true rfl) rfl (fun l P => ?_)
  refine pm_aload_n (pc := 0) dJ0_indexOf_0f7a4_0 rfl ?_
  refine pm_iload_n (pc := 1) dJ0_indexOf_0f7a4_1 rfl ?_
  refine pm_iconst (pc := 2) (v := nI 0) dJ0_indexOf_0f7a4_2 (by decide) ?_
  refine pm_cVs (pc := 3) dJ0_indexOf_0f7a4_3 (c_ixII hq hc) wq_J0_indexOf_7cf53 wm_J0_633 wi_J0_indexOf_7cf53 ws_J0_indexOf_7cf53 rfl hq ⟨Nat.le_of_ble_eq_true rfl, Nat.le_of_ble_eq_true rfl⟩ ⟨Nat.le_of_ble_eq_true rfl, Nat.le_of_ble_eq_true rfl⟩ rfl (Nat.le_of_ble_eq_true rfl) ?_
  refine pm_iret (pc := 6) rfl (Nat.le_refl _) (Nat.le_refl _) dJ0_indexOf_0f7a4_6 ?_
  exact QR.r rfl
