theorem e_sub {y m : Nat} (hy : y ≤ m) (hm : m < 4096) : nI y - nI m = nI (y + 4294967296 - m) := by
  apply Int32.toBitVec_inj.1
  show BitVec.ofNat 32 y - BitVec.ofNat 32 m = BitVec.ofNat 32 (y + 4294967296 - m)
  apply BitVec.eq_of_toNat_eq
  rw [BitVec.toNat_sub, BitVec.toNat_ofNat, BitVec.toNat_ofNat, BitVec.toNat_ofNat]
  omega
theorem e_pow {i : Nat} (h : i ≤ 12) : nI 1 <<< (nI i &&& 31) = nI (2 ^ i) := (by decide +kernel : ∀ i, i < 13 → nI 1 <<< (nI i &&& 31) = nI (2 ^ i)) i (by omega)
theorem e_wb {s : gS} (h : gInv s) (x : Nat) : e_w s x (g_n s) ≤ 1212 := by
  have h1 : e_w s x (g_n s) ≤ g_n s * 101 := by
    unfold e_w
    refine fb_sm_bound (fun k hk => ?_)
    have := h.w hk
    split <;> omega
  have := h.1
  omega
theorem e_cb {s : gS} (h : gInv s) (p : Nat) : g_cnt s p ≤ 12 := by
  have h1 : g_cnt s p ≤ g_n s * 1 := by
    unfold g_cnt
    refine fb_sm_bound (fun k hk => ?_)
    split <;> omega
  have := h.1
  omega
theorem e_cmp {w : Nat} {d : Int64} (hw : w < 2 ^ 31) : lg_cmp (nI w).toInt64 d = 0 ↔ (w : Int) = d.toInt := by
  rw [pm_cmp_eq, ← Int64.toInt_inj, Int32.toInt_toInt64, nI_toInt hw]
set_option maxRecDepth 100000 in
set_option maxHeartbeats 1000000 in
theorem c_nextSubset {I : pm_I} {L : pm_L} {y m : Nat} (hy : y ≤ m) (hm : m < 4096) : PC 0 0 0 yX1_nextSubset cX1_nextSubset 2 (some (.int)) [.int (nI y), .int (nI m)] GG I L (QR GG I L (nI (e_nx m y))) := by
  refine PC.of [some (.int (nI y)), some (.int (nI m))] (by decide) (Nat.le_of_ble_eq_true rfl) rfl (fun l P => ?_)
  refine pm_iload_n (pc := 0) dX1_nextSubset_0 rfl ?_
  refine pm_iload_n (pc := 1) dX1_nextSubset_1 rfl ?_
  refine pm_isub (pc := 2) dX1_nextSubset_2 ?_
  refine pm_iload_n (pc := 3) dX1_nextSubset_3 rfl ?_
  refine pm_iand (pc := 4) dX1_nextSubset_4 ?_
  refine pm_iret (pc := 5) rfl (Nat.le_refl _) (Nat.le_refl _) dX1_nextSubset_5 ?_
  exact QR.r (by rw [e_sub hy hm, fa_and]; rfl)
set_option maxRecDepth 100000 in
set_option maxHeartbeats 1000000 in
theorem l_setsBy {I : pm_I} {L : pm_L} {s : gS} {p : Nat} {d : Int64} (hG : GR I 1 s) (hI : gInv s) {la : Launch} {P : pm_E} : ∀ (m i : Nat), i + m = 2 ^ g_cnt s p → PW la P yX1_setsBy cX1_setsBy 9 (some (.int)) (pm_rm 3 0 0) (pm_Tg P (QR GG I L (nI (n_one s p (g_n s) d.toInt))) 0 0) 0 0 25 [some (.ref 1), some (.int (nI p)), some (.long d), none, some (.int (nI (g_set s p))), some (.int (nI (2 ^ g_cnt s p))), some (.int (nI (fb_sm (fun i => if (e_w s (e_it (g_set s p) i) (g_n s) : Int) = d.toInt then 1 else 0) i))), some (.int (nI (e_it (g_set s p) i))), some (.int (nI i))] [] GG I L
  | 0, i, hm => by
    have hset := g_set_4096 hI p
    have hcb := e_cb hI p
    have hN : 2 ^ g_cnt s p ≤ 2 ^ 12 := Nat.pow_le_pow_right (by decide) hcb
    have hH : e_H (g_set s p) (2 ^ g_cnt s p) := e_all s p (g_n s) hI.1
    have e : i = 2 ^ g_cnt s p := by omega
    refine pm_iload (pc := 25) dX1_setsBy_25 rfl ?_
    refine pm_iload (pc := 27) dX1_setsBy_27 rfl ?_
    refine pm_icmp_ge (pc := 29) (tgt := 62) dX1_setsBy_29 rfl (fun h29 => ?_) (fun h29 => (by rw [e] at h29; rw [pm_leI] at h29; omega))
    refine pm_iload (pc := 62) dX1_setsBy_62 rfl ?_
    refine pm_iret (pc := 64) rfl (Nat.le_refl _) (Nat.le_refl _) dX1_setsBy_64 ?_
    refine QR.r ?_
    rw [e]
    exact congrArg nI (e_count s p (g_n s) d.toInt _ hI.1 (fun i hi => ⟨fun z => if_pos z, fun z => if_neg z⟩))
  | m + 1, i, hm => by
    have hset := g_set_4096 hI p
    have hcb := e_cb hI p
    have hN : 2 ^ g_cnt s p ≤ 2 ^ 12 := Nat.pow_le_pow_right (by decide) hcb
    have hH : e_H (g_set s p) (2 ^ g_cnt s p) := e_all s p (g_n s) hI.1
    have hi : i < 2 ^ g_cnt s p := by omega
    have hle := e_le hH hi
    have hwb := e_wb hI (e_it (g_set s p) i)
    have k9 := l_setsBy hG hI m (i + 1) (by omega) (I := I) (L := L) (p := p) (d := d) (la := la) (P := P)
    rw [fb_sm_succ, show e_it (g_set s p) (i + 1) = e_nx (g_set s p) (e_it (g_set s p) i) from rfl] at k9
    refine pm_iload (pc := 25) dX1_setsBy_25 rfl ?_
    refine pm_iload (pc := 27) dX1_setsBy_27 rfl ?_
    refine pm_icmp_ge (pc := 29) (tgt := 62) dX1_setsBy_29 rfl (fun h29 => (by rw [pm_leI, nI_toInt (by omega), nI_toInt (by omega)] at h29; omega)) (fun h29 => ?_)
    refine pm_aload_n (pc := 32) dX1_setsBy_32 rfl ?_
    refine pm_iload (pc := 33) dX1_setsBy_33 rfl ?_
    refine pm_cVR (pc := 35) dX1_setsBy_35 (c_weighsSet hG hI (m0 := e_it (g_set s p) i) (by omega)) wq_X2_weighsSet wm_X1_18 wi_X2_weighsSet ws_X2_weighsSet rfl rfl ⟨Nat.le_of_ble_eq_true rfl, Nat.le_of_ble_eq_true rfl⟩ ⟨Nat.le_of_ble_eq_true rfl, Nat.le_of_ble_eq_true rfl⟩ rfl (Nat.le_of_ble_eq_true rfl) ?_
    rw [show g_wset s (e_it (g_set s p) i) = e_w s (e_it (g_set s p) i) (g_n s) from rfl]
    refine pm_i2l (pc := 38) dX1_setsBy_38 ?_
    refine pm_lload_n (pc := 39) dX1_setsBy_39 rfl ?_
    refine pm_lcmp (pc := 40) dX1_setsBy_40 ?_
    refine pm_if_ne (pc := 41) (tgt := 47) dX1_setsBy_41 rfl (fun h41 => ?_) (fun h41 => ?_)
    · rw [e_cmp (by omega)] at h41
      rw [if_neg h41, Nat.add_zero] at k9
      refine pm_iload (pc := 47) dX1_setsBy_47 rfl ?_
      refine pm_iload (pc := 49) dX1_setsBy_49 rfl ?_
      refine pm_cSR (pc := 51) dX1_setsBy_51 (c_nextSubset hle hset) wq_X1_nextSubset wm_X1_21 wt_X1_nextSubset ⟨Nat.le_of_ble_eq_true rfl, Nat.le_of_ble_eq_true rfl⟩ ⟨Nat.le_of_ble_eq_true rfl, Nat.le_of_ble_eq_true rfl⟩ rfl (Nat.le_of_ble_eq_true rfl) ?_
      refine pm_istore (pc := 54) dX1_setsBy_54 (by decide) rfl ?_
      refine pm_iinc (pc := 56) dX1_setsBy_56 rfl (pm_inc1 _) (by decide) rfl ?_
      refine pm_goto (pc := 59) (tgt := 25) dX1_setsBy_59 rfl ?_
      exact k9
    · rw [e_cmp (by omega)] at h41
      rw [if_pos (by first | exact h41 | exact Decidable.not_not.mp h41)] at k9
      refine pm_iinc (pc := 44) dX1_setsBy_44 rfl (pm_inc1 _) (by decide) rfl ?_
      refine pm_iload (pc := 47) dX1_setsBy_47 rfl ?_
      refine pm_iload (pc := 49) dX1_setsBy_49 rfl ?_
      refine pm_cSR (pc := 51) dX1_setsBy_51 (c_nextSubset hle hset) wq_X1_nextSubset wm_X1_21 wt_X1_nextSubset ⟨Nat.le_of_ble_eq_true rfl, Nat.le_of_ble_eq_true rfl⟩ ⟨Nat.le_of_ble_eq_true rfl, Nat.le_of_ble_eq_true rfl⟩ rfl (Nat.le_of_ble_eq_true rfl) ?_
      refine pm_istore (pc := 54) dX1_setsBy_54 (by decide) rfl ?_
      refine pm_iinc (pc := 56) dX1_setsBy_56 rfl (pm_inc1 _) (by decide) rfl ?_
      refine pm_goto (pc := 59) (tgt := 25) dX1_setsBy_59 rfl ?_
      exact k9
set_option maxRecDepth 100000 in
set_option maxHeartbeats 1000000 in
theorem c_setsBy {I : pm_I} {L : pm_L} {s : gS} {p : Nat} {d : Int64} (hG : GR I 1 s) (hI : gInv s) (hp : p < 6) : PC 3 0 0 yX1_setsBy cX1_setsBy 9 (some (.int)) [.ref 1, .int (nI p), .long d] GG I L (QR GG I L (nI (n_one s p (g_n s) d.toInt))) := by
  refine PC.of [some (.ref 1), some (.int (nI p)), some (.long d), none, none, none, none, none, none] (by decide) (Nat.le_of_ble_eq_true rfl) rfl (fun l P => ?_)
  refine pm_aload_n (pc := 0) dX1_setsBy_0 rfl ?_
  refine pm_iload_n (pc := 1) dX1_setsBy_1 rfl ?_
  refine pm_cVR (pc := 2) dX1_setsBy_2 (c_setIn hG hI (by omega)) wq_X2_setIn wm_X1_7 wi_X2_setIn ws_X2_setIn rfl rfl ⟨Nat.le_of_ble_eq_true rfl, Nat.le_of_ble_eq_true rfl⟩ ⟨Nat.le_of_ble_eq_true rfl, Nat.le_of_ble_eq_true rfl⟩ rfl (Nat.le_of_ble_eq_true rfl) ?_
  refine pm_istore (pc := 5) dX1_setsBy_5 (by decide) rfl ?_
  refine pm_iconst (pc := 7) (v := nI 1) dX1_setsBy_7 (by decide) ?_
  refine pm_iload (pc := 8) dX1_setsBy_8 rfl ?_
  refine pm_cSR (pc := 10) dX1_setsBy_10 (c_bitCount (g_set_4096 hI p)) wq_J6_bitCount_0f7a4 wm_X1_13 wt_J6_bitCount_0f7a4 ⟨Nat.le_of_ble_eq_true rfl, Nat.le_of_ble_eq_true rfl⟩ ⟨Nat.le_of_ble_eq_true rfl, Nat.le_of_ble_eq_true rfl⟩ rfl (Nat.le_of_ble_eq_true rfl) ?_
  rw [g_pc_g hI p]
  refine pm_ishl (pc := 13) dX1_setsBy_13 ?_
  refine pm_top (e_pow (e_cb hI p)) ?_
  refine pm_istore (pc := 14) dX1_setsBy_14 (by decide) rfl ?_
  refine pm_iconst (pc := 16) (v := nI 0) dX1_setsBy_16 (by decide) ?_
  refine pm_istore (pc := 17) dX1_setsBy_17 (by decide) rfl ?_
  refine pm_iconst (pc := 19) (v := nI 0) dX1_setsBy_19 (by decide) ?_
  refine pm_istore (pc := 20) dX1_setsBy_20 (by decide) rfl ?_
  refine pm_iconst (pc := 22) (v := nI 0) dX1_setsBy_22 (by decide) ?_
  refine pm_istore (pc := 23) dX1_setsBy_23 (by decide) rfl ?_
  exact l_setsBy hG hI (2 ^ g_cnt s p) 0 (by omega)
set_option maxRecDepth 100000 in
set_option maxHeartbeats 1000000 in
theorem l_leastBy {I : pm_I} {L : pm_L} {s : gS} {p : Nat} {d : Int64} (hG : GR I 1 s) (hI : gInv s) {la : Launch} {P : pm_E} : ∀ (m i : Nat), i + m = 2 ^ g_cnt s p → (∀ k, k < i → ¬ (e_w s (e_it (g_set s p) k) (g_n s) : Int) = d.toInt) → PW la P yX1_leastBy cX1_leastBy 8 (some (.int)) (pm_rm 3 0 0) (pm_Tg P (QR GG I L (nI ((l_one s p (g_n s) d.toInt).getD 0))) 0 0) 0 0 22 [some (.ref 1), some (.int (nI p)), some (.long d), none, some (.int (nI (g_set s p))), some (.int (nI (2 ^ g_cnt s p))), some (.int (nI (e_it (g_set s p) i))), some (.int (nI i))] [] GG I L
  | 0, i, hm, hno => by
    have hset := g_set_4096 hI p
    have hcb := e_cb hI p
    have hN : 2 ^ g_cnt s p ≤ 2 ^ 12 := Nat.pow_le_pow_right (by decide) hcb
    have hH : e_H (g_set s p) (2 ^ g_cnt s p) := e_all s p (g_n s) hI.1
    have hL := e_least s p (g_n s) d.toInt hI.1
    have hset2 : g_set s p = e_m s p (g_n s) := rfl
    have hcnt2 : g_cnt s p = e_c s p (g_n s) := rfl
    have e : i = 2 ^ g_cnt s p := by omega
    refine pm_iload (pc := 22) dX1_leastBy_22 rfl ?_
    refine pm_iload (pc := 24) dX1_leastBy_24 rfl ?_
    refine pm_icmp_ge (pc := 26) (tgt := 59) dX1_leastBy_26 rfl (fun h26 => ?_) (fun h26 => (by rw [e] at h26; rw [pm_leI] at h26; omega))
    refine pm_iconst (pc := 59) (v := nI 0) dX1_leastBy_59 (by decide) ?_
    refine pm_iret (pc := 60) rfl (Nat.le_refl _) (Nat.le_refl _) dX1_leastBy_60 ?_
    refine QR.r ?_
    cases z : l_one s p (g_n s) d.toInt with
    | none => rfl
    | some x =>
      obtain ⟨k, hk, c1, c2, c3⟩ := hL.1 x z
      exact absurd (show (e_w s (e_it (g_set s p) k) (g_n s) : Int) = d.toInt by rw [hset2, c1]; exact c2) (hno k (by rw [e, hcnt2]; exact hk))
  | m + 1, i, hm, hno => by
    have hset := g_set_4096 hI p
    have hcb := e_cb hI p
    have hN : 2 ^ g_cnt s p ≤ 2 ^ 12 := Nat.pow_le_pow_right (by decide) hcb
    have hH : e_H (g_set s p) (2 ^ g_cnt s p) := e_all s p (g_n s) hI.1
    have hL := e_least s p (g_n s) d.toInt hI.1
    have hset2 : g_set s p = e_m s p (g_n s) := rfl
    have hcnt2 : g_cnt s p = e_c s p (g_n s) := rfl
    have hi : i < 2 ^ g_cnt s p := by omega
    have hle := e_le hH hi
    have hwb := e_wb hI (e_it (g_set s p) i)
    refine pm_iload (pc := 22) dX1_leastBy_22 rfl ?_
    refine pm_iload (pc := 24) dX1_leastBy_24 rfl ?_
    refine pm_icmp_ge (pc := 26) (tgt := 59) dX1_leastBy_26 rfl (fun h26 => (by rw [pm_leI, nI_toInt (by omega), nI_toInt (by omega)] at h26; omega)) (fun h26 => ?_)
    refine pm_aload_n (pc := 29) dX1_leastBy_29 rfl ?_
    refine pm_iload (pc := 30) dX1_leastBy_30 rfl ?_
    refine pm_cVR (pc := 32) dX1_leastBy_32 (c_weighsSet hG hI (m0 := e_it (g_set s p) i) (by omega)) wq_X2_weighsSet wm_X1_18 wi_X2_weighsSet ws_X2_weighsSet rfl rfl ⟨Nat.le_of_ble_eq_true rfl, Nat.le_of_ble_eq_true rfl⟩ ⟨Nat.le_of_ble_eq_true rfl, Nat.le_of_ble_eq_true rfl⟩ rfl (Nat.le_of_ble_eq_true rfl) ?_
    rw [show g_wset s (e_it (g_set s p) i) = e_w s (e_it (g_set s p) i) (g_n s) from rfl]
    refine pm_i2l (pc := 35) dX1_leastBy_35 ?_
    refine pm_lload_n (pc := 36) dX1_leastBy_36 rfl ?_
    refine pm_lcmp (pc := 37) dX1_leastBy_37 ?_
    refine pm_if_ne (pc := 38) (tgt := 44) dX1_leastBy_38 rfl (fun h38 => ?_) (fun h38 => ?_)
    · rw [e_cmp (by omega)] at h38
      refine pm_iload (pc := 44) dX1_leastBy_44 rfl ?_
      refine pm_iload (pc := 46) dX1_leastBy_46 rfl ?_
      refine pm_cSR (pc := 48) dX1_leastBy_48 (c_nextSubset hle hset) wq_X1_nextSubset wm_X1_21 wt_X1_nextSubset ⟨Nat.le_of_ble_eq_true rfl, Nat.le_of_ble_eq_true rfl⟩ ⟨Nat.le_of_ble_eq_true rfl, Nat.le_of_ble_eq_true rfl⟩ rfl (Nat.le_of_ble_eq_true rfl) ?_
      refine pm_istore (pc := 51) dX1_leastBy_51 (by decide) rfl ?_
      refine pm_iinc (pc := 53) dX1_leastBy_53 rfl (pm_inc1 _) (by decide) rfl ?_
      refine pm_goto (pc := 56) (tgt := 22) dX1_leastBy_56 rfl ?_
      refine l_leastBy hG hI m (i + 1) (by omega) (fun k hk => ?_)
      rcases (show k < i ∨ k = i by omega) with z | z
      · exact hno k z
      · rw [z]; exact h38
    · rw [e_cmp (by omega)] at h38
      have h38 : (e_w s (e_it (g_set s p) i) (g_n s) : Int) = d.toInt := by first | exact h38 | exact Decidable.not_not.mp h38
      refine pm_iload (pc := 41) dX1_leastBy_41 rfl ?_
      refine pm_iret (pc := 43) rfl (Nat.le_refl _) (Nat.le_refl _) dX1_leastBy_43 ?_
      refine QR.r ?_
      cases z : l_one s p (g_n s) d.toInt with
      | none => exact absurd h38 (hL.2 z i hi)
      | some x =>
        obtain ⟨k, hk, c1, c2, c3⟩ := hL.1 x z
        rcases Nat.lt_trichotomy k i with q | q | q
        · exact absurd (show (e_w s (e_it (g_set s p) k) (g_n s) : Int) = d.toInt by rw [hset2, c1]; exact c2) (hno k q)
        · rw [← q, hset2, c1]; rfl
        · exact absurd h38 (c3 i q)
set_option maxRecDepth 100000 in
set_option maxHeartbeats 1000000 in
theorem c_leastBy {I : pm_I} {L : pm_L} {s : gS} {p : Nat} {d : Int64} (hG : GR I 1 s) (hI : gInv s) (hp : p < 6) : PC 3 0 0 yX1_leastBy cX1_leastBy 8 (some (.int)) [.ref 1, .int (nI p), .long d] GG I L (QR GG I L (nI ((l_one s p (g_n s) d.toInt).getD 0))) := by
  refine PC.of [some (.ref 1), some (.int (nI p)), some (.long d), none, none, none, none, none] (by decide) (Nat.le_of_ble_eq_true rfl) rfl (fun l P => ?_)
  refine pm_aload_n (pc := 0) dX1_leastBy_0 rfl ?_
  refine pm_iload_n (pc := 1) dX1_leastBy_1 rfl ?_
  refine pm_cVR (pc := 2) dX1_leastBy_2 (c_setIn hG hI (by omega)) wq_X2_setIn wm_X1_7 wi_X2_setIn ws_X2_setIn rfl rfl ⟨Nat.le_of_ble_eq_true rfl, Nat.le_of_ble_eq_true rfl⟩ ⟨Nat.le_of_ble_eq_true rfl, Nat.le_of_ble_eq_true rfl⟩ rfl (Nat.le_of_ble_eq_true rfl) ?_
  refine pm_istore (pc := 5) dX1_leastBy_5 (by decide) rfl ?_
  refine pm_iconst (pc := 7) (v := nI 1) dX1_leastBy_7 (by decide) ?_
  refine pm_iload (pc := 8) dX1_leastBy_8 rfl ?_
  refine pm_cSR (pc := 10) dX1_leastBy_10 (c_bitCount (g_set_4096 hI p)) wq_J6_bitCount_0f7a4 wm_X1_13 wt_J6_bitCount_0f7a4 ⟨Nat.le_of_ble_eq_true rfl, Nat.le_of_ble_eq_true rfl⟩ ⟨Nat.le_of_ble_eq_true rfl, Nat.le_of_ble_eq_true rfl⟩ rfl (Nat.le_of_ble_eq_true rfl) ?_
  rw [g_pc_g hI p]
  refine pm_ishl (pc := 13) dX1_leastBy_13 ?_
  refine pm_top (e_pow (e_cb hI p)) ?_
  refine pm_istore (pc := 14) dX1_leastBy_14 (by decide) rfl ?_
  refine pm_iconst (pc := 16) (v := nI 0) dX1_leastBy_16 (by decide) ?_
  refine pm_istore (pc := 17) dX1_leastBy_17 (by decide) rfl ?_
  refine pm_iconst (pc := 19) (v := nI 0) dX1_leastBy_19 (by decide) ?_
  refine pm_istore (pc := 20) dX1_leastBy_20 (by decide) rfl ?_
  exact l_leastBy hG hI (2 ^ g_cnt s p) 0 (by omega) (fun k hk => absurd hk (Nat.not_lt_zero k))
