/-- of a fraction in lowest terms: what stands above (0) or below -/
def d_part (a b w : Nat) : Nat := (if w = 0 then a else b) / Nat.gcd a b
theorem gcd_step {g s : Nat} : Nat.gcd s (g % s) = Nat.gcd g s := by
  rw [Nat.gcd_comm s (g % s), Nat.gcd_comm g s]; exact (Nat.gcd_rec s g).symm
theorem euc_half {g s r : Nat} (h1 : s ≤ g) (h0 : 0 < s) (h : g * s < 2 ^ (r + 1)) : s * (g % s) < 2 ^ r := by
  have a1 : g % s < s := Nat.mod_lt g h0
  have a2 : g % s + s ≤ g := by
    have e := Nat.div_add_mod g s
    have q : 1 ≤ g / s := (Nat.one_le_div_iff h0).mpr h1
    have m : s * 1 ≤ s * (g / s) := Nat.mul_le_mul_left s q
    omega
  have a3 : s * (2 * (g % s)) ≤ s * g := Nat.mul_le_mul_left s (by omega)
  have a4 : s * (2 * (g % s)) = 2 * (s * (g % s)) := by rw [Nat.mul_left_comm]
  have a5 : s * g = g * s := Nat.mul_comm s g
  rw [Nat.pow_succ] at h
  omega
set_option maxRecDepth 100000 in
set_option maxHeartbeats 1000000 in
theorem l_gcd {I : pm_I} {L : pm_L} {a b : Nat} {z0 z1 : Int32} {la : Launch} {P : pm_E} : ∀ (r i g s : Nat), i + r = 64 → s ≤ g → g < 2 ^ 31 → g * s < 2 ^ r → Nat.gcd g s = Nat.gcd a b → PW la P yX9_commonDivisor cX9_commonDivisor 6 (some (.int)) (pm_rm 0 0 0) (pm_Tg P (QR GG I L (nI (Nat.gcd a b))) 0 0) 0 0 7 [some (.int z0), some (.int z1), some (.int (nI g)), some (.int (nI s)), some (.int (nI i)), none] [] GG I L
  | 0, i, g, s, hm, h1, h2, h3, h4 => by
    have e0 : s = 0 := by
      rcases Nat.eq_zero_or_pos s with z | z
      · exact z
      · have : 1 * 1 ≤ g * s := Nat.mul_le_mul (by omega) z
        omega
    refine pm_iload (pc := 7) dX9_commonDivisor_7 rfl ?_
    refine pm_bipush (pc := 9) (v := nI 64) dX9_commonDivisor_9 (by decide) ?_
    refine pm_icmp_ge (pc := 11) (tgt := 34) dX9_commonDivisor_11 rfl (fun h11 => ?_) (fun h11 => (by simp (disch := omega) only [pm_eqI, pm_ltI, pm_leI, nI_toInt, pm_t0, pm_t1, pm_tm1] at h11; omega))
    refine pm_iload_n (pc := 34) dX9_commonDivisor_34 rfl ?_
    refine pm_iret (pc := 35) rfl (Nat.le_refl _) (Nat.le_refl _) dX9_commonDivisor_35 ?_
    refine QR.r ?_
    rw [← h4, e0, Nat.gcd_zero_right]
  | r + 1, i, g, s, hm, h1, h2, h3, h4 => by
    refine pm_iload (pc := 7) dX9_commonDivisor_7 rfl ?_
    refine pm_bipush (pc := 9) (v := nI 64) dX9_commonDivisor_9 (by decide) ?_
    refine pm_icmp_ge (pc := 11) (tgt := 34) dX9_commonDivisor_11 rfl (fun h11 => (by simp (disch := omega) only [pm_eqI, pm_ltI, pm_leI, nI_toInt, pm_t0, pm_t1, pm_tm1] at h11; omega)) (fun h11 => ?_)
    refine pm_iload_n (pc := 14) dX9_commonDivisor_14 rfl ?_
    refine pm_if_le (pc := 15) (tgt := 34) dX9_commonDivisor_15 rfl (fun h15 => ?_) (fun h15 => ?_)
    · have e0 : s = 0 := by simp (disch := omega) only [pm_leI, nI_toInt, pm_t0] at h15; omega
      refine pm_iload_n (pc := 34) dX9_commonDivisor_34 rfl ?_
      refine pm_iret (pc := 35) rfl (Nat.le_refl _) (Nat.le_refl _) dX9_commonDivisor_35 ?_
      refine QR.r ?_
      rw [← h4, e0, Nat.gcd_zero_right]
    · have e0 : 0 < s := by simp (disch := omega) only [pm_leI, nI_toInt, pm_t0] at h15; omega
      have eM : g % s < s := Nat.mod_lt g e0
      refine pm_iload_n (pc := 18) dX9_commonDivisor_18 rfl ?_
      refine pm_iload_n (pc := 19) dX9_commonDivisor_19 rfl ?_
      refine pm_irem (pc := 20) dX9_commonDivisor_20 (by rw [pm_eqI, nI_toInt (by omega), pm_t0]; omega) ?_
      refine pm_top (pk_rem h2 (by omega) (by omega)) ?_
      refine pm_istore (pc := 21) dX9_commonDivisor_21 (by decide) rfl ?_
      refine pm_iload_n (pc := 23) dX9_commonDivisor_23 rfl ?_
      refine pm_istore_n (pc := 24) dX9_commonDivisor_24 (by decide) rfl ?_
      refine pm_iload (pc := 25) dX9_commonDivisor_25 rfl ?_
      refine pm_istore_n (pc := 27) dX9_commonDivisor_27 (by decide) rfl ?_
      refine pm_iinc (pc := 28) dX9_commonDivisor_28 rfl (pm_inc1 _) (by decide) rfl ?_
      refine pm_goto (pc := 31) (tgt := 7) dX9_commonDivisor_31 rfl ?_
      refine pm_kill 5 ?_
      exact l_gcd r (i + 1) s (g % s) (by omega) (by omega) (by omega) (euc_half h1 e0 h3) (gcd_step.trans h4)
set_option maxRecDepth 100000 in
set_option maxHeartbeats 1000000 in
theorem c_gcd {I : pm_I} {L : pm_L} {a b : Nat} (ha : a < 2 ^ 30) (hb : b < 2 ^ 30) : PC 0 0 0 yX9_commonDivisor cX9_commonDivisor 6 (some (.int)) [.int (nI a), .int (nI b)] GG I L (QR GG I L (nI (Nat.gcd a b))) := by
  refine PC.of [some (.int (nI a)), some (.int (nI b)), none, none, none, none] (by decide) (Nat.le_of_ble_eq_true rfl) rfl (fun l P => ?_)
  refine pm_iload_n (pc := 0) dX9_commonDivisor_0 rfl ?_
  refine pm_istore_n (pc := 1) dX9_commonDivisor_1 (by decide) rfl ?_
  refine pm_iload_n (pc := 2) dX9_commonDivisor_2 rfl ?_
  refine pm_istore_n (pc := 3) dX9_commonDivisor_3 (by decide) rfl ?_
  refine pm_iconst (pc := 4) (v := nI 0) dX9_commonDivisor_4 (by decide) ?_
  refine pm_istore (pc := 5) dX9_commonDivisor_5 (by decide) rfl ?_
  rcases Nat.eq_zero_or_pos b with e0 | e0
  · subst e0
    exact l_gcd 64 0 a 0 (by omega) (by omega) (by omega) (by rw [Nat.mul_zero]; decide) rfl
  have eM : a % b < b := Nat.mod_lt a e0
  refine pm_iload (pc := 7) dX9_commonDivisor_7 rfl ?_
  refine pm_bipush (pc := 9) (v := nI 64) dX9_commonDivisor_9 (by decide) ?_
  refine pm_icmp_ge (pc := 11) (tgt := 34) dX9_commonDivisor_11 rfl (fun h11 => absurd h11 (by decide)) (fun h11 => ?_)
  refine pm_iload_n (pc := 14) dX9_commonDivisor_14 rfl ?_
  refine pm_if_le (pc := 15) (tgt := 34) dX9_commonDivisor_15 rfl (fun h15 => (by simp (disch := omega) only [pm_leI, nI_toInt, pm_t0] at h15; omega)) (fun h15 => ?_)
  refine pm_iload_n (pc := 18) dX9_commonDivisor_18 rfl ?_
  refine pm_iload_n (pc := 19) dX9_commonDivisor_19 rfl ?_
  refine pm_irem (pc := 20) dX9_commonDivisor_20 (by rw [pm_eqI, nI_toInt (by omega), pm_t0]; omega) ?_
  refine pm_top (pk_rem (by omega) (by omega) (by omega)) ?_
  refine pm_istore (pc := 21) dX9_commonDivisor_21 (by decide) rfl ?_
  refine pm_iload_n (pc := 23) dX9_commonDivisor_23 rfl ?_
  refine pm_istore_n (pc := 24) dX9_commonDivisor_24 (by decide) rfl ?_
  refine pm_iload (pc := 25) dX9_commonDivisor_25 rfl ?_
  refine pm_istore_n (pc := 27) dX9_commonDivisor_27 (by decide) rfl ?_
  refine pm_iinc (pc := 28) dX9_commonDivisor_28 rfl (pm_inc1 _) (by decide) rfl ?_
  refine pm_goto (pc := 31) (tgt := 7) dX9_commonDivisor_31 rfl ?_
  refine pm_kill 5 ?_
  exact l_gcd 63 1 b (a % b) (by omega) (by omega) (by omega) (by
    have q : b * (a % b) ≤ b * b := Nat.mul_le_mul_left b (by omega)
    have q2 : b * b ≤ 2 ^ 30 * 2 ^ 30 := Nat.mul_le_mul (by omega) (by omega)
    have q3 : (2 : Nat) ^ 30 * 2 ^ 30 < 2 ^ 63 := by decide
    omega) gcd_step
set_option maxRecDepth 100000 in
set_option maxHeartbeats 1000000 in
theorem c_partOf {I : pm_I} {L : pm_L} {a b w : Nat} (ha : a < 2 ^ 30) (hb : b < 2 ^ 30) (hb1 : 1 ≤ b) (hw : w ≤ 1) : PC 1 0 0 yX9_partOf cX9_partOf 5 (some (.int)) [.int (nI a), .int (nI b), .int (nI w)] GG I L (QR GG I L (nI (d_part a b w))) := by
  have kw0 : nI w = 0 ↔ w = 0 := by rw [pm_eqI, nI_toInt (by omega), pm_t0]; omega
  have hg : 0 < Nat.gcd a b := Nat.gcd_pos_of_pos_right a hb1
  have hgb : Nat.gcd a b ≤ b := Nat.gcd_le_right a hb1
  refine PC.of [some (.int (nI a)), some (.int (nI b)), some (.int (nI w)), none, none] (by decide) (Nat.le_of_ble_eq_true rfl) rfl (fun l P => ?_)
  refine pm_iload_n (pc := 0) dX9_partOf_0 rfl ?_
  refine pm_iload_n (pc := 1) dX9_partOf_1 rfl ?_
  refine pm_cSR (pc := 2) dX9_partOf_2 (c_gcd ha hb) wq_X9_commonDivisor wm_X9_265 wt_X9_commonDivisor ⟨Nat.le_of_ble_eq_true rfl, Nat.le_of_ble_eq_true rfl⟩ ⟨Nat.le_of_ble_eq_true rfl, Nat.le_of_ble_eq_true rfl⟩ rfl (Nat.le_of_ble_eq_true rfl) ?_
  refine pm_istore_n (pc := 5) dX9_partOf_5 (by decide) rfl ?_
  refine pm_iload_n (pc := 6) dX9_partOf_6 rfl ?_
  refine pm_if_ne (pc := 7) (tgt := 14) dX9_partOf_7 rfl (fun h7 => ?_) (fun h7 => ?_)
  · refine pm_iload_n (pc := 14) dX9_partOf_14 rfl ?_
    refine pm_istore (pc := 15) dX9_partOf_15 (by decide) rfl ?_
    refine pm_iload_n (pc := 17) dX9_partOf_17 rfl ?_
    refine pm_if_le (pc := 18) (tgt := 28) dX9_partOf_18 rfl (fun h18 => (by simp (disch := omega) only [pm_leI, nI_toInt, pm_t0] at h18; omega)) (fun h18 => ?_)
    refine pm_iload (pc := 21) dX9_partOf_21 rfl ?_
    refine pm_iload_n (pc := 23) dX9_partOf_23 rfl ?_
    refine pm_idiv (pc := 24) dX9_partOf_24 (by rw [pm_eqI, nI_toInt (by omega), pm_t0]; omega) ?_
    refine pm_goto (pc := 25) (tgt := 30) dX9_partOf_25 rfl ?_
    refine pm_iret (pc := 30) rfl (Nat.le_refl _) (Nat.le_refl _) dX9_partOf_30 ?_
    refine QR.r ?_
    unfold d_part
    first | rw [if_pos (kw0.mp h7), pk_div (by omega) (by omega) (by omega)] | rw [if_neg (fun z => h7 (kw0.mpr z)), pk_div (by omega) (by omega) (by omega)]
  · refine pm_iload_n (pc := 10) dX9_partOf_10 rfl ?_
    refine pm_goto (pc := 11) (tgt := 15) dX9_partOf_11 rfl ?_
    refine pm_istore (pc := 15) dX9_partOf_15 (by decide) rfl ?_
    refine pm_iload_n (pc := 17) dX9_partOf_17 rfl ?_
    refine pm_if_le (pc := 18) (tgt := 28) dX9_partOf_18 rfl (fun h18 => (by simp (disch := omega) only [pm_leI, nI_toInt, pm_t0] at h18; omega)) (fun h18 => ?_)
    refine pm_iload (pc := 21) dX9_partOf_21 rfl ?_
    refine pm_iload_n (pc := 23) dX9_partOf_23 rfl ?_
    refine pm_idiv (pc := 24) dX9_partOf_24 (by rw [pm_eqI, nI_toInt (by omega), pm_t0]; omega) ?_
    refine pm_goto (pc := 25) (tgt := 30) dX9_partOf_25 rfl ?_
    refine pm_iret (pc := 30) rfl (Nat.le_refl _) (Nat.le_refl _) dX9_partOf_30 ?_
    refine QR.r ?_
    unfold d_part
    first | rw [if_pos (kw0.mp h7), pk_div (by omega) (by omega) (by omega)] | rw [if_neg (fun z => h7 (kw0.mpr z)), pk_div (by omega) (by omega) (by omega)]
set_option maxRecDepth 100000 in
set_option maxHeartbeats 1000000 in
theorem l_mgcd {I : pm_I} {L : pm_L} {a b : Nat} {z0 z1 : Int32} {la : Launch} {P : pm_E} : ∀ (r g s : Nat), s < r → g < 2 ^ 31 → s < 2 ^ 31 → Nat.gcd g s = Nat.gcd a b → PW la P yX10_divisor cX10_divisor 5 (some (.int)) (pm_rm 0 0 0) (pm_Tg P (QR GG I L (nI (Nat.gcd a b))) 0 0) 0 0 4 [some (.int z0), some (.int z1), some (.int (nI g)), some (.int (nI s)), none] [] GG I L
  | 0, g, s, hm, h1, h2, h4 => absurd hm (Nat.not_lt_zero s)
  | r + 1, g, s, hm, h1, h2, h4 => by
    refine pm_iload_n (pc := 4) dX10_divisor_4 rfl ?_
    refine pm_if_eq (pc := 5) (tgt := 21) dX10_divisor_5 rfl (fun h5 => ?_) (fun h5 => ?_)
    · have e0 : s = 0 := by simp (disch := omega) only [pm_eqI, nI_toInt, pm_t0] at h5; omega
      refine pm_iload_n (pc := 21) dX10_divisor_21 rfl ?_
      refine pm_iret (pc := 22) rfl (Nat.le_refl _) (Nat.le_refl _) dX10_divisor_22 ?_
      refine QR.r ?_
      rw [← h4, e0, Nat.gcd_zero_right]
    · have e0 : 0 < s := by simp (disch := omega) only [pm_eqI, nI_toInt, pm_t0] at h5; omega
      have eM : g % s < s := Nat.mod_lt g e0
      refine pm_iload_n (pc := 8) dX10_divisor_8 rfl ?_
      refine pm_iload_n (pc := 9) dX10_divisor_9 rfl ?_
      refine pm_irem (pc := 10) dX10_divisor_10 (by rw [pm_eqI, nI_toInt (by omega), pm_t0]; omega) ?_
      refine pm_top (pk_rem h1 (by omega) (by omega)) ?_
      refine pm_istore (pc := 11) dX10_divisor_11 (by decide) rfl ?_
      refine pm_iload_n (pc := 13) dX10_divisor_13 rfl ?_
      refine pm_istore_n (pc := 14) dX10_divisor_14 (by decide) rfl ?_
      refine pm_iload (pc := 15) dX10_divisor_15 rfl ?_
      refine pm_istore_n (pc := 17) dX10_divisor_17 (by decide) rfl ?_
      refine pm_goto (pc := 18) (tgt := 4) dX10_divisor_18 rfl ?_
      refine pm_kill 4 ?_
      exact l_mgcd r s (g % s) (by omega) (by omega) (by omega) (gcd_step.trans h4)
set_option maxRecDepth 100000 in
set_option maxHeartbeats 1000000 in
theorem c_mGcd {I : pm_I} {L : pm_L} {a b : Nat} (ha : a < 2 ^ 30) (hb : b < 2 ^ 30) : PC 0 0 0 yX10_divisor cX10_divisor 5 (some (.int)) [.int (nI a), .int (nI b)] GG I L (QR GG I L (nI (Nat.gcd a b))) := by
  refine PC.of [some (.int (nI a)), some (.int (nI b)), none, none, none] (by decide) (Nat.le_of_ble_eq_true rfl) rfl (fun l P => ?_)
  refine pm_iload_n (pc := 0) dX10_divisor_0 rfl ?_
  refine pm_istore_n (pc := 1) dX10_divisor_1 (by decide) rfl ?_
  refine pm_iload_n (pc := 2) dX10_divisor_2 rfl ?_
  refine pm_istore_n (pc := 3) dX10_divisor_3 (by decide) rfl ?_
  exact l_mgcd (b + 1) a b (by omega) (by omega) (by omega) rfl
set_option maxRecDepth 100000 in
set_option maxHeartbeats 1000000 in
theorem c_mPartOf {I : pm_I} {L : pm_L} {a b w : Nat} (ha : a < 2 ^ 30) (hb : b < 2 ^ 30) (hb1 : 1 ≤ b) (hw : w ≤ 1) : PC 1 0 0 yX10_partOf cX10_partOf 4 (some (.int)) [.int (nI a), .int (nI b), .int (nI w)] GG I L (QR GG I L (nI (d_part a b w))) := by
  have kw0 : nI w = 0 ↔ w = 0 := by rw [pm_eqI, nI_toInt (by omega), pm_t0]; omega
  have hg : 0 < Nat.gcd a b := Nat.gcd_pos_of_pos_right a hb1
  have hgb : Nat.gcd a b ≤ b := Nat.gcd_le_right a hb1
  refine PC.of [some (.int (nI a)), some (.int (nI b)), some (.int (nI w)), none] (by decide) (Nat.le_of_ble_eq_true rfl) rfl (fun l P => ?_)
  refine pm_iload_n (pc := 0) dX10_partOf_0 rfl ?_
  refine pm_iload_n (pc := 1) dX10_partOf_1 rfl ?_
  refine pm_cSR (pc := 2) dX10_partOf_2 (c_mGcd ha hb) wq_X10_divisor wm_X10_254 wt_X10_divisor ⟨Nat.le_of_ble_eq_true rfl, Nat.le_of_ble_eq_true rfl⟩ ⟨Nat.le_of_ble_eq_true rfl, Nat.le_of_ble_eq_true rfl⟩ rfl (Nat.le_of_ble_eq_true rfl) ?_
  refine pm_istore_n (pc := 5) dX10_partOf_5 (by decide) rfl ?_
  refine pm_iload_n (pc := 6) dX10_partOf_6 rfl ?_
  refine pm_if_ne (pc := 7) (tgt := 16) dX10_partOf_7 rfl (fun h7 => ?_) (fun h7 => ?_)
  · refine pm_iload_n (pc := 16) dX10_partOf_16 rfl ?_
    refine pm_iload_n (pc := 17) dX10_partOf_17 rfl ?_
    refine pm_idiv (pc := 18) dX10_partOf_18 (by rw [pm_eqI, nI_toInt (by omega), pm_t0]; omega) ?_
    refine pm_iret (pc := 19) rfl (Nat.le_refl _) (Nat.le_refl _) dX10_partOf_19 ?_
    refine QR.r ?_
    unfold d_part
    first | rw [if_pos (kw0.mp h7), pk_div (by omega) (by omega) (by omega)] | rw [if_neg (fun z => h7 (kw0.mpr z)), pk_div (by omega) (by omega) (by omega)]
  · refine pm_iload_n (pc := 10) dX10_partOf_10 rfl ?_
    refine pm_iload_n (pc := 11) dX10_partOf_11 rfl ?_
    refine pm_idiv (pc := 12) dX10_partOf_12 (by rw [pm_eqI, nI_toInt (by omega), pm_t0]; omega) ?_
    refine pm_goto (pc := 13) (tgt := 19) dX10_partOf_13 rfl ?_
    refine pm_iret (pc := 19) rfl (Nat.le_refl _) (Nat.le_refl _) dX10_partOf_19 ?_
    refine QR.r ?_
    unfold d_part
    first | rw [if_pos (kw0.mp h7), pk_div (by omega) (by omega) (by omega)] | rw [if_neg (fun z => h7 (kw0.mpr z)), pk_div (by omega) (by omega) (by omega)]
set_option maxRecDepth 100000 in
set_option maxHeartbeats 1000000 in
theorem c_power {I : pm_I} {L : pm_L} {b n : Nat} (hb : b ≤ 8) (hn : n ≤ 6) : PC 0 0 0 yX9_power cX9_power 4 (some (.int)) [.int (nI b), .int (nI n)] GG I L (QR GG I L (nI (b ^ n))) := by
  refine PC.of [some (.int (nI b)), some (.int (nI n)), none, none] (by decide) (Nat.le_of_ble_eq_true rfl) rfl (fun l P => ?_)
  refine pm_iconst (pc := 0) (v := nI 1) dX9_power_0 (by decide) ?_
  refine pm_istore_n (pc := 1) dX9_power_1 (by decide) rfl ?_
  refine pm_iconst (pc := 2) (v := nI 0) dX9_power_2 (by decide) ?_
  refine pm_istore_n (pc := 3) dX9_power_3 (by decide) rfl ?_
  have lp : ∀ (m i : Nat), i + m = n → PW l P yX9_power cX9_power 4 (some (.int)) (pm_rm 0 0 0) (pm_Tg P (QR GG I L (nI (b ^ n))) 0 0) 0 0 4 [some (.int (nI b)), some (.int (nI n)), some (.int (nI (b ^ i))), some (.int (nI i))] [] GG I L := by
    intro m
    induction m with
    | zero =>
      intro i hm
      have e : i = n := by omega
      subst e
      refine pm_iload_n (pc := 4) dX9_power_4 rfl ?_
      refine pm_iload_n (pc := 5) dX9_power_5 rfl ?_
      refine pm_icmp_ge (pc := 6) (tgt := 19) dX9_power_6 rfl (fun h6 => ?_) (fun h6 => (by simp (disch := omega) only [pm_eqI, pm_ltI, pm_leI, nI_toInt, pm_t0, pm_t1, pm_tm1] at h6; omega))
      refine pm_iload_n (pc := 19) dX9_power_19 rfl ?_
      refine pm_iret (pc := 20) rfl (Nat.le_refl _) (Nat.le_refl _) dX9_power_20 ?_
      exact QR.r rfl
    | succ m ih =>
      intro i hm
      refine pm_iload_n (pc := 4) dX9_power_4 rfl ?_
      refine pm_iload_n (pc := 5) dX9_power_5 rfl ?_
      refine pm_icmp_ge (pc := 6) (tgt := 19) dX9_power_6 rfl (fun h6 => (by simp (disch := omega) only [pm_eqI, pm_ltI, pm_leI, nI_toInt, pm_t0, pm_t1, pm_tm1] at h6; omega)) (fun h6 => ?_)
      refine pm_iload_n (pc := 9) dX9_power_9 rfl ?_
      refine pm_iload_n (pc := 10) dX9_power_10 rfl ?_
      refine pm_imul (pc := 11) dX9_power_11 ?_
      refine pm_top (x' := nI (b ^ (i + 1))) (by rw [pk_mul, Nat.pow_succ]) ?_
      refine pm_istore_n (pc := 12) dX9_power_12 (by decide) rfl ?_
      refine pm_iinc (pc := 13) dX9_power_13 rfl (pm_inc1 _) (by decide) rfl ?_
      refine pm_goto (pc := 16) (tgt := 4) dX9_power_16 rfl ?_
      exact ih (i + 1) (by omega)
  exact lp n 0 (by omega)
theorem pow_le8 {b n : Nat} (hb : b ≤ 8) (hn : n ≤ 6) : b ^ n < 2 ^ 30 := by
  have h1 : b ^ n ≤ 8 ^ n := Nat.pow_le_pow_left hb n
  have h2 : 8 ^ n ≤ 8 ^ 6 := Nat.pow_le_pow_right (by decide) hn
  have h3 : (8 : Nat) ^ 6 < 2 ^ 30 := by decide
  omega
theorem pow_1 {n : Nat} : 1 ≤ 8 ^ n := Nat.pos_of_ne_zero (fun z => by have := Nat.pow_eq_zero.mp z; omega)
def d_odds (s : gS) (p c n q w : Nat) : Nat := d_part (if g_sn s p < c then (8 - q) ^ n else 8 ^ n) (8 ^ n) w
def sp_odds (X : xS) (p c n q w : Int32) : Int32 × xS := if ¬ (isPl p ∧ iR c 0 99 ∧ iR n 1 6 ∧ iR q 0 8 ∧ iR w 0 1) then (-1, X) else (nI (d_odds (x_g X) (nt p) (nt c) (nt n) (nt q) (nt w)), X)
theorem sp_odds_t {X : xS} {p c n q w : Nat} (hp : p < 6) (hc : c ≤ 99) (hn1 : 1 ≤ n) (hn : n ≤ 6) (hq : q ≤ 8) (hw : w ≤ 1) : sp_odds X (nI p) (nI c) (nI n) (nI q) (nI w) = (nI (d_odds (x_g X) p c n q w), X) := by
  unfold sp_odds
  rw [if_neg (not_not_intro ⟨isPl_nI hp, (iR_nI (b := 99) (by omega)).mpr hc, ⟨by rw [nI_toInt (by omega)]; omega, by rw [nI_toInt (by omega)]; omega⟩, (iR_nI (b := 8) (by omega)).mpr hq, (iR_nI (b := 1) (by omega)).mpr hw⟩), nt_nI (show p < 2 ^ 31 by omega), nt_nI (show c < 2 ^ 31 by omega), nt_nI (show n < 2 ^ 31 by omega), nt_nI (show q < 2 ^ 31 by omega), nt_nI (show w < 2 ^ 31 by omega)]
set_option maxRecDepth 100000 in
set_option maxHeartbeats 1000000 in
theorem x_odds {I : pm_I} {L : pm_L} {X : xS} (hR : XR I L X) (hX : xInv X) {p c n q w : Int32} : PC 3 0 0 yX9_odds cX9_odds 7 (some (.int)) [.ref 0, .int p, .int c, .int n, .int q, .int w] GG I L (XQ I L (sp_odds X p c n q w).1 (sp_odds X p c n q w).2) := by
  have hG := hR.1
  have hI := hX.s
  have h12 := hI.n12
  refine PC.of [some (.ref 0), some (.int p), some (.int c), some (.int n), some (.int q), some (.int w), none] (by decide) (Nat.le_of_ble_eq_true rfl) rfl (fun l P => ?_)
  refine pm_iload_n (pc := 0) dX9_odds_0 rfl ?_
  refine pm_cSR (pc := 1) dX9_odds_1 (c_isPl) wq_X9_isPlace wm_X9_92 wt_X9_isPlace ⟨Nat.le_of_ble_eq_true rfl, Nat.le_of_ble_eq_true rfl⟩ ⟨Nat.le_of_ble_eq_true rfl, Nat.le_of_ble_eq_true rfl⟩ rfl (Nat.le_of_ble_eq_true rfl) ?_
  refine pm_if_eq (pc := 4) (tgt := 46) dX9_odds_4 rfl (fun h4 => ?_) (fun h4 => ?_)
  · refine pm_iconst (pc := 46) (v := (-1)) dX9_odds_46 (by decide) ?_
    refine pm_iret (pc := 47) rfl (Nat.le_refl _) (Nat.le_refl _) dX9_odds_47 ?_
    first | (rw [show sp_odds X p c n q w = (-1, X) from if_pos (fun z => b1_nf h4 z.1)]; exact XQ.r rfl hR xF.rf) | (rw [show sp_odds X p c n q w = (-1, X) from if_pos (fun z => b1_nf h14 z.2.1)]; exact XQ.r rfl hR xF.rf) | (rw [show sp_odds X p c n q w = (-1, X) from if_pos (fun z => b1_nf h24 z.2.2.1)]; exact XQ.r rfl hR xF.rf) | (rw [show sp_odds X p c n q w = (-1, X) from if_pos (fun z => b1_nf h35 z.2.2.2.1)]; exact XQ.r rfl hR xF.rf) | (rw [show sp_odds X p c n q w = (-1, X) from if_pos (fun z => b1_nf h43 z.2.2.2.2)]; exact XQ.r rfl hR xF.rf)
  · refine pm_iload_n (pc := 7) dX9_odds_7 rfl ?_
    refine pm_iconst (pc := 8) (v := nI 0) dX9_odds_8 (by decide) ?_
    refine pm_bipush (pc := 9) (v := nI 99) dX9_odds_9 (by decide) ?_
    refine pm_cSR (pc := 11) dX9_odds_11 (c_isIn (a := 0) (b := 99) (by decide) (by decide)) wq_X9_isIn wm_X9_61 wt_X9_isIn ⟨Nat.le_of_ble_eq_true rfl, Nat.le_of_ble_eq_true rfl⟩ ⟨Nat.le_of_ble_eq_true rfl, Nat.le_of_ble_eq_true rfl⟩ rfl (Nat.le_of_ble_eq_true rfl) ?_
    refine pm_if_eq (pc := 14) (tgt := 46) dX9_odds_14 rfl (fun h14 => ?_) (fun h14 => ?_)
    · refine pm_iconst (pc := 46) (v := (-1)) dX9_odds_46 (by decide) ?_
      refine pm_iret (pc := 47) rfl (Nat.le_refl _) (Nat.le_refl _) dX9_odds_47 ?_
      first | (rw [show sp_odds X p c n q w = (-1, X) from if_pos (fun z => b1_nf h4 z.1)]; exact XQ.r rfl hR xF.rf) | (rw [show sp_odds X p c n q w = (-1, X) from if_pos (fun z => b1_nf h14 z.2.1)]; exact XQ.r rfl hR xF.rf) | (rw [show sp_odds X p c n q w = (-1, X) from if_pos (fun z => b1_nf h24 z.2.2.1)]; exact XQ.r rfl hR xF.rf) | (rw [show sp_odds X p c n q w = (-1, X) from if_pos (fun z => b1_nf h35 z.2.2.2.1)]; exact XQ.r rfl hR xF.rf) | (rw [show sp_odds X p c n q w = (-1, X) from if_pos (fun z => b1_nf h43 z.2.2.2.2)]; exact XQ.r rfl hR xF.rf)
    · refine pm_iload_n (pc := 17) dX9_odds_17 rfl ?_
      refine pm_iconst (pc := 18) (v := nI 1) dX9_odds_18 (by decide) ?_
      refine pm_bipush (pc := 19) (v := nI 6) dX9_odds_19 (by decide) ?_
      refine pm_cSR (pc := 21) dX9_odds_21 (c_isIn (a := 1) (b := 6) (by decide) (by decide)) wq_X9_isIn wm_X9_61 wt_X9_isIn ⟨Nat.le_of_ble_eq_true rfl, Nat.le_of_ble_eq_true rfl⟩ ⟨Nat.le_of_ble_eq_true rfl, Nat.le_of_ble_eq_true rfl⟩ rfl (Nat.le_of_ble_eq_true rfl) ?_
      refine pm_if_eq (pc := 24) (tgt := 46) dX9_odds_24 rfl (fun h24 => ?_) (fun h24 => ?_)
      · refine pm_iconst (pc := 46) (v := (-1)) dX9_odds_46 (by decide) ?_
        refine pm_iret (pc := 47) rfl (Nat.le_refl _) (Nat.le_refl _) dX9_odds_47 ?_
        first | (rw [show sp_odds X p c n q w = (-1, X) from if_pos (fun z => b1_nf h4 z.1)]; exact XQ.r rfl hR xF.rf) | (rw [show sp_odds X p c n q w = (-1, X) from if_pos (fun z => b1_nf h14 z.2.1)]; exact XQ.r rfl hR xF.rf) | (rw [show sp_odds X p c n q w = (-1, X) from if_pos (fun z => b1_nf h24 z.2.2.1)]; exact XQ.r rfl hR xF.rf) | (rw [show sp_odds X p c n q w = (-1, X) from if_pos (fun z => b1_nf h35 z.2.2.2.1)]; exact XQ.r rfl hR xF.rf) | (rw [show sp_odds X p c n q w = (-1, X) from if_pos (fun z => b1_nf h43 z.2.2.2.2)]; exact XQ.r rfl hR xF.rf)
      · refine pm_iload (pc := 27) dX9_odds_27 rfl ?_
        refine pm_iconst (pc := 29) (v := nI 0) dX9_odds_29 (by decide) ?_
        refine pm_bipush (pc := 30) (v := nI 8) dX9_odds_30 (by decide) ?_
        refine pm_cSR (pc := 32) dX9_odds_32 (c_isIn (a := 0) (b := 8) (by decide) (by decide)) wq_X9_isIn wm_X9_61 wt_X9_isIn ⟨Nat.le_of_ble_eq_true rfl, Nat.le_of_ble_eq_true rfl⟩ ⟨Nat.le_of_ble_eq_true rfl, Nat.le_of_ble_eq_true rfl⟩ rfl (Nat.le_of_ble_eq_true rfl) ?_
        refine pm_if_eq (pc := 35) (tgt := 46) dX9_odds_35 rfl (fun h35 => ?_) (fun h35 => ?_)
        · refine pm_iconst (pc := 46) (v := (-1)) dX9_odds_46 (by decide) ?_
          refine pm_iret (pc := 47) rfl (Nat.le_refl _) (Nat.le_refl _) dX9_odds_47 ?_
          first | (rw [show sp_odds X p c n q w = (-1, X) from if_pos (fun z => b1_nf h4 z.1)]; exact XQ.r rfl hR xF.rf) | (rw [show sp_odds X p c n q w = (-1, X) from if_pos (fun z => b1_nf h14 z.2.1)]; exact XQ.r rfl hR xF.rf) | (rw [show sp_odds X p c n q w = (-1, X) from if_pos (fun z => b1_nf h24 z.2.2.1)]; exact XQ.r rfl hR xF.rf) | (rw [show sp_odds X p c n q w = (-1, X) from if_pos (fun z => b1_nf h35 z.2.2.2.1)]; exact XQ.r rfl hR xF.rf) | (rw [show sp_odds X p c n q w = (-1, X) from if_pos (fun z => b1_nf h43 z.2.2.2.2)]; exact XQ.r rfl hR xF.rf)
        · refine pm_iload (pc := 38) dX9_odds_38 rfl ?_
          refine pm_cSR (pc := 40) dX9_odds_40 (c_isPart) wq_X9_isPart wm_X9_171 wt_X9_isPart ⟨Nat.le_of_ble_eq_true rfl, Nat.le_of_ble_eq_true rfl⟩ ⟨Nat.le_of_ble_eq_true rfl, Nat.le_of_ble_eq_true rfl⟩ rfl (Nat.le_of_ble_eq_true rfl) ?_
          refine pm_if_ne (pc := 43) (tgt := 48) dX9_odds_43 rfl (fun h43 => ?_) (fun h43 => ?_)
          · obtain ⟨p, hp, rfl⟩ := isPl_of (b1_nt h4)
            obtain ⟨c, hc, rfl⟩ := iR_of (x := c) (b := 99) (by decide) (b1_nt h14)
            obtain ⟨n, hn1, hn, rfl⟩ := iR1_of (b := 6) (by decide) (b1_nt h24)
            obtain ⟨q, hq, rfl⟩ := iR_of (x := q) (b := 8) (by decide) (b1_nt h35)
            obtain ⟨w, hw, rfl⟩ := iR_of (x := w) (b := 1) (by decide) (b1_nt h43)
            rw [sp_odds_t hp hc hn1 hn hq hw]
            refine pm_aload_n (pc := 48) dX9_odds_48 rfl ?_
            refine pm_getr (pc := 49) (ci := 7) (C0 := RX9) (T := TX9) (N := 9) (j := 0) rfl rfl in_X9 (by decide) wf_X9_10 rfl dX9_odds_49 ?_
            refine pm_iload_n (pc := 52) dX9_odds_52 rfl ?_
            refine pm_iload_n (pc := 53) dX9_odds_53 rfl ?_
            refine pm_cVR (pc := 54) dX9_odds_54 (c_isAboveSense hG hI hp (a := c) (b := 0) (by rw [nI_toInt (by omega)]; omega) (by omega) (by omega)) wq_X2_isAboveSense wm_X9_174 wi_X2_isAboveSense ws_X2_isAboveSense rfl rfl ⟨Nat.le_of_ble_eq_true rfl, Nat.le_of_ble_eq_true rfl⟩ ⟨Nat.le_of_ble_eq_true rfl, Nat.le_of_ble_eq_true rfl⟩ rfl (Nat.le_of_ble_eq_true rfl) ?_
            refine pm_if_eq (pc := 57) (tgt := 68) dX9_odds_57 rfl (fun h57 => ?_) (fun h57 => ?_)
            · have hf : ¬ g_sn (x_g X) p < c := by have := b1_nf h57; omega
              refine pm_bipush (pc := 68) (v := nI 8) dX9_odds_68 (by decide) ?_
              first
                | (refine pm_top (x' := nI (8 - q)) (pk_sub hq) ?_
                   refine pm_istore (pc := 70) dX9_odds_70 (by decide) rfl ?_
                   refine pm_iload (pc := 72) dX9_odds_72 rfl ?_
                   refine pm_iload_n (pc := 74) dX9_odds_74 rfl ?_
                   refine pm_cSR (pc := 75) dX9_odds_75 (c_power (b := 8 - q) (by omega) hn) wq_X9_power wm_X9_178 wt_X9_power ⟨Nat.le_of_ble_eq_true rfl, Nat.le_of_ble_eq_true rfl⟩ ⟨Nat.le_of_ble_eq_true rfl, Nat.le_of_ble_eq_true rfl⟩ rfl (Nat.le_of_ble_eq_true rfl) ?_
                   refine pm_bipush (pc := 78) (v := nI 8) dX9_odds_78 (by decide) ?_
                   refine pm_iload_n (pc := 80) dX9_odds_80 rfl ?_
                   refine pm_cSR (pc := 81) dX9_odds_81 (c_power (b := 8) (by omega) hn) wq_X9_power wm_X9_178 wt_X9_power ⟨Nat.le_of_ble_eq_true rfl, Nat.le_of_ble_eq_true rfl⟩ ⟨Nat.le_of_ble_eq_true rfl, Nat.le_of_ble_eq_true rfl⟩ rfl (Nat.le_of_ble_eq_true rfl) ?_
                   refine pm_iload (pc := 84) dX9_odds_84 rfl ?_
                   refine pm_cSR (pc := 86) dX9_odds_86 (c_partOf (pow_le8 (by omega) hn) (pow_le8 (by omega) hn) pow_1 hw) wq_X9_partOf wm_X9_182 wt_X9_partOf ⟨Nat.le_of_ble_eq_true rfl, Nat.le_of_ble_eq_true rfl⟩ ⟨Nat.le_of_ble_eq_true rfl, Nat.le_of_ble_eq_true rfl⟩ rfl (Nat.le_of_ble_eq_true rfl) ?_
                   refine pm_iret (pc := 89) rfl (Nat.le_refl _) (Nat.le_refl _) dX9_odds_89 ?_
                   exact XQ.r (by unfold d_odds; rw [if_pos hf]) hR xF.rf)
                | (
                   refine pm_istore (pc := 70) dX9_odds_70 (by decide) rfl ?_
                   refine pm_iload (pc := 72) dX9_odds_72 rfl ?_
                   refine pm_iload_n (pc := 74) dX9_odds_74 rfl ?_
                   refine pm_cSR (pc := 75) dX9_odds_75 (c_power (b := 8) (by omega) hn) wq_X9_power wm_X9_178 wt_X9_power ⟨Nat.le_of_ble_eq_true rfl, Nat.le_of_ble_eq_true rfl⟩ ⟨Nat.le_of_ble_eq_true rfl, Nat.le_of_ble_eq_true rfl⟩ rfl (Nat.le_of_ble_eq_true rfl) ?_
                   refine pm_bipush (pc := 78) (v := nI 8) dX9_odds_78 (by decide) ?_
                   refine pm_iload_n (pc := 80) dX9_odds_80 rfl ?_
                   refine pm_cSR (pc := 81) dX9_odds_81 (c_power (b := 8) (by omega) hn) wq_X9_power wm_X9_178 wt_X9_power ⟨Nat.le_of_ble_eq_true rfl, Nat.le_of_ble_eq_true rfl⟩ ⟨Nat.le_of_ble_eq_true rfl, Nat.le_of_ble_eq_true rfl⟩ rfl (Nat.le_of_ble_eq_true rfl) ?_
                   refine pm_iload (pc := 84) dX9_odds_84 rfl ?_
                   refine pm_cSR (pc := 86) dX9_odds_86 (c_partOf (pow_le8 (by omega) hn) (pow_le8 (by omega) hn) pow_1 hw) wq_X9_partOf wm_X9_182 wt_X9_partOf ⟨Nat.le_of_ble_eq_true rfl, Nat.le_of_ble_eq_true rfl⟩ ⟨Nat.le_of_ble_eq_true rfl, Nat.le_of_ble_eq_true rfl⟩ rfl (Nat.le_of_ble_eq_true rfl) ?_
                   refine pm_iret (pc := 89) rfl (Nat.le_refl _) (Nat.le_refl _) dX9_odds_89 ?_
                   exact XQ.r (by unfold d_odds; rw [if_neg hf]) hR xF.rf)
            · have hf : g_sn (x_g X) p < c := by have := b1_nt h57; omega
              refine pm_bipush (pc := 60) (v := nI 8) dX9_odds_60 (by decide) ?_
              refine pm_iload (pc := 62) dX9_odds_62 rfl ?_
              refine pm_isub (pc := 64) dX9_odds_64 ?_
              refine pm_goto (pc := 65) (tgt := 70) dX9_odds_65 rfl ?_
              first
                | (refine pm_top (x' := nI (8 - q)) (pk_sub hq) ?_
                   refine pm_istore (pc := 70) dX9_odds_70 (by decide) rfl ?_
                   refine pm_iload (pc := 72) dX9_odds_72 rfl ?_
                   refine pm_iload_n (pc := 74) dX9_odds_74 rfl ?_
                   refine pm_cSR (pc := 75) dX9_odds_75 (c_power (b := 8 - q) (by omega) hn) wq_X9_power wm_X9_178 wt_X9_power ⟨Nat.le_of_ble_eq_true rfl, Nat.le_of_ble_eq_true rfl⟩ ⟨Nat.le_of_ble_eq_true rfl, Nat.le_of_ble_eq_true rfl⟩ rfl (Nat.le_of_ble_eq_true rfl) ?_
                   refine pm_bipush (pc := 78) (v := nI 8) dX9_odds_78 (by decide) ?_
                   refine pm_iload_n (pc := 80) dX9_odds_80 rfl ?_
                   refine pm_cSR (pc := 81) dX9_odds_81 (c_power (b := 8) (by omega) hn) wq_X9_power wm_X9_178 wt_X9_power ⟨Nat.le_of_ble_eq_true rfl, Nat.le_of_ble_eq_true rfl⟩ ⟨Nat.le_of_ble_eq_true rfl, Nat.le_of_ble_eq_true rfl⟩ rfl (Nat.le_of_ble_eq_true rfl) ?_
                   refine pm_iload (pc := 84) dX9_odds_84 rfl ?_
                   refine pm_cSR (pc := 86) dX9_odds_86 (c_partOf (pow_le8 (by omega) hn) (pow_le8 (by omega) hn) pow_1 hw) wq_X9_partOf wm_X9_182 wt_X9_partOf ⟨Nat.le_of_ble_eq_true rfl, Nat.le_of_ble_eq_true rfl⟩ ⟨Nat.le_of_ble_eq_true rfl, Nat.le_of_ble_eq_true rfl⟩ rfl (Nat.le_of_ble_eq_true rfl) ?_
                   refine pm_iret (pc := 89) rfl (Nat.le_refl _) (Nat.le_refl _) dX9_odds_89 ?_
                   exact XQ.r (by unfold d_odds; rw [if_pos hf]) hR xF.rf)
                | (
                   refine pm_istore (pc := 70) dX9_odds_70 (by decide) rfl ?_
                   refine pm_iload (pc := 72) dX9_odds_72 rfl ?_
                   refine pm_iload_n (pc := 74) dX9_odds_74 rfl ?_
                   refine pm_cSR (pc := 75) dX9_odds_75 (c_power (b := 8) (by omega) hn) wq_X9_power wm_X9_178 wt_X9_power ⟨Nat.le_of_ble_eq_true rfl, Nat.le_of_ble_eq_true rfl⟩ ⟨Nat.le_of_ble_eq_true rfl, Nat.le_of_ble_eq_true rfl⟩ rfl (Nat.le_of_ble_eq_true rfl) ?_
                   refine pm_bipush (pc := 78) (v := nI 8) dX9_odds_78 (by decide) ?_
                   refine pm_iload_n (pc := 80) dX9_odds_80 rfl ?_
                   refine pm_cSR (pc := 81) dX9_odds_81 (c_power (b := 8) (by omega) hn) wq_X9_power wm_X9_178 wt_X9_power ⟨Nat.le_of_ble_eq_true rfl, Nat.le_of_ble_eq_true rfl⟩ ⟨Nat.le_of_ble_eq_true rfl, Nat.le_of_ble_eq_true rfl⟩ rfl (Nat.le_of_ble_eq_true rfl) ?_
                   refine pm_iload (pc := 84) dX9_odds_84 rfl ?_
                   refine pm_cSR (pc := 86) dX9_odds_86 (c_partOf (pow_le8 (by omega) hn) (pow_le8 (by omega) hn) pow_1 hw) wq_X9_partOf wm_X9_182 wt_X9_partOf ⟨Nat.le_of_ble_eq_true rfl, Nat.le_of_ble_eq_true rfl⟩ ⟨Nat.le_of_ble_eq_true rfl, Nat.le_of_ble_eq_true rfl⟩ rfl (Nat.le_of_ble_eq_true rfl) ?_
                   refine pm_iret (pc := 89) rfl (Nat.le_refl _) (Nat.le_refl _) dX9_odds_89 ?_
                   exact XQ.r (by unfold d_odds; rw [if_neg hf]) hR xF.rf)
          · refine pm_iconst (pc := 46) (v := (-1)) dX9_odds_46 (by decide) ?_
            refine pm_iret (pc := 47) rfl (Nat.le_refl _) (Nat.le_refl _) dX9_odds_47 ?_
            first | (rw [show sp_odds X p c n q w = (-1, X) from if_pos (fun z => b1_nf h4 z.1)]; exact XQ.r rfl hR xF.rf) | (rw [show sp_odds X p c n q w = (-1, X) from if_pos (fun z => b1_nf h14 z.2.1)]; exact XQ.r rfl hR xF.rf) | (rw [show sp_odds X p c n q w = (-1, X) from if_pos (fun z => b1_nf h24 z.2.2.1)]; exact XQ.r rfl hR xF.rf) | (rw [show sp_odds X p c n q w = (-1, X) from if_pos (fun z => b1_nf h35 z.2.2.2.1)]; exact XQ.r rfl hR xF.rf) | (rw [show sp_odds X p c n q w = (-1, X) from if_pos (fun z => b1_nf h43 z.2.2.2.2)]; exact XQ.r rfl hR xF.rf)
theorem d_part_1 {a w : Nat} (ha : 1 ≤ a) : d_part 1 1 w = d_part a a w := by
  unfold d_part
  rw [Nat.gcd_self, Nat.gcd_self]
  have e : a / a = 1 := Nat.div_self ha
  split <;> rw [e]
set_option maxRecDepth 100000 in
set_option maxHeartbeats 1000000 in
theorem l_yodds {I : pm_I} {L : pm_L} {X : xS} (hR : MR I L X) (hX : xInv X) {p c n q w : Nat} (hp : p < 6) (hc : c ≤ 99) (hn : n ≤ 6) (hq : q ≤ 8) (hw : w ≤ 1) {la : Launch} {P : pm_E} : ∀ (m i : Nat), i + m = n → (g_sn (x_g X) p < c ∨ i = 0) → PW la P yX10_odds cX10_odds 9 (some (.int)) (pm_rm 2 0 0) (pm_Tg P (YQ I L (nI (d_odds (x_g X) p c n q w)) X) 0 0) 0 0 66 [some (.ref 40), some (.int (nI p)), some (.int (nI c)), some (.int (nI n)), some (.int (nI q)), some (.int (nI w)), some (.int (nI ((8 - q) ^ i))), some (.int (nI (8 ^ i))), some (.int (nI i))] [] GG I L
  | 0, i, hm, hf => by
    have e : i = n := by omega
    subst e
    have hG := hR.1
    have hI := hX.s
    refine pm_iload (pc := 66) dX10_odds_66 rfl ?_
    refine pm_iload_n (pc := 68) dX10_odds_68 rfl ?_
    refine pm_icmp_ge (pc := 69) (tgt := 105) dX10_odds_69 rfl (fun h69 => ?_) (fun h69 => (by simp (disch := omega) only [pm_eqI, pm_ltI, pm_leI, nI_toInt, pm_t0, pm_t1, pm_tm1] at h69; omega))
    refine pm_iload (pc := 105) dX10_odds_105 rfl ?_
    refine pm_iload (pc := 107) dX10_odds_107 rfl ?_
    refine pm_iload (pc := 109) dX10_odds_109 rfl ?_
    refine pm_cSR (pc := 111) dX10_odds_111 (c_mPartOf (pow_le8 (b := 8 - q) (n := i) (by omega) (by omega)) (pow_le8 (b := 8) (n := i) (by omega) (by omega)) pow_1 hw) wq_X10_partOf wm_X10_257 wt_X10_partOf ⟨Nat.le_of_ble_eq_true rfl, Nat.le_of_ble_eq_true rfl⟩ ⟨Nat.le_of_ble_eq_true rfl, Nat.le_of_ble_eq_true rfl⟩ rfl (Nat.le_of_ble_eq_true rfl) ?_
    refine pm_iret (pc := 114) rfl (Nat.le_refl _) (Nat.le_refl _) dX10_odds_114 ?_
    exact YQ.r (by
      unfold d_odds
      rcases hf with hf | hf
      · rw [if_pos hf]
      · subst hf
        show nI (d_part 1 1 w) = nI (d_part _ 1 w)
        by_cases e : g_sn (x_g X) p < c
        · rw [if_pos e]; first | done | rfl
        · rw [if_neg e]; first | done | rfl) hR yF.rf
  | m + 1, i, hm, hf => by
    have hG := hR.1
    have hI := hX.s
    have hs := (hI.2.2 p hp).1
    refine pm_iload (pc := 66) dX10_odds_66 rfl ?_
    refine pm_iload_n (pc := 68) dX10_odds_68 rfl ?_
    refine pm_icmp_ge (pc := 69) (tgt := 105) dX10_odds_69 rfl (fun h69 => (by simp (disch := omega) only [pm_eqI, pm_ltI, pm_leI, nI_toInt, pm_t0, pm_t1, pm_tm1] at h69; omega)) (fun h69 => ?_)
    refine pm_iload_n (pc := 72) dX10_odds_72 rfl ?_
    refine pm_aload_n (pc := 73) dX10_odds_73 rfl ?_
    refine pm_getr (pc := 74) (ci := 8) (C0 := RX10) (T := TX10) (N := 34) (j := 7) rfl rfl in_X10 (by decide) wf_X10_28 rfl dX10_odds_74 ?_
    refine pm_iload_n (pc := 77) dX10_odds_77 rfl ?_
    refine pm_iald (pc := 78) rfl (by omega) (by decide) dX10_odds_78 ?_
    refine pm_icmp_le (pc := 79) (tgt := 105) dX10_odds_79 rfl (fun h79 => ?_) (fun h79 => ?_)
    · have hf2 : ¬ g_sn (x_g X) p < c := by simp (disch := omega) only [hG.sn hp, pm_leI, nI_toInt] at h79; omega
      refine pm_iload (pc := 105) dX10_odds_105 rfl ?_
      refine pm_iload (pc := 107) dX10_odds_107 rfl ?_
      refine pm_iload (pc := 109) dX10_odds_109 rfl ?_
      refine pm_cSR (pc := 111) dX10_odds_111 (c_mPartOf (pow_le8 (b := 8 - q) (n := i) (by omega) (by omega)) (pow_le8 (b := 8) (n := i) (by omega) (by omega)) pow_1 hw) wq_X10_partOf wm_X10_257 wt_X10_partOf ⟨Nat.le_of_ble_eq_true rfl, Nat.le_of_ble_eq_true rfl⟩ ⟨Nat.le_of_ble_eq_true rfl, Nat.le_of_ble_eq_true rfl⟩ rfl (Nat.le_of_ble_eq_true rfl) ?_
      refine pm_iret (pc := 114) rfl (Nat.le_refl _) (Nat.le_refl _) dX10_odds_114 ?_
      exact YQ.r (by
        have e0 : i = 0 := hf.resolve_left hf2
        subst e0
        unfold d_odds
        rw [if_neg hf2]
        show nI (d_part 1 1 w) = _
        rw [d_part_1 pow_1]) hR yF.rf
    · have hf2 : g_sn (x_g X) p < c := by simp (disch := omega) only [hG.sn hp, pm_leI, nI_toInt] at h79; omega
      refine pm_iload (pc := 82) dX10_odds_82 rfl ?_
      refine pm_bipush (pc := 84) (v := nI 8) dX10_odds_84 (by decide) ?_
      refine pm_iload (pc := 86) dX10_odds_86 rfl ?_
      refine pm_isub (pc := 88) dX10_odds_88 ?_
      refine pm_top (pk_sub hq) ?_
      refine pm_imul (pc := 89) dX10_odds_89 ?_
      refine pm_top (x' := nI ((8 - q) ^ (i + 1))) (by rw [pk_mul, Nat.pow_succ]) ?_
      refine pm_istore (pc := 90) dX10_odds_90 (by decide) rfl ?_
      refine pm_iload (pc := 92) dX10_odds_92 rfl ?_
      refine pm_bipush (pc := 94) (v := nI 8) dX10_odds_94 (by decide) ?_
      refine pm_imul (pc := 96) dX10_odds_96 ?_
      refine pm_top (x' := nI (8 ^ (i + 1))) (by rw [pk_mul, Nat.pow_succ]) ?_
      refine pm_istore (pc := 97) dX10_odds_97 (by decide) rfl ?_
      refine pm_iinc (pc := 99) dX10_odds_99 rfl (pm_inc1 _) (by decide) rfl ?_
      refine pm_goto (pc := 102) (tgt := 66) dX10_odds_102 rfl ?_
      exact l_yodds hR hX hp hc hn hq hw m (i + 1) (by omega) (Or.inl hf2)
set_option maxRecDepth 100000 in
set_option maxHeartbeats 1000000 in
theorem y_odds {I : pm_I} {L : pm_L} {X : xS} (hR : MR I L X) (hX : xInv X) {p c n q w : Int32} : PC 2 0 0 yX10_odds cX10_odds 9 (some (.int)) [.ref 40, .int p, .int c, .int n, .int q, .int w] GG I L (YQ I L (sp_odds X p c n q w).1 (sp_odds X p c n q w).2) := by
  have hG := hR.1
  have hI := hX.s
  have h12 := hI.n12
  refine PC.of [some (.ref 40), some (.int p), some (.int c), some (.int n), some (.int q), some (.int w), none, none, none] (by decide) (Nat.le_of_ble_eq_true rfl) rfl (fun l P => ?_)
  refine pm_iload_n (pc := 0) dX10_odds_0 rfl ?_
  refine pm_cSR (pc := 1) dX10_odds_1 (c_mIsPlace) wq_X10_isPlace wm_X10_124 wt_X10_isPlace ⟨Nat.le_of_ble_eq_true rfl, Nat.le_of_ble_eq_true rfl⟩ ⟨Nat.le_of_ble_eq_true rfl, Nat.le_of_ble_eq_true rfl⟩ rfl (Nat.le_of_ble_eq_true rfl) ?_
  refine pm_if_eq (pc := 4) (tgt := 55) dX10_odds_4 rfl (fun h4 => ?_) (fun h4 => ?_)
  · refine pm_iconst (pc := 55) (v := (-1)) dX10_odds_55 (by decide) ?_
    refine pm_iret (pc := 56) rfl (Nat.le_refl _) (Nat.le_refl _) dX10_odds_56 ?_
    first | (rw [show sp_odds X p c n q w = (-1, X) from if_pos (fun z => b1_nf h4 z.1)]; exact YQ.r rfl hR yF.rf) | (rw [show sp_odds X p c n q w = (-1, X) from if_pos (fun z => b1_nf h16 z.2.1)]; exact YQ.r rfl hR yF.rf) | (rw [show sp_odds X p c n q w = (-1, X) from if_pos (fun z => b1_nf h28 z.2.2.1)]; exact YQ.r rfl hR yF.rf) | (rw [show sp_odds X p c n q w = (-1, X) from if_pos (fun z => b1_nf h41 z.2.2.2.1)]; exact YQ.r rfl hR yF.rf) | (rw [show sp_odds X p c n q w = (-1, X) from if_pos (fun z => b1_nf h52 z.2.2.2.2)]; exact YQ.r rfl hR yF.rf)
  · refine pm_iload_n (pc := 7) dX10_odds_7 rfl ?_
    refine pm_i2l (pc := 8) dX10_odds_8 ?_
    refine pm_lconst (pc := 9) (v := 0) dX10_odds_9 (by decide) ?_
    refine pm_ldc2 (pc := 10) wk_X10_106 dX10_odds_10 ?_
    refine pm_cSR (pc := 13) dX10_odds_13 (c_mInI (a := 0) (b := 99) (by decide) (by decide)) wq_X10_in wm_X10_87 wt_X10_in ⟨Nat.le_of_ble_eq_true rfl, Nat.le_of_ble_eq_true rfl⟩ ⟨Nat.le_of_ble_eq_true rfl, Nat.le_of_ble_eq_true rfl⟩ rfl (Nat.le_of_ble_eq_true rfl) ?_
    refine pm_if_eq (pc := 16) (tgt := 55) dX10_odds_16 rfl (fun h16 => ?_) (fun h16 => ?_)
    · refine pm_iconst (pc := 55) (v := (-1)) dX10_odds_55 (by decide) ?_
      refine pm_iret (pc := 56) rfl (Nat.le_refl _) (Nat.le_refl _) dX10_odds_56 ?_
      first | (rw [show sp_odds X p c n q w = (-1, X) from if_pos (fun z => b1_nf h4 z.1)]; exact YQ.r rfl hR yF.rf) | (rw [show sp_odds X p c n q w = (-1, X) from if_pos (fun z => b1_nf h16 z.2.1)]; exact YQ.r rfl hR yF.rf) | (rw [show sp_odds X p c n q w = (-1, X) from if_pos (fun z => b1_nf h28 z.2.2.1)]; exact YQ.r rfl hR yF.rf) | (rw [show sp_odds X p c n q w = (-1, X) from if_pos (fun z => b1_nf h41 z.2.2.2.1)]; exact YQ.r rfl hR yF.rf) | (rw [show sp_odds X p c n q w = (-1, X) from if_pos (fun z => b1_nf h52 z.2.2.2.2)]; exact YQ.r rfl hR yF.rf)
    · refine pm_iload_n (pc := 19) dX10_odds_19 rfl ?_
      refine pm_i2l (pc := 20) dX10_odds_20 ?_
      refine pm_lconst (pc := 21) (v := 1) dX10_odds_21 (by decide) ?_
      refine pm_ldc2 (pc := 22) wk_X10_108 dX10_odds_22 ?_
      refine pm_cSR (pc := 25) dX10_odds_25 (c_mInI (a := 1) (b := 6) (by decide) (by decide)) wq_X10_in wm_X10_87 wt_X10_in ⟨Nat.le_of_ble_eq_true rfl, Nat.le_of_ble_eq_true rfl⟩ ⟨Nat.le_of_ble_eq_true rfl, Nat.le_of_ble_eq_true rfl⟩ rfl (Nat.le_of_ble_eq_true rfl) ?_
      refine pm_if_eq (pc := 28) (tgt := 55) dX10_odds_28 rfl (fun h28 => ?_) (fun h28 => ?_)
      · refine pm_iconst (pc := 55) (v := (-1)) dX10_odds_55 (by decide) ?_
        refine pm_iret (pc := 56) rfl (Nat.le_refl _) (Nat.le_refl _) dX10_odds_56 ?_
        first | (rw [show sp_odds X p c n q w = (-1, X) from if_pos (fun z => b1_nf h4 z.1)]; exact YQ.r rfl hR yF.rf) | (rw [show sp_odds X p c n q w = (-1, X) from if_pos (fun z => b1_nf h16 z.2.1)]; exact YQ.r rfl hR yF.rf) | (rw [show sp_odds X p c n q w = (-1, X) from if_pos (fun z => b1_nf h28 z.2.2.1)]; exact YQ.r rfl hR yF.rf) | (rw [show sp_odds X p c n q w = (-1, X) from if_pos (fun z => b1_nf h41 z.2.2.2.1)]; exact YQ.r rfl hR yF.rf) | (rw [show sp_odds X p c n q w = (-1, X) from if_pos (fun z => b1_nf h52 z.2.2.2.2)]; exact YQ.r rfl hR yF.rf)
      · refine pm_iload (pc := 31) dX10_odds_31 rfl ?_
        refine pm_i2l (pc := 33) dX10_odds_33 ?_
        refine pm_lconst (pc := 34) (v := 0) dX10_odds_34 (by decide) ?_
        refine pm_ldc2 (pc := 35) wk_X10_143 dX10_odds_35 ?_
        refine pm_cSR (pc := 38) dX10_odds_38 (c_mInI (a := 0) (b := 8) (by decide) (by decide)) wq_X10_in wm_X10_87 wt_X10_in ⟨Nat.le_of_ble_eq_true rfl, Nat.le_of_ble_eq_true rfl⟩ ⟨Nat.le_of_ble_eq_true rfl, Nat.le_of_ble_eq_true rfl⟩ rfl (Nat.le_of_ble_eq_true rfl) ?_
        refine pm_if_eq (pc := 41) (tgt := 55) dX10_odds_41 rfl (fun h41 => ?_) (fun h41 => ?_)
        · refine pm_iconst (pc := 55) (v := (-1)) dX10_odds_55 (by decide) ?_
          refine pm_iret (pc := 56) rfl (Nat.le_refl _) (Nat.le_refl _) dX10_odds_56 ?_
          first | (rw [show sp_odds X p c n q w = (-1, X) from if_pos (fun z => b1_nf h4 z.1)]; exact YQ.r rfl hR yF.rf) | (rw [show sp_odds X p c n q w = (-1, X) from if_pos (fun z => b1_nf h16 z.2.1)]; exact YQ.r rfl hR yF.rf) | (rw [show sp_odds X p c n q w = (-1, X) from if_pos (fun z => b1_nf h28 z.2.2.1)]; exact YQ.r rfl hR yF.rf) | (rw [show sp_odds X p c n q w = (-1, X) from if_pos (fun z => b1_nf h41 z.2.2.2.1)]; exact YQ.r rfl hR yF.rf) | (rw [show sp_odds X p c n q w = (-1, X) from if_pos (fun z => b1_nf h52 z.2.2.2.2)]; exact YQ.r rfl hR yF.rf)
        · refine pm_iload (pc := 44) dX10_odds_44 rfl ?_
          refine pm_i2l (pc := 46) dX10_odds_46 ?_
          refine pm_lconst (pc := 47) (v := 0) dX10_odds_47 (by decide) ?_
          refine pm_lconst (pc := 48) (v := 1) dX10_odds_48 (by decide) ?_
          refine pm_cSR (pc := 49) dX10_odds_49 (c_mInI (a := 0) (b := 1) (by decide) (by decide)) wq_X10_in wm_X10_87 wt_X10_in ⟨Nat.le_of_ble_eq_true rfl, Nat.le_of_ble_eq_true rfl⟩ ⟨Nat.le_of_ble_eq_true rfl, Nat.le_of_ble_eq_true rfl⟩ rfl (Nat.le_of_ble_eq_true rfl) ?_
          refine pm_if_ne (pc := 52) (tgt := 57) dX10_odds_52 rfl (fun h52 => ?_) (fun h52 => ?_)
          · obtain ⟨p, hp, rfl⟩ := isPl_of (b1_nt h4)
            obtain ⟨c, hc, rfl⟩ := iR_of (x := c) (b := 99) (by decide) (b1_nt h16)
            obtain ⟨n, hn1, hn, rfl⟩ := iR1_of (b := 6) (by decide) (b1_nt h28)
            obtain ⟨q, hq, rfl⟩ := iR_of (x := q) (b := 8) (by decide) (b1_nt h41)
            obtain ⟨w, hw, rfl⟩ := iR_of (x := w) (b := 1) (by decide) (b1_nt h52)
            rw [sp_odds_t hp hc hn1 hn hq hw]
            refine pm_iconst (pc := 57) (v := nI 1) dX10_odds_57 (by decide) ?_
            refine pm_istore (pc := 58) dX10_odds_58 (by decide) rfl ?_
            refine pm_iconst (pc := 60) (v := nI 1) dX10_odds_60 (by decide) ?_
            refine pm_istore (pc := 61) dX10_odds_61 (by decide) rfl ?_
            refine pm_iconst (pc := 63) (v := nI 0) dX10_odds_63 (by decide) ?_
            refine pm_istore (pc := 64) dX10_odds_64 (by decide) rfl ?_
            exact l_yodds hR hX hp hc hn hq hw n 0 (by omega) (Or.inr rfl)
          · refine pm_iconst (pc := 55) (v := (-1)) dX10_odds_55 (by decide) ?_
            refine pm_iret (pc := 56) rfl (Nat.le_refl _) (Nat.le_refl _) dX10_odds_56 ?_
            first | (rw [show sp_odds X p c n q w = (-1, X) from if_pos (fun z => b1_nf h4 z.1)]; exact YQ.r rfl hR yF.rf) | (rw [show sp_odds X p c n q w = (-1, X) from if_pos (fun z => b1_nf h16 z.2.1)]; exact YQ.r rfl hR yF.rf) | (rw [show sp_odds X p c n q w = (-1, X) from if_pos (fun z => b1_nf h28 z.2.2.1)]; exact YQ.r rfl hR yF.rf) | (rw [show sp_odds X p c n q w = (-1, X) from if_pos (fun z => b1_nf h41 z.2.2.2.1)]; exact YQ.r rfl hR yF.rf) | (rw [show sp_odds X p c n q w = (-1, X) from if_pos (fun z => b1_nf h52 z.2.2.2.2)]; exact YQ.r rfl hR yF.rf)
