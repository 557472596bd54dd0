def y_B (I : pm_I) (t : List Nat) : Prop := I 40 10 = nI t.length ∧ ∀ k, k < t.length → I 48 k = nI (t.getD k 0)
/-- reading stands at a, the fault is φ -/
def y_S (I J : pm_I) (a : Nat) (φ : Int32) : Prop := (∀ c : Nat, c ≠ 40 → J c = I c) ∧ J 40 11 = nI a ∧ J 40 12 = φ ∧ ∀ k : Nat, k ≠ 11 → k ≠ 12 → J 40 k = I 40 k
theorem y_S.at {I J : pm_I} {a : Nat} {φ : Int32} (h : y_S I J a φ) (b : Nat) : y_S I (pm_u J 40 (upd (J 40) 11 (nI b))) b φ := by
  refine ⟨fun c hc => (pm_un hc).trans (h.1 c hc), by rw [pm_us]; rfl, ?_, fun k h1 h2 => ?_⟩
  · rw [pm_us]; exact h.2.2.1
  · rw [pm_us]; show (if k = 11 then _ else J 40 k) = _; rw [if_neg h1]; exact h.2.2.2 k h1 h2
theorem y_S.ft {I J : pm_I} {a : Nat} {φ : Int32} (h : y_S I J a φ) (ψ : Int32) : y_S I (pm_u J 40 (upd (J 40) 12 ψ)) a ψ := by
  refine ⟨fun c hc => (pm_un hc).trans (h.1 c hc), ?_, by rw [pm_us]; rfl, fun k h1 h2 => ?_⟩
  · rw [pm_us]; exact h.2.1
  · rw [pm_us]; show (if k = 12 then _ else J 40 k) = _; rw [if_neg h2]; exact h.2.2.2 k h1 h2
theorem y_S.B {I J : pm_I} {a : Nat} {φ : Int32} {t : List Nat} (h : y_S I J a φ) (hB : y_B I t) : J 40 10 = nI t.length ∧ ∀ k, k < t.length → J 48 k = nI (t.getD k 0) := ⟨by rw [h.2.2.2 10 (by decide) (by decide)]; exact hB.1, fun k hk => by rw [h.1 48 (by decide)]; exact hB.2 k hk⟩
def y_c (t : List Nat) (a : Nat) : Int32 := if z_sk t a < t.length then nI (t.getD (z_sk t a) 0) else -1
theorem z_F_0 {a : Nat} (h : a ≤ 120) : ¬ z_F a = 0 := fun z => by
  have h1 := z_F_lt h
  rw [z] at h1; exact absurd h1 (by decide)
/-- behind a reading: it stands there, or a fault is told -/
def y_P {α : Type} (t : List Nat) (I J : pm_I) (σ : Nat × Option α) : Prop := match σ.2 with
  | none => ∃ a, a ≤ t.length ∧ y_S I J a (z_F σ.1)
  | some _ => y_S I J σ.1 0
theorem y_P.n {α : Type} {t : List Nat} {I J : pm_I} {σ : Nat × Option α} (h : y_P t I J σ) (e : σ.2 = none) : ∃ a, a ≤ t.length ∧ y_S I J a (z_F σ.1) := by unfold y_P at h; rw [e] at h; exact h
theorem y_P.s {α : Type} {t : List Nat} {I J : pm_I} {σ : Nat × Option α} {v : α} (h : y_P t I J σ) (e : σ.2 = some v) : y_S I J σ.1 0 := by unfold y_P at h; rw [e] at h; exact h
theorem y_P.mn {α : Type} {t : List Nat} {I J : pm_I} {σ : Nat × Option α} {a : Nat} (e : σ.2 = none) (ha : a ≤ t.length) (h : y_S I J a (z_F σ.1)) : y_P t I J σ := by unfold y_P; rw [e]; exact ⟨a, ha, h⟩
theorem y_P.ms {α : Type} {t : List Nat} {I J : pm_I} {σ : Nat × Option α} {v : α} (e : σ.2 = some v) (h : y_S I J σ.1 0) : y_P t I J σ := by unfold y_P; rw [e]; exact h
set_option maxRecDepth 100000 in
set_option maxHeartbeats 1000000 in
theorem l_he38 {I : pm_I} {L : pm_L} {t : List Nat} (hB : y_B I t) (ht : z_ok t) {φ : Int32} {a0 : Nat} {la : Launch} {P : pm_E} {J : pm_I} (hS : y_S I J (z_sk t a0) φ) (hle : z_sk t a0 ≤ t.length) : PW la P yX10_here cX10_here 1 (some (.int)) (pm_rm 0 0 0) (pm_Tg P (QI GG (fun r I' L' => (r = y_c t a0 ∧ y_S I I' (z_sk t a0) φ) ∧ L' = L)) 0 0) 0 0 38 [some (.ref 40)] [] GG J L := by
  have h120 := ht.1
  obtain ⟨eB1, eB2⟩ := hS.B hB
  refine pm_aload_n (pc := 38) dX10_here_38 rfl ?_
  refine pm_get (pc := 39) (ci := 8) (C0 := RX10) (T := TX10) (N := 34) (j := 11) rfl rfl in_X10 (by decide) wf_X10_154 rfl dX10_here_39 ?_
  rw [hS.2.1]
  refine pm_aload_n (pc := 42) dX10_here_42 rfl ?_
  refine pm_get (pc := 43) (ci := 8) (C0 := RX10) (T := TX10) (N := 34) (j := 10) rfl rfl in_X10 (by decide) wf_X10_151 rfl dX10_here_43 ?_
  rw [eB1]
  refine pm_icmp_ge (pc := 46) (tgt := 61) dX10_here_46 rfl (fun h46 => ?_) (fun h46 => ?_)
  · simp (disch := omega) only [pm_eqI, pm_ltI, pm_leI, nI_toInt, pm_t0, pm_t1, pm_tm1] at h46
    have ec : y_c t a0 = -1 := if_neg (by omega)
    refine pm_iconst (pc := 61) (v := (-1)) dX10_here_61 (by decide) ?_
    refine pm_iret (pc := 62) rfl (Nat.le_refl _) (Nat.le_refl _) dX10_here_62 ?_
    exact QI.r ⟨⟨ec.symm, hS⟩, rfl⟩
  · simp (disch := omega) only [pm_eqI, pm_ltI, pm_leI, nI_toInt, pm_t0, pm_t1, pm_tm1] at h46
    have ec : y_c t a0 = nI (t.getD (z_sk t a0) 0) := if_pos (by omega)
    refine pm_aload_n (pc := 49) dX10_here_49 rfl ?_
    refine pm_getr (pc := 50) (ci := 8) (C0 := RX10) (T := TX10) (N := 34) (j := 9) rfl rfl in_X10 (by decide) wf_X10_31 rfl dX10_here_50 ?_
    refine pm_aload_n (pc := 53) dX10_here_53 rfl ?_
    refine pm_get (pc := 54) (ci := 8) (C0 := RX10) (T := TX10) (N := 34) (j := 11) rfl rfl in_X10 (by decide) wf_X10_154 rfl dX10_here_54 ?_
    rw [hS.2.1]
    refine pm_iald (pc := 57) rfl (by omega) (by decide) dX10_here_57 ?_
    rw [eB2 _ (by omega)]
    refine pm_goto (pc := 58) (tgt := 62) dX10_here_58 rfl ?_
    refine pm_iret (pc := 62) rfl (Nat.le_refl _) (Nat.le_refl _) dX10_here_62 ?_
    exact QI.r ⟨⟨ec.symm, hS⟩, rfl⟩
set_option maxRecDepth 100000 in
set_option maxHeartbeats 1000000 in
theorem l_he0 {I : pm_I} {L : pm_L} {t : List Nat} (hB : y_B I t) (ht : z_ok t) {φ : Int32} {a0 : Nat} {la : Launch} {P : pm_E} : ∀ (m a : Nat) (J : pm_I), a + m = t.length → y_S I J a φ → z_sk t a = z_sk t a0 → PW la P yX10_here cX10_here 1 (some (.int)) (pm_rm 0 0 0) (pm_Tg P (QI GG (fun r I' L' => (r = y_c t a0 ∧ y_S I I' (z_sk t a0) φ) ∧ L' = L)) 0 0) 0 0 0 [some (.ref 40)] [] GG J L
  | 0, a, J, hm, hS, hT => by
    have h120 := ht.1
    obtain ⟨eB1, eB2⟩ := hS.B hB
    refine pm_aload_n (pc := 0) dX10_here_0 rfl ?_
    refine pm_get (pc := 1) (ci := 8) (C0 := RX10) (T := TX10) (N := 34) (j := 11) rfl rfl in_X10 (by decide) wf_X10_154 rfl dX10_here_1 ?_
    rw [hS.2.1]
    refine pm_aload_n (pc := 4) dX10_here_4 rfl ?_
    refine pm_get (pc := 5) (ci := 8) (C0 := RX10) (T := TX10) (N := 34) (j := 10) rfl rfl in_X10 (by decide) wf_X10_151 rfl dX10_here_5 ?_
    rw [eB1]
    refine pm_icmp_ge (pc := 8) (tgt := 38) dX10_here_8 rfl (fun h8 => ?_) (fun h8 => (by simp (disch := omega) only [pm_eqI, pm_ltI, pm_leI, nI_toInt, pm_t0, pm_t1, pm_tm1] at h8; omega))
    rw [z_sk_n (fun z => by omega)] at hT
    subst hT
    exact l_he38 hB ht hS (by omega)
  | m + 1, a, J, hm, hS, hT => by
    have h120 := ht.1
    obtain ⟨eB1, eB2⟩ := hS.B hB
    have ha : a < t.length := by omega
    have hby := z_byte ht ha
    have k32 : nI (t.getD a 0) = nI 32 ↔ t.getD a 0 = 32 := nI_eq (by omega) (by decide)
    refine pm_aload_n (pc := 0) dX10_here_0 rfl ?_
    refine pm_get (pc := 1) (ci := 8) (C0 := RX10) (T := TX10) (N := 34) (j := 11) rfl rfl in_X10 (by decide) wf_X10_154 rfl dX10_here_1 ?_
    rw [hS.2.1]
    refine pm_aload_n (pc := 4) dX10_here_4 rfl ?_
    refine pm_get (pc := 5) (ci := 8) (C0 := RX10) (T := TX10) (N := 34) (j := 10) rfl rfl in_X10 (by decide) wf_X10_151 rfl dX10_here_5 ?_
    rw [eB1]
    refine pm_icmp_ge (pc := 8) (tgt := 38) dX10_here_8 rfl (fun h8 => (by simp (disch := omega) only [pm_eqI, pm_ltI, pm_leI, nI_toInt, pm_t0, pm_t1, pm_tm1] at h8; omega)) (fun h8 => ?_)
    refine pm_aload_n (pc := 11) dX10_here_11 rfl ?_
    refine pm_getr (pc := 12) (ci := 8) (C0 := RX10) (T := TX10) (N := 34) (j := 9) rfl rfl in_X10 (by decide) wf_X10_31 rfl dX10_here_12 ?_
    refine pm_aload_n (pc := 15) dX10_here_15 rfl ?_
    refine pm_get (pc := 16) (ci := 8) (C0 := RX10) (T := TX10) (N := 34) (j := 11) rfl rfl in_X10 (by decide) wf_X10_154 rfl dX10_here_16 ?_
    rw [hS.2.1]
    refine pm_iald (pc := 19) rfl (by omega) (by decide) dX10_here_19 ?_
    rw [eB2 a ha]
    refine pm_bipush (pc := 20) (v := nI 32) dX10_here_20 (by decide) ?_
    refine pm_icmp_ne (pc := 22) (tgt := 38) dX10_here_22 rfl (fun h22 => ?_) (fun h22 => ?_)
    · rw [z_sk_n (fun z => h22 (k32.mpr z.2))] at hT
      subst hT
      exact l_he38 hB ht hS (by omega)
    · refine pm_aload_n (pc := 25) dX10_here_25 rfl ?_
      refine pm_dup (pc := 26) dX10_here_26 rfl ?_
      refine pm_get (pc := 27) (ci := 8) (C0 := RX10) (T := TX10) (N := 34) (j := 11) rfl rfl in_X10 (by decide) wf_X10_154 rfl dX10_here_27 ?_
      rw [hS.2.1]
      refine pm_iconst (pc := 30) (v := nI 1) dX10_here_30 (by decide) ?_
      refine pm_iadd (pc := 31) dX10_here_31 ?_
      refine pm_top (nI_add _ _) ?_
      refine pm_put (pc := 32) (ci := 8) (C0 := RX10) (T := TX10) (N := 34) (j := 11) (ty := .int) rfl rfl in_X10 tyX10 tyX10_ok nmX10 (by decide) wf_X10_154 rfl rfl (by decide +kernel) rfl rfl dX10_here_32 ?_
      refine pm_goto (pc := 35) (tgt := 0) dX10_here_35 rfl ?_
      exact l_he0 hB ht m (a + 1) _ (by omega) (hS.at (a + 1)) (by rw [← hT, z_sk_b ha (k32.mp h22)])
set_option maxRecDepth 100000 in
set_option maxHeartbeats 1000000 in
theorem c_here {I : pm_I} {L : pm_L} {J : pm_I} {t : List Nat} (hB : y_B I t) (ht : z_ok t) {a : Nat} (ha : a ≤ t.length) {φ : Int32} (hS : y_S I J a φ) : PC 0 0 0 yX10_here cX10_here 1 (some (.int)) [.ref 40] GG J L (QI GG (fun r I' L' => (r = y_c t a ∧ y_S I I' (z_sk t a) φ) ∧ L' = L)) := by
  refine PC.of [some (.ref 40)] (by decide) (Nat.le_of_ble_eq_true rfl) rfl (fun l P => ?_)
  exact l_he0 hB ht (t.length - a) a J (by omega) hS rfl
set_option maxRecDepth 100000 in
set_option maxHeartbeats 1000000 in
theorem c_fails {I : pm_I} {L : pm_L} {J : pm_I} {a : Nat} {φ : Int32} (hS : y_S I J a φ) {b : Nat} : PC 0 0 0 yX10_fails cX10_fails 2 none [.ref 40, .int (nI b)] GG J L (QV GG (fun I' L' => y_S I I' a (if φ = 0 then z_F b else φ) ∧ L' = L)) := by
  refine PC.of [some (.ref 40), some (.int (nI b))] (by decide) (Nat.le_of_ble_eq_true rfl) rfl (fun l P => ?_)
  refine pm_aload_n (pc := 0) dX10_fails_0 rfl ?_
  refine pm_aload_n (pc := 1) dX10_fails_1 rfl ?_
  refine pm_get (pc := 2) (ci := 8) (C0 := RX10) (T := TX10) (N := 34) (j := 12) rfl rfl in_X10 (by decide) wf_X10_157 rfl dX10_fails_2 ?_
  rw [hS.2.2.1]
  refine pm_if_ne (pc := 5) (tgt := 15) dX10_fails_5 rfl (fun h5 => ?_) (fun h5 => ?_)
  · rw [if_neg h5]
    refine pm_aload_n (pc := 15) dX10_fails_15 rfl ?_
    refine pm_get (pc := 16) (ci := 8) (C0 := RX10) (T := TX10) (N := 34) (j := 12) rfl rfl in_X10 (by decide) wf_X10_157 rfl dX10_fails_16 ?_
    refine pm_put (pc := 19) (ci := 8) (C0 := RX10) (T := TX10) (N := 34) (j := 12) (ty := .int) rfl rfl in_X10 tyX10 tyX10_ok nmX10 (by decide) wf_X10_157 rfl rfl (by decide +kernel) rfl rfl dX10_fails_19 ?_
    refine pm_vret (pc := 22) rfl (Nat.le_refl _) (Nat.le_refl _) dX10_fails_22 ?_
    first
      | exact QV.r ⟨hS.ft _, rfl⟩
      | (rw [hS.2.2.1]; exact QV.r ⟨hS.ft _, rfl⟩)
  · rw [if_pos h5]
    refine pm_bipush (pc := 8) (v := (-20)) dX10_fails_8 (by decide) ?_
    refine pm_iload_n (pc := 10) dX10_fails_10 rfl ?_
    refine pm_isub (pc := 11) dX10_fails_11 ?_
    refine pm_goto (pc := 12) (tgt := 19) dX10_fails_12 rfl ?_
    refine pm_put (pc := 19) (ci := 8) (C0 := RX10) (T := TX10) (N := 34) (j := 12) (ty := .int) rfl rfl in_X10 tyX10 tyX10_ok nmX10 (by decide) wf_X10_157 rfl rfl (by decide +kernel) rfl rfl dX10_fails_19 ?_
    refine pm_vret (pc := 22) rfl (Nat.le_refl _) (Nat.le_refl _) dX10_fails_22 ?_
    first
      | exact QV.r ⟨hS.ft _, rfl⟩
      | (rw [hS.2.2.1]; exact QV.r ⟨hS.ft _, rfl⟩)
abbrev y_f (lo hi : Nat) (f : Nat → Option Nat) : Prop := ∀ c, c < 127 → f c = if lo ≤ c ∧ c ≤ hi then some (c - lo) else none
theorem y_cR {t : List Nat} (ht : z_ok t) {a : Nat} (ha : a ≤ t.length) {lo hi : Nat} (h1 : 1 ≤ lo) : (iR (y_c t a) lo hi ↔ z_sk t a < t.length ∧ lo ≤ t.getD (z_sk t a) 0 ∧ t.getD (z_sk t a) 0 ≤ hi) := by
  unfold y_c iR
  by_cases h : z_sk t a < t.length
  · have hb := z_byte ht h
    rw [if_pos h, nI_toInt (by omega)]; omega
  · rw [if_neg h, show ((-1 : Int32)).toInt = -1 from rfl]; omega
theorem z_p_f {t : List Nat} (ht : z_ok t) {lo hi : Nat} {f : Nat → Option Nat} (hf : y_f lo hi f) {a : Nat} : z_p t f a = if z_sk t a < t.length ∧ lo ≤ t.getD (z_sk t a) 0 ∧ t.getD (z_sk t a) 0 ≤ hi then some (t.getD (z_sk t a) 0 - lo) else none := by
  unfold z_p
  by_cases h : z_sk t a < t.length
  · have hb := z_byte ht h
    rw [if_pos h, hf _ (by omega)]
    by_cases e : lo ≤ t.getD (z_sk t a) 0 ∧ t.getD (z_sk t a) 0 ≤ hi
    · rw [if_pos e, if_pos ⟨h, e⟩]
    · rw [if_neg e, if_neg (fun z => e z.2)]
  · rw [if_neg h, if_neg (fun z => h z.1)]
set_option maxRecDepth 100000 in
set_option maxHeartbeats 1000000 in
theorem c_takeS {I : pm_I} {L : pm_L} {J : pm_I} {t : List Nat} (hB : y_B I t) (ht : z_ok t) {a : Nat} (ha : a ≤ t.length) {lo hi : Nat} (h1 : 1 ≤ lo) (h2 : hi < 127) (h3 : lo ≤ hi) {f : Nat → Option Nat} (hf : y_f lo hi f) (hS : y_S I J a 0) {τ : Nat × Option Nat} (hτ : τ = z_ch t f a) : PC 1 0 0 yX10_take cX10_take 4 (some (.int)) [.ref 40, .int (nI lo), .int (nI hi)] GG J L (QI GG (fun r I' L' => (r = nI (τ.2.getD 0) ∧ y_P t I I' τ) ∧ L' = L)) := by
  have h120 := ht.1
  obtain ⟨b1_, b2_, b3_⟩ := z_sk_sp ha
  refine PC.of [some (.ref 40), some (.int (nI lo)), some (.int (nI hi)), none] (by decide) (Nat.le_of_ble_eq_true rfl) rfl (fun l P => ?_)
  refine pm_aload_n (pc := 0) dX10_take_0 rfl ?_
  refine pm_cVI (pc := 1) dX10_take_1 (c_here hB ht ha hS) wq_X10_here wm_X10_160 wi_X10_here ws_X10_here rfl rfl ⟨Nat.le_of_ble_eq_true rfl, Nat.le_of_ble_eq_true rfl⟩ ⟨Nat.le_of_ble_eq_true rfl, Nat.le_of_ble_eq_true rfl⟩ rfl (Nat.le_of_ble_eq_true rfl) (fun r1 I1 L1 q1 => ?_)
  obtain ⟨⟨er1, S1⟩, el1⟩ := q1
  subst el1
  refine pm_istore_n (pc := 4) dX10_take_4 (by decide) rfl ?_
  refine pm_aload_n (pc := 5) dX10_take_5 rfl ?_
  refine pm_get (pc := 6) (ci := 8) (C0 := RX10) (T := TX10) (N := 34) (j := 12) rfl rfl in_X10 (by decide) wf_X10_157 rfl dX10_take_6 ?_
  rw [S1.2.2.1]
  refine pm_if_ne (pc := 9) (tgt := 24) dX10_take_9 rfl (fun h9 => absurd rfl h9) (fun h9 => ?_)
  refine pm_iload_n (pc := 12) dX10_take_12 rfl ?_
  refine pm_i2l (pc := 13) dX10_take_13 ?_
  refine pm_iload_n (pc := 14) dX10_take_14 rfl ?_
  refine pm_i2l (pc := 15) dX10_take_15 ?_
  refine pm_iload_n (pc := 16) dX10_take_16 rfl ?_
  refine pm_i2l (pc := 17) dX10_take_17 ?_
  refine pm_cSR (pc := 18) dX10_take_18 (c_mInI (a := (lo : Int)) (b := (hi : Int)) (by rw [Int32.toInt_toInt64, nI_toInt (by omega)]) (by rw [Int32.toInt_toInt64, nI_toInt (by omega)])) wq_X10_in wm_X10_87 wt_X10_in ⟨Nat.le_of_ble_eq_true rfl, Nat.le_of_ble_eq_true rfl⟩ ⟨Nat.le_of_ble_eq_true rfl, Nat.le_of_ble_eq_true rfl⟩ rfl (Nat.le_of_ble_eq_true rfl) ?_
  refine pm_if_ne (pc := 21) (tgt := 34) dX10_take_21 rfl (fun h21 => ?_) (fun h21 => ?_)
  · have hc := (y_cR ht ha h1).mp (by rw [← er1]; exact b1_nt h21)
    have ep : z_p t f a = some (t.getD (z_sk t a) 0 - lo) := by rw [z_p_f ht hf, if_pos hc]
    refine pm_aload_n (pc := 34) dX10_take_34 rfl ?_
    refine pm_dup (pc := 35) dX10_take_35 rfl ?_
    refine pm_get (pc := 36) (ci := 8) (C0 := RX10) (T := TX10) (N := 34) (j := 11) rfl rfl in_X10 (by decide) wf_X10_154 rfl dX10_take_36 ?_
    rw [S1.2.1]
    refine pm_iconst (pc := 39) (v := nI 1) dX10_take_39 (by decide) ?_
    refine pm_iadd (pc := 40) dX10_take_40 ?_
    refine pm_top (nI_add _ _) ?_
    refine pm_put (pc := 41) (ci := 8) (C0 := RX10) (T := TX10) (N := 34) (j := 11) (ty := .int) rfl rfl in_X10 tyX10 tyX10_ok nmX10 (by decide) wf_X10_154 rfl rfl (by decide +kernel) rfl rfl dX10_take_41 ?_
    refine pm_iload_n (pc := 44) dX10_take_44 rfl ?_
    refine pm_iload_n (pc := 45) dX10_take_45 rfl ?_
    refine pm_isub (pc := 46) dX10_take_46 ?_
    refine pm_top (x' := nI (t.getD (z_sk t a) 0 - lo)) (by rw [er1, show y_c t a = nI (t.getD (z_sk t a) 0) from if_pos hc.1, pk_sub (by omega)]) ?_
    refine pm_iret (pc := 47) rfl (Nat.le_refl _) (Nat.le_refl _) dX10_take_47 ?_
    subst hτ
    exact QI.r ⟨⟨by show _ = nI ((z_p t f a).getD 0); rw [ep]; rfl, y_P.ms (v := t.getD (z_sk t a) 0 - lo) ep (by show y_S I _ (z_q t f a) 0; rw [z_q_s ep]; exact S1.at _)⟩, rfl⟩
  · have ep : z_p t f a = none := by rw [z_p_f ht hf, if_neg (fun z => b1_nf h21 (by rw [er1]; exact (y_cR ht ha h1).mpr z))]
    refine pm_aload_n (pc := 24) dX10_take_24 rfl ?_
    refine pm_aload_n (pc := 25) dX10_take_25 rfl ?_
    refine pm_get (pc := 26) (ci := 8) (C0 := RX10) (T := TX10) (N := 34) (j := 11) rfl rfl in_X10 (by decide) wf_X10_154 rfl dX10_take_26 ?_
    rw [S1.2.1]
    refine pm_cVV (pc := 29) dX10_take_29 (c_fails S1) wq_X10_fails wm_X10_163 wi_X10_fails ws_X10_fails rfl rfl ⟨Nat.le_of_ble_eq_true rfl, Nat.le_of_ble_eq_true rfl⟩ ⟨Nat.le_of_ble_eq_true rfl, Nat.le_of_ble_eq_true rfl⟩ rfl (Nat.le_of_ble_eq_true rfl) (fun I29 L29 q29 => ?_)
    obtain ⟨S29, el29⟩ := q29
    subst el29
    rw [if_pos rfl] at S29
    refine pm_iconst (pc := 32) (v := nI 0) dX10_take_32 (by decide) ?_
    refine pm_iret (pc := 33) rfl (Nat.le_refl _) (Nat.le_refl _) dX10_take_33 ?_
    subst hτ
    exact QI.r ⟨⟨by show nI 0 = nI ((z_p t f a).getD 0); rw [ep]; rfl, y_P.mn ep b2_ (by show y_S I _ _ (z_F (z_q t f a)); rw [z_q_n ep]; exact S29)⟩, rfl⟩
set_option maxRecDepth 100000 in
set_option maxHeartbeats 1000000 in
theorem c_takeN {I : pm_I} {L : pm_L} {J : pm_I} {t : List Nat} (hB : y_B I t) (ht : z_ok t) {a : Nat} (ha : a ≤ t.length) {lo hi b : Nat} (hb : b ≤ 120) (hS : y_S I J a (z_F b)) {τ : Nat × Option Nat} (hτ : τ = (b, none)) : PC 1 0 0 yX10_take cX10_take 4 (some (.int)) [.ref 40, .int (nI lo), .int (nI hi)] GG J L (QI GG (fun r I' L' => (r = nI (τ.2.getD 0) ∧ y_P t I I' τ) ∧ L' = L)) := by
  have h120 := ht.1
  obtain ⟨b1_, b2_, b3_⟩ := z_sk_sp ha
  refine PC.of [some (.ref 40), some (.int (nI lo)), some (.int (nI hi)), none] (by decide) (Nat.le_of_ble_eq_true rfl) rfl (fun l P => ?_)
  refine pm_aload_n (pc := 0) dX10_take_0 rfl ?_
  refine pm_cVI (pc := 1) dX10_take_1 (c_here hB ht ha hS) wq_X10_here wm_X10_160 wi_X10_here ws_X10_here rfl rfl ⟨Nat.le_of_ble_eq_true rfl, Nat.le_of_ble_eq_true rfl⟩ ⟨Nat.le_of_ble_eq_true rfl, Nat.le_of_ble_eq_true rfl⟩ rfl (Nat.le_of_ble_eq_true rfl) (fun r1 I1 L1 q1 => ?_)
  obtain ⟨⟨er1, S1⟩, el1⟩ := q1
  subst el1
  refine pm_istore_n (pc := 4) dX10_take_4 (by decide) rfl ?_
  refine pm_aload_n (pc := 5) dX10_take_5 rfl ?_
  refine pm_get (pc := 6) (ci := 8) (C0 := RX10) (T := TX10) (N := 34) (j := 12) rfl rfl in_X10 (by decide) wf_X10_157 rfl dX10_take_6 ?_
  rw [S1.2.2.1]
  refine pm_if_ne (pc := 9) (tgt := 24) dX10_take_9 rfl (fun h9 => ?_) (fun h9 => absurd h9 (z_F_0 hb))
  refine pm_aload_n (pc := 24) dX10_take_24 rfl ?_
  refine pm_aload_n (pc := 25) dX10_take_25 rfl ?_
  refine pm_get (pc := 26) (ci := 8) (C0 := RX10) (T := TX10) (N := 34) (j := 11) rfl rfl in_X10 (by decide) wf_X10_154 rfl dX10_take_26 ?_
  rw [S1.2.1]
  refine pm_cVV (pc := 29) dX10_take_29 (c_fails S1) wq_X10_fails wm_X10_163 wi_X10_fails ws_X10_fails rfl rfl ⟨Nat.le_of_ble_eq_true rfl, Nat.le_of_ble_eq_true rfl⟩ ⟨Nat.le_of_ble_eq_true rfl, Nat.le_of_ble_eq_true rfl⟩ rfl (Nat.le_of_ble_eq_true rfl) (fun I29 L29 q29 => ?_)
  obtain ⟨S29, el29⟩ := q29
  subst el29
  rw [if_neg (z_F_0 hb)] at S29
  refine pm_iconst (pc := 32) (v := nI 0) dX10_take_32 (by decide) ?_
  refine pm_iret (pc := 33) rfl (Nat.le_refl _) (Nat.le_refl _) dX10_take_33 ?_
  subst hτ
  exact QI.r ⟨⟨rfl, y_P.mn rfl b2_ S29⟩, rfl⟩
theorem c_take2 {I : pm_I} {L : pm_L} {J : pm_I} {t : List Nat} (hB : y_B I t) (ht : z_ok t) {α : Type} {σ : Nat × Option α} (hσ : σ.1 ≤ t.length) (hP : y_P t I J σ) {lo hi : Nat} (h1 : 1 ≤ lo) (h2 : hi < 127) (h3 : lo ≤ hi) {f : Nat → Option Nat} (hf : y_f lo hi f) : PC 1 0 0 yX10_take cX10_take 4 (some (.int)) [.ref 40, .int (nI lo), .int (nI hi)] GG J L (QI GG (fun r I' L' => (r = nI ((z_bind σ fun _ a => z_ch t f a).2.getD 0) ∧ y_P t I I' (z_bind σ fun _ a => z_ch t f a)) ∧ L' = L)) := by
  have h120 := ht.1
  cases e : σ.2 with
  | none =>
    obtain ⟨a, ha, hS⟩ := hP.n e
    exact c_takeN hB ht ha (by omega) hS (z_bind_n e)
  | some v => exact c_takeS hB ht hσ h1 h2 h3 hf (hP.s e) (z_bind_s e)
theorem y_fm {m : Nat} : y_f m m (z_m m) := fun c _ => by
  unfold z_m
  by_cases e : c = m
  · rw [if_pos e, if_pos (by omega), e, Nat.sub_self]
  · rw [if_neg e, if_neg (by omega)]
theorem y_fd {m : Nat} (h : 1 ≤ m) : y_f 48 (47 + m) (z_d m) := fun c _ => by
  unfold z_d
  by_cases e : 48 ≤ c ∧ c < 48 + m
  · rw [if_pos e, if_pos (by omega)]
  · rw [if_neg e, if_neg (by omega)]
theorem z_bind_le {α : Type} {t : List Nat} {σ : Nat × Option α} {f : Nat → Option Nat} (h : σ.1 ≤ t.length) : (z_bind σ fun _ a => z_ch t f a).1 ≤ t.length := by
  cases e : σ.2 with
  | none => rw [z_bind_n e]; exact h
  | some v => rw [z_bind_s e]; exact (z_q_le h).2
set_option maxRecDepth 100000 in
set_option maxHeartbeats 1000000 in
theorem c_takeMark {I : pm_I} {L : pm_L} {J : pm_I} {t : List Nat} (hB : y_B I t) (ht : z_ok t) {α : Type} {σ : Nat × Option α} (hσ : σ.1 ≤ t.length) (hP : y_P t I J σ) {m : Nat} (hm : 1 ≤ m ∧ m < 127) : PC 2 0 0 yX10_takeMark cX10_takeMark 3 none [.ref 40, .int (nI m)] GG J L (QV GG (fun I' L' => y_P t I I' (z_bind σ fun _ a => z_ch t (z_m m) a) ∧ L' = L)) := by
  refine PC.of [some (.ref 40), some (.int (nI m)), none] (by decide) (Nat.le_of_ble_eq_true rfl) rfl (fun l P => ?_)
  refine pm_aload_n (pc := 0) dX10_takeMark_0 rfl ?_
  refine pm_iload_n (pc := 1) dX10_takeMark_1 rfl ?_
  refine pm_iload_n (pc := 2) dX10_takeMark_2 rfl ?_
  refine pm_cVI (pc := 3) dX10_takeMark_3 (c_take2 hB ht hσ hP hm.1 hm.2 (Nat.le_refl m) y_fm) wq_X10_take wm_X10_177 wi_X10_take ws_X10_take rfl rfl ⟨Nat.le_of_ble_eq_true rfl, Nat.le_of_ble_eq_true rfl⟩ ⟨Nat.le_of_ble_eq_true rfl, Nat.le_of_ble_eq_true rfl⟩ rfl (Nat.le_of_ble_eq_true rfl) (fun r3 I3 L3 q3 => ?_)
  obtain ⟨⟨er, P3⟩, el⟩ := q3
  subst el
  refine pm_istore_n (pc := 6) dX10_takeMark_6 (by decide) rfl ?_
  refine pm_vret (pc := 7) rfl (Nat.le_refl _) (Nat.le_refl _) dX10_takeMark_7 ?_
  exact QV.r ⟨P3, rfl⟩
theorem y_fl {n c : Nat} (hn : n ≤ 12) (h : c < 97 + n) : z_l n c = if 97 ≤ c ∧ c ≤ 108 then some (c - 97) else none := by
  unfold z_l
  by_cases e : 97 ≤ c
  · rw [if_pos ⟨e, h⟩, if_pos (by omega)]
  · rw [if_neg (fun z => e z.1), if_neg (fun z => e z.1)]
theorem y_fl12 : y_f 97 108 (z_l 12) := fun c _ => by
  unfold z_l
  by_cases e : 97 ≤ c ∧ c < 97 + 12
  · rw [if_pos e, if_pos (by omega)]
  · rw [if_neg e, if_neg (by omega)]
theorem z_p_sk {t : List Nat} {f : Nat → Option Nat} {a : Nat} (h : a ≤ t.length) : z_ch t f (z_sk t a) = z_ch t f a := by
  have e : z_p t f (z_sk t a) = z_p t f a := by unfold z_p; rw [z_sk_i h]
  unfold z_ch z_q
  rw [e, z_sk_i h]
theorem y_cL {t : List Nat} (ht : z_ok t) {a n : Nat} (hn : n ≤ 12) : (iR (y_c t a - nI 97) 0 ((n : Int) - 1) ↔ z_p t (z_l n) a ≠ none) := by
  unfold y_c iR z_p
  by_cases h : z_sk t a < t.length
  · have hb := z_byte ht h
    rw [if_pos h, if_pos h, fb_subI (by rw [nI_toInt (by omega), nI_toInt (by decide)]; omega) (by rw [nI_toInt (by omega), nI_toInt (by decide)]; omega), nI_toInt (by omega), nI_toInt (by decide)]
    unfold z_l
    by_cases e : 97 ≤ t.getD (z_sk t a) 0 ∧ t.getD (z_sk t a) 0 < 97 + n
    · rw [if_pos e]
      exact ⟨fun _ => by simp, fun _ => by omega⟩
    · rw [if_neg e]
      exact ⟨fun z => by omega, fun z => absurd rfl z⟩
  · rw [if_neg h, if_neg h]
    have e : ((-1 : Int32) - nI 97).toInt = -98 := by decide
    rw [e]
    exact ⟨fun z => by omega, fun z => absurd rfl z⟩
set_option maxRecDepth 100000 in
set_option maxHeartbeats 1000000 in
theorem c_letS {I : pm_I} {L : pm_L} {J : pm_I} {t : List Nat} (hB : y_B I t) (ht : z_ok t) {a : Nat} (ha : a ≤ t.length) {n : Nat} (hn : n ≤ 12) (hN : I 40 0 = nI n) (hS : y_S I J a 0) {τ : Nat × Option Nat} (hτ : τ = z_ch t (z_l n) a) : PC 2 0 0 yX10_takeLetter cX10_takeLetter 2 (some (.int)) [.ref 40] GG J L (QI GG (fun r I' L' => (r = nI (τ.2.getD 0) ∧ y_P t I I' τ) ∧ L' = L)) := by
  have h120 := ht.1
  obtain ⟨b1_, b2_, b3_⟩ := z_sk_sp ha
  refine PC.of [some (.ref 40), none] (by decide) (Nat.le_of_ble_eq_true rfl) rfl (fun l P => ?_)
  refine pm_aload_n (pc := 0) dX10_takeLetter_0 rfl ?_
  refine pm_cVI (pc := 1) dX10_takeLetter_1 (c_here hB ht ha hS) wq_X10_here wm_X10_160 wi_X10_here ws_X10_here rfl rfl ⟨Nat.le_of_ble_eq_true rfl, Nat.le_of_ble_eq_true rfl⟩ ⟨Nat.le_of_ble_eq_true rfl, Nat.le_of_ble_eq_true rfl⟩ rfl (Nat.le_of_ble_eq_true rfl) (fun r1 I1 L1 q1 => ?_)
  obtain ⟨⟨er1, S1⟩, el1⟩ := q1
  subst el1
  refine pm_istore_n (pc := 4) dX10_takeLetter_4 (by decide) rfl ?_
  refine pm_aload_n (pc := 5) dX10_takeLetter_5 rfl ?_
  refine pm_get (pc := 6) (ci := 8) (C0 := RX10) (T := TX10) (N := 34) (j := 12) rfl rfl in_X10 (by decide) wf_X10_157 rfl dX10_takeLetter_6 ?_
  rw [S1.2.2.1]
  refine pm_if_ne (pc := 9) (tgt := 39) dX10_takeLetter_9 rfl (fun h9 => absurd rfl h9) (fun h9 => ?_)
  refine pm_iload_n (pc := 12) dX10_takeLetter_12 rfl ?_
  refine pm_bipush (pc := 13) (v := nI 97) dX10_takeLetter_13 (by decide) ?_
  refine pm_isub (pc := 15) dX10_takeLetter_15 ?_
  refine pm_i2l (pc := 16) dX10_takeLetter_16 ?_
  refine pm_lconst (pc := 17) (v := 0) dX10_takeLetter_17 (by decide) ?_
  refine pm_aload_n (pc := 18) dX10_takeLetter_18 rfl ?_
  refine pm_get (pc := 19) (ci := 8) (C0 := RX10) (T := TX10) (N := 34) (j := 0) rfl rfl in_X10 (by decide) wf_X10_83 rfl dX10_takeLetter_19 ?_
  rw [show I1 40 0 = nI n from by rw [S1.2.2.2 0 (by decide) (by decide)]; exact hN]
  refine pm_iconst (pc := 22) (v := nI 1) dX10_takeLetter_22 (by decide) ?_
  refine pm_isub (pc := 23) dX10_takeLetter_23 ?_
  refine pm_i2l (pc := 24) dX10_takeLetter_24 ?_
  refine pm_cSR (pc := 25) dX10_takeLetter_25 (c_mInI (a := 0) (b := (n : Int) - 1) (by decide) (by rw [Int32.toInt_toInt64, nIm1 (by omega)])) wq_X10_in wm_X10_87 wt_X10_in ⟨Nat.le_of_ble_eq_true rfl, Nat.le_of_ble_eq_true rfl⟩ ⟨Nat.le_of_ble_eq_true rfl, Nat.le_of_ble_eq_true rfl⟩ rfl (Nat.le_of_ble_eq_true rfl) ?_
  refine pm_if_ne (pc := 28) (tgt := 39) dX10_takeLetter_28 rfl (fun h28 => ?_) (fun h28 => ?_)
  · have hne := (y_cL ht hn).mp (by rw [← er1]; exact b1_nt h28)
    have e12 : z_ch t (z_l 12) (z_sk t a) = z_ch t (z_l n) a := by
      rw [z_p_sk ha]
      have ep : z_p t (z_l 12) a = z_p t (z_l n) a := by
        unfold z_p at hne ⊢
        by_cases h : z_sk t a < t.length
        · rw [if_pos h] at hne ⊢
          rw [if_pos h]
          unfold z_l at hne ⊢
          by_cases e : 97 ≤ t.getD (z_sk t a) 0 ∧ t.getD (z_sk t a) 0 < 97 + n
          · rw [if_pos e, if_pos (by omega)]
          · rw [if_neg e] at hne; exact absurd rfl hne
        · rw [if_neg h] at hne; exact absurd rfl hne
      unfold z_ch z_q
      rw [ep]
    refine pm_aload_n (pc := 39) dX10_takeLetter_39 rfl ?_
    refine pm_bipush (pc := 40) (v := nI 97) dX10_takeLetter_40 (by decide) ?_
    refine pm_bipush (pc := 42) (v := nI 108) dX10_takeLetter_42 (by decide) ?_
    refine pm_cVI (pc := 44) dX10_takeLetter_44 (c_takeS hB ht b2_ (by decide) (by decide) (by decide) y_fl12 S1 (hτ.trans e12.symm)) wq_X10_take wm_X10_177 wi_X10_take ws_X10_take rfl rfl ⟨Nat.le_of_ble_eq_true rfl, Nat.le_of_ble_eq_true rfl⟩ ⟨Nat.le_of_ble_eq_true rfl, Nat.le_of_ble_eq_true rfl⟩ rfl (Nat.le_of_ble_eq_true rfl) (fun r44 I44 L44 q44 => ?_)
    refine pm_iret (pc := 47) rfl (Nat.le_refl _) (Nat.le_refl _) dX10_takeLetter_47 ?_
    exact ⟨_, rfl, rfl, q44⟩
  · have en : z_p t (z_l n) a = none := Classical.not_not.mp (fun z => b1_nf h28 (by rw [er1]; exact (y_cL ht hn).mpr z))
    have et : τ = (z_sk t a, none) := by rw [hτ]; show (z_q t (z_l n) a, z_p t (z_l n) a) = _; rw [en, z_q_n en]
    refine pm_aload_n (pc := 31) dX10_takeLetter_31 rfl ?_
    refine pm_aload_n (pc := 32) dX10_takeLetter_32 rfl ?_
    refine pm_get (pc := 33) (ci := 8) (C0 := RX10) (T := TX10) (N := 34) (j := 11) rfl rfl in_X10 (by decide) wf_X10_154 rfl dX10_takeLetter_33 ?_
    rw [S1.2.1]
    refine pm_cVV (pc := 36) dX10_takeLetter_36 (c_fails S1) wq_X10_fails wm_X10_163 wi_X10_fails ws_X10_fails rfl rfl ⟨Nat.le_of_ble_eq_true rfl, Nat.le_of_ble_eq_true rfl⟩ ⟨Nat.le_of_ble_eq_true rfl, Nat.le_of_ble_eq_true rfl⟩ rfl (Nat.le_of_ble_eq_true rfl) (fun I36 L36 q36 => ?_)
    obtain ⟨S36, el36⟩ := q36
    subst el36
    rw [if_pos rfl] at S36
    refine pm_aload_n (pc := 39) dX10_takeLetter_39 rfl ?_
    refine pm_bipush (pc := 40) (v := nI 97) dX10_takeLetter_40 (by decide) ?_
    refine pm_bipush (pc := 42) (v := nI 108) dX10_takeLetter_42 (by decide) ?_
    refine pm_cVI (pc := 44) dX10_takeLetter_44 (c_takeN hB ht b2_ (by omega) S36 et) wq_X10_take wm_X10_177 wi_X10_take ws_X10_take rfl rfl ⟨Nat.le_of_ble_eq_true rfl, Nat.le_of_ble_eq_true rfl⟩ ⟨Nat.le_of_ble_eq_true rfl, Nat.le_of_ble_eq_true rfl⟩ rfl (Nat.le_of_ble_eq_true rfl) (fun r44 I44 L44 q44 => ?_)
    refine pm_iret (pc := 47) rfl (Nat.le_refl _) (Nat.le_refl _) dX10_takeLetter_47 ?_
    exact ⟨_, rfl, rfl, q44⟩
set_option maxRecDepth 100000 in
set_option maxHeartbeats 1000000 in
theorem c_letN {I : pm_I} {L : pm_L} {J : pm_I} {t : List Nat} (hB : y_B I t) (ht : z_ok t) {a : Nat} (ha : a ≤ t.length) {b : Nat} (hb : b ≤ 120) (hS : y_S I J a (z_F b)) {τ : Nat × Option Nat} (hτ : τ = (b, none)) : PC 2 0 0 yX10_takeLetter cX10_takeLetter 2 (some (.int)) [.ref 40] GG J L (QI GG (fun r I' L' => (r = nI (τ.2.getD 0) ∧ y_P t I I' τ) ∧ L' = L)) := by
  have h120 := ht.1
  obtain ⟨b1_, b2_, b3_⟩ := z_sk_sp ha
  refine PC.of [some (.ref 40), none] (by decide) (Nat.le_of_ble_eq_true rfl) rfl (fun l P => ?_)
  refine pm_aload_n (pc := 0) dX10_takeLetter_0 rfl ?_
  refine pm_cVI (pc := 1) dX10_takeLetter_1 (c_here hB ht ha hS) wq_X10_here wm_X10_160 wi_X10_here ws_X10_here rfl rfl ⟨Nat.le_of_ble_eq_true rfl, Nat.le_of_ble_eq_true rfl⟩ ⟨Nat.le_of_ble_eq_true rfl, Nat.le_of_ble_eq_true rfl⟩ rfl (Nat.le_of_ble_eq_true rfl) (fun r1 I1 L1 q1 => ?_)
  obtain ⟨⟨er1, S1⟩, el1⟩ := q1
  subst el1
  refine pm_istore_n (pc := 4) dX10_takeLetter_4 (by decide) rfl ?_
  refine pm_aload_n (pc := 5) dX10_takeLetter_5 rfl ?_
  refine pm_get (pc := 6) (ci := 8) (C0 := RX10) (T := TX10) (N := 34) (j := 12) rfl rfl in_X10 (by decide) wf_X10_157 rfl dX10_takeLetter_6 ?_
  rw [S1.2.2.1]
  refine pm_if_ne (pc := 9) (tgt := 39) dX10_takeLetter_9 rfl (fun h9 => ?_) (fun h9 => absurd h9 (z_F_0 hb))
  refine pm_aload_n (pc := 39) dX10_takeLetter_39 rfl ?_
  refine pm_bipush (pc := 40) (v := nI 97) dX10_takeLetter_40 (by decide) ?_
  refine pm_bipush (pc := 42) (v := nI 108) dX10_takeLetter_42 (by decide) ?_
  refine pm_cVI (pc := 44) dX10_takeLetter_44 (c_takeN hB ht b2_ hb S1 hτ) wq_X10_take wm_X10_177 wi_X10_take ws_X10_take rfl rfl ⟨Nat.le_of_ble_eq_true rfl, Nat.le_of_ble_eq_true rfl⟩ ⟨Nat.le_of_ble_eq_true rfl, Nat.le_of_ble_eq_true rfl⟩ rfl (Nat.le_of_ble_eq_true rfl) (fun r44 I44 L44 q44 => ?_)
  refine pm_iret (pc := 47) rfl (Nat.le_refl _) (Nat.le_refl _) dX10_takeLetter_47 ?_
  exact ⟨_, rfl, rfl, q44⟩
theorem c_takeLet {I : pm_I} {L : pm_L} {J : pm_I} {t : List Nat} (hB : y_B I t) (ht : z_ok t) {α : Type} {σ : Nat × Option α} (hσ : σ.1 ≤ t.length) (hP : y_P t I J σ) {n : Nat} (hn : n ≤ 12) (hN : I 40 0 = nI n) : PC 2 0 0 yX10_takeLetter cX10_takeLetter 2 (some (.int)) [.ref 40] GG J L (QI GG (fun r I' L' => (r = nI ((z_bind σ fun _ a => z_ch t (z_l n) a).2.getD 0) ∧ y_P t I I' (z_bind σ fun _ a => z_ch t (z_l n) a)) ∧ L' = L)) := by
  have h120 := ht.1
  cases e : σ.2 with
  | none =>
    obtain ⟨a, ha, hS⟩ := hP.n e
    exact c_letN hB ht ha (by omega) hS (z_bind_n e)
  | some v => exact c_letS hB ht hσ hn hN (hP.s e) (z_bind_s e)
set_option maxRecDepth 100000 in
set_option maxHeartbeats 1000000 in
theorem l_tn118 {I : pm_I} {L : pm_L} {t : List Nat} (hB : y_B I t) (ht : z_ok t) {a0 : Nat} (ha0 : a0 ≤ t.length) {x1 : Int32} {la : Launch} {P : pm_E} {a v vc : Nat} (hr : v = vc ∧ v ≤ 99 ∨ vc = 100 ∧ 100 ≤ v) (hv : v ≤ 10009) {J : pm_I} (hS : y_S I J a 0) (hle : a ≤ t.length) (hT : z_dgs t (z_sk t a0) = (a, vc)) : PW la P yX10_takeNumber cX10_takeNumber 4 (some (.int)) (pm_rm 1 0 0) (pm_Tg P (QI GG (fun r I' L' => (y_P t I I' (z_num t a0) ∧ ∀ w, (z_num t a0).2 = some w → r = nI w) ∧ L' = L)) 0 0) 0 0 118 [some (.ref 40), some (.int x1), some (.int (nI (z_sk t a0))), some (.int (nI v))] [] GG J L := by
  have h120 := ht.1
  have en : z_num t a0 = if 1 ≤ vc ∧ vc ≤ 99 then (a, some vc) else (z_sk t a0, none) := by unfold z_num; rw [hT]
  have kR : iR (nI v) 1 99 ↔ 1 ≤ vc ∧ vc ≤ 99 := by unfold iR; rw [nI_toInt (by omega)]; omega
  refine pm_iload_n (pc := 118) dX10_takeNumber_118 rfl ?_
  refine pm_i2l (pc := 119) dX10_takeNumber_119 ?_
  refine pm_lconst (pc := 120) (v := 1) dX10_takeNumber_120 (by decide) ?_
  refine pm_ldc2 (pc := 121) wk_X10_106 dX10_takeNumber_121 ?_
  refine pm_cSR (pc := 124) dX10_takeNumber_124 (c_mInI (a := 1) (b := 99) (by decide) (by decide)) wq_X10_in wm_X10_87 wt_X10_in ⟨Nat.le_of_ble_eq_true rfl, Nat.le_of_ble_eq_true rfl⟩ ⟨Nat.le_of_ble_eq_true rfl, Nat.le_of_ble_eq_true rfl⟩ rfl (Nat.le_of_ble_eq_true rfl) ?_
  refine pm_if_ne (pc := 127) (tgt := 135) dX10_takeNumber_127 rfl (fun h127 => ?_) (fun h127 => ?_)
  · have hg := kR.mp (b1_nt h127)
    rw [if_pos hg] at en
    refine pm_iload_n (pc := 135) dX10_takeNumber_135 rfl ?_
    refine pm_iret (pc := 136) rfl (Nat.le_refl _) (Nat.le_refl _) dX10_takeNumber_136 ?_
    rw [en]
    first
      | exact QI.r ⟨⟨y_P.ms (v := vc) rfl hS, fun w hw => by rw [← Option.some.inj hw]; exact congrArg nI (by omega)⟩, rfl⟩
      | exact QI.r ⟨⟨y_P.mn rfl hle S132, fun w hw => absurd hw (by simp)⟩, rfl⟩
  · rw [if_neg (fun z => b1_nf h127 (kR.mpr z))] at en
    refine pm_aload_n (pc := 130) dX10_takeNumber_130 rfl ?_
    refine pm_iload_n (pc := 131) dX10_takeNumber_131 rfl ?_
    refine pm_cVV (pc := 132) dX10_takeNumber_132 (c_fails hS) wq_X10_fails wm_X10_163 wi_X10_fails ws_X10_fails rfl rfl ⟨Nat.le_of_ble_eq_true rfl, Nat.le_of_ble_eq_true rfl⟩ ⟨Nat.le_of_ble_eq_true rfl, Nat.le_of_ble_eq_true rfl⟩ rfl (Nat.le_of_ble_eq_true rfl) (fun I132 L132 q132 => ?_)
    obtain ⟨S132, el132⟩ := q132
    subst el132
    rw [if_pos rfl] at S132
    refine pm_iload_n (pc := 135) dX10_takeNumber_135 rfl ?_
    refine pm_iret (pc := 136) rfl (Nat.le_refl _) (Nat.le_refl _) dX10_takeNumber_136 ?_
    rw [en]
    first
      | exact QI.r ⟨⟨y_P.ms (v := vc) rfl hS, fun w hw => by rw [← Option.some.inj hw]; exact congrArg nI (by omega)⟩, rfl⟩
      | exact QI.r ⟨⟨y_P.mn rfl hle S132, fun w hw => absurd hw (by simp)⟩, rfl⟩
set_option maxRecDepth 100000 in
set_option maxHeartbeats 1000000 in
theorem l_tn43 {I : pm_I} {L : pm_L} {t : List Nat} (hB : y_B I t) (ht : z_ok t) {a0 : Nat} (ha0 : a0 ≤ t.length) {x1 : Int32} {la : Launch} {P : pm_E} : ∀ (m a v vc : Nat) (J : pm_I), a + m = t.length → (v = vc ∧ v ≤ 99 ∨ vc = 100 ∧ 100 ≤ v) → v ≤ 10009 → y_S I J a 0 → z_dg t m a vc = z_dgs t (z_sk t a0) → PW la P yX10_takeNumber cX10_takeNumber 4 (some (.int)) (pm_rm 1 0 0) (pm_Tg P (QI GG (fun r I' L' => (y_P t I I' (z_num t a0) ∧ ∀ w, (z_num t a0).2 = some w → r = nI w) ∧ L' = L)) 0 0) 0 0 43 [some (.ref 40), some (.int x1), some (.int (nI (z_sk t a0))), some (.int (nI v))] [] GG J L
  | 0, a, v, vc, J, hm, hr, hv, hS, hT => by
    have h120 := ht.1
    obtain ⟨eB1, eB2⟩ := hS.B hB
    refine pm_aload_n (pc := 43) dX10_takeNumber_43 rfl ?_
    refine pm_get (pc := 44) (ci := 8) (C0 := RX10) (T := TX10) (N := 34) (j := 11) rfl rfl in_X10 (by decide) wf_X10_154 rfl dX10_takeNumber_44 ?_
    rw [hS.2.1]
    refine pm_aload_n (pc := 47) dX10_takeNumber_47 rfl ?_
    refine pm_get (pc := 48) (ci := 8) (C0 := RX10) (T := TX10) (N := 34) (j := 10) rfl rfl in_X10 (by decide) wf_X10_151 rfl dX10_takeNumber_48 ?_
    rw [eB1]
    refine pm_icmp_ge (pc := 51) (tgt := 118) dX10_takeNumber_51 rfl (fun h51 => ?_) (fun h51 => (by simp (disch := omega) only [pm_eqI, pm_ltI, pm_leI, nI_toInt, pm_t0, pm_t1, pm_tm1] at h51; omega))
    exact l_tn118 hB ht ha0 hr hv hS (by omega) hT.symm
  | m + 1, a, v, vc, J, hm, hr, hv, hS, hT => by
    have h120 := ht.1
    obtain ⟨eB1, eB2⟩ := hS.B hB
    have ha : a < t.length := by omega
    have hby := z_byte ht ha
    have kR : iR (nI (t.getD a 0)) 48 57 ↔ 48 ≤ t.getD a 0 ∧ t.getD a 0 ≤ 57 := by unfold iR; rw [nI_toInt (by omega)]; omega
    have e0 : z_dg t (m + 1) a vc = if a < t.length ∧ 48 ≤ t.getD a 0 ∧ t.getD a 0 ≤ 57 then z_dg t m (a + 1) (if 100 < vc * 10 + t.getD a 0 - 48 then 100 else vc * 10 + t.getD a 0 - 48) else (a, vc) := rfl
    refine pm_aload_n (pc := 43) dX10_takeNumber_43 rfl ?_
    refine pm_get (pc := 44) (ci := 8) (C0 := RX10) (T := TX10) (N := 34) (j := 11) rfl rfl in_X10 (by decide) wf_X10_154 rfl dX10_takeNumber_44 ?_
    rw [hS.2.1]
    refine pm_aload_n (pc := 47) dX10_takeNumber_47 rfl ?_
    refine pm_get (pc := 48) (ci := 8) (C0 := RX10) (T := TX10) (N := 34) (j := 10) rfl rfl in_X10 (by decide) wf_X10_151 rfl dX10_takeNumber_48 ?_
    rw [eB1]
    refine pm_icmp_ge (pc := 51) (tgt := 118) dX10_takeNumber_51 rfl (fun h51 => (by simp (disch := omega) only [pm_eqI, pm_ltI, pm_leI, nI_toInt, pm_t0, pm_t1, pm_tm1] at h51; omega)) (fun h51 => ?_)
    refine pm_aload_n (pc := 54) dX10_takeNumber_54 rfl ?_
    refine pm_getr (pc := 55) (ci := 8) (C0 := RX10) (T := TX10) (N := 34) (j := 9) rfl rfl in_X10 (by decide) wf_X10_31 rfl dX10_takeNumber_55 ?_
    refine pm_aload_n (pc := 58) dX10_takeNumber_58 rfl ?_
    refine pm_get (pc := 59) (ci := 8) (C0 := RX10) (T := TX10) (N := 34) (j := 11) rfl rfl in_X10 (by decide) wf_X10_154 rfl dX10_takeNumber_59 ?_
    rw [hS.2.1]
    refine pm_iald (pc := 62) rfl (by omega) (by decide) dX10_takeNumber_62 ?_
    rw [eB2 a ha]
    refine pm_i2l (pc := 63) dX10_takeNumber_63 ?_
    refine pm_ldc2 (pc := 64) wk_X10_167 dX10_takeNumber_64 ?_
    refine pm_ldc2 (pc := 67) wk_X10_169 dX10_takeNumber_67 ?_
    refine pm_cSR (pc := 70) dX10_takeNumber_70 (c_mInI (a := 48) (b := 57) (by decide) (by decide)) wq_X10_in wm_X10_87 wt_X10_in ⟨Nat.le_of_ble_eq_true rfl, Nat.le_of_ble_eq_true rfl⟩ ⟨Nat.le_of_ble_eq_true rfl, Nat.le_of_ble_eq_true rfl⟩ rfl (Nat.le_of_ble_eq_true rfl) ?_
    refine pm_if_eq (pc := 73) (tgt := 118) dX10_takeNumber_73 rfl (fun h73 => ?_) (fun h73 => ?_)
    · rw [e0, if_neg (fun z => b1_nf h73 (kR.mpr z.2))] at hT
      exact l_tn118 hB ht ha0 hr hv hS (by omega) hT.symm
    · have h9 := kR.mp (b1_nt h73)
      rw [e0, if_pos ⟨ha, h9⟩] at hT
      refine pm_iload_n (pc := 76) dX10_takeNumber_76 rfl ?_
      refine pm_sipush (pc := 77) (v := nI 1000) dX10_takeNumber_77 (by decide) ?_
      refine pm_icmp_le (pc := 80) (tgt := 87) dX10_takeNumber_80 rfl (fun h80 => ?_) (fun h80 => ?_)
      · simp (disch := omega) only [pm_eqI, pm_ltI, pm_leI, nI_toInt, pm_t0, pm_t1, pm_tm1] at h80
        refine pm_bipush (pc := 87) (v := nI 10) dX10_takeNumber_87 (by decide) ?_
        refine pm_iload_n (pc := 89) dX10_takeNumber_89 rfl ?_
        refine pm_imul (pc := 90) dX10_takeNumber_90 ?_
        refine pm_aload_n (pc := 91) dX10_takeNumber_91 rfl ?_
        refine pm_getr (pc := 92) (ci := 8) (C0 := RX10) (T := TX10) (N := 34) (j := 9) rfl rfl in_X10 (by decide) wf_X10_31 rfl dX10_takeNumber_92 ?_
        refine pm_aload_n (pc := 95) dX10_takeNumber_95 rfl ?_
        refine pm_get (pc := 96) (ci := 8) (C0 := RX10) (T := TX10) (N := 34) (j := 11) rfl rfl in_X10 (by decide) wf_X10_154 rfl dX10_takeNumber_96 ?_
        rw [hS.2.1]
        refine pm_iald (pc := 99) rfl (by omega) (by decide) dX10_takeNumber_99 ?_
        rw [eB2 a ha]
        refine pm_iadd (pc := 100) dX10_takeNumber_100 ?_
        refine pm_bipush (pc := 101) (v := nI 48) dX10_takeNumber_101 (by decide) ?_
        refine pm_isub (pc := 103) dX10_takeNumber_103 ?_
        first
          | (refine pm_top (x' := nI (v * 10 + t.getD a 0 - 48)) (by rw [pk_mul, nI_add, pk_sub (by omega), Nat.mul_comm 10 v]) ?_)
          | skip
        refine pm_istore_n (pc := 104) dX10_takeNumber_104 (by decide) rfl ?_
        refine pm_aload_n (pc := 105) dX10_takeNumber_105 rfl ?_
        refine pm_dup (pc := 106) dX10_takeNumber_106 rfl ?_
        refine pm_get (pc := 107) (ci := 8) (C0 := RX10) (T := TX10) (N := 34) (j := 11) rfl rfl in_X10 (by decide) wf_X10_154 rfl dX10_takeNumber_107 ?_
        rw [hS.2.1]
        refine pm_iconst (pc := 110) (v := nI 1) dX10_takeNumber_110 (by decide) ?_
        refine pm_iadd (pc := 111) dX10_takeNumber_111 ?_
        refine pm_top (nI_add _ _) ?_
        refine pm_put (pc := 112) (ci := 8) (C0 := RX10) (T := TX10) (N := 34) (j := 11) (ty := .int) rfl rfl in_X10 tyX10 tyX10_ok nmX10 (by decide) wf_X10_154 rfl rfl (by decide +kernel) rfl rfl dX10_takeNumber_112 ?_
        refine pm_goto (pc := 115) (tgt := 43) dX10_takeNumber_115 rfl ?_
        first
          | (exact l_tn43 hB ht ha0 m (a + 1) (v * 10 + t.getD a 0 - 48) _ _ (by omega) (by split <;> omega) (by omega) (hS.at (a + 1)) hT)
          | (exact l_tn43 hB ht ha0 m (a + 1) v _ _ (by omega) (by split <;> omega) (by omega) (hS.at (a + 1)) hT)
      · simp (disch := omega) only [pm_eqI, pm_ltI, pm_leI, nI_toInt, pm_t0, pm_t1, pm_tm1] at h80
        refine pm_iload_n (pc := 83) dX10_takeNumber_83 rfl ?_
        refine pm_goto (pc := 84) (tgt := 104) dX10_takeNumber_84 rfl ?_
        first
          | (refine pm_top (x' := nI (v * 10 + t.getD a 0 - 48)) (by rw [pk_mul, nI_add, pk_sub (by omega), Nat.mul_comm 10 v]) ?_)
          | skip
        refine pm_istore_n (pc := 104) dX10_takeNumber_104 (by decide) rfl ?_
        refine pm_aload_n (pc := 105) dX10_takeNumber_105 rfl ?_
        refine pm_dup (pc := 106) dX10_takeNumber_106 rfl ?_
        refine pm_get (pc := 107) (ci := 8) (C0 := RX10) (T := TX10) (N := 34) (j := 11) rfl rfl in_X10 (by decide) wf_X10_154 rfl dX10_takeNumber_107 ?_
        rw [hS.2.1]
        refine pm_iconst (pc := 110) (v := nI 1) dX10_takeNumber_110 (by decide) ?_
        refine pm_iadd (pc := 111) dX10_takeNumber_111 ?_
        refine pm_top (nI_add _ _) ?_
        refine pm_put (pc := 112) (ci := 8) (C0 := RX10) (T := TX10) (N := 34) (j := 11) (ty := .int) rfl rfl in_X10 tyX10 tyX10_ok nmX10 (by decide) wf_X10_154 rfl rfl (by decide +kernel) rfl rfl dX10_takeNumber_112 ?_
        refine pm_goto (pc := 115) (tgt := 43) dX10_takeNumber_115 rfl ?_
        first
          | (exact l_tn43 hB ht ha0 m (a + 1) (v * 10 + t.getD a 0 - 48) _ _ (by omega) (by split <;> omega) (by omega) (hS.at (a + 1)) hT)
          | (exact l_tn43 hB ht ha0 m (a + 1) v _ _ (by omega) (by split <;> omega) (by omega) (hS.at (a + 1)) hT)
set_option maxRecDepth 100000 in
set_option maxHeartbeats 1000000 in
theorem c_takeNum {I : pm_I} {L : pm_L} {J : pm_I} {t : List Nat} (hB : y_B I t) (ht : z_ok t) {a : Nat} (ha : a ≤ t.length) (hS : y_S I J a 0) : PC 1 0 0 yX10_takeNumber cX10_takeNumber 4 (some (.int)) [.ref 40] GG J L (QI GG (fun r I' L' => (y_P t I I' (z_num t a) ∧ ∀ w, (z_num t a).2 = some w → r = nI w) ∧ L' = L)) := by
  have h120 := ht.1
  obtain ⟨b1_, b2_, b3_⟩ := z_sk_sp ha
  have hn0 := z_num_le ha
  refine PC.of [some (.ref 40), none, none, none] (by decide) (Nat.le_of_ble_eq_true rfl) rfl (fun l P => ?_)
  refine pm_aload_n (pc := 0) dX10_takeNumber_0 rfl ?_
  refine pm_cVI (pc := 1) dX10_takeNumber_1 (c_here hB ht ha hS) wq_X10_here wm_X10_160 wi_X10_here ws_X10_here rfl rfl ⟨Nat.le_of_ble_eq_true rfl, Nat.le_of_ble_eq_true rfl⟩ ⟨Nat.le_of_ble_eq_true rfl, Nat.le_of_ble_eq_true rfl⟩ rfl (Nat.le_of_ble_eq_true rfl) (fun r1 I1 L1 q1 => ?_)
  obtain ⟨⟨er1, S1⟩, el1⟩ := q1
  subst el1
  refine pm_istore_n (pc := 4) dX10_takeNumber_4 (by decide) rfl ?_
  refine pm_aload_n (pc := 5) dX10_takeNumber_5 rfl ?_
  refine pm_get (pc := 6) (ci := 8) (C0 := RX10) (T := TX10) (N := 34) (j := 11) rfl rfl in_X10 (by decide) wf_X10_154 rfl dX10_takeNumber_6 ?_
  rw [S1.2.1]
  refine pm_istore_n (pc := 9) dX10_takeNumber_9 (by decide) rfl ?_
  refine pm_iconst (pc := 10) (v := nI 0) dX10_takeNumber_10 (by decide) ?_
  refine pm_istore_n (pc := 11) dX10_takeNumber_11 (by decide) rfl ?_
  refine pm_aload_n (pc := 12) dX10_takeNumber_12 rfl ?_
  refine pm_get (pc := 13) (ci := 8) (C0 := RX10) (T := TX10) (N := 34) (j := 12) rfl rfl in_X10 (by decide) wf_X10_157 rfl dX10_takeNumber_13 ?_
  rw [S1.2.2.1]
  refine pm_if_ne (pc := 16) (tgt := 33) dX10_takeNumber_16 rfl (fun h16 => absurd rfl h16) (fun h16 => ?_)
  refine pm_iload_n (pc := 19) dX10_takeNumber_19 rfl ?_
  refine pm_i2l (pc := 20) dX10_takeNumber_20 ?_
  refine pm_ldc2 (pc := 21) wk_X10_167 dX10_takeNumber_21 ?_
  refine pm_ldc2 (pc := 24) wk_X10_169 dX10_takeNumber_24 ?_
  refine pm_cSR (pc := 27) dX10_takeNumber_27 (c_mInI (a := 48) (b := 57) (by decide) (by decide)) wq_X10_in wm_X10_87 wt_X10_in ⟨Nat.le_of_ble_eq_true rfl, Nat.le_of_ble_eq_true rfl⟩ ⟨Nat.le_of_ble_eq_true rfl, Nat.le_of_ble_eq_true rfl⟩ rfl (Nat.le_of_ble_eq_true rfl) ?_
  refine pm_if_ne (pc := 30) (tgt := 43) dX10_takeNumber_30 rfl (fun h30 => ?_) (fun h30 => ?_)
  · exact l_tn43 hB ht ha (t.length - z_sk t a) (z_sk t a) 0 0 I1 (by omega) (Or.inl ⟨rfl, by decide⟩) (by decide) S1 rfl
  · have hno : ¬ (z_sk t a < t.length ∧ 48 ≤ t.getD (z_sk t a) 0 ∧ t.getD (z_sk t a) 0 ≤ 57) := fun z => b1_nf h30 (by rw [er1]; exact (y_cR ht ha (lo := 48) (hi := 57) (by decide)).mpr z)
    have e0 : z_dgs t (z_sk t a) = (z_sk t a, 0) := by
      unfold z_dgs
      cases hk : t.length - z_sk t a with
      | zero => rfl
      | succ k => exact if_neg hno
    have en : z_num t a = (z_sk t a, none) := by unfold z_num; rw [e0]; rfl
    refine pm_aload_n (pc := 33) dX10_takeNumber_33 rfl ?_
    refine pm_aload_n (pc := 34) dX10_takeNumber_34 rfl ?_
    refine pm_get (pc := 35) (ci := 8) (C0 := RX10) (T := TX10) (N := 34) (j := 11) rfl rfl in_X10 (by decide) wf_X10_154 rfl dX10_takeNumber_35 ?_
    rw [S1.2.1]
    refine pm_cVV (pc := 38) dX10_takeNumber_38 (c_fails S1) wq_X10_fails wm_X10_163 wi_X10_fails ws_X10_fails rfl rfl ⟨Nat.le_of_ble_eq_true rfl, Nat.le_of_ble_eq_true rfl⟩ ⟨Nat.le_of_ble_eq_true rfl, Nat.le_of_ble_eq_true rfl⟩ rfl (Nat.le_of_ble_eq_true rfl) (fun I38 L38 q38 => ?_)
    obtain ⟨S38, el38⟩ := q38
    subst el38
    rw [if_pos rfl] at S38
    refine pm_iconst (pc := 41) (v := nI 0) dX10_takeNumber_41 (by decide) ?_
    refine pm_iret (pc := 42) rfl (Nat.le_refl _) (Nat.le_refl _) dX10_takeNumber_42 ?_
    rw [en]
    exact QI.r ⟨⟨y_P.mn rfl b2_ S38, fun w hw => absurd hw (by simp)⟩, rfl⟩
