theorem a_lt {s : gS} {c : Nat} (h : a_ok s c) : c < 4000 := by
  have := h.1
  have h2 := Nat.div_add_mod c 1000
  have h3 := Nat.mod_lt c (show 1000 > 0 by decide)
  unfold a_h at this
  omega
theorem pm_absI {x : Int32} {a b : Nat} (hx : x.toInt = (a : Int) - b) (ha : a < 2 ^ 30) (hb : b < 2 ^ 30) : (if 0 ≤ x then x else 0 - x) = nI ((a - b) + (b - a)) := by
  by_cases h : 0 ≤ x
  · rw [if_pos h]
    rw [pm_leI, pm_t0, hx] at h
    rw [pm_eqI, nI_toInt (by omega), hx]; omega
  · rw [if_neg h]
    rw [pm_leI, pm_t0, hx] at h
    have e : (0 - x).toInt = -x.toInt := by
      rw [fb_subI (by rw [pm_t0, hx]; omega) (by rw [pm_t0, hx]; omega), pm_t0]; omega
    rw [pm_eqI, nI_toInt (by omega), e, hx]; omega
set_option maxRecDepth 100000 in
set_option maxHeartbeats 4000000 in
theorem c_how {I : pm_I} {L : pm_L} {c k : Nat} (hc : c < 2 ^ 31) (hk : a_h c = k) : PC 0 0 0 yX0_how cX0_how 1 (some (.int)) [.int (nI c)] GG I L (QR GG I L (nI k)) := by
  refine PC.of [some (.int (nI c))] (by decide) (Nat.le_of_ble_eq_true rfl) rfl (fun l P => ?_)
  refine pm_iload_n (pc := 0) dX0_how_0 rfl ?_
  refine pm_sipush (pc := 1) (v := nI 1000) dX0_how_1 (by decide) ?_
  refine pm_idiv (pc := 4) dX0_how_4 (by decide) ?_
  refine pm_iret (pc := 5) rfl (Nat.le_refl _) (Nat.le_refl _) dX0_how_5 ?_
  exact QR.r (by rw [pk_div hc (by decide) (by decide), ← hk])
set_option maxRecDepth 100000 in
set_option maxHeartbeats 4000000 in
theorem c_where {I : pm_I} {L : pm_L} {c : Nat} (hc : c < 2 ^ 31) : PC 0 0 0 yX0_where cX0_where 1 (some (.int)) [.int (nI c)] GG I L (QR GG I L (nI (a_p c))) := by
  refine PC.of [some (.int (nI c))] (by decide) (Nat.le_of_ble_eq_true rfl) rfl (fun l P => ?_)
  refine pm_iload_n (pc := 0) dX0_where_0 rfl ?_
  refine pm_bipush (pc := 1) (v := nI 100) dX0_where_1 (by decide) ?_
  refine pm_idiv (pc := 3) dX0_where_3 (by decide) ?_
  refine pm_top (pk_div hc (by decide) (by decide)) ?_
  refine pm_bipush (pc := 4) (v := nI 10) dX0_where_4 (by decide) ?_
  refine pm_irem (pc := 6) dX0_where_6 (by decide) ?_
  refine pm_iret (pc := 7) rfl (Nat.le_refl _) (Nat.le_refl _) dX0_where_7 ?_
  exact QR.r (by rw [pk_rem (Nat.lt_of_le_of_lt (Nat.div_le_self _ _) hc) (by decide) (by decide)])
set_option maxRecDepth 100000 in
set_option maxHeartbeats 4000000 in
theorem c_other {I : pm_I} {L : pm_L} {c : Nat} (hc : c < 2 ^ 31) : PC 0 0 0 yX0_other cX0_other 1 (some (.int)) [.int (nI c)] GG I L (QR GG I L (nI (a_o c))) := by
  refine PC.of [some (.int (nI c))] (by decide) (Nat.le_of_ble_eq_true rfl) rfl (fun l P => ?_)
  refine pm_iload_n (pc := 0) dX0_other_0 rfl ?_
  refine pm_bipush (pc := 1) (v := nI 100) dX0_other_1 (by decide) ?_
  refine pm_irem (pc := 3) dX0_other_3 (by decide) ?_
  refine pm_iret (pc := 4) rfl (Nat.le_refl _) (Nat.le_refl _) dX0_other_4 ?_
  exact QR.r (by rw [pk_rem hc (by decide) (by decide)])
set_option maxRecDepth 100000 in
set_option maxHeartbeats 4000000 in
theorem c_code {I : pm_I} {L : pm_L} {h p o : Nat} : PC 0 0 0 yX0_code cX0_code 3 (some (.int)) [.int (nI h), .int (nI p), .int (nI o)] GG I L (QR GG I L (nI (1000 * h + 100 * p + o))) := by
  refine PC.of [some (.int (nI h)), some (.int (nI p)), some (.int (nI o))] (by decide) (Nat.le_of_ble_eq_true rfl) rfl (fun l P => ?_)
  refine pm_sipush (pc := 0) (v := nI 1000) dX0_code_0 (by decide) ?_
  refine pm_iload_n (pc := 3) dX0_code_3 rfl ?_
  refine pm_imul (pc := 4) dX0_code_4 ?_
  refine pm_bipush (pc := 5) (v := nI 100) dX0_code_5 (by decide) ?_
  refine pm_iload_n (pc := 7) dX0_code_7 rfl ?_
  refine pm_imul (pc := 8) dX0_code_8 ?_
  refine pm_iadd (pc := 9) dX0_code_9 ?_
  refine pm_iload_n (pc := 10) dX0_code_10 rfl ?_
  refine pm_iadd (pc := 11) dX0_code_11 ?_
  refine pm_iret (pc := 12) rfl (Nat.le_refl _) (Nat.le_refl _) dX0_code_12 ?_
  exact QR.r (by simp only [pk_mul, nI_add])
theorem c_isPieceT {I : pm_I} {L : pm_L} {s : gS} {p : Nat} (hG : GR I 1 s) (hI : gInv s) (hp : p < 6) : PC 0 0 0 yX2_isPiece cX2_isPiece 2 (some (.boolean)) [.ref 1, .int (nI (g_top s p))] GG I L (QR GG I L (b1 (g_st s p ≠ []))) := by
  have h12 := hI.n12
  by_cases hs : g_st s p = []
  · rw [g_top12 hs, ← b1_f (fun z => z hs)]
    exact c_isPieceN hG.n h12 (by simp (disch := omega) only [pm_ltI, pm_leI, nI_toInt, pm_t0]; omega)
  · rw [← b1_t hs]
    exact c_isPiece hG.n h12 (hI.top hp hs).1
set_option maxRecDepth 100000 in
set_option maxHeartbeats 4000000 in
theorem c_isAboveSense {I : pm_I} {L : pm_L} {s : gS} {p a b : Nat} {x : Int32} (hG : GR I 1 s) (hI : gInv s) (hp : p < 6) (hx : x.toInt = (a : Int) - b) (ha : a < 2 ^ 30) (hb : b < 2 ^ 30) : PC 2 0 0 yX2_isAboveSense cX2_isAboveSense 3 (some (.boolean)) [.ref 1, .int (nI p), .int x] GG I L (QR GG I L (b1 (g_sn s p < (a - b) + (b - a)))) := by
  refine PC.of [some (.ref 1), some (.int (nI p)), some (.int x)] (by decide) (Nat.le_of_ble_eq_true rfl) rfl (fun l P => ?_)
  refine pm_iload_n (pc := 0) dX2_isAboveSense_0 rfl ?_
  refine pm_mabs (pc := 1) wm_X2_124 wt_mabs wz_math wo_mabs ⟨Nat.le_of_ble_eq_true rfl, Nat.le_of_ble_eq_true rfl, Nat.le_of_ble_eq_true rfl, Nat.le_of_ble_eq_true rfl⟩ (Nat.le_of_ble_eq_true rfl) dX2_isAboveSense_1 ?_
  refine pm_top (pm_absI hx ha hb) ?_
  refine pm_aload_n (pc := 4) dX2_isAboveSense_4 rfl ?_
  refine pm_iload_n (pc := 5) dX2_isAboveSense_5 rfl ?_
  refine pm_cVR (pc := 6) dX2_isAboveSense_6 (c_senseOf hG hI hp) wq_X2_senseOf wm_X2_129 wi_X2_senseOf ws_X2_senseOf rfl rfl ⟨Nat.le_of_ble_eq_true rfl, Nat.le_of_ble_eq_true rfl⟩ ⟨Nat.le_of_ble_eq_true rfl, Nat.le_of_ble_eq_true rfl⟩ rfl (Nat.le_of_ble_eq_true rfl) ?_
  refine pm_icmp_le (pc := 9) (tgt := 16) dX2_isAboveSense_9 rfl (fun h9 => ?_) (fun h9 => ?_)
  · refine pm_iconst (pc := 16) (v := nI 0) dX2_isAboveSense_16 (by decide) ?_
    refine pm_zret (pc := 17) (by decide) rfl (Nat.le_refl _) (Nat.le_refl _) dX2_isAboveSense_17 ?_
    exact QR.r (by first | exact b1_t (by have := (hI.2.2 p hp).1; simp (disch := omega) only [pm_leI, nI_toInt] at h9; omega) | exact b1_f (by have := (hI.2.2 p hp).1; simp (disch := omega) only [pm_leI, nI_toInt] at h9; omega))
  · refine pm_iconst (pc := 12) (v := nI 1) dX2_isAboveSense_12 (by decide) ?_
    refine pm_goto (pc := 13) (tgt := 17) dX2_isAboveSense_13 rfl ?_
    refine pm_zret (pc := 17) (by decide) rfl (Nat.le_refl _) (Nat.le_refl _) dX2_isAboveSense_17 ?_
    exact QR.r (by first | exact b1_t (by have := (hI.2.2 p hp).1; simp (disch := omega) only [pm_leI, nI_toInt] at h9; omega) | exact b1_f (by have := (hI.2.2 p hp).1; simp (disch := omega) only [pm_leI, nI_toInt] at h9; omega))
set_option maxRecDepth 100000 in
set_option maxHeartbeats 4000000 in
theorem c_canBe_0 {I : pm_I} {L : pm_L} {s : gS} {c : Nat} (hG : GR I 1 s) (hI : gInv s) (ho : a_ok s c) (hk : a_h c = 0) : PC 2 0 0 yX2_canBe cX2_canBe 5 (some (.boolean)) [.ref 1, .int (nI c)] GG I L (QR GG I L (b1 (a_can s c))) := by
  have hlt := a_lt ho
  have h12 := hI.n12
  obtain ⟨o1, o2, o3, o4⟩ := ho
  refine PC.of [some (.ref 1), some (.int (nI c)), none, none, none] (by decide) (Nat.le_of_ble_eq_true rfl) rfl (fun l P => ?_)
  refine pm_iload_n (pc := 0) dX2_canBe_0 rfl ?_
  refine pm_cSR (pc := 1) dX2_canBe_1 (c_how (by omega) hk) wq_X0_how wm_X2_110 wt_X0_how ⟨Nat.le_of_ble_eq_true rfl, Nat.le_of_ble_eq_true rfl⟩ ⟨Nat.le_of_ble_eq_true rfl, Nat.le_of_ble_eq_true rfl⟩ rfl (Nat.le_of_ble_eq_true rfl) ?_
  refine pm_istore_n (pc := 4) dX2_canBe_4 (by decide) rfl ?_
  refine pm_iload_n (pc := 5) dX2_canBe_5 rfl ?_
  refine pm_iconst (pc := 6) (v := nI 1) dX2_canBe_6 (by decide) ?_
  refine pm_icmp_eq (pc := 7) (tgt := 25) dX2_canBe_7 rfl (fun h7 => absurd h7 (by decide)) (fun h7 => ?_)
  refine pm_aload_n (pc := 10) dX2_canBe_10 rfl ?_
  refine pm_aload_n (pc := 11) dX2_canBe_11 rfl ?_
  refine pm_iload_n (pc := 12) dX2_canBe_12 rfl ?_
  refine pm_cSR (pc := 13) dX2_canBe_13 (c_where (c := c) (by omega)) wq_X0_where wm_X2_115 wt_X0_where ⟨Nat.le_of_ble_eq_true rfl, Nat.le_of_ble_eq_true rfl⟩ ⟨Nat.le_of_ble_eq_true rfl, Nat.le_of_ble_eq_true rfl⟩ rfl (Nat.le_of_ble_eq_true rfl) ?_
  refine pm_cVR (pc := 16) dX2_canBe_16 (c_topOf hG hI o2) wq_X2_topOf wm_X2_54 wi_X2_topOf ws_X2_topOf rfl rfl ⟨Nat.le_of_ble_eq_true rfl, Nat.le_of_ble_eq_true rfl⟩ ⟨Nat.le_of_ble_eq_true rfl, Nat.le_of_ble_eq_true rfl⟩ rfl (Nat.le_of_ble_eq_true rfl) ?_
  refine pm_cVR (pc := 19) dX2_canBe_19 (c_isPieceT hG hI o2) wq_X2_isPiece wm_X2_46 wi_X2_isPiece ws_X2_isPiece rfl rfl ⟨Nat.le_of_ble_eq_true rfl, Nat.le_of_ble_eq_true rfl⟩ ⟨Nat.le_of_ble_eq_true rfl, Nat.le_of_ble_eq_true rfl⟩ rfl (Nat.le_of_ble_eq_true rfl) ?_
  refine pm_if_eq (pc := 22) (tgt := 29) dX2_canBe_22 rfl (fun h22 => ?_) (fun h22 => ?_)
  · have e22 : g_st s (a_p c) = [] := Decidable.not_not.mp (b1_0.mp h22)
    refine pm_iconst (pc := 29) (v := nI 0) dX2_canBe_29 (by decide) ?_
    refine pm_istore_n (pc := 30) dX2_canBe_30 (by decide) rfl ?_
    refine pm_iload_n (pc := 31) dX2_canBe_31 rfl ?_
    refine pm_if_eq (pc := 32) (tgt := 53) dX2_canBe_32 rfl (fun h32 => ?_) (fun h32 => absurd (by decide) h32)
    refine pm_iconst (pc := 53) (v := nI 1) dX2_canBe_53 (by decide) ?_
    refine pm_goto (pc := 54) (tgt := 58) dX2_canBe_54 rfl ?_
    refine pm_istore (pc := 58) dX2_canBe_58 (by decide) rfl ?_
    refine pm_iload_n (pc := 60) dX2_canBe_60 rfl ?_
    refine pm_if_eq (pc := 61) (tgt := 73) dX2_canBe_61 rfl (fun h61 => ?_) (fun h61 => ?_)
    · refine pm_iconst (pc := 73) (v := nI 0) dX2_canBe_73 (by decide) ?_
      refine pm_zret (pc := 74) (by decide) rfl (Nat.le_refl _) (Nat.le_refl _) dX2_canBe_74 ?_
      first | exact absurd h61 (by decide) | exact absurd h66 (by decide) | exact QR.r (b1_t ⟨(Or.inr e22), (Or.inl hk)⟩) | exact QR.r (b1_f (fun z => (z.1.resolve_left (by omega)) e22))
    · refine pm_iload (pc := 64) dX2_canBe_64 rfl ?_
      refine pm_if_eq (pc := 66) (tgt := 73) dX2_canBe_66 rfl (fun h66 => ?_) (fun h66 => ?_)
      · refine pm_iconst (pc := 73) (v := nI 0) dX2_canBe_73 (by decide) ?_
        refine pm_zret (pc := 74) (by decide) rfl (Nat.le_refl _) (Nat.le_refl _) dX2_canBe_74 ?_
        first | exact absurd h61 (by decide) | exact absurd h66 (by decide) | exact QR.r (b1_t ⟨(Or.inr e22), (Or.inl hk)⟩) | exact QR.r (b1_f (fun z => (z.1.resolve_left (by omega)) e22))
      · refine pm_iconst (pc := 69) (v := nI 1) dX2_canBe_69 (by decide) ?_
        refine pm_goto (pc := 70) (tgt := 74) dX2_canBe_70 rfl ?_
        refine pm_zret (pc := 74) (by decide) rfl (Nat.le_refl _) (Nat.le_refl _) dX2_canBe_74 ?_
        first | exact absurd h61 (by decide) | exact absurd h66 (by decide) | exact QR.r (b1_t ⟨(Or.inr e22), (Or.inl hk)⟩) | exact QR.r (b1_f (fun z => (z.1.resolve_left (by omega)) e22))
  · have e22 : g_st s (a_p c) ≠ [] := fun z => h22 (b1_0.mpr (fun y => y z))
    refine pm_iconst (pc := 25) (v := nI 1) dX2_canBe_25 (by decide) ?_
    refine pm_goto (pc := 26) (tgt := 30) dX2_canBe_26 rfl ?_
    refine pm_istore_n (pc := 30) dX2_canBe_30 (by decide) rfl ?_
    refine pm_iload_n (pc := 31) dX2_canBe_31 rfl ?_
    refine pm_if_eq (pc := 32) (tgt := 53) dX2_canBe_32 rfl (fun h32 => ?_) (fun h32 => absurd (by decide) h32)
    refine pm_iconst (pc := 53) (v := nI 1) dX2_canBe_53 (by decide) ?_
    refine pm_goto (pc := 54) (tgt := 58) dX2_canBe_54 rfl ?_
    refine pm_istore (pc := 58) dX2_canBe_58 (by decide) rfl ?_
    refine pm_iload_n (pc := 60) dX2_canBe_60 rfl ?_
    refine pm_if_eq (pc := 61) (tgt := 73) dX2_canBe_61 rfl (fun h61 => ?_) (fun h61 => ?_)
    · refine pm_iconst (pc := 73) (v := nI 0) dX2_canBe_73 (by decide) ?_
      refine pm_zret (pc := 74) (by decide) rfl (Nat.le_refl _) (Nat.le_refl _) dX2_canBe_74 ?_
      first | exact absurd h61 (by decide) | exact absurd h66 (by decide) | exact QR.r (b1_t ⟨(Or.inr e22), (Or.inl hk)⟩) | exact QR.r (b1_f (fun z => (z.1.resolve_left (by omega)) e22))
    · refine pm_iload (pc := 64) dX2_canBe_64 rfl ?_
      refine pm_if_eq (pc := 66) (tgt := 73) dX2_canBe_66 rfl (fun h66 => ?_) (fun h66 => ?_)
      · refine pm_iconst (pc := 73) (v := nI 0) dX2_canBe_73 (by decide) ?_
        refine pm_zret (pc := 74) (by decide) rfl (Nat.le_refl _) (Nat.le_refl _) dX2_canBe_74 ?_
        first | exact absurd h61 (by decide) | exact absurd h66 (by decide) | exact QR.r (b1_t ⟨(Or.inr e22), (Or.inl hk)⟩) | exact QR.r (b1_f (fun z => (z.1.resolve_left (by omega)) e22))
      · refine pm_iconst (pc := 69) (v := nI 1) dX2_canBe_69 (by decide) ?_
        refine pm_goto (pc := 70) (tgt := 74) dX2_canBe_70 rfl ?_
        refine pm_zret (pc := 74) (by decide) rfl (Nat.le_refl _) (Nat.le_refl _) dX2_canBe_74 ?_
        first | exact absurd h61 (by decide) | exact absurd h66 (by decide) | exact QR.r (b1_t ⟨(Or.inr e22), (Or.inl hk)⟩) | exact QR.r (b1_f (fun z => (z.1.resolve_left (by omega)) e22))
set_option maxRecDepth 100000 in
set_option maxHeartbeats 4000000 in
theorem c_canBe_1 {I : pm_I} {L : pm_L} {s : gS} {c : Nat} (hG : GR I 1 s) (hI : gInv s) (ho : a_ok s c) (hk : a_h c = 1) : PC 2 0 0 yX2_canBe cX2_canBe 5 (some (.boolean)) [.ref 1, .int (nI c)] GG I L (QR GG I L (b1 (a_can s c))) := by
  have hlt := a_lt ho
  have h12 := hI.n12
  obtain ⟨o1, o2, o3, o4⟩ := ho
  refine PC.of [some (.ref 1), some (.int (nI c)), none, none, none] (by decide) (Nat.le_of_ble_eq_true rfl) rfl (fun l P => ?_)
  refine pm_iload_n (pc := 0) dX2_canBe_0 rfl ?_
  refine pm_cSR (pc := 1) dX2_canBe_1 (c_how (by omega) hk) wq_X0_how wm_X2_110 wt_X0_how ⟨Nat.le_of_ble_eq_true rfl, Nat.le_of_ble_eq_true rfl⟩ ⟨Nat.le_of_ble_eq_true rfl, Nat.le_of_ble_eq_true rfl⟩ rfl (Nat.le_of_ble_eq_true rfl) ?_
  refine pm_istore_n (pc := 4) dX2_canBe_4 (by decide) rfl ?_
  refine pm_iload_n (pc := 5) dX2_canBe_5 rfl ?_
  refine pm_iconst (pc := 6) (v := nI 1) dX2_canBe_6 (by decide) ?_
  refine pm_icmp_eq (pc := 7) (tgt := 25) dX2_canBe_7 rfl (fun h7 => ?_) (fun h7 => absurd rfl h7)
  refine pm_iconst (pc := 25) (v := nI 1) dX2_canBe_25 (by decide) ?_
  refine pm_goto (pc := 26) (tgt := 30) dX2_canBe_26 rfl ?_
  refine pm_istore_n (pc := 30) dX2_canBe_30 (by decide) rfl ?_
  refine pm_iload_n (pc := 31) dX2_canBe_31 rfl ?_
  refine pm_if_eq (pc := 32) (tgt := 53) dX2_canBe_32 rfl (fun h32 => absurd h32 (by decide)) (fun h32 => ?_)
  refine pm_iload_n (pc := 35) dX2_canBe_35 rfl ?_
  refine pm_iconst (pc := 36) (v := nI 3) dX2_canBe_36 (by decide) ?_
  refine pm_icmp_eq (pc := 37) (tgt := 53) dX2_canBe_37 rfl (fun h37 => absurd h37 (by decide)) (fun h37 => ?_)
  refine pm_aload_n (pc := 40) dX2_canBe_40 rfl ?_
  refine pm_iload_n (pc := 41) dX2_canBe_41 rfl ?_
  refine pm_cSR (pc := 42) dX2_canBe_42 (c_other (c := c) (by omega)) wq_X0_other wm_X2_118 wt_X0_other ⟨Nat.le_of_ble_eq_true rfl, Nat.le_of_ble_eq_true rfl⟩ ⟨Nat.le_of_ble_eq_true rfl, Nat.le_of_ble_eq_true rfl⟩ rfl (Nat.le_of_ble_eq_true rfl) ?_
  refine pm_cVR (pc := 45) dX2_canBe_45 (c_placeOf hG hI (o3 (by omega))) wq_X2_placeOf wm_X2_50 wi_X2_placeOf ws_X2_placeOf rfl rfl ⟨Nat.le_of_ble_eq_true rfl, Nat.le_of_ble_eq_true rfl⟩ ⟨Nat.le_of_ble_eq_true rfl, Nat.le_of_ble_eq_true rfl⟩ rfl (Nat.le_of_ble_eq_true rfl) ?_
  refine pm_bipush (pc := 48) (v := nI 6) dX2_canBe_48 (by decide) ?_
  refine pm_icmp_ne (pc := 50) (tgt := 57) dX2_canBe_50 rfl (fun h50 => ?_) (fun h50 => ?_)
  · have e50 : ¬ g_wh s (a_o c) = 6 := fun z => h50 (by rw [z])
    refine pm_iconst (pc := 57) (v := nI 0) dX2_canBe_57 (by decide) ?_
    refine pm_istore (pc := 58) dX2_canBe_58 (by decide) rfl ?_
    refine pm_iload_n (pc := 60) dX2_canBe_60 rfl ?_
    refine pm_if_eq (pc := 61) (tgt := 73) dX2_canBe_61 rfl (fun h61 => ?_) (fun h61 => ?_)
    · refine pm_iconst (pc := 73) (v := nI 0) dX2_canBe_73 (by decide) ?_
      refine pm_zret (pc := 74) (by decide) rfl (Nat.le_refl _) (Nat.le_refl _) dX2_canBe_74 ?_
      first | exact absurd h61 (by decide) | exact absurd h66 (by decide) | exact QR.r (b1_t ⟨(Or.inl hk), (Or.inr (Or.inr e50))⟩) | exact QR.r (b1_f (fun z => e50 ((z.2.resolve_left (by omega)).resolve_left (by omega))))
    · refine pm_iload (pc := 64) dX2_canBe_64 rfl ?_
      refine pm_if_eq (pc := 66) (tgt := 73) dX2_canBe_66 rfl (fun h66 => ?_) (fun h66 => ?_)
      · refine pm_iconst (pc := 73) (v := nI 0) dX2_canBe_73 (by decide) ?_
        refine pm_zret (pc := 74) (by decide) rfl (Nat.le_refl _) (Nat.le_refl _) dX2_canBe_74 ?_
        first | exact absurd h61 (by decide) | exact absurd h66 (by decide) | exact QR.r (b1_t ⟨(Or.inl hk), (Or.inr (Or.inr e50))⟩) | exact QR.r (b1_f (fun z => e50 ((z.2.resolve_left (by omega)).resolve_left (by omega))))
      · refine pm_iconst (pc := 69) (v := nI 1) dX2_canBe_69 (by decide) ?_
        refine pm_goto (pc := 70) (tgt := 74) dX2_canBe_70 rfl ?_
        refine pm_zret (pc := 74) (by decide) rfl (Nat.le_refl _) (Nat.le_refl _) dX2_canBe_74 ?_
        first | exact absurd h61 (by decide) | exact absurd h66 (by decide) | exact QR.r (b1_t ⟨(Or.inl hk), (Or.inr (Or.inr e50))⟩) | exact QR.r (b1_f (fun z => e50 ((z.2.resolve_left (by omega)).resolve_left (by omega))))
  · have e50 : g_wh s (a_o c) = 6 := (nI_eq (by have := (hI.2.1 (a_o c) (o3 (by omega))).2.2.2.2; omega) (by decide)).mp h50
    refine pm_iconst (pc := 53) (v := nI 1) dX2_canBe_53 (by decide) ?_
    refine pm_goto (pc := 54) (tgt := 58) dX2_canBe_54 rfl ?_
    refine pm_istore (pc := 58) dX2_canBe_58 (by decide) rfl ?_
    refine pm_iload_n (pc := 60) dX2_canBe_60 rfl ?_
    refine pm_if_eq (pc := 61) (tgt := 73) dX2_canBe_61 rfl (fun h61 => ?_) (fun h61 => ?_)
    · refine pm_iconst (pc := 73) (v := nI 0) dX2_canBe_73 (by decide) ?_
      refine pm_zret (pc := 74) (by decide) rfl (Nat.le_refl _) (Nat.le_refl _) dX2_canBe_74 ?_
      first | exact absurd h61 (by decide) | exact absurd h66 (by decide) | exact QR.r (b1_t ⟨(Or.inl hk), (Or.inr (Or.inr e50))⟩) | exact QR.r (b1_f (fun z => e50 ((z.2.resolve_left (by omega)).resolve_left (by omega))))
    · refine pm_iload (pc := 64) dX2_canBe_64 rfl ?_
      refine pm_if_eq (pc := 66) (tgt := 73) dX2_canBe_66 rfl (fun h66 => ?_) (fun h66 => ?_)
      · refine pm_iconst (pc := 73) (v := nI 0) dX2_canBe_73 (by decide) ?_
        refine pm_zret (pc := 74) (by decide) rfl (Nat.le_refl _) (Nat.le_refl _) dX2_canBe_74 ?_
        first | exact absurd h61 (by decide) | exact absurd h66 (by decide) | exact QR.r (b1_t ⟨(Or.inl hk), (Or.inr (Or.inr e50))⟩) | exact QR.r (b1_f (fun z => e50 ((z.2.resolve_left (by omega)).resolve_left (by omega))))
      · refine pm_iconst (pc := 69) (v := nI 1) dX2_canBe_69 (by decide) ?_
        refine pm_goto (pc := 70) (tgt := 74) dX2_canBe_70 rfl ?_
        refine pm_zret (pc := 74) (by decide) rfl (Nat.le_refl _) (Nat.le_refl _) dX2_canBe_74 ?_
        first | exact absurd h61 (by decide) | exact absurd h66 (by decide) | exact QR.r (b1_t ⟨(Or.inl hk), (Or.inr (Or.inr e50))⟩) | exact QR.r (b1_f (fun z => e50 ((z.2.resolve_left (by omega)).resolve_left (by omega))))
set_option maxRecDepth 100000 in
set_option maxHeartbeats 4000000 in
theorem c_canBe_2 {I : pm_I} {L : pm_L} {s : gS} {c : Nat} (hG : GR I 1 s) (hI : gInv s) (ho : a_ok s c) (hk : a_h c = 2) : PC 2 0 0 yX2_canBe cX2_canBe 5 (some (.boolean)) [.ref 1, .int (nI c)] GG I L (QR GG I L (b1 (a_can s c))) := by
  have hlt := a_lt ho
  have h12 := hI.n12
  obtain ⟨o1, o2, o3, o4⟩ := ho
  refine PC.of [some (.ref 1), some (.int (nI c)), none, none, none] (by decide) (Nat.le_of_ble_eq_true rfl) rfl (fun l P => ?_)
  refine pm_iload_n (pc := 0) dX2_canBe_0 rfl ?_
  refine pm_cSR (pc := 1) dX2_canBe_1 (c_how (by omega) hk) wq_X0_how wm_X2_110 wt_X0_how ⟨Nat.le_of_ble_eq_true rfl, Nat.le_of_ble_eq_true rfl⟩ ⟨Nat.le_of_ble_eq_true rfl, Nat.le_of_ble_eq_true rfl⟩ rfl (Nat.le_of_ble_eq_true rfl) ?_
  refine pm_istore_n (pc := 4) dX2_canBe_4 (by decide) rfl ?_
  refine pm_iload_n (pc := 5) dX2_canBe_5 rfl ?_
  refine pm_iconst (pc := 6) (v := nI 1) dX2_canBe_6 (by decide) ?_
  refine pm_icmp_eq (pc := 7) (tgt := 25) dX2_canBe_7 rfl (fun h7 => absurd h7 (by decide)) (fun h7 => ?_)
  refine pm_aload_n (pc := 10) dX2_canBe_10 rfl ?_
  refine pm_aload_n (pc := 11) dX2_canBe_11 rfl ?_
  refine pm_iload_n (pc := 12) dX2_canBe_12 rfl ?_
  refine pm_cSR (pc := 13) dX2_canBe_13 (c_where (c := c) (by omega)) wq_X0_where wm_X2_115 wt_X0_where ⟨Nat.le_of_ble_eq_true rfl, Nat.le_of_ble_eq_true rfl⟩ ⟨Nat.le_of_ble_eq_true rfl, Nat.le_of_ble_eq_true rfl⟩ rfl (Nat.le_of_ble_eq_true rfl) ?_
  refine pm_cVR (pc := 16) dX2_canBe_16 (c_topOf hG hI o2) wq_X2_topOf wm_X2_54 wi_X2_topOf ws_X2_topOf rfl rfl ⟨Nat.le_of_ble_eq_true rfl, Nat.le_of_ble_eq_true rfl⟩ ⟨Nat.le_of_ble_eq_true rfl, Nat.le_of_ble_eq_true rfl⟩ rfl (Nat.le_of_ble_eq_true rfl) ?_
  refine pm_cVR (pc := 19) dX2_canBe_19 (c_isPieceT hG hI o2) wq_X2_isPiece wm_X2_46 wi_X2_isPiece ws_X2_isPiece rfl rfl ⟨Nat.le_of_ble_eq_true rfl, Nat.le_of_ble_eq_true rfl⟩ ⟨Nat.le_of_ble_eq_true rfl, Nat.le_of_ble_eq_true rfl⟩ rfl (Nat.le_of_ble_eq_true rfl) ?_
  refine pm_if_eq (pc := 22) (tgt := 29) dX2_canBe_22 rfl (fun h22 => ?_) (fun h22 => ?_)
  · have e22 : g_st s (a_p c) = [] := Decidable.not_not.mp (b1_0.mp h22)
    refine pm_iconst (pc := 29) (v := nI 0) dX2_canBe_29 (by decide) ?_
    refine pm_istore_n (pc := 30) dX2_canBe_30 (by decide) rfl ?_
    refine pm_iload_n (pc := 31) dX2_canBe_31 rfl ?_
    refine pm_if_eq (pc := 32) (tgt := 53) dX2_canBe_32 rfl (fun h32 => absurd h32 (by decide)) (fun h32 => ?_)
    refine pm_iload_n (pc := 35) dX2_canBe_35 rfl ?_
    refine pm_iconst (pc := 36) (v := nI 3) dX2_canBe_36 (by decide) ?_
    refine pm_icmp_eq (pc := 37) (tgt := 53) dX2_canBe_37 rfl (fun h37 => absurd h37 (by decide)) (fun h37 => ?_)
    refine pm_aload_n (pc := 40) dX2_canBe_40 rfl ?_
    refine pm_iload_n (pc := 41) dX2_canBe_41 rfl ?_
    refine pm_cSR (pc := 42) dX2_canBe_42 (c_other (c := c) (by omega)) wq_X0_other wm_X2_118 wt_X0_other ⟨Nat.le_of_ble_eq_true rfl, Nat.le_of_ble_eq_true rfl⟩ ⟨Nat.le_of_ble_eq_true rfl, Nat.le_of_ble_eq_true rfl⟩ rfl (Nat.le_of_ble_eq_true rfl) ?_
    refine pm_cVR (pc := 45) dX2_canBe_45 (c_placeOf hG hI (o3 (by omega))) wq_X2_placeOf wm_X2_50 wi_X2_placeOf ws_X2_placeOf rfl rfl ⟨Nat.le_of_ble_eq_true rfl, Nat.le_of_ble_eq_true rfl⟩ ⟨Nat.le_of_ble_eq_true rfl, Nat.le_of_ble_eq_true rfl⟩ rfl (Nat.le_of_ble_eq_true rfl) ?_
    refine pm_bipush (pc := 48) (v := nI 6) dX2_canBe_48 (by decide) ?_
    refine pm_icmp_ne (pc := 50) (tgt := 57) dX2_canBe_50 rfl (fun h50 => ?_) (fun h50 => ?_)
    · have e50 : ¬ g_wh s (a_o c) = 6 := fun z => h50 (by rw [z])
      refine pm_iconst (pc := 57) (v := nI 0) dX2_canBe_57 (by decide) ?_
      refine pm_istore (pc := 58) dX2_canBe_58 (by decide) rfl ?_
      refine pm_iload_n (pc := 60) dX2_canBe_60 rfl ?_
      refine pm_if_eq (pc := 61) (tgt := 73) dX2_canBe_61 rfl (fun h61 => ?_) (fun h61 => ?_)
      · refine pm_iconst (pc := 73) (v := nI 0) dX2_canBe_73 (by decide) ?_
        refine pm_zret (pc := 74) (by decide) rfl (Nat.le_refl _) (Nat.le_refl _) dX2_canBe_74 ?_
        first | exact absurd h61 (by decide) | exact absurd h66 (by decide) | exact QR.r (b1_t ⟨(Or.inr e22), (Or.inr (Or.inr e50))⟩) | exact QR.r (b1_f (fun z => (z.1.resolve_left (by omega)) e22)) | exact QR.r (b1_f (fun z => e50 ((z.2.resolve_left (by omega)).resolve_left (by omega))))
      · refine pm_iload (pc := 64) dX2_canBe_64 rfl ?_
        refine pm_if_eq (pc := 66) (tgt := 73) dX2_canBe_66 rfl (fun h66 => ?_) (fun h66 => ?_)
        · refine pm_iconst (pc := 73) (v := nI 0) dX2_canBe_73 (by decide) ?_
          refine pm_zret (pc := 74) (by decide) rfl (Nat.le_refl _) (Nat.le_refl _) dX2_canBe_74 ?_
          first | exact absurd h61 (by decide) | exact absurd h66 (by decide) | exact QR.r (b1_t ⟨(Or.inr e22), (Or.inr (Or.inr e50))⟩) | exact QR.r (b1_f (fun z => (z.1.resolve_left (by omega)) e22)) | exact QR.r (b1_f (fun z => e50 ((z.2.resolve_left (by omega)).resolve_left (by omega))))
        · refine pm_iconst (pc := 69) (v := nI 1) dX2_canBe_69 (by decide) ?_
          refine pm_goto (pc := 70) (tgt := 74) dX2_canBe_70 rfl ?_
          refine pm_zret (pc := 74) (by decide) rfl (Nat.le_refl _) (Nat.le_refl _) dX2_canBe_74 ?_
          first | exact absurd h61 (by decide) | exact absurd h66 (by decide) | exact QR.r (b1_t ⟨(Or.inr e22), (Or.inr (Or.inr e50))⟩) | exact QR.r (b1_f (fun z => (z.1.resolve_left (by omega)) e22)) | exact QR.r (b1_f (fun z => e50 ((z.2.resolve_left (by omega)).resolve_left (by omega))))
    · have e50 : g_wh s (a_o c) = 6 := (nI_eq (by have := (hI.2.1 (a_o c) (o3 (by omega))).2.2.2.2; omega) (by decide)).mp h50
      refine pm_iconst (pc := 53) (v := nI 1) dX2_canBe_53 (by decide) ?_
      refine pm_goto (pc := 54) (tgt := 58) dX2_canBe_54 rfl ?_
      refine pm_istore (pc := 58) dX2_canBe_58 (by decide) rfl ?_
      refine pm_iload_n (pc := 60) dX2_canBe_60 rfl ?_
      refine pm_if_eq (pc := 61) (tgt := 73) dX2_canBe_61 rfl (fun h61 => ?_) (fun h61 => ?_)
      · refine pm_iconst (pc := 73) (v := nI 0) dX2_canBe_73 (by decide) ?_
        refine pm_zret (pc := 74) (by decide) rfl (Nat.le_refl _) (Nat.le_refl _) dX2_canBe_74 ?_
        first | exact absurd h61 (by decide) | exact absurd h66 (by decide) | exact QR.r (b1_t ⟨(Or.inr e22), (Or.inr (Or.inr e50))⟩) | exact QR.r (b1_f (fun z => (z.1.resolve_left (by omega)) e22)) | exact QR.r (b1_f (fun z => e50 ((z.2.resolve_left (by omega)).resolve_left (by omega))))
      · refine pm_iload (pc := 64) dX2_canBe_64 rfl ?_
        refine pm_if_eq (pc := 66) (tgt := 73) dX2_canBe_66 rfl (fun h66 => ?_) (fun h66 => ?_)
        · refine pm_iconst (pc := 73) (v := nI 0) dX2_canBe_73 (by decide) ?_
          refine pm_zret (pc := 74) (by decide) rfl (Nat.le_refl _) (Nat.le_refl _) dX2_canBe_74 ?_
          first | exact absurd h61 (by decide) | exact absurd h66 (by decide) | exact QR.r (b1_t ⟨(Or.inr e22), (Or.inr (Or.inr e50))⟩) | exact QR.r (b1_f (fun z => (z.1.resolve_left (by omega)) e22)) | exact QR.r (b1_f (fun z => e50 ((z.2.resolve_left (by omega)).resolve_left (by omega))))
        · refine pm_iconst (pc := 69) (v := nI 1) dX2_canBe_69 (by decide) ?_
          refine pm_goto (pc := 70) (tgt := 74) dX2_canBe_70 rfl ?_
          refine pm_zret (pc := 74) (by decide) rfl (Nat.le_refl _) (Nat.le_refl _) dX2_canBe_74 ?_
          first | exact absurd h61 (by decide) | exact absurd h66 (by decide) | exact QR.r (b1_t ⟨(Or.inr e22), (Or.inr (Or.inr e50))⟩) | exact QR.r (b1_f (fun z => (z.1.resolve_left (by omega)) e22)) | exact QR.r (b1_f (fun z => e50 ((z.2.resolve_left (by omega)).resolve_left (by omega))))
  · have e22 : g_st s (a_p c) ≠ [] := fun z => h22 (b1_0.mpr (fun y => y z))
    refine pm_iconst (pc := 25) (v := nI 1) dX2_canBe_25 (by decide) ?_
    refine pm_goto (pc := 26) (tgt := 30) dX2_canBe_26 rfl ?_
    refine pm_istore_n (pc := 30) dX2_canBe_30 (by decide) rfl ?_
    refine pm_iload_n (pc := 31) dX2_canBe_31 rfl ?_
    refine pm_if_eq (pc := 32) (tgt := 53) dX2_canBe_32 rfl (fun h32 => absurd h32 (by decide)) (fun h32 => ?_)
    refine pm_iload_n (pc := 35) dX2_canBe_35 rfl ?_
    refine pm_iconst (pc := 36) (v := nI 3) dX2_canBe_36 (by decide) ?_
    refine pm_icmp_eq (pc := 37) (tgt := 53) dX2_canBe_37 rfl (fun h37 => absurd h37 (by decide)) (fun h37 => ?_)
    refine pm_aload_n (pc := 40) dX2_canBe_40 rfl ?_
    refine pm_iload_n (pc := 41) dX2_canBe_41 rfl ?_
    refine pm_cSR (pc := 42) dX2_canBe_42 (c_other (c := c) (by omega)) wq_X0_other wm_X2_118 wt_X0_other ⟨Nat.le_of_ble_eq_true rfl, Nat.le_of_ble_eq_true rfl⟩ ⟨Nat.le_of_ble_eq_true rfl, Nat.le_of_ble_eq_true rfl⟩ rfl (Nat.le_of_ble_eq_true rfl) ?_
    refine pm_cVR (pc := 45) dX2_canBe_45 (c_placeOf hG hI (o3 (by omega))) wq_X2_placeOf wm_X2_50 wi_X2_placeOf ws_X2_placeOf rfl rfl ⟨Nat.le_of_ble_eq_true rfl, Nat.le_of_ble_eq_true rfl⟩ ⟨Nat.le_of_ble_eq_true rfl, Nat.le_of_ble_eq_true rfl⟩ rfl (Nat.le_of_ble_eq_true rfl) ?_
    refine pm_bipush (pc := 48) (v := nI 6) dX2_canBe_48 (by decide) ?_
    refine pm_icmp_ne (pc := 50) (tgt := 57) dX2_canBe_50 rfl (fun h50 => ?_) (fun h50 => ?_)
    · have e50 : ¬ g_wh s (a_o c) = 6 := fun z => h50 (by rw [z])
      refine pm_iconst (pc := 57) (v := nI 0) dX2_canBe_57 (by decide) ?_
      refine pm_istore (pc := 58) dX2_canBe_58 (by decide) rfl ?_
      refine pm_iload_n (pc := 60) dX2_canBe_60 rfl ?_
      refine pm_if_eq (pc := 61) (tgt := 73) dX2_canBe_61 rfl (fun h61 => ?_) (fun h61 => ?_)
      · refine pm_iconst (pc := 73) (v := nI 0) dX2_canBe_73 (by decide) ?_
        refine pm_zret (pc := 74) (by decide) rfl (Nat.le_refl _) (Nat.le_refl _) dX2_canBe_74 ?_
        first | exact absurd h61 (by decide) | exact absurd h66 (by decide) | exact QR.r (b1_t ⟨(Or.inr e22), (Or.inr (Or.inr e50))⟩) | exact QR.r (b1_f (fun z => (z.1.resolve_left (by omega)) e22)) | exact QR.r (b1_f (fun z => e50 ((z.2.resolve_left (by omega)).resolve_left (by omega))))
      · refine pm_iload (pc := 64) dX2_canBe_64 rfl ?_
        refine pm_if_eq (pc := 66) (tgt := 73) dX2_canBe_66 rfl (fun h66 => ?_) (fun h66 => ?_)
        · refine pm_iconst (pc := 73) (v := nI 0) dX2_canBe_73 (by decide) ?_
          refine pm_zret (pc := 74) (by decide) rfl (Nat.le_refl _) (Nat.le_refl _) dX2_canBe_74 ?_
          first | exact absurd h61 (by decide) | exact absurd h66 (by decide) | exact QR.r (b1_t ⟨(Or.inr e22), (Or.inr (Or.inr e50))⟩) | exact QR.r (b1_f (fun z => (z.1.resolve_left (by omega)) e22)) | exact QR.r (b1_f (fun z => e50 ((z.2.resolve_left (by omega)).resolve_left (by omega))))
        · refine pm_iconst (pc := 69) (v := nI 1) dX2_canBe_69 (by decide) ?_
          refine pm_goto (pc := 70) (tgt := 74) dX2_canBe_70 rfl ?_
          refine pm_zret (pc := 74) (by decide) rfl (Nat.le_refl _) (Nat.le_refl _) dX2_canBe_74 ?_
          first | exact absurd h61 (by decide) | exact absurd h66 (by decide) | exact QR.r (b1_t ⟨(Or.inr e22), (Or.inr (Or.inr e50))⟩) | exact QR.r (b1_f (fun z => (z.1.resolve_left (by omega)) e22)) | exact QR.r (b1_f (fun z => e50 ((z.2.resolve_left (by omega)).resolve_left (by omega))))
    · have e50 : g_wh s (a_o c) = 6 := (nI_eq (by have := (hI.2.1 (a_o c) (o3 (by omega))).2.2.2.2; omega) (by decide)).mp h50
      refine pm_iconst (pc := 53) (v := nI 1) dX2_canBe_53 (by decide) ?_
      refine pm_goto (pc := 54) (tgt := 58) dX2_canBe_54 rfl ?_
      refine pm_istore (pc := 58) dX2_canBe_58 (by decide) rfl ?_
      refine pm_iload_n (pc := 60) dX2_canBe_60 rfl ?_
      refine pm_if_eq (pc := 61) (tgt := 73) dX2_canBe_61 rfl (fun h61 => ?_) (fun h61 => ?_)
      · refine pm_iconst (pc := 73) (v := nI 0) dX2_canBe_73 (by decide) ?_
        refine pm_zret (pc := 74) (by decide) rfl (Nat.le_refl _) (Nat.le_refl _) dX2_canBe_74 ?_
        first | exact absurd h61 (by decide) | exact absurd h66 (by decide) | exact QR.r (b1_t ⟨(Or.inr e22), (Or.inr (Or.inr e50))⟩) | exact QR.r (b1_f (fun z => (z.1.resolve_left (by omega)) e22)) | exact QR.r (b1_f (fun z => e50 ((z.2.resolve_left (by omega)).resolve_left (by omega))))
      · refine pm_iload (pc := 64) dX2_canBe_64 rfl ?_
        refine pm_if_eq (pc := 66) (tgt := 73) dX2_canBe_66 rfl (fun h66 => ?_) (fun h66 => ?_)
        · refine pm_iconst (pc := 73) (v := nI 0) dX2_canBe_73 (by decide) ?_
          refine pm_zret (pc := 74) (by decide) rfl (Nat.le_refl _) (Nat.le_refl _) dX2_canBe_74 ?_
          first | exact absurd h61 (by decide) | exact absurd h66 (by decide) | exact QR.r (b1_t ⟨(Or.inr e22), (Or.inr (Or.inr e50))⟩) | exact QR.r (b1_f (fun z => (z.1.resolve_left (by omega)) e22)) | exact QR.r (b1_f (fun z => e50 ((z.2.resolve_left (by omega)).resolve_left (by omega))))
        · refine pm_iconst (pc := 69) (v := nI 1) dX2_canBe_69 (by decide) ?_
          refine pm_goto (pc := 70) (tgt := 74) dX2_canBe_70 rfl ?_
          refine pm_zret (pc := 74) (by decide) rfl (Nat.le_refl _) (Nat.le_refl _) dX2_canBe_74 ?_
          first | exact absurd h61 (by decide) | exact absurd h66 (by decide) | exact QR.r (b1_t ⟨(Or.inr e22), (Or.inr (Or.inr e50))⟩) | exact QR.r (b1_f (fun z => (z.1.resolve_left (by omega)) e22)) | exact QR.r (b1_f (fun z => e50 ((z.2.resolve_left (by omega)).resolve_left (by omega))))
set_option maxRecDepth 100000 in
set_option maxHeartbeats 4000000 in
theorem c_canBe_3 {I : pm_I} {L : pm_L} {s : gS} {c : Nat} (hG : GR I 1 s) (hI : gInv s) (ho : a_ok s c) (hk : a_h c = 3) : PC 2 0 0 yX2_canBe cX2_canBe 5 (some (.boolean)) [.ref 1, .int (nI c)] GG I L (QR GG I L (b1 (a_can s c))) := by
  have hlt := a_lt ho
  have h12 := hI.n12
  obtain ⟨o1, o2, o3, o4⟩ := ho
  refine PC.of [some (.ref 1), some (.int (nI c)), none, none, none] (by decide) (Nat.le_of_ble_eq_true rfl) rfl (fun l P => ?_)
  refine pm_iload_n (pc := 0) dX2_canBe_0 rfl ?_
  refine pm_cSR (pc := 1) dX2_canBe_1 (c_how (by omega) hk) wq_X0_how wm_X2_110 wt_X0_how ⟨Nat.le_of_ble_eq_true rfl, Nat.le_of_ble_eq_true rfl⟩ ⟨Nat.le_of_ble_eq_true rfl, Nat.le_of_ble_eq_true rfl⟩ rfl (Nat.le_of_ble_eq_true rfl) ?_
  refine pm_istore_n (pc := 4) dX2_canBe_4 (by decide) rfl ?_
  refine pm_iload_n (pc := 5) dX2_canBe_5 rfl ?_
  refine pm_iconst (pc := 6) (v := nI 1) dX2_canBe_6 (by decide) ?_
  refine pm_icmp_eq (pc := 7) (tgt := 25) dX2_canBe_7 rfl (fun h7 => absurd h7 (by decide)) (fun h7 => ?_)
  refine pm_aload_n (pc := 10) dX2_canBe_10 rfl ?_
  refine pm_aload_n (pc := 11) dX2_canBe_11 rfl ?_
  refine pm_iload_n (pc := 12) dX2_canBe_12 rfl ?_
  refine pm_cSR (pc := 13) dX2_canBe_13 (c_where (c := c) (by omega)) wq_X0_where wm_X2_115 wt_X0_where ⟨Nat.le_of_ble_eq_true rfl, Nat.le_of_ble_eq_true rfl⟩ ⟨Nat.le_of_ble_eq_true rfl, Nat.le_of_ble_eq_true rfl⟩ rfl (Nat.le_of_ble_eq_true rfl) ?_
  refine pm_cVR (pc := 16) dX2_canBe_16 (c_topOf hG hI o2) wq_X2_topOf wm_X2_54 wi_X2_topOf ws_X2_topOf rfl rfl ⟨Nat.le_of_ble_eq_true rfl, Nat.le_of_ble_eq_true rfl⟩ ⟨Nat.le_of_ble_eq_true rfl, Nat.le_of_ble_eq_true rfl⟩ rfl (Nat.le_of_ble_eq_true rfl) ?_
  refine pm_cVR (pc := 19) dX2_canBe_19 (c_isPieceT hG hI o2) wq_X2_isPiece wm_X2_46 wi_X2_isPiece ws_X2_isPiece rfl rfl ⟨Nat.le_of_ble_eq_true rfl, Nat.le_of_ble_eq_true rfl⟩ ⟨Nat.le_of_ble_eq_true rfl, Nat.le_of_ble_eq_true rfl⟩ rfl (Nat.le_of_ble_eq_true rfl) ?_
  refine pm_if_eq (pc := 22) (tgt := 29) dX2_canBe_22 rfl (fun h22 => ?_) (fun h22 => ?_)
  · have e22 : g_st s (a_p c) = [] := Decidable.not_not.mp (b1_0.mp h22)
    refine pm_iconst (pc := 29) (v := nI 0) dX2_canBe_29 (by decide) ?_
    refine pm_istore_n (pc := 30) dX2_canBe_30 (by decide) rfl ?_
    refine pm_iload_n (pc := 31) dX2_canBe_31 rfl ?_
    refine pm_if_eq (pc := 32) (tgt := 53) dX2_canBe_32 rfl (fun h32 => absurd h32 (by decide)) (fun h32 => ?_)
    refine pm_iload_n (pc := 35) dX2_canBe_35 rfl ?_
    refine pm_iconst (pc := 36) (v := nI 3) dX2_canBe_36 (by decide) ?_
    refine pm_icmp_eq (pc := 37) (tgt := 53) dX2_canBe_37 rfl (fun h37 => ?_) (fun h37 => absurd rfl h37)
    refine pm_iconst (pc := 53) (v := nI 1) dX2_canBe_53 (by decide) ?_
    refine pm_goto (pc := 54) (tgt := 58) dX2_canBe_54 rfl ?_
    refine pm_istore (pc := 58) dX2_canBe_58 (by decide) rfl ?_
    refine pm_iload_n (pc := 60) dX2_canBe_60 rfl ?_
    refine pm_if_eq (pc := 61) (tgt := 73) dX2_canBe_61 rfl (fun h61 => ?_) (fun h61 => ?_)
    · refine pm_iconst (pc := 73) (v := nI 0) dX2_canBe_73 (by decide) ?_
      refine pm_zret (pc := 74) (by decide) rfl (Nat.le_refl _) (Nat.le_refl _) dX2_canBe_74 ?_
      first | exact absurd h61 (by decide) | exact absurd h66 (by decide) | exact QR.r (b1_t ⟨(Or.inr e22), (Or.inr (Or.inl hk))⟩) | exact QR.r (b1_f (fun z => (z.1.resolve_left (by omega)) e22))
    · refine pm_iload (pc := 64) dX2_canBe_64 rfl ?_
      refine pm_if_eq (pc := 66) (tgt := 73) dX2_canBe_66 rfl (fun h66 => ?_) (fun h66 => ?_)
      · refine pm_iconst (pc := 73) (v := nI 0) dX2_canBe_73 (by decide) ?_
        refine pm_zret (pc := 74) (by decide) rfl (Nat.le_refl _) (Nat.le_refl _) dX2_canBe_74 ?_
        first | exact absurd h61 (by decide) | exact absurd h66 (by decide) | exact QR.r (b1_t ⟨(Or.inr e22), (Or.inr (Or.inl hk))⟩) | exact QR.r (b1_f (fun z => (z.1.resolve_left (by omega)) e22))
      · refine pm_iconst (pc := 69) (v := nI 1) dX2_canBe_69 (by decide) ?_
        refine pm_goto (pc := 70) (tgt := 74) dX2_canBe_70 rfl ?_
        refine pm_zret (pc := 74) (by decide) rfl (Nat.le_refl _) (Nat.le_refl _) dX2_canBe_74 ?_
        first | exact absurd h61 (by decide) | exact absurd h66 (by decide) | exact QR.r (b1_t ⟨(Or.inr e22), (Or.inr (Or.inl hk))⟩) | exact QR.r (b1_f (fun z => (z.1.resolve_left (by omega)) e22))
  · have e22 : g_st s (a_p c) ≠ [] := fun z => h22 (b1_0.mpr (fun y => y z))
    refine pm_iconst (pc := 25) (v := nI 1) dX2_canBe_25 (by decide) ?_
    refine pm_goto (pc := 26) (tgt := 30) dX2_canBe_26 rfl ?_
    refine pm_istore_n (pc := 30) dX2_canBe_30 (by decide) rfl ?_
    refine pm_iload_n (pc := 31) dX2_canBe_31 rfl ?_
    refine pm_if_eq (pc := 32) (tgt := 53) dX2_canBe_32 rfl (fun h32 => absurd h32 (by decide)) (fun h32 => ?_)
    refine pm_iload_n (pc := 35) dX2_canBe_35 rfl ?_
    refine pm_iconst (pc := 36) (v := nI 3) dX2_canBe_36 (by decide) ?_
    refine pm_icmp_eq (pc := 37) (tgt := 53) dX2_canBe_37 rfl (fun h37 => ?_) (fun h37 => absurd rfl h37)
    refine pm_iconst (pc := 53) (v := nI 1) dX2_canBe_53 (by decide) ?_
    refine pm_goto (pc := 54) (tgt := 58) dX2_canBe_54 rfl ?_
    refine pm_istore (pc := 58) dX2_canBe_58 (by decide) rfl ?_
    refine pm_iload_n (pc := 60) dX2_canBe_60 rfl ?_
    refine pm_if_eq (pc := 61) (tgt := 73) dX2_canBe_61 rfl (fun h61 => ?_) (fun h61 => ?_)
    · refine pm_iconst (pc := 73) (v := nI 0) dX2_canBe_73 (by decide) ?_
      refine pm_zret (pc := 74) (by decide) rfl (Nat.le_refl _) (Nat.le_refl _) dX2_canBe_74 ?_
      first | exact absurd h61 (by decide) | exact absurd h66 (by decide) | exact QR.r (b1_t ⟨(Or.inr e22), (Or.inr (Or.inl hk))⟩) | exact QR.r (b1_f (fun z => (z.1.resolve_left (by omega)) e22))
    · refine pm_iload (pc := 64) dX2_canBe_64 rfl ?_
      refine pm_if_eq (pc := 66) (tgt := 73) dX2_canBe_66 rfl (fun h66 => ?_) (fun h66 => ?_)
      · refine pm_iconst (pc := 73) (v := nI 0) dX2_canBe_73 (by decide) ?_
        refine pm_zret (pc := 74) (by decide) rfl (Nat.le_refl _) (Nat.le_refl _) dX2_canBe_74 ?_
        first | exact absurd h61 (by decide) | exact absurd h66 (by decide) | exact QR.r (b1_t ⟨(Or.inr e22), (Or.inr (Or.inl hk))⟩) | exact QR.r (b1_f (fun z => (z.1.resolve_left (by omega)) e22))
      · refine pm_iconst (pc := 69) (v := nI 1) dX2_canBe_69 (by decide) ?_
        refine pm_goto (pc := 70) (tgt := 74) dX2_canBe_70 rfl ?_
        refine pm_zret (pc := 74) (by decide) rfl (Nat.le_refl _) (Nat.le_refl _) dX2_canBe_74 ?_
        first | exact absurd h61 (by decide) | exact absurd h66 (by decide) | exact QR.r (b1_t ⟨(Or.inr e22), (Or.inr (Or.inl hk))⟩) | exact QR.r (b1_f (fun z => (z.1.resolve_left (by omega)) e22))
theorem c_canBe {I : pm_I} {L : pm_L} {s : gS} {c : Nat} (hG : GR I 1 s) (hI : gInv s) (ho : a_ok s c) : PC 2 0 0 yX2_canBe cX2_canBe 5 (some (.boolean)) [.ref 1, .int (nI c)] GG I L (QR GG I L (b1 (a_can s c))) := by
  have h := ho.1
  rcases (show a_h c = 0 ∨ a_h c = 1 ∨ a_h c = 2 ∨ a_h c = 3 by omega) with hk | hk | hk | hk
  · exact c_canBe_0 hG hI ho hk
  · exact c_canBe_1 hG hI ho hk
  · exact c_canBe_2 hG hI ho hk
  · exact c_canBe_3 hG hI ho hk
set_option maxRecDepth 100000 in
set_option maxHeartbeats 4000000 in
theorem c_isFelt_0 {I : pm_I} {L : pm_L} {s : gS} {c : Nat} (hG : GR I 1 s) (hI : gInv s) (ho : a_ok s c) (hc : a_can s c) (hk : a_h c = 0) : PC 3 0 0 yX2_isFelt cX2_isFelt 5 (some (.boolean)) [.ref 1, .int (nI c)] GG I L (QR GG I L (b1 (a_felt s c))) := by
  have hlt := a_lt ho
  have h12 := hI.n12
  obtain ⟨o1, o2, o3, o4⟩ := ho
  have eo : a_out s c = g_w s (g_top s (a_p c)) := by unfold a_out; rw [if_neg (by omega)]
  have ei : a_in s c = 0 := by unfold a_in; rw [if_neg (by omega)]
  have hs : g_st s (a_p c) ≠ [] := hc.1.resolve_left (by omega)
  have ht := (hI.top o2 hs).1
  have w1 := hI.w ht
  refine PC.of [some (.ref 1), some (.int (nI c)), none, none, none] (by decide) (Nat.le_of_ble_eq_true rfl) rfl (fun l P => ?_)
  refine pm_iload_n (pc := 0) dX2_isFelt_0 rfl ?_
  refine pm_cSR (pc := 1) dX2_isFelt_1 (c_how (by omega) hk) wq_X0_how wm_X2_110 wt_X0_how ⟨Nat.le_of_ble_eq_true rfl, Nat.le_of_ble_eq_true rfl⟩ ⟨Nat.le_of_ble_eq_true rfl, Nat.le_of_ble_eq_true rfl⟩ rfl (Nat.le_of_ble_eq_true rfl) ?_
  refine pm_istore_n (pc := 4) dX2_isFelt_4 (by decide) rfl ?_
  refine pm_iload_n (pc := 5) dX2_isFelt_5 rfl ?_
  refine pm_iconst (pc := 6) (v := nI 1) dX2_isFelt_6 (by decide) ?_
  refine pm_icmp_ne (pc := 7) (tgt := 14) dX2_isFelt_7 rfl (fun h7 => ?_) (fun h7 => absurd h7 (by decide))
  refine pm_aload_n (pc := 14) dX2_isFelt_14 rfl ?_
  refine pm_aload_n (pc := 15) dX2_isFelt_15 rfl ?_
  refine pm_iload_n (pc := 16) dX2_isFelt_16 rfl ?_
  refine pm_cSR (pc := 17) dX2_isFelt_17 (c_where (c := c) (by omega)) wq_X0_where wm_X2_115 wt_X0_where ⟨Nat.le_of_ble_eq_true rfl, Nat.le_of_ble_eq_true rfl⟩ ⟨Nat.le_of_ble_eq_true rfl, Nat.le_of_ble_eq_true rfl⟩ rfl (Nat.le_of_ble_eq_true rfl) ?_
  refine pm_cVR (pc := 20) dX2_isFelt_20 (c_topOf hG hI o2) wq_X2_topOf wm_X2_54 wi_X2_topOf ws_X2_topOf rfl rfl ⟨Nat.le_of_ble_eq_true rfl, Nat.le_of_ble_eq_true rfl⟩ ⟨Nat.le_of_ble_eq_true rfl, Nat.le_of_ble_eq_true rfl⟩ rfl (Nat.le_of_ble_eq_true rfl) ?_
  refine pm_cVR (pc := 23) dX2_isFelt_23 (c_weighs hG hI ht) wq_X2_weighs wm_X2_60 wi_X2_weighs ws_X2_weighs rfl rfl ⟨Nat.le_of_ble_eq_true rfl, Nat.le_of_ble_eq_true rfl⟩ ⟨Nat.le_of_ble_eq_true rfl, Nat.le_of_ble_eq_true rfl⟩ rfl (Nat.le_of_ble_eq_true rfl) ?_
  refine pm_istore_n (pc := 26) dX2_isFelt_26 (by decide) rfl ?_
  refine pm_iload_n (pc := 27) dX2_isFelt_27 rfl ?_
  refine pm_iconst (pc := 28) (v := nI 1) dX2_isFelt_28 (by decide) ?_
  refine pm_icmp_eq (pc := 29) (tgt := 37) dX2_isFelt_29 rfl (fun h29 => absurd h29 (by decide)) (fun h29 => ?_)
  refine pm_iload_n (pc := 32) dX2_isFelt_32 rfl ?_
  refine pm_iconst (pc := 33) (v := nI 2) dX2_isFelt_33 (by decide) ?_
  refine pm_icmp_ne (pc := 34) (tgt := 48) dX2_isFelt_34 rfl (fun h34 => ?_) (fun h34 => absurd h34 (by decide))
  refine pm_iconst (pc := 48) (v := nI 0) dX2_isFelt_48 (by decide) ?_
  refine pm_istore (pc := 49) dX2_isFelt_49 (by decide) rfl ?_
  refine pm_aload_n (pc := 51) dX2_isFelt_51 rfl ?_
  refine pm_iload_n (pc := 52) dX2_isFelt_52 rfl ?_
  refine pm_cSR (pc := 53) dX2_isFelt_53 (c_where (c := c) (by omega)) wq_X0_where wm_X2_115 wt_X0_where ⟨Nat.le_of_ble_eq_true rfl, Nat.le_of_ble_eq_true rfl⟩ ⟨Nat.le_of_ble_eq_true rfl, Nat.le_of_ble_eq_true rfl⟩ rfl (Nat.le_of_ble_eq_true rfl) ?_
  refine pm_iload (pc := 56) dX2_isFelt_56 rfl ?_
  refine pm_iload_n (pc := 58) dX2_isFelt_58 rfl ?_
  refine pm_isub (pc := 59) dX2_isFelt_59 ?_
  refine pm_cVR (pc := 60) dX2_isFelt_60 (c_isAboveSense (a := 0) (b := g_w s (g_top s (a_p c))) hG hI o2 (pk_sub_toInt (by omega) (by omega)) (by omega) (by omega)) wq_X2_isAboveSense wm_X2_121 wi_X2_isAboveSense ws_X2_isAboveSense rfl rfl ⟨Nat.le_of_ble_eq_true rfl, Nat.le_of_ble_eq_true rfl⟩ ⟨Nat.le_of_ble_eq_true rfl, Nat.le_of_ble_eq_true rfl⟩ rfl (Nat.le_of_ble_eq_true rfl) ?_
  refine pm_if_ne (pc := 63) (tgt := 83) dX2_isFelt_63 rfl (fun h63 => ?_) (fun h63 => ?_)
  · have e63 : a_felt s c := by
      have := Decidable.not_not.mp (fun z => h63 (b1_0.mpr z))
      exact Or.inl (by rw [eo, ei]; omega)
    refine pm_iconst (pc := 83) (v := nI 1) dX2_isFelt_83 (by decide) ?_
    refine pm_goto (pc := 84) (tgt := 88) dX2_isFelt_84 rfl ?_
    refine pm_zret (pc := 88) (by decide) rfl (Nat.le_refl _) (Nat.le_refl _) dX2_isFelt_88 ?_
    first | exact QR.r (b1_t e63) | exact QR.r (b1_t e80) | exact QR.r (b1_f (fun z => z.elim (fun q => e63 (by rw [eo, ei] at q; omega)) (fun q => absurd q.1 (by omega))))
  · have e63 := b1_0.mp h63
    refine pm_iload_n (pc := 66) dX2_isFelt_66 rfl ?_
    refine pm_iconst (pc := 67) (v := nI 3) dX2_isFelt_67 (by decide) ?_
    refine pm_icmp_ne (pc := 68) (tgt := 87) dX2_isFelt_68 rfl (fun h68 => ?_) (fun h68 => absurd h68 (by decide))
    refine pm_iconst (pc := 87) (v := nI 0) dX2_isFelt_87 (by decide) ?_
    refine pm_zret (pc := 88) (by decide) rfl (Nat.le_refl _) (Nat.le_refl _) dX2_isFelt_88 ?_
    first | exact QR.r (b1_t e63) | exact QR.r (b1_t e80) | exact QR.r (b1_f (fun z => z.elim (fun q => e63 (by rw [eo, ei] at q; omega)) (fun q => absurd q.1 (by omega))))
set_option maxRecDepth 100000 in
set_option maxHeartbeats 4000000 in
theorem c_isFelt_1 {I : pm_I} {L : pm_L} {s : gS} {c : Nat} (hG : GR I 1 s) (hI : gInv s) (ho : a_ok s c) (hc : a_can s c) (hk : a_h c = 1) : PC 3 0 0 yX2_isFelt cX2_isFelt 5 (some (.boolean)) [.ref 1, .int (nI c)] GG I L (QR GG I L (b1 (a_felt s c))) := by
  have hlt := a_lt ho
  have h12 := hI.n12
  obtain ⟨o1, o2, o3, o4⟩ := ho
  have eo : a_out s c = 0 := by unfold a_out; rw [if_pos hk]
  have ei : a_in s c = g_w s (a_o c) := by unfold a_in; rw [if_pos (by omega)]
  have w2 := hI.w (o3 (by omega))
  refine PC.of [some (.ref 1), some (.int (nI c)), none, none, none] (by decide) (Nat.le_of_ble_eq_true rfl) rfl (fun l P => ?_)
  refine pm_iload_n (pc := 0) dX2_isFelt_0 rfl ?_
  refine pm_cSR (pc := 1) dX2_isFelt_1 (c_how (by omega) hk) wq_X0_how wm_X2_110 wt_X0_how ⟨Nat.le_of_ble_eq_true rfl, Nat.le_of_ble_eq_true rfl⟩ ⟨Nat.le_of_ble_eq_true rfl, Nat.le_of_ble_eq_true rfl⟩ rfl (Nat.le_of_ble_eq_true rfl) ?_
  refine pm_istore_n (pc := 4) dX2_isFelt_4 (by decide) rfl ?_
  refine pm_iload_n (pc := 5) dX2_isFelt_5 rfl ?_
  refine pm_iconst (pc := 6) (v := nI 1) dX2_isFelt_6 (by decide) ?_
  refine pm_icmp_ne (pc := 7) (tgt := 14) dX2_isFelt_7 rfl (fun h7 => absurd rfl h7) (fun h7 => ?_)
  refine pm_iconst (pc := 10) (v := nI 0) dX2_isFelt_10 (by decide) ?_
  refine pm_goto (pc := 11) (tgt := 26) dX2_isFelt_11 rfl ?_
  refine pm_istore_n (pc := 26) dX2_isFelt_26 (by decide) rfl ?_
  refine pm_iload_n (pc := 27) dX2_isFelt_27 rfl ?_
  refine pm_iconst (pc := 28) (v := nI 1) dX2_isFelt_28 (by decide) ?_
  refine pm_icmp_eq (pc := 29) (tgt := 37) dX2_isFelt_29 rfl (fun h29 => ?_) (fun h29 => absurd rfl h29)
  refine pm_aload_n (pc := 37) dX2_isFelt_37 rfl ?_
  refine pm_iload_n (pc := 38) dX2_isFelt_38 rfl ?_
  refine pm_cSR (pc := 39) dX2_isFelt_39 (c_other (c := c) (by omega)) wq_X0_other wm_X2_118 wt_X0_other ⟨Nat.le_of_ble_eq_true rfl, Nat.le_of_ble_eq_true rfl⟩ ⟨Nat.le_of_ble_eq_true rfl, Nat.le_of_ble_eq_true rfl⟩ rfl (Nat.le_of_ble_eq_true rfl) ?_
  refine pm_cVR (pc := 42) dX2_isFelt_42 (c_weighs hG hI (o3 (by omega))) wq_X2_weighs wm_X2_60 wi_X2_weighs ws_X2_weighs rfl rfl ⟨Nat.le_of_ble_eq_true rfl, Nat.le_of_ble_eq_true rfl⟩ ⟨Nat.le_of_ble_eq_true rfl, Nat.le_of_ble_eq_true rfl⟩ rfl (Nat.le_of_ble_eq_true rfl) ?_
  refine pm_goto (pc := 45) (tgt := 49) dX2_isFelt_45 rfl ?_
  refine pm_istore (pc := 49) dX2_isFelt_49 (by decide) rfl ?_
  refine pm_aload_n (pc := 51) dX2_isFelt_51 rfl ?_
  refine pm_iload_n (pc := 52) dX2_isFelt_52 rfl ?_
  refine pm_cSR (pc := 53) dX2_isFelt_53 (c_where (c := c) (by omega)) wq_X0_where wm_X2_115 wt_X0_where ⟨Nat.le_of_ble_eq_true rfl, Nat.le_of_ble_eq_true rfl⟩ ⟨Nat.le_of_ble_eq_true rfl, Nat.le_of_ble_eq_true rfl⟩ rfl (Nat.le_of_ble_eq_true rfl) ?_
  refine pm_iload (pc := 56) dX2_isFelt_56 rfl ?_
  refine pm_iload_n (pc := 58) dX2_isFelt_58 rfl ?_
  refine pm_isub (pc := 59) dX2_isFelt_59 ?_
  refine pm_cVR (pc := 60) dX2_isFelt_60 (c_isAboveSense (a := g_w s (a_o c)) (b := 0) hG hI o2 (pk_sub_toInt (by omega) (by omega)) (by omega) (by omega)) wq_X2_isAboveSense wm_X2_121 wi_X2_isAboveSense ws_X2_isAboveSense rfl rfl ⟨Nat.le_of_ble_eq_true rfl, Nat.le_of_ble_eq_true rfl⟩ ⟨Nat.le_of_ble_eq_true rfl, Nat.le_of_ble_eq_true rfl⟩ rfl (Nat.le_of_ble_eq_true rfl) ?_
  refine pm_if_ne (pc := 63) (tgt := 83) dX2_isFelt_63 rfl (fun h63 => ?_) (fun h63 => ?_)
  · have e63 : a_felt s c := by
      have := Decidable.not_not.mp (fun z => h63 (b1_0.mpr z))
      exact Or.inl (by rw [eo, ei]; omega)
    refine pm_iconst (pc := 83) (v := nI 1) dX2_isFelt_83 (by decide) ?_
    refine pm_goto (pc := 84) (tgt := 88) dX2_isFelt_84 rfl ?_
    refine pm_zret (pc := 88) (by decide) rfl (Nat.le_refl _) (Nat.le_refl _) dX2_isFelt_88 ?_
    first | exact QR.r (b1_t e63) | exact QR.r (b1_t e80) | exact QR.r (b1_f (fun z => z.elim (fun q => e63 (by rw [eo, ei] at q; omega)) (fun q => absurd q.1 (by omega))))
  · have e63 := b1_0.mp h63
    refine pm_iload_n (pc := 66) dX2_isFelt_66 rfl ?_
    refine pm_iconst (pc := 67) (v := nI 3) dX2_isFelt_67 (by decide) ?_
    refine pm_icmp_ne (pc := 68) (tgt := 87) dX2_isFelt_68 rfl (fun h68 => ?_) (fun h68 => absurd h68 (by decide))
    refine pm_iconst (pc := 87) (v := nI 0) dX2_isFelt_87 (by decide) ?_
    refine pm_zret (pc := 88) (by decide) rfl (Nat.le_refl _) (Nat.le_refl _) dX2_isFelt_88 ?_
    first | exact QR.r (b1_t e63) | exact QR.r (b1_t e80) | exact QR.r (b1_f (fun z => z.elim (fun q => e63 (by rw [eo, ei] at q; omega)) (fun q => absurd q.1 (by omega))))
set_option maxRecDepth 100000 in
set_option maxHeartbeats 4000000 in
theorem c_isFelt_2 {I : pm_I} {L : pm_L} {s : gS} {c : Nat} (hG : GR I 1 s) (hI : gInv s) (ho : a_ok s c) (hc : a_can s c) (hk : a_h c = 2) : PC 3 0 0 yX2_isFelt cX2_isFelt 5 (some (.boolean)) [.ref 1, .int (nI c)] GG I L (QR GG I L (b1 (a_felt s c))) := by
  have hlt := a_lt ho
  have h12 := hI.n12
  obtain ⟨o1, o2, o3, o4⟩ := ho
  have eo : a_out s c = g_w s (g_top s (a_p c)) := by unfold a_out; rw [if_neg (by omega)]
  have ei : a_in s c = g_w s (a_o c) := by unfold a_in; rw [if_pos (by omega)]
  have hs : g_st s (a_p c) ≠ [] := hc.1.resolve_left (by omega)
  have ht := (hI.top o2 hs).1
  have w1 := hI.w ht
  have w2 := hI.w (o3 (by omega))
  refine PC.of [some (.ref 1), some (.int (nI c)), none, none, none] (by decide) (Nat.le_of_ble_eq_true rfl) rfl (fun l P => ?_)
  refine pm_iload_n (pc := 0) dX2_isFelt_0 rfl ?_
  refine pm_cSR (pc := 1) dX2_isFelt_1 (c_how (by omega) hk) wq_X0_how wm_X2_110 wt_X0_how ⟨Nat.le_of_ble_eq_true rfl, Nat.le_of_ble_eq_true rfl⟩ ⟨Nat.le_of_ble_eq_true rfl, Nat.le_of_ble_eq_true rfl⟩ rfl (Nat.le_of_ble_eq_true rfl) ?_
  refine pm_istore_n (pc := 4) dX2_isFelt_4 (by decide) rfl ?_
  refine pm_iload_n (pc := 5) dX2_isFelt_5 rfl ?_
  refine pm_iconst (pc := 6) (v := nI 1) dX2_isFelt_6 (by decide) ?_
  refine pm_icmp_ne (pc := 7) (tgt := 14) dX2_isFelt_7 rfl (fun h7 => ?_) (fun h7 => absurd h7 (by decide))
  refine pm_aload_n (pc := 14) dX2_isFelt_14 rfl ?_
  refine pm_aload_n (pc := 15) dX2_isFelt_15 rfl ?_
  refine pm_iload_n (pc := 16) dX2_isFelt_16 rfl ?_
  refine pm_cSR (pc := 17) dX2_isFelt_17 (c_where (c := c) (by omega)) wq_X0_where wm_X2_115 wt_X0_where ⟨Nat.le_of_ble_eq_true rfl, Nat.le_of_ble_eq_true rfl⟩ ⟨Nat.le_of_ble_eq_true rfl, Nat.le_of_ble_eq_true rfl⟩ rfl (Nat.le_of_ble_eq_true rfl) ?_
  refine pm_cVR (pc := 20) dX2_isFelt_20 (c_topOf hG hI o2) wq_X2_topOf wm_X2_54 wi_X2_topOf ws_X2_topOf rfl rfl ⟨Nat.le_of_ble_eq_true rfl, Nat.le_of_ble_eq_true rfl⟩ ⟨Nat.le_of_ble_eq_true rfl, Nat.le_of_ble_eq_true rfl⟩ rfl (Nat.le_of_ble_eq_true rfl) ?_
  refine pm_cVR (pc := 23) dX2_isFelt_23 (c_weighs hG hI ht) wq_X2_weighs wm_X2_60 wi_X2_weighs ws_X2_weighs rfl rfl ⟨Nat.le_of_ble_eq_true rfl, Nat.le_of_ble_eq_true rfl⟩ ⟨Nat.le_of_ble_eq_true rfl, Nat.le_of_ble_eq_true rfl⟩ rfl (Nat.le_of_ble_eq_true rfl) ?_
  refine pm_istore_n (pc := 26) dX2_isFelt_26 (by decide) rfl ?_
  refine pm_iload_n (pc := 27) dX2_isFelt_27 rfl ?_
  refine pm_iconst (pc := 28) (v := nI 1) dX2_isFelt_28 (by decide) ?_
  refine pm_icmp_eq (pc := 29) (tgt := 37) dX2_isFelt_29 rfl (fun h29 => absurd h29 (by decide)) (fun h29 => ?_)
  refine pm_iload_n (pc := 32) dX2_isFelt_32 rfl ?_
  refine pm_iconst (pc := 33) (v := nI 2) dX2_isFelt_33 (by decide) ?_
  refine pm_icmp_ne (pc := 34) (tgt := 48) dX2_isFelt_34 rfl (fun h34 => absurd rfl h34) (fun h34 => ?_)
  refine pm_aload_n (pc := 37) dX2_isFelt_37 rfl ?_
  refine pm_iload_n (pc := 38) dX2_isFelt_38 rfl ?_
  refine pm_cSR (pc := 39) dX2_isFelt_39 (c_other (c := c) (by omega)) wq_X0_other wm_X2_118 wt_X0_other ⟨Nat.le_of_ble_eq_true rfl, Nat.le_of_ble_eq_true rfl⟩ ⟨Nat.le_of_ble_eq_true rfl, Nat.le_of_ble_eq_true rfl⟩ rfl (Nat.le_of_ble_eq_true rfl) ?_
  refine pm_cVR (pc := 42) dX2_isFelt_42 (c_weighs hG hI (o3 (by omega))) wq_X2_weighs wm_X2_60 wi_X2_weighs ws_X2_weighs rfl rfl ⟨Nat.le_of_ble_eq_true rfl, Nat.le_of_ble_eq_true rfl⟩ ⟨Nat.le_of_ble_eq_true rfl, Nat.le_of_ble_eq_true rfl⟩ rfl (Nat.le_of_ble_eq_true rfl) ?_
  refine pm_goto (pc := 45) (tgt := 49) dX2_isFelt_45 rfl ?_
  refine pm_istore (pc := 49) dX2_isFelt_49 (by decide) rfl ?_
  refine pm_aload_n (pc := 51) dX2_isFelt_51 rfl ?_
  refine pm_iload_n (pc := 52) dX2_isFelt_52 rfl ?_
  refine pm_cSR (pc := 53) dX2_isFelt_53 (c_where (c := c) (by omega)) wq_X0_where wm_X2_115 wt_X0_where ⟨Nat.le_of_ble_eq_true rfl, Nat.le_of_ble_eq_true rfl⟩ ⟨Nat.le_of_ble_eq_true rfl, Nat.le_of_ble_eq_true rfl⟩ rfl (Nat.le_of_ble_eq_true rfl) ?_
  refine pm_iload (pc := 56) dX2_isFelt_56 rfl ?_
  refine pm_iload_n (pc := 58) dX2_isFelt_58 rfl ?_
  refine pm_isub (pc := 59) dX2_isFelt_59 ?_
  refine pm_cVR (pc := 60) dX2_isFelt_60 (c_isAboveSense (a := g_w s (a_o c)) (b := g_w s (g_top s (a_p c))) hG hI o2 (pk_sub_toInt (by omega) (by omega)) (by omega) (by omega)) wq_X2_isAboveSense wm_X2_121 wi_X2_isAboveSense ws_X2_isAboveSense rfl rfl ⟨Nat.le_of_ble_eq_true rfl, Nat.le_of_ble_eq_true rfl⟩ ⟨Nat.le_of_ble_eq_true rfl, Nat.le_of_ble_eq_true rfl⟩ rfl (Nat.le_of_ble_eq_true rfl) ?_
  refine pm_if_ne (pc := 63) (tgt := 83) dX2_isFelt_63 rfl (fun h63 => ?_) (fun h63 => ?_)
  · have e63 : a_felt s c := by
      have := Decidable.not_not.mp (fun z => h63 (b1_0.mpr z))
      exact Or.inl (by rw [eo, ei]; omega)
    refine pm_iconst (pc := 83) (v := nI 1) dX2_isFelt_83 (by decide) ?_
    refine pm_goto (pc := 84) (tgt := 88) dX2_isFelt_84 rfl ?_
    refine pm_zret (pc := 88) (by decide) rfl (Nat.le_refl _) (Nat.le_refl _) dX2_isFelt_88 ?_
    first | exact QR.r (b1_t e63) | exact QR.r (b1_t e80) | exact QR.r (b1_f (fun z => z.elim (fun q => e63 (by rw [eo, ei] at q; omega)) (fun q => absurd q.1 (by omega))))
  · have e63 := b1_0.mp h63
    refine pm_iload_n (pc := 66) dX2_isFelt_66 rfl ?_
    refine pm_iconst (pc := 67) (v := nI 3) dX2_isFelt_67 (by decide) ?_
    refine pm_icmp_ne (pc := 68) (tgt := 87) dX2_isFelt_68 rfl (fun h68 => ?_) (fun h68 => absurd h68 (by decide))
    refine pm_iconst (pc := 87) (v := nI 0) dX2_isFelt_87 (by decide) ?_
    refine pm_zret (pc := 88) (by decide) rfl (Nat.le_refl _) (Nat.le_refl _) dX2_isFelt_88 ?_
    first | exact QR.r (b1_t e63) | exact QR.r (b1_t e80) | exact QR.r (b1_f (fun z => z.elim (fun q => e63 (by rw [eo, ei] at q; omega)) (fun q => absurd q.1 (by omega))))
set_option maxRecDepth 100000 in
set_option maxHeartbeats 4000000 in
theorem c_isFelt_3 {I : pm_I} {L : pm_L} {s : gS} {c : Nat} (hG : GR I 1 s) (hI : gInv s) (ho : a_ok s c) (hc : a_can s c) (hk : a_h c = 3) : PC 3 0 0 yX2_isFelt cX2_isFelt 5 (some (.boolean)) [.ref 1, .int (nI c)] GG I L (QR GG I L (b1 (a_felt s c))) := by
  have hlt := a_lt ho
  have h12 := hI.n12
  obtain ⟨o1, o2, o3, o4⟩ := ho
  have eo : a_out s c = g_w s (g_top s (a_p c)) := by unfold a_out; rw [if_neg (by omega)]
  have ei : a_in s c = 0 := by unfold a_in; rw [if_neg (by omega)]
  have hs : g_st s (a_p c) ≠ [] := hc.1.resolve_left (by omega)
  have ht := (hI.top o2 hs).1
  have w1 := hI.w ht
  refine PC.of [some (.ref 1), some (.int (nI c)), none, none, none] (by decide) (Nat.le_of_ble_eq_true rfl) rfl (fun l P => ?_)
  refine pm_iload_n (pc := 0) dX2_isFelt_0 rfl ?_
  refine pm_cSR (pc := 1) dX2_isFelt_1 (c_how (by omega) hk) wq_X0_how wm_X2_110 wt_X0_how ⟨Nat.le_of_ble_eq_true rfl, Nat.le_of_ble_eq_true rfl⟩ ⟨Nat.le_of_ble_eq_true rfl, Nat.le_of_ble_eq_true rfl⟩ rfl (Nat.le_of_ble_eq_true rfl) ?_
  refine pm_istore_n (pc := 4) dX2_isFelt_4 (by decide) rfl ?_
  refine pm_iload_n (pc := 5) dX2_isFelt_5 rfl ?_
  refine pm_iconst (pc := 6) (v := nI 1) dX2_isFelt_6 (by decide) ?_
  refine pm_icmp_ne (pc := 7) (tgt := 14) dX2_isFelt_7 rfl (fun h7 => ?_) (fun h7 => absurd h7 (by decide))
  refine pm_aload_n (pc := 14) dX2_isFelt_14 rfl ?_
  refine pm_aload_n (pc := 15) dX2_isFelt_15 rfl ?_
  refine pm_iload_n (pc := 16) dX2_isFelt_16 rfl ?_
  refine pm_cSR (pc := 17) dX2_isFelt_17 (c_where (c := c) (by omega)) wq_X0_where wm_X2_115 wt_X0_where ⟨Nat.le_of_ble_eq_true rfl, Nat.le_of_ble_eq_true rfl⟩ ⟨Nat.le_of_ble_eq_true rfl, Nat.le_of_ble_eq_true rfl⟩ rfl (Nat.le_of_ble_eq_true rfl) ?_
  refine pm_cVR (pc := 20) dX2_isFelt_20 (c_topOf hG hI o2) wq_X2_topOf wm_X2_54 wi_X2_topOf ws_X2_topOf rfl rfl ⟨Nat.le_of_ble_eq_true rfl, Nat.le_of_ble_eq_true rfl⟩ ⟨Nat.le_of_ble_eq_true rfl, Nat.le_of_ble_eq_true rfl⟩ rfl (Nat.le_of_ble_eq_true rfl) ?_
  refine pm_cVR (pc := 23) dX2_isFelt_23 (c_weighs hG hI ht) wq_X2_weighs wm_X2_60 wi_X2_weighs ws_X2_weighs rfl rfl ⟨Nat.le_of_ble_eq_true rfl, Nat.le_of_ble_eq_true rfl⟩ ⟨Nat.le_of_ble_eq_true rfl, Nat.le_of_ble_eq_true rfl⟩ rfl (Nat.le_of_ble_eq_true rfl) ?_
  refine pm_istore_n (pc := 26) dX2_isFelt_26 (by decide) rfl ?_
  refine pm_iload_n (pc := 27) dX2_isFelt_27 rfl ?_
  refine pm_iconst (pc := 28) (v := nI 1) dX2_isFelt_28 (by decide) ?_
  refine pm_icmp_eq (pc := 29) (tgt := 37) dX2_isFelt_29 rfl (fun h29 => absurd h29 (by decide)) (fun h29 => ?_)
  refine pm_iload_n (pc := 32) dX2_isFelt_32 rfl ?_
  refine pm_iconst (pc := 33) (v := nI 2) dX2_isFelt_33 (by decide) ?_
  refine pm_icmp_ne (pc := 34) (tgt := 48) dX2_isFelt_34 rfl (fun h34 => ?_) (fun h34 => absurd h34 (by decide))
  refine pm_iconst (pc := 48) (v := nI 0) dX2_isFelt_48 (by decide) ?_
  refine pm_istore (pc := 49) dX2_isFelt_49 (by decide) rfl ?_
  refine pm_aload_n (pc := 51) dX2_isFelt_51 rfl ?_
  refine pm_iload_n (pc := 52) dX2_isFelt_52 rfl ?_
  refine pm_cSR (pc := 53) dX2_isFelt_53 (c_where (c := c) (by omega)) wq_X0_where wm_X2_115 wt_X0_where ⟨Nat.le_of_ble_eq_true rfl, Nat.le_of_ble_eq_true rfl⟩ ⟨Nat.le_of_ble_eq_true rfl, Nat.le_of_ble_eq_true rfl⟩ rfl (Nat.le_of_ble_eq_true rfl) ?_
  refine pm_iload (pc := 56) dX2_isFelt_56 rfl ?_
  refine pm_iload_n (pc := 58) dX2_isFelt_58 rfl ?_
  refine pm_isub (pc := 59) dX2_isFelt_59 ?_
  refine pm_cVR (pc := 60) dX2_isFelt_60 (c_isAboveSense (a := 0) (b := g_w s (g_top s (a_p c))) hG hI o2 (pk_sub_toInt (by omega) (by omega)) (by omega) (by omega)) wq_X2_isAboveSense wm_X2_121 wi_X2_isAboveSense ws_X2_isAboveSense rfl rfl ⟨Nat.le_of_ble_eq_true rfl, Nat.le_of_ble_eq_true rfl⟩ ⟨Nat.le_of_ble_eq_true rfl, Nat.le_of_ble_eq_true rfl⟩ rfl (Nat.le_of_ble_eq_true rfl) ?_
  refine pm_if_ne (pc := 63) (tgt := 83) dX2_isFelt_63 rfl (fun h63 => ?_) (fun h63 => ?_)
  · have e63 : a_felt s c := by
      have := Decidable.not_not.mp (fun z => h63 (b1_0.mpr z))
      exact Or.inl (by rw [eo, ei]; omega)
    refine pm_iconst (pc := 83) (v := nI 1) dX2_isFelt_83 (by decide) ?_
    refine pm_goto (pc := 84) (tgt := 88) dX2_isFelt_84 rfl ?_
    refine pm_zret (pc := 88) (by decide) rfl (Nat.le_refl _) (Nat.le_refl _) dX2_isFelt_88 ?_
    first | exact QR.r (b1_t e63) | exact QR.r (b1_t e80) | exact QR.r (b1_f (fun z => z.elim (fun q => e63 (by rw [eo, ei] at q; omega)) (fun q => e80 (by have := q.2; rw [eo] at this; omega))))
  · have e63 := b1_0.mp h63
    refine pm_iload_n (pc := 66) dX2_isFelt_66 rfl ?_
    refine pm_iconst (pc := 67) (v := nI 3) dX2_isFelt_67 (by decide) ?_
    refine pm_icmp_ne (pc := 68) (tgt := 87) dX2_isFelt_68 rfl (fun h68 => absurd rfl h68) (fun h68 => ?_)
    refine pm_aload_n (pc := 71) dX2_isFelt_71 rfl ?_
    refine pm_iload_n (pc := 72) dX2_isFelt_72 rfl ?_
    refine pm_cSR (pc := 73) dX2_isFelt_73 (c_other (c := c) (by omega)) wq_X0_other wm_X2_118 wt_X0_other ⟨Nat.le_of_ble_eq_true rfl, Nat.le_of_ble_eq_true rfl⟩ ⟨Nat.le_of_ble_eq_true rfl, Nat.le_of_ble_eq_true rfl⟩ rfl (Nat.le_of_ble_eq_true rfl) ?_
    refine pm_iload_n (pc := 76) dX2_isFelt_76 rfl ?_
    refine pm_cVR (pc := 77) dX2_isFelt_77 (c_isAboveSense (a := g_w s (g_top s (a_p c))) (b := 0) hG hI (o4 hk).1 (by rw [nI_toInt (by omega)]; omega) (by omega) (by omega)) wq_X2_isAboveSense wm_X2_121 wi_X2_isAboveSense ws_X2_isAboveSense rfl rfl ⟨Nat.le_of_ble_eq_true rfl, Nat.le_of_ble_eq_true rfl⟩ ⟨Nat.le_of_ble_eq_true rfl, Nat.le_of_ble_eq_true rfl⟩ rfl (Nat.le_of_ble_eq_true rfl) ?_
    refine pm_if_eq (pc := 80) (tgt := 87) dX2_isFelt_80 rfl (fun h80 => ?_) (fun h80 => ?_)
    · have e80 := b1_0.mp h80
      refine pm_iconst (pc := 87) (v := nI 0) dX2_isFelt_87 (by decide) ?_
      refine pm_zret (pc := 88) (by decide) rfl (Nat.le_refl _) (Nat.le_refl _) dX2_isFelt_88 ?_
      first | exact QR.r (b1_t e63) | exact QR.r (b1_t e80) | exact QR.r (b1_f (fun z => z.elim (fun q => e63 (by rw [eo, ei] at q; omega)) (fun q => e80 (by have := q.2; rw [eo] at this; omega))))
    · have e80 : a_felt s c := by
        have := Decidable.not_not.mp (fun z => h80 (b1_0.mpr z))
        exact Or.inr ⟨hk, by rw [eo]; omega⟩
      refine pm_iconst (pc := 83) (v := nI 1) dX2_isFelt_83 (by decide) ?_
      refine pm_goto (pc := 84) (tgt := 88) dX2_isFelt_84 rfl ?_
      refine pm_zret (pc := 88) (by decide) rfl (Nat.le_refl _) (Nat.le_refl _) dX2_isFelt_88 ?_
      first | exact QR.r (b1_t e63) | exact QR.r (b1_t e80) | exact QR.r (b1_f (fun z => z.elim (fun q => e63 (by rw [eo, ei] at q; omega)) (fun q => e80 (by have := q.2; rw [eo] at this; omega))))
theorem c_isFelt {I : pm_I} {L : pm_L} {s : gS} {c : Nat} (hG : GR I 1 s) (hI : gInv s) (ho : a_ok s c) (hc : a_can s c) : PC 3 0 0 yX2_isFelt cX2_isFelt 5 (some (.boolean)) [.ref 1, .int (nI c)] GG I L (QR GG I L (b1 (a_felt s c))) := by
  have h := ho.1
  rcases (show a_h c = 0 ∨ a_h c = 1 ∨ a_h c = 2 ∨ a_h c = 3 by omega) with hk | hk | hk | hk
  · exact c_isFelt_0 hG hI ho hc hk
  · exact c_isFelt_1 hG hI ho hc hk
  · exact c_isFelt_2 hG hI ho hc hk
  · exact c_isFelt_3 hG hI ho hc hk
set_option maxRecDepth 100000 in
set_option maxHeartbeats 4000000 in
theorem c_put {I : pm_I} {L : pm_L} {s : gS} {a p : Nat} (hG : GR I 1 s) (hI : gInv s) (ha : a < g_n s) (hw : 6 ≤ g_wh s a) (hp : p < 6) : PC 1 0 0 yX2_put cX2_put 3 none [.ref 1, .int (nI a), .int (nI p)] GG I L (QV GG (fun I' L' => gX I (s_put s a p) I' ∧ L' = L)) := by
  have h12 := hI.n12
  refine PC.of [some (.ref 1), some (.int (nI a)), some (.int (nI p))] (by decide) (Nat.le_of_ble_eq_true rfl) rfl (fun l P => ?_)
  refine pm_aload_n (pc := 0) dX2_put_0 rfl ?_
  refine pm_iload_n (pc := 1) dX2_put_1 rfl ?_
  refine pm_cVR (pc := 2) dX2_put_2 (c_isPiece hG.n hI.n12 ha) wq_X2_isPiece wm_X2_46 wi_X2_isPiece ws_X2_isPiece rfl rfl ⟨Nat.le_of_ble_eq_true rfl, Nat.le_of_ble_eq_true rfl⟩ ⟨Nat.le_of_ble_eq_true rfl, Nat.le_of_ble_eq_true rfl⟩ rfl (Nat.le_of_ble_eq_true rfl) ?_
  refine pm_if_eq (pc := 5) (tgt := 41) dX2_put_5 rfl (fun h5 => absurd h5 (by decide)) (fun h5 => ?_)
  refine pm_iload_n (pc := 8) dX2_put_8 rfl ?_
  refine pm_cSNR (hst := RX9) (pc := 9) dX2_put_9 (c_isPlace) wq_X9_isPlace (by decide +kernel) wt_X9_isPlace ⟨Nat.le_of_ble_eq_true rfl, Nat.le_of_ble_eq_true rfl⟩ ⟨Nat.le_of_ble_eq_true rfl, Nat.le_of_ble_eq_true rfl⟩ rfl (Nat.le_of_ble_eq_true rfl) ?_
  refine pm_if_eq (pc := 12) (tgt := 41) dX2_put_12 rfl (fun h12 => (b1_0.mp h12 ⟨by simp (disch := omega) only [pm_leI, nI_toInt, pm_t0]; omega, by simp (disch := omega) only [pm_ltI, nI_toInt]; omega⟩).elim) (fun h12 => ?_)
  refine pm_aload_n (pc := 15) dX2_put_15 rfl ?_
  refine pm_getr (pc := 16) (ci := 0) (C0 := RX2) (T := TX2) (N := 9) (j := 4) rfl rfl in_X2 (by decide) wf_X2_24 rfl dX2_put_16 ?_
  refine pm_iload_n (pc := 19) dX2_put_19 rfl ?_
  refine pm_aload_n (pc := 20) dX2_put_20 rfl ?_
  refine pm_getr (pc := 21) (ci := 0) (C0 := RX2) (T := TX2) (N := 9) (j := 5) rfl rfl in_X2 (by decide) wf_X2_27 rfl dX2_put_21 ?_
  refine pm_iload_n (pc := 24) dX2_put_24 rfl ?_
  refine pm_iald (pc := 25) rfl (by omega) (by decide) dX2_put_25 ?_
  refine pm_iast (pc := 26) rfl (by omega) (by decide) dX2_put_26 ?_
  refine pm_aload_n (pc := 27) dX2_put_27 rfl ?_
  refine pm_getr (pc := 28) (ci := 0) (C0 := RX2) (T := TX2) (N := 9) (j := 5) rfl rfl in_X2 (by decide) wf_X2_27 rfl dX2_put_28 ?_
  refine pm_iload_n (pc := 31) dX2_put_31 rfl ?_
  refine pm_iload_n (pc := 32) dX2_put_32 rfl ?_
  refine pm_iast (pc := 33) rfl (by omega) (by decide) dX2_put_33 ?_
  refine pm_aload_n (pc := 34) dX2_put_34 rfl ?_
  refine pm_getr (pc := 35) (ci := 0) (C0 := RX2) (T := TX2) (N := 9) (j := 3) rfl rfl in_X2 (by decide) wf_X2_21 rfl dX2_put_35 ?_
  refine pm_iload_n (pc := 38) dX2_put_38 rfl ?_
  refine pm_iload_n (pc := 39) dX2_put_39 rfl ?_
  refine pm_iast (pc := 40) rfl (by omega) (by decide) dX2_put_40 ?_
  refine pm_vret (pc := 41) rfl (Nat.le_refl _) (Nat.le_refl _) dX2_put_41 ?_
  exact QV.r ⟨GR_put hG hI ha hw hp, rfl⟩
set_option maxRecDepth 100000 in
set_option maxHeartbeats 4000000 in
theorem c_putN {I : pm_I} {L : pm_L} {s : gS} {a : Nat} (hG : GR I 1 s) (hI : gInv s) (ha : a < g_n s) : PC 1 0 0 yX2_put cX2_put 3 none [.ref 1, .int (nI a), .int (nI 6)] GG I L (QV GG (fun I' L' => I' = I ∧ L' = L)) := by
  refine PC.of [some (.ref 1), some (.int (nI a)), some (.int (nI 6))] (by decide) (Nat.le_of_ble_eq_true rfl) rfl (fun l P => ?_)
  refine pm_aload_n (pc := 0) dX2_put_0 rfl ?_
  refine pm_iload_n (pc := 1) dX2_put_1 rfl ?_
  refine pm_cVR (pc := 2) dX2_put_2 (c_isPiece hG.n hI.n12 ha) wq_X2_isPiece wm_X2_46 wi_X2_isPiece ws_X2_isPiece rfl rfl ⟨Nat.le_of_ble_eq_true rfl, Nat.le_of_ble_eq_true rfl⟩ ⟨Nat.le_of_ble_eq_true rfl, Nat.le_of_ble_eq_true rfl⟩ rfl (Nat.le_of_ble_eq_true rfl) ?_
  refine pm_if_eq (pc := 5) (tgt := 41) dX2_put_5 rfl (fun h5 => absurd h5 (by decide)) (fun h5 => ?_)
  refine pm_iload_n (pc := 8) dX2_put_8 rfl ?_
  refine pm_cSNR (hst := RX9) (pc := 9) dX2_put_9 (c_isPlace) wq_X9_isPlace (by decide +kernel) wt_X9_isPlace ⟨Nat.le_of_ble_eq_true rfl, Nat.le_of_ble_eq_true rfl⟩ ⟨Nat.le_of_ble_eq_true rfl, Nat.le_of_ble_eq_true rfl⟩ rfl (Nat.le_of_ble_eq_true rfl) ?_
  refine pm_if_eq (pc := 12) (tgt := 41) dX2_put_12 rfl (fun h12 => ?_) (fun h12 => absurd (b1_0.mpr (by decide)) h12)
  refine pm_vret (pc := 41) rfl (Nat.le_refl _) (Nat.le_refl _) dX2_put_41 ?_
  exact QV.r ⟨rfl, rfl⟩
set_option maxRecDepth 100000 in
set_option maxHeartbeats 4000000 in
theorem c_take {I : pm_I} {L : pm_L} {s : gS} {p : Nat} (hG : GR I 1 s) (hI : gInv s) (hp : p < 6) (hs : g_st s p ≠ []) : PC 2 0 0 yX2_take cX2_take 3 (some (.int)) [.ref 1, .int (nI p)] GG I L (QI GG (fun r I' L' => r = nI (g_top s p) ∧ gX I (s_take s p) I' ∧ L' = L)) := by
  have h12 := hI.n12
  have ht := (hI.top hp hs).1
  refine PC.of [some (.ref 1), some (.int (nI p)), none] (by decide) (Nat.le_of_ble_eq_true rfl) rfl (fun l P => ?_)
  refine pm_aload_n (pc := 0) dX2_take_0 rfl ?_
  refine pm_iload_n (pc := 1) dX2_take_1 rfl ?_
  refine pm_cVR (pc := 2) dX2_take_2 (c_topOf hG hI hp) wq_X2_topOf wm_X2_54 wi_X2_topOf ws_X2_topOf rfl rfl ⟨Nat.le_of_ble_eq_true rfl, Nat.le_of_ble_eq_true rfl⟩ ⟨Nat.le_of_ble_eq_true rfl, Nat.le_of_ble_eq_true rfl⟩ rfl (Nat.le_of_ble_eq_true rfl) ?_
  refine pm_istore_n (pc := 5) dX2_take_5 (by decide) rfl ?_
  refine pm_iload_n (pc := 6) dX2_take_6 rfl ?_
  refine pm_cSNR (hst := RX9) (pc := 7) dX2_take_7 (c_isPlace) wq_X9_isPlace (by decide +kernel) wt_X9_isPlace ⟨Nat.le_of_ble_eq_true rfl, Nat.le_of_ble_eq_true rfl⟩ ⟨Nat.le_of_ble_eq_true rfl, Nat.le_of_ble_eq_true rfl⟩ rfl (Nat.le_of_ble_eq_true rfl) ?_
  refine pm_if_eq (pc := 10) (tgt := 49) dX2_take_10 rfl (fun h10 => (b1_0.mp h10 ⟨by simp (disch := omega) only [pm_leI, nI_toInt, pm_t0]; omega, by simp (disch := omega) only [pm_ltI, nI_toInt]; omega⟩).elim) (fun h10 => ?_)
  refine pm_aload_n (pc := 13) dX2_take_13 rfl ?_
  refine pm_iload_n (pc := 14) dX2_take_14 rfl ?_
  refine pm_cVR (pc := 15) dX2_take_15 (c_isPiece hG.n hI.n12 ht) wq_X2_isPiece wm_X2_46 wi_X2_isPiece ws_X2_isPiece rfl rfl ⟨Nat.le_of_ble_eq_true rfl, Nat.le_of_ble_eq_true rfl⟩ ⟨Nat.le_of_ble_eq_true rfl, Nat.le_of_ble_eq_true rfl⟩ rfl (Nat.le_of_ble_eq_true rfl) ?_
  refine pm_if_eq (pc := 18) (tgt := 49) dX2_take_18 rfl (fun h18 => absurd h18 (by decide)) (fun h18 => ?_)
  refine pm_aload_n (pc := 21) dX2_take_21 rfl ?_
  refine pm_getr (pc := 22) (ci := 0) (C0 := RX2) (T := TX2) (N := 9) (j := 5) rfl rfl in_X2 (by decide) wf_X2_27 rfl dX2_take_22 ?_
  refine pm_iload_n (pc := 25) dX2_take_25 rfl ?_
  refine pm_aload_n (pc := 26) dX2_take_26 rfl ?_
  refine pm_getr (pc := 27) (ci := 0) (C0 := RX2) (T := TX2) (N := 9) (j := 4) rfl rfl in_X2 (by decide) wf_X2_24 rfl dX2_take_27 ?_
  refine pm_iload_n (pc := 30) dX2_take_30 rfl ?_
  refine pm_iald (pc := 31) rfl (by omega) (by decide) dX2_take_31 ?_
  refine pm_iast (pc := 32) rfl (by omega) (by decide) dX2_take_32 ?_
  refine pm_aload_n (pc := 33) dX2_take_33 rfl ?_
  refine pm_getr (pc := 34) (ci := 0) (C0 := RX2) (T := TX2) (N := 9) (j := 4) rfl rfl in_X2 (by decide) wf_X2_24 rfl dX2_take_34 ?_
  refine pm_iload_n (pc := 37) dX2_take_37 rfl ?_
  refine pm_bipush (pc := 38) (v := nI 12) dX2_take_38 (by decide) ?_
  refine pm_iast (pc := 40) rfl (by omega) (by decide) dX2_take_40 ?_
  refine pm_aload_n (pc := 41) dX2_take_41 rfl ?_
  refine pm_getr (pc := 42) (ci := 0) (C0 := RX2) (T := TX2) (N := 9) (j := 3) rfl rfl in_X2 (by decide) wf_X2_21 rfl dX2_take_42 ?_
  refine pm_iload_n (pc := 45) dX2_take_45 rfl ?_
  refine pm_bipush (pc := 46) (v := nI 6) dX2_take_46 (by decide) ?_
  refine pm_iast (pc := 48) rfl (by omega) (by decide) dX2_take_48 ?_
  refine pm_iload_n (pc := 49) dX2_take_49 rfl ?_
  refine pm_iret (pc := 50) rfl (Nat.le_refl _) (Nat.le_refl _) dX2_take_50 ?_
  exact QI.r ⟨rfl, GR_take hG hI hp hs, rfl⟩
theorem gX.tr {I I' I'' : pm_I} {s s' : gS} (h : gX I s I') (h2 : gX I' s' I'') : gX I s' I'' := ⟨h2.1, h.2.tr h2.2⟩
set_option maxRecDepth 100000 in
set_option maxHeartbeats 4000000 in
theorem c_doAct_0 {I : pm_I} {L : pm_L} {s : gS} {c : Nat} (hG : GR I 1 s) (hI : gInv s) (ho : a_ok s c) (hc : a_can s c) (hk : a_h c = 0) : PC 3 0 0 yX2_doAct cX2_doAct 4 none [.ref 1, .int (nI c)] GG I L (QV GG (fun I' L' => gX I (s_do s c) I' ∧ L' = L)) := by
  have hlt := a_lt ho
  have h12 := hI.n12
  obtain ⟨o1, o2, o3, o4⟩ := ho
  have hs : g_st s (a_p c) ≠ [] := hc.1.resolve_left (by omega)
  have ht := (hI.top o2 hs).1
  have ed : s_do s c = s_take s (a_p c) := by unfold s_do; simp only [hk]; rfl
  refine PC.of [some (.ref 1), some (.int (nI c)), none, none] (by decide) (Nat.le_of_ble_eq_true rfl) rfl (fun l P => ?_)
  refine pm_iload_n (pc := 0) dX2_doAct_0 rfl ?_
  refine pm_cSR (pc := 1) dX2_doAct_1 (c_where (c := c) (by omega)) wq_X0_where wm_X2_115 wt_X0_where ⟨Nat.le_of_ble_eq_true rfl, Nat.le_of_ble_eq_true rfl⟩ ⟨Nat.le_of_ble_eq_true rfl, Nat.le_of_ble_eq_true rfl⟩ rfl (Nat.le_of_ble_eq_true rfl) ?_
  refine pm_istore_n (pc := 4) dX2_doAct_4 (by decide) rfl ?_
  refine pm_iload_n (pc := 5) dX2_doAct_5 rfl ?_
  refine pm_cSR (pc := 6) dX2_doAct_6 (c_other (c := c) (by omega)) wq_X0_other wm_X2_118 wt_X0_other ⟨Nat.le_of_ble_eq_true rfl, Nat.le_of_ble_eq_true rfl⟩ ⟨Nat.le_of_ble_eq_true rfl, Nat.le_of_ble_eq_true rfl⟩ rfl (Nat.le_of_ble_eq_true rfl) ?_
  refine pm_istore_n (pc := 9) dX2_doAct_9 (by decide) rfl ?_
  refine pm_iload_n (pc := 10) dX2_doAct_10 rfl ?_
  refine pm_cSR (pc := 11) dX2_doAct_11 (c_how (by omega) hk) wq_X0_how wm_X2_110 wt_X0_how ⟨Nat.le_of_ble_eq_true rfl, Nat.le_of_ble_eq_true rfl⟩ ⟨Nat.le_of_ble_eq_true rfl, Nat.le_of_ble_eq_true rfl⟩ rfl (Nat.le_of_ble_eq_true rfl) ?_
  refine pm_tableIn (pc := 14) (tgt := 40) dX2_doAct_14 (by decide) (by decide) (by rfl) rfl ?_
  refine pm_aload_n (pc := 40) dX2_doAct_40 rfl ?_
  refine pm_iload_n (pc := 41) dX2_doAct_41 rfl ?_
  refine pm_cVI (pc := 42) dX2_doAct_42 (c_take hG hI o2 hs) wq_X2_take wm_X2_132 wi_X2_take ws_X2_take rfl rfl ⟨Nat.le_of_ble_eq_true rfl, Nat.le_of_ble_eq_true rfl⟩ ⟨Nat.le_of_ble_eq_true rfl, Nat.le_of_ble_eq_true rfl⟩ rfl (Nat.le_of_ble_eq_true rfl) (fun r42 I42 L42 q42 => ?_)
  obtain ⟨qr, qx, ql⟩ := q42
  subst qr; subst ql
  refine pm_pop (pc := 45) dX2_doAct_45 rfl ?_
  refine pm_goto (pc := 46) (tgt := 83) dX2_doAct_46 rfl ?_
  refine pm_vret (pc := 83) rfl (Nat.le_refl _) (Nat.le_refl _) dX2_doAct_83 ?_
  exact QV.r ⟨by rw [ed]; exact qx, rfl⟩
set_option maxRecDepth 100000 in
set_option maxHeartbeats 4000000 in
theorem c_doAct_1 {I : pm_I} {L : pm_L} {s : gS} {c : Nat} (hG : GR I 1 s) (hI : gInv s) (ho : a_ok s c) (hc : a_can s c) (hk : a_h c = 1) : PC 3 0 0 yX2_doAct cX2_doAct 4 none [.ref 1, .int (nI c)] GG I L (QV GG (fun I' L' => gX I (s_do s c) I' ∧ L' = L)) := by
  have hlt := a_lt ho
  have h12 := hI.n12
  obtain ⟨o1, o2, o3, o4⟩ := ho
  have ed : s_do s c = s_put s (a_o c) (a_p c) := by unfold s_do; simp only [hk]; rfl
  have hw6 : g_wh s (a_o c) = 6 := by have := hc.2; omega
  refine PC.of [some (.ref 1), some (.int (nI c)), none, none] (by decide) (Nat.le_of_ble_eq_true rfl) rfl (fun l P => ?_)
  refine pm_iload_n (pc := 0) dX2_doAct_0 rfl ?_
  refine pm_cSR (pc := 1) dX2_doAct_1 (c_where (c := c) (by omega)) wq_X0_where wm_X2_115 wt_X0_where ⟨Nat.le_of_ble_eq_true rfl, Nat.le_of_ble_eq_true rfl⟩ ⟨Nat.le_of_ble_eq_true rfl, Nat.le_of_ble_eq_true rfl⟩ rfl (Nat.le_of_ble_eq_true rfl) ?_
  refine pm_istore_n (pc := 4) dX2_doAct_4 (by decide) rfl ?_
  refine pm_iload_n (pc := 5) dX2_doAct_5 rfl ?_
  refine pm_cSR (pc := 6) dX2_doAct_6 (c_other (c := c) (by omega)) wq_X0_other wm_X2_118 wt_X0_other ⟨Nat.le_of_ble_eq_true rfl, Nat.le_of_ble_eq_true rfl⟩ ⟨Nat.le_of_ble_eq_true rfl, Nat.le_of_ble_eq_true rfl⟩ rfl (Nat.le_of_ble_eq_true rfl) ?_
  refine pm_istore_n (pc := 9) dX2_doAct_9 (by decide) rfl ?_
  refine pm_iload_n (pc := 10) dX2_doAct_10 rfl ?_
  refine pm_cSR (pc := 11) dX2_doAct_11 (c_how (by omega) hk) wq_X0_how wm_X2_110 wt_X0_how ⟨Nat.le_of_ble_eq_true rfl, Nat.le_of_ble_eq_true rfl⟩ ⟨Nat.le_of_ble_eq_true rfl, Nat.le_of_ble_eq_true rfl⟩ rfl (Nat.le_of_ble_eq_true rfl) ?_
  refine pm_tableIn (pc := 14) (tgt := 49) dX2_doAct_14 (by decide) (by decide) (by rfl) rfl ?_
  refine pm_aload_n (pc := 49) dX2_doAct_49 rfl ?_
  refine pm_iload_n (pc := 50) dX2_doAct_50 rfl ?_
  refine pm_iload_n (pc := 51) dX2_doAct_51 rfl ?_
  refine pm_cVV (pc := 52) dX2_doAct_52 (c_put hG hI (o3 (Or.inl hk)) (by omega) o2) wq_X2_put wm_X2_84 wi_X2_put ws_X2_put rfl rfl ⟨Nat.le_of_ble_eq_true rfl, Nat.le_of_ble_eq_true rfl⟩ ⟨Nat.le_of_ble_eq_true rfl, Nat.le_of_ble_eq_true rfl⟩ rfl (Nat.le_of_ble_eq_true rfl) (fun I52 L52 q52 => ?_)
  obtain ⟨qx, ql⟩ := q52
  subst ql
  refine pm_goto (pc := 55) (tgt := 83) dX2_doAct_55 rfl ?_
  refine pm_vret (pc := 83) rfl (Nat.le_refl _) (Nat.le_refl _) dX2_doAct_83 ?_
  exact QV.r ⟨by rw [ed]; exact qx, rfl⟩
set_option maxRecDepth 100000 in
set_option maxHeartbeats 4000000 in
theorem c_doAct_2 {I : pm_I} {L : pm_L} {s : gS} {c : Nat} (hG : GR I 1 s) (hI : gInv s) (ho : a_ok s c) (hc : a_can s c) (hk : a_h c = 2) : PC 3 0 0 yX2_doAct cX2_doAct 4 none [.ref 1, .int (nI c)] GG I L (QV GG (fun I' L' => gX I (s_do s c) I' ∧ L' = L)) := by
  have hlt := a_lt ho
  have h12 := hI.n12
  obtain ⟨o1, o2, o3, o4⟩ := ho
  have hs : g_st s (a_p c) ≠ [] := hc.1.resolve_left (by omega)
  have ht := (hI.top o2 hs).1
  have ed : s_do s c = s_put (s_take s (a_p c)) (a_o c) (a_p c) := by unfold s_do; simp only [hk]; rfl
  have hw6 : g_wh s (a_o c) = 6 := by have := hc.2; omega
  refine PC.of [some (.ref 1), some (.int (nI c)), none, none] (by decide) (Nat.le_of_ble_eq_true rfl) rfl (fun l P => ?_)
  refine pm_iload_n (pc := 0) dX2_doAct_0 rfl ?_
  refine pm_cSR (pc := 1) dX2_doAct_1 (c_where (c := c) (by omega)) wq_X0_where wm_X2_115 wt_X0_where ⟨Nat.le_of_ble_eq_true rfl, Nat.le_of_ble_eq_true rfl⟩ ⟨Nat.le_of_ble_eq_true rfl, Nat.le_of_ble_eq_true rfl⟩ rfl (Nat.le_of_ble_eq_true rfl) ?_
  refine pm_istore_n (pc := 4) dX2_doAct_4 (by decide) rfl ?_
  refine pm_iload_n (pc := 5) dX2_doAct_5 rfl ?_
  refine pm_cSR (pc := 6) dX2_doAct_6 (c_other (c := c) (by omega)) wq_X0_other wm_X2_118 wt_X0_other ⟨Nat.le_of_ble_eq_true rfl, Nat.le_of_ble_eq_true rfl⟩ ⟨Nat.le_of_ble_eq_true rfl, Nat.le_of_ble_eq_true rfl⟩ rfl (Nat.le_of_ble_eq_true rfl) ?_
  refine pm_istore_n (pc := 9) dX2_doAct_9 (by decide) rfl ?_
  refine pm_iload_n (pc := 10) dX2_doAct_10 rfl ?_
  refine pm_cSR (pc := 11) dX2_doAct_11 (c_how (by omega) hk) wq_X0_how wm_X2_110 wt_X0_how ⟨Nat.le_of_ble_eq_true rfl, Nat.le_of_ble_eq_true rfl⟩ ⟨Nat.le_of_ble_eq_true rfl, Nat.le_of_ble_eq_true rfl⟩ rfl (Nat.le_of_ble_eq_true rfl) ?_
  refine pm_tableIn (pc := 14) (tgt := 58) dX2_doAct_14 (by decide) (by decide) (by rfl) rfl ?_
  refine pm_aload_n (pc := 58) dX2_doAct_58 rfl ?_
  refine pm_iload_n (pc := 59) dX2_doAct_59 rfl ?_
  refine pm_cVI (pc := 60) dX2_doAct_60 (c_take hG hI o2 hs) wq_X2_take wm_X2_132 wi_X2_take ws_X2_take rfl rfl ⟨Nat.le_of_ble_eq_true rfl, Nat.le_of_ble_eq_true rfl⟩ ⟨Nat.le_of_ble_eq_true rfl, Nat.le_of_ble_eq_true rfl⟩ rfl (Nat.le_of_ble_eq_true rfl) (fun r60 I60 L60 q60 => ?_)
  obtain ⟨qr, qx, ql⟩ := q60
  subst qr; subst ql
  have hI2 := gInv_take hI o2 hs
  refine pm_pop (pc := 63) dX2_doAct_63 rfl ?_
  refine pm_aload_n (pc := 64) dX2_doAct_64 rfl ?_
  refine pm_iload_n (pc := 65) dX2_doAct_65 rfl ?_
  refine pm_iload_n (pc := 66) dX2_doAct_66 rfl ?_
  refine pm_cVV (pc := 67) dX2_doAct_67 (c_put qx.1 hI2 (o3 (Or.inr hk)) (s_take_wh hI o2 hs (by omega)) o2) wq_X2_put wm_X2_84 wi_X2_put ws_X2_put rfl rfl ⟨Nat.le_of_ble_eq_true rfl, Nat.le_of_ble_eq_true rfl⟩ ⟨Nat.le_of_ble_eq_true rfl, Nat.le_of_ble_eq_true rfl⟩ rfl (Nat.le_of_ble_eq_true rfl) (fun I67 L67 q67 => ?_)
  obtain ⟨qy, ql⟩ := q67
  subst ql
  refine pm_goto (pc := 70) (tgt := 83) dX2_doAct_70 rfl ?_
  refine pm_vret (pc := 83) rfl (Nat.le_refl _) (Nat.le_refl _) dX2_doAct_83 ?_
  exact QV.r ⟨by rw [ed]; exact qx.tr qy, rfl⟩
set_option maxRecDepth 100000 in
set_option maxHeartbeats 4000000 in
theorem c_doAct_3 {I : pm_I} {L : pm_L} {s : gS} {c : Nat} (hG : GR I 1 s) (hI : gInv s) (ho : a_ok s c) (hc : a_can s c) (hk : a_h c = 3) : PC 3 0 0 yX2_doAct cX2_doAct 4 none [.ref 1, .int (nI c)] GG I L (QV GG (fun I' L' => gX I (s_do s c) I' ∧ L' = L)) := by
  have hlt := a_lt ho
  have h12 := hI.n12
  obtain ⟨o1, o2, o3, o4⟩ := ho
  have hs : g_st s (a_p c) ≠ [] := hc.1.resolve_left (by omega)
  have ht := (hI.top o2 hs).1
  have ed : s_do s c = s_put (s_take s (a_p c)) (g_top s (a_p c)) (a_o c) := by unfold s_do; simp only [hk]; rfl
  refine PC.of [some (.ref 1), some (.int (nI c)), none, none] (by decide) (Nat.le_of_ble_eq_true rfl) rfl (fun l P => ?_)
  refine pm_iload_n (pc := 0) dX2_doAct_0 rfl ?_
  refine pm_cSR (pc := 1) dX2_doAct_1 (c_where (c := c) (by omega)) wq_X0_where wm_X2_115 wt_X0_where ⟨Nat.le_of_ble_eq_true rfl, Nat.le_of_ble_eq_true rfl⟩ ⟨Nat.le_of_ble_eq_true rfl, Nat.le_of_ble_eq_true rfl⟩ rfl (Nat.le_of_ble_eq_true rfl) ?_
  refine pm_istore_n (pc := 4) dX2_doAct_4 (by decide) rfl ?_
  refine pm_iload_n (pc := 5) dX2_doAct_5 rfl ?_
  refine pm_cSR (pc := 6) dX2_doAct_6 (c_other (c := c) (by omega)) wq_X0_other wm_X2_118 wt_X0_other ⟨Nat.le_of_ble_eq_true rfl, Nat.le_of_ble_eq_true rfl⟩ ⟨Nat.le_of_ble_eq_true rfl, Nat.le_of_ble_eq_true rfl⟩ rfl (Nat.le_of_ble_eq_true rfl) ?_
  refine pm_istore_n (pc := 9) dX2_doAct_9 (by decide) rfl ?_
  refine pm_iload_n (pc := 10) dX2_doAct_10 rfl ?_
  refine pm_cSR (pc := 11) dX2_doAct_11 (c_how (by omega) hk) wq_X0_how wm_X2_110 wt_X0_how ⟨Nat.le_of_ble_eq_true rfl, Nat.le_of_ble_eq_true rfl⟩ ⟨Nat.le_of_ble_eq_true rfl, Nat.le_of_ble_eq_true rfl⟩ rfl (Nat.le_of_ble_eq_true rfl) ?_
  refine pm_tableOut (pc := 14) (tgt := 73) dX2_doAct_14 (by decide) rfl ?_
  refine pm_aload_n (pc := 73) dX2_doAct_73 rfl ?_
  refine pm_aload_n (pc := 74) dX2_doAct_74 rfl ?_
  refine pm_iload_n (pc := 75) dX2_doAct_75 rfl ?_
  refine pm_cVI (pc := 76) dX2_doAct_76 (c_take hG hI o2 hs) wq_X2_take wm_X2_132 wi_X2_take ws_X2_take rfl rfl ⟨Nat.le_of_ble_eq_true rfl, Nat.le_of_ble_eq_true rfl⟩ ⟨Nat.le_of_ble_eq_true rfl, Nat.le_of_ble_eq_true rfl⟩ rfl (Nat.le_of_ble_eq_true rfl) (fun r76 I76 L76 q76 => ?_)
  obtain ⟨qr, qx, ql⟩ := q76
  subst qr; subst ql
  have hI2 := gInv_take hI o2 hs
  refine pm_iload_n (pc := 79) dX2_doAct_79 rfl ?_
  refine pm_cVV (pc := 80) dX2_doAct_80 (c_put qx.1 hI2 ht (by rw [s_take_top]; exact Nat.le_refl 6) (o4 hk).1) wq_X2_put wm_X2_84 wi_X2_put ws_X2_put rfl rfl ⟨Nat.le_of_ble_eq_true rfl, Nat.le_of_ble_eq_true rfl⟩ ⟨Nat.le_of_ble_eq_true rfl, Nat.le_of_ble_eq_true rfl⟩ rfl (Nat.le_of_ble_eq_true rfl) (fun I80 L80 q80 => ?_)
  obtain ⟨qy, ql⟩ := q80
  subst ql
  refine pm_vret (pc := 83) rfl (Nat.le_refl _) (Nat.le_refl _) dX2_doAct_83 ?_
  exact QV.r ⟨by rw [ed]; exact qx.tr qy, rfl⟩
theorem c_doAct {I : pm_I} {L : pm_L} {s : gS} {c : Nat} (hG : GR I 1 s) (hI : gInv s) (ho : a_ok s c) (hc : a_can s c) : PC 3 0 0 yX2_doAct cX2_doAct 4 none [.ref 1, .int (nI c)] GG I L (QV GG (fun I' L' => gX I (s_do s c) I' ∧ L' = L)) := by
  have h := ho.1
  rcases (show a_h c = 0 ∨ a_h c = 1 ∨ a_h c = 2 ∨ a_h c = 3 by omega) with hk | hk | hk | hk
  · exact c_doAct_0 hG hI ho hc hk
  · exact c_doAct_1 hG hI ho hc hk
  · exact c_doAct_2 hG hI ho hc hk
  · exact c_doAct_3 hG hI ho hc hk
