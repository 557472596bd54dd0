theorem PC.mono {d K N : Nat} {y : MethodName} {cc : ByteArray} {nL : Nat} {ret : Option FieldType} {args : List Value} {G : List pm_S} {I : pm_I} {L : pm_L} {Q Q' : Option Value → List pm_S → pm_I → pm_L → Prop} (h : PC d K N y cc nL ret args G I L Q) (hQ : ∀ v G' I' L', Q v G' I' L' → Q' v G' I' L') : PC d K N y cc nL ret args G I L Q' := by
  intro l P p e h1 h2 h3 s m av below h4 h5 h6 h7
  obtain ⟨n, o, a1, a2, a3, ⟨⟨v, G', I', L', b1, b2, b3⟩, b4⟩, a5⟩ := h l P p e h1 h2 h3 s m av below h4 h5 h6 h7
  exact ⟨n, o, a1, a2, a3, ⟨⟨v, G', I', L', b1, hQ _ _ _ _ b2, b3⟩, b4⟩, a5⟩
set_option maxRecDepth 100000 in
set_option maxHeartbeats 4000000 in
theorem c_mKind {I : pm_I} {L : pm_L} {c k : Nat} (hc : c < 2 ^ 31) (hk : a_h c = k) : PC 0 0 0 yX10_kindOf cX10_kindOf 1 (some (.int)) [.int (nI c)] GG I L (QR GG I L (nI k)) := by
  refine PC.of [some (.int (nI c))] (by decide) (Nat.le_of_ble_eq_true rfl) rfl (fun l P => ?_)
  refine pm_iload_n (pc := 0) dX10_kindOf_0 rfl ?_
  refine pm_sipush (pc := 1) (v := nI 1000) dX10_kindOf_1 (by decide) ?_
  refine pm_idiv (pc := 4) dX10_kindOf_4 (by decide) ?_
  refine pm_iret (pc := 5) rfl (Nat.le_refl _) (Nat.le_refl _) dX10_kindOf_5 ?_
  exact QR.r (by rw [pk_div hc (by decide) (by decide), ← hk])
set_option maxRecDepth 100000 in
set_option maxHeartbeats 4000000 in
theorem c_mPlaceOf {I : pm_I} {L : pm_L} {c : Nat} (hc : c < 2 ^ 31) : PC 0 0 0 yX10_placeOf cX10_placeOf 1 (some (.int)) [.int (nI c)] GG I L (QR GG I L (nI (a_p c))) := by
  refine PC.of [some (.int (nI c))] (by decide) (Nat.le_of_ble_eq_true rfl) rfl (fun l P => ?_)
  refine pm_iload_n (pc := 0) dX10_placeOf_0 rfl ?_
  refine pm_bipush (pc := 1) (v := nI 100) dX10_placeOf_1 (by decide) ?_
  refine pm_idiv (pc := 3) dX10_placeOf_3 (by decide) ?_
  refine pm_top (pk_div hc (by decide) (by decide)) ?_
  refine pm_bipush (pc := 4) (v := nI 10) dX10_placeOf_4 (by decide) ?_
  refine pm_irem (pc := 6) dX10_placeOf_6 (by decide) ?_
  refine pm_iret (pc := 7) rfl (Nat.le_refl _) (Nat.le_refl _) dX10_placeOf_7 ?_
  exact QR.r (by rw [pk_rem (Nat.lt_of_le_of_lt (Nat.div_le_self _ _) hc) (by decide) (by decide)])
set_option maxRecDepth 100000 in
set_option maxHeartbeats 4000000 in
theorem c_mOther {I : pm_I} {L : pm_L} {c : Nat} (hc : c < 2 ^ 31) : PC 0 0 0 yX10_otherOf cX10_otherOf 1 (some (.int)) [.int (nI c)] GG I L (QR GG I L (nI (a_o c))) := by
  refine PC.of [some (.int (nI c))] (by decide) (Nat.le_of_ble_eq_true rfl) rfl (fun l P => ?_)
  refine pm_iload_n (pc := 0) dX10_otherOf_0 rfl ?_
  refine pm_bipush (pc := 1) (v := nI 100) dX10_otherOf_1 (by decide) ?_
  refine pm_irem (pc := 3) dX10_otherOf_3 (by decide) ?_
  refine pm_iret (pc := 4) rfl (Nat.le_refl _) (Nat.le_refl _) dX10_otherOf_4 ?_
  exact QR.r (by rw [pk_rem hc (by decide) (by decide)])
/-- as a_ok, but for pushing into the same place -/
def a_okW (s : gS) (c : Nat) : Prop := a_h c < 4 ∧ a_p c < 6 ∧ (a_h c = 1 ∨ a_h c = 2 → a_o c < g_n s) ∧ (a_h c = 3 → a_o c < 6)
theorem a_ok.W {s : gS} {c : Nat} (h : a_ok s c) : a_okW s c := ⟨h.1, h.2.1, h.2.2.1, fun z => (h.2.2.2 z).1⟩
theorem a_ltW {s : gS} {c : Nat} (h : a_okW s c) : c < 4000 := by
  have := h.1
  have h2 := Nat.div_add_mod c 1000
  have h3 := Nat.mod_lt c (show 1000 > 0 by decide)
  unfold a_h at this
  omega
abbrev a_canW (s : gS) (c : Nat) : Prop := a_can s c ∧ (a_h c = 3 → a_p c ≠ a_o c)
set_option maxRecDepth 100000 in
set_option maxHeartbeats 4000000 in
theorem c_mCanBe_0 {I : pm_I} {L : pm_L} {s : gS} {c : Nat} (hG : MG I s) (hI : gInv s) (ho : a_okW s c) (hk : a_h c = 0) : PC 1 0 0 yX10_canBe cX10_canBe 7 (some (.boolean)) [.ref 40, .int (nI c)] GG I L (QR GG I L (b1 (a_canW s c))) := by
  have hlt := a_ltW ho
  have h12 := hI.n12
  obtain ⟨o1, o2, o3, o4⟩ := ho
  have hlen := hI.len o2
  refine PC.of [some (.ref 40), some (.int (nI c)), none, none, none, none, none] (by decide) (Nat.le_of_ble_eq_true rfl) rfl (fun l P => ?_)
  refine pm_iload_n (pc := 0) dX10_canBe_0 rfl ?_
  refine pm_cSR (pc := 1) dX10_canBe_1 (c_mPlaceOf (c := c) (by omega)) wq_X10_placeOf wm_X10_202 wt_X10_placeOf ⟨Nat.le_of_ble_eq_true rfl, Nat.le_of_ble_eq_true rfl⟩ ⟨Nat.le_of_ble_eq_true rfl, Nat.le_of_ble_eq_true rfl⟩ rfl (Nat.le_of_ble_eq_true rfl) ?_
  refine pm_istore_n (pc := 4) dX10_canBe_4 (by decide) rfl ?_
  refine pm_iload_n (pc := 5) dX10_canBe_5 rfl ?_
  refine pm_cSR (pc := 6) dX10_canBe_6 (c_mOther (c := c) (by omega)) wq_X10_otherOf wm_X10_205 wt_X10_otherOf ⟨Nat.le_of_ble_eq_true rfl, Nat.le_of_ble_eq_true rfl⟩ ⟨Nat.le_of_ble_eq_true rfl, Nat.le_of_ble_eq_true rfl⟩ rfl (Nat.le_of_ble_eq_true rfl) ?_
  refine pm_istore_n (pc := 9) dX10_canBe_9 (by decide) rfl ?_
  refine pm_iload_n (pc := 10) dX10_canBe_10 rfl ?_
  refine pm_cSR (pc := 11) dX10_canBe_11 (c_mKind (by omega) hk) wq_X10_kindOf wm_X10_208 wt_X10_kindOf ⟨Nat.le_of_ble_eq_true rfl, Nat.le_of_ble_eq_true rfl⟩ ⟨Nat.le_of_ble_eq_true rfl, Nat.le_of_ble_eq_true rfl⟩ rfl (Nat.le_of_ble_eq_true rfl) ?_
  refine pm_istore (pc := 14) dX10_canBe_14 (by decide) rfl ?_
  refine pm_iload (pc := 16) dX10_canBe_16 rfl ?_
  refine pm_iconst (pc := 18) (v := nI 1) dX10_canBe_18 (by decide) ?_
  refine pm_icmp_eq (pc := 19) (tgt := 31) dX10_canBe_19 rfl (fun h19 => absurd h19 (by decide)) (fun h19 => ?_)
  refine pm_aload_n (pc := 22) dX10_canBe_22 rfl ?_
  refine pm_getr (pc := 23) (ci := 8) (C0 := RX10) (T := TX10) (N := 34) (j := 5) rfl rfl in_X10 (by decide) wf_X10_22 rfl dX10_canBe_23 ?_
  refine pm_iload_n (pc := 26) dX10_canBe_26 rfl ?_
  refine pm_iald (pc := 27) rfl (by omega) (by decide) dX10_canBe_27 ?_
  refine pm_if_le (pc := 28) (tgt := 35) dX10_canBe_28 rfl (fun h28 => ?_) (fun h28 => ?_)
  · have e28 : g_st s (a_p c) = [] := by
      rw [hG.mn o2] at h28
      simp (disch := omega) only [pm_leI, nI_toInt, pm_t0] at h28
      exact List.length_eq_zero_iff.mp (by omega)
    refine pm_iconst (pc := 35) (v := nI 0) dX10_canBe_35 (by decide) ?_
    refine pm_istore (pc := 36) dX10_canBe_36 (by decide) rfl ?_
    refine pm_iload (pc := 38) dX10_canBe_38 rfl ?_
    refine pm_iconst (pc := 40) (v := nI 1) dX10_canBe_40 (by decide) ?_
    refine pm_icmp_eq (pc := 41) (tgt := 50) dX10_canBe_41 rfl (fun h41 => absurd h41 (by decide)) (fun h41 => ?_)
    refine pm_iload (pc := 44) dX10_canBe_44 rfl ?_
    refine pm_iconst (pc := 46) (v := nI 2) dX10_canBe_46 (by decide) ?_
    refine pm_icmp_ne (pc := 47) (tgt := 69) dX10_canBe_47 rfl (fun h47 => ?_) (fun h47 => absurd h47 (by decide))
    refine pm_iconst (pc := 69) (v := nI 1) dX10_canBe_69 (by decide) ?_
    refine pm_goto (pc := 70) (tgt := 74) dX10_canBe_70 rfl ?_
    refine pm_istore (pc := 74) dX10_canBe_74 (by decide) rfl ?_
    refine pm_iload (pc := 76) dX10_canBe_76 rfl ?_
    refine pm_if_eq (pc := 78) (tgt := 101) dX10_canBe_78 rfl (fun h78 => ?_) (fun h78 => ?_)
    · refine pm_iconst (pc := 101) (v := nI 0) dX10_canBe_101 (by decide) ?_
      refine pm_zret (pc := 102) (by decide) rfl (Nat.le_refl _) (Nat.le_refl _) dX10_canBe_102 ?_
      first | exact absurd h78 (by decide) | exact absurd h83 (by decide) | exact QR.r (b1_t ⟨⟨(Or.inr e28), (Or.inl hk)⟩, (fun z => absurd z (by omega))⟩) | exact QR.r (b1_f (fun z => (z.1.1.resolve_left (by omega)) e28))
    · refine pm_iload (pc := 81) dX10_canBe_81 rfl ?_
      refine pm_if_eq (pc := 83) (tgt := 101) dX10_canBe_83 rfl (fun h83 => ?_) (fun h83 => ?_)
      · refine pm_iconst (pc := 101) (v := nI 0) dX10_canBe_101 (by decide) ?_
        refine pm_zret (pc := 102) (by decide) rfl (Nat.le_refl _) (Nat.le_refl _) dX10_canBe_102 ?_
        first | exact absurd h78 (by decide) | exact absurd h83 (by decide) | exact QR.r (b1_t ⟨⟨(Or.inr e28), (Or.inl hk)⟩, (fun z => absurd z (by omega))⟩) | exact QR.r (b1_f (fun z => (z.1.1.resolve_left (by omega)) e28))
      · refine pm_iload (pc := 86) dX10_canBe_86 rfl ?_
        refine pm_iconst (pc := 88) (v := nI 3) dX10_canBe_88 (by decide) ?_
        refine pm_icmp_ne (pc := 89) (tgt := 97) dX10_canBe_89 rfl (fun h89 => ?_) (fun h89 => absurd h89 (by decide))
        refine pm_iconst (pc := 97) (v := nI 1) dX10_canBe_97 (by decide) ?_
        refine pm_goto (pc := 98) (tgt := 102) dX10_canBe_98 rfl ?_
        refine pm_zret (pc := 102) (by decide) rfl (Nat.le_refl _) (Nat.le_refl _) dX10_canBe_102 ?_
        first | exact absurd h78 (by decide) | exact absurd h83 (by decide) | exact QR.r (b1_t ⟨⟨(Or.inr e28), (Or.inl hk)⟩, (fun z => absurd z (by omega))⟩) | exact QR.r (b1_f (fun z => (z.1.1.resolve_left (by omega)) e28))
  · have e28 : g_st s (a_p c) ≠ [] := by
      rw [hG.mn o2] at h28
      simp (disch := omega) only [pm_leI, nI_toInt, pm_t0] at h28
      exact List.length_pos_iff.mp (by omega)
    refine pm_iconst (pc := 31) (v := nI 1) dX10_canBe_31 (by decide) ?_
    refine pm_goto (pc := 32) (tgt := 36) dX10_canBe_32 rfl ?_
    refine pm_istore (pc := 36) dX10_canBe_36 (by decide) rfl ?_
    refine pm_iload (pc := 38) dX10_canBe_38 rfl ?_
    refine pm_iconst (pc := 40) (v := nI 1) dX10_canBe_40 (by decide) ?_
    refine pm_icmp_eq (pc := 41) (tgt := 50) dX10_canBe_41 rfl (fun h41 => absurd h41 (by decide)) (fun h41 => ?_)
    refine pm_iload (pc := 44) dX10_canBe_44 rfl ?_
    refine pm_iconst (pc := 46) (v := nI 2) dX10_canBe_46 (by decide) ?_
    refine pm_icmp_ne (pc := 47) (tgt := 69) dX10_canBe_47 rfl (fun h47 => ?_) (fun h47 => absurd h47 (by decide))
    refine pm_iconst (pc := 69) (v := nI 1) dX10_canBe_69 (by decide) ?_
    refine pm_goto (pc := 70) (tgt := 74) dX10_canBe_70 rfl ?_
    refine pm_istore (pc := 74) dX10_canBe_74 (by decide) rfl ?_
    refine pm_iload (pc := 76) dX10_canBe_76 rfl ?_
    refine pm_if_eq (pc := 78) (tgt := 101) dX10_canBe_78 rfl (fun h78 => ?_) (fun h78 => ?_)
    · refine pm_iconst (pc := 101) (v := nI 0) dX10_canBe_101 (by decide) ?_
      refine pm_zret (pc := 102) (by decide) rfl (Nat.le_refl _) (Nat.le_refl _) dX10_canBe_102 ?_
      first | exact absurd h78 (by decide) | exact absurd h83 (by decide) | exact QR.r (b1_t ⟨⟨(Or.inr e28), (Or.inl hk)⟩, (fun z => absurd z (by omega))⟩) | exact QR.r (b1_f (fun z => (z.1.1.resolve_left (by omega)) e28))
    · refine pm_iload (pc := 81) dX10_canBe_81 rfl ?_
      refine pm_if_eq (pc := 83) (tgt := 101) dX10_canBe_83 rfl (fun h83 => ?_) (fun h83 => ?_)
      · refine pm_iconst (pc := 101) (v := nI 0) dX10_canBe_101 (by decide) ?_
        refine pm_zret (pc := 102) (by decide) rfl (Nat.le_refl _) (Nat.le_refl _) dX10_canBe_102 ?_
        first | exact absurd h78 (by decide) | exact absurd h83 (by decide) | exact QR.r (b1_t ⟨⟨(Or.inr e28), (Or.inl hk)⟩, (fun z => absurd z (by omega))⟩) | exact QR.r (b1_f (fun z => (z.1.1.resolve_left (by omega)) e28))
      · refine pm_iload (pc := 86) dX10_canBe_86 rfl ?_
        refine pm_iconst (pc := 88) (v := nI 3) dX10_canBe_88 (by decide) ?_
        refine pm_icmp_ne (pc := 89) (tgt := 97) dX10_canBe_89 rfl (fun h89 => ?_) (fun h89 => absurd h89 (by decide))
        refine pm_iconst (pc := 97) (v := nI 1) dX10_canBe_97 (by decide) ?_
        refine pm_goto (pc := 98) (tgt := 102) dX10_canBe_98 rfl ?_
        refine pm_zret (pc := 102) (by decide) rfl (Nat.le_refl _) (Nat.le_refl _) dX10_canBe_102 ?_
        first | exact absurd h78 (by decide) | exact absurd h83 (by decide) | exact QR.r (b1_t ⟨⟨(Or.inr e28), (Or.inl hk)⟩, (fun z => absurd z (by omega))⟩) | exact QR.r (b1_f (fun z => (z.1.1.resolve_left (by omega)) e28))
set_option maxRecDepth 100000 in
set_option maxHeartbeats 4000000 in
theorem c_mCanBe_1 {I : pm_I} {L : pm_L} {s : gS} {c : Nat} (hG : MG I s) (hI : gInv s) (ho : a_okW s c) (hk : a_h c = 1) : PC 1 0 0 yX10_canBe cX10_canBe 7 (some (.boolean)) [.ref 40, .int (nI c)] GG I L (QR GG I L (b1 (a_canW s c))) := by
  have hlt := a_ltW ho
  have h12 := hI.n12
  obtain ⟨o1, o2, o3, o4⟩ := ho
  have hlen := hI.len o2
  refine PC.of [some (.ref 40), some (.int (nI c)), none, none, none, none, none] (by decide) (Nat.le_of_ble_eq_true rfl) rfl (fun l P => ?_)
  refine pm_iload_n (pc := 0) dX10_canBe_0 rfl ?_
  refine pm_cSR (pc := 1) dX10_canBe_1 (c_mPlaceOf (c := c) (by omega)) wq_X10_placeOf wm_X10_202 wt_X10_placeOf ⟨Nat.le_of_ble_eq_true rfl, Nat.le_of_ble_eq_true rfl⟩ ⟨Nat.le_of_ble_eq_true rfl, Nat.le_of_ble_eq_true rfl⟩ rfl (Nat.le_of_ble_eq_true rfl) ?_
  refine pm_istore_n (pc := 4) dX10_canBe_4 (by decide) rfl ?_
  refine pm_iload_n (pc := 5) dX10_canBe_5 rfl ?_
  refine pm_cSR (pc := 6) dX10_canBe_6 (c_mOther (c := c) (by omega)) wq_X10_otherOf wm_X10_205 wt_X10_otherOf ⟨Nat.le_of_ble_eq_true rfl, Nat.le_of_ble_eq_true rfl⟩ ⟨Nat.le_of_ble_eq_true rfl, Nat.le_of_ble_eq_true rfl⟩ rfl (Nat.le_of_ble_eq_true rfl) ?_
  refine pm_istore_n (pc := 9) dX10_canBe_9 (by decide) rfl ?_
  refine pm_iload_n (pc := 10) dX10_canBe_10 rfl ?_
  refine pm_cSR (pc := 11) dX10_canBe_11 (c_mKind (by omega) hk) wq_X10_kindOf wm_X10_208 wt_X10_kindOf ⟨Nat.le_of_ble_eq_true rfl, Nat.le_of_ble_eq_true rfl⟩ ⟨Nat.le_of_ble_eq_true rfl, Nat.le_of_ble_eq_true rfl⟩ rfl (Nat.le_of_ble_eq_true rfl) ?_
  refine pm_istore (pc := 14) dX10_canBe_14 (by decide) rfl ?_
  refine pm_iload (pc := 16) dX10_canBe_16 rfl ?_
  refine pm_iconst (pc := 18) (v := nI 1) dX10_canBe_18 (by decide) ?_
  refine pm_icmp_eq (pc := 19) (tgt := 31) dX10_canBe_19 rfl (fun h19 => ?_) (fun h19 => absurd rfl h19)
  refine pm_iconst (pc := 31) (v := nI 1) dX10_canBe_31 (by decide) ?_
  refine pm_goto (pc := 32) (tgt := 36) dX10_canBe_32 rfl ?_
  refine pm_istore (pc := 36) dX10_canBe_36 (by decide) rfl ?_
  refine pm_iload (pc := 38) dX10_canBe_38 rfl ?_
  refine pm_iconst (pc := 40) (v := nI 1) dX10_canBe_40 (by decide) ?_
  refine pm_icmp_eq (pc := 41) (tgt := 50) dX10_canBe_41 rfl (fun h41 => ?_) (fun h41 => absurd rfl h41)
  refine pm_iload_n (pc := 50) dX10_canBe_50 rfl ?_
  refine pm_aload_n (pc := 51) dX10_canBe_51 rfl ?_
  refine pm_get (pc := 52) (ci := 8) (C0 := RX10) (T := TX10) (N := 34) (j := 0) rfl rfl in_X10 (by decide) wf_X10_83 rfl dX10_canBe_52 ?_
  refine pm_icmp_ge (pc := 55) (tgt := 73) dX10_canBe_55 rfl (fun h55 => (by simp (disch := omega) only [hG.n, pm_eqI, pm_ltI, pm_leI, nI_toInt, pm_t0, pm_t1, pm_tm1] at h55; omega)) (fun h55 => ?_)
  refine pm_aload_n (pc := 58) dX10_canBe_58 rfl ?_
  refine pm_getr (pc := 59) (ci := 8) (C0 := RX10) (T := TX10) (N := 34) (j := 4) rfl rfl in_X10 (by decide) wf_X10_19 rfl dX10_canBe_59 ?_
  refine pm_iload_n (pc := 62) dX10_canBe_62 rfl ?_
  refine pm_iald (pc := 63) rfl (by omega) (by decide) dX10_canBe_63 ?_
  refine pm_bipush (pc := 64) (v := nI 6) dX10_canBe_64 (by decide) ?_
  refine pm_icmp_ne (pc := 66) (tgt := 73) dX10_canBe_66 rfl (fun h66 => ?_) (fun h66 => ?_)
  · have e66 : ¬ g_wh s (a_o c) = 6 := by
      rw [hG.wh (o3 (by omega)), nI_eq (by have := (hI.2.1 (a_o c) (o3 (by omega))).2.2.2.2; omega) (by decide)] at h66
      exact h66
    refine pm_iconst (pc := 73) (v := nI 0) dX10_canBe_73 (by decide) ?_
    refine pm_istore (pc := 74) dX10_canBe_74 (by decide) rfl ?_
    refine pm_iload (pc := 76) dX10_canBe_76 rfl ?_
    refine pm_if_eq (pc := 78) (tgt := 101) dX10_canBe_78 rfl (fun h78 => ?_) (fun h78 => ?_)
    · refine pm_iconst (pc := 101) (v := nI 0) dX10_canBe_101 (by decide) ?_
      refine pm_zret (pc := 102) (by decide) rfl (Nat.le_refl _) (Nat.le_refl _) dX10_canBe_102 ?_
      first | exact absurd h78 (by decide) | exact absurd h83 (by decide) | exact QR.r (b1_t ⟨⟨(Or.inl hk), (Or.inr (Or.inr e66))⟩, (fun z => absurd z (by omega))⟩) | exact QR.r (b1_f (fun z => e66 ((z.1.2.resolve_left (by omega)).resolve_left (by omega))))
    · refine pm_iload (pc := 81) dX10_canBe_81 rfl ?_
      refine pm_if_eq (pc := 83) (tgt := 101) dX10_canBe_83 rfl (fun h83 => ?_) (fun h83 => ?_)
      · refine pm_iconst (pc := 101) (v := nI 0) dX10_canBe_101 (by decide) ?_
        refine pm_zret (pc := 102) (by decide) rfl (Nat.le_refl _) (Nat.le_refl _) dX10_canBe_102 ?_
        first | exact absurd h78 (by decide) | exact absurd h83 (by decide) | exact QR.r (b1_t ⟨⟨(Or.inl hk), (Or.inr (Or.inr e66))⟩, (fun z => absurd z (by omega))⟩) | exact QR.r (b1_f (fun z => e66 ((z.1.2.resolve_left (by omega)).resolve_left (by omega))))
      · refine pm_iload (pc := 86) dX10_canBe_86 rfl ?_
        refine pm_iconst (pc := 88) (v := nI 3) dX10_canBe_88 (by decide) ?_
        refine pm_icmp_ne (pc := 89) (tgt := 97) dX10_canBe_89 rfl (fun h89 => ?_) (fun h89 => absurd h89 (by decide))
        refine pm_iconst (pc := 97) (v := nI 1) dX10_canBe_97 (by decide) ?_
        refine pm_goto (pc := 98) (tgt := 102) dX10_canBe_98 rfl ?_
        refine pm_zret (pc := 102) (by decide) rfl (Nat.le_refl _) (Nat.le_refl _) dX10_canBe_102 ?_
        first | exact absurd h78 (by decide) | exact absurd h83 (by decide) | exact QR.r (b1_t ⟨⟨(Or.inl hk), (Or.inr (Or.inr e66))⟩, (fun z => absurd z (by omega))⟩) | exact QR.r (b1_f (fun z => e66 ((z.1.2.resolve_left (by omega)).resolve_left (by omega))))
  · have e66 : g_wh s (a_o c) = 6 := by
      rw [hG.wh (o3 (by omega)), nI_eq (by have := (hI.2.1 (a_o c) (o3 (by omega))).2.2.2.2; omega) (by decide)] at h66
      exact h66
    refine pm_iconst (pc := 69) (v := nI 1) dX10_canBe_69 (by decide) ?_
    refine pm_goto (pc := 70) (tgt := 74) dX10_canBe_70 rfl ?_
    refine pm_istore (pc := 74) dX10_canBe_74 (by decide) rfl ?_
    refine pm_iload (pc := 76) dX10_canBe_76 rfl ?_
    refine pm_if_eq (pc := 78) (tgt := 101) dX10_canBe_78 rfl (fun h78 => ?_) (fun h78 => ?_)
    · refine pm_iconst (pc := 101) (v := nI 0) dX10_canBe_101 (by decide) ?_
      refine pm_zret (pc := 102) (by decide) rfl (Nat.le_refl _) (Nat.le_refl _) dX10_canBe_102 ?_
      first | exact absurd h78 (by decide) | exact absurd h83 (by decide) | exact QR.r (b1_t ⟨⟨(Or.inl hk), (Or.inr (Or.inr e66))⟩, (fun z => absurd z (by omega))⟩) | exact QR.r (b1_f (fun z => e66 ((z.1.2.resolve_left (by omega)).resolve_left (by omega))))
    · refine pm_iload (pc := 81) dX10_canBe_81 rfl ?_
      refine pm_if_eq (pc := 83) (tgt := 101) dX10_canBe_83 rfl (fun h83 => ?_) (fun h83 => ?_)
      · refine pm_iconst (pc := 101) (v := nI 0) dX10_canBe_101 (by decide) ?_
        refine pm_zret (pc := 102) (by decide) rfl (Nat.le_refl _) (Nat.le_refl _) dX10_canBe_102 ?_
        first | exact absurd h78 (by decide) | exact absurd h83 (by decide) | exact QR.r (b1_t ⟨⟨(Or.inl hk), (Or.inr (Or.inr e66))⟩, (fun z => absurd z (by omega))⟩) | exact QR.r (b1_f (fun z => e66 ((z.1.2.resolve_left (by omega)).resolve_left (by omega))))
      · refine pm_iload (pc := 86) dX10_canBe_86 rfl ?_
        refine pm_iconst (pc := 88) (v := nI 3) dX10_canBe_88 (by decide) ?_
        refine pm_icmp_ne (pc := 89) (tgt := 97) dX10_canBe_89 rfl (fun h89 => ?_) (fun h89 => absurd h89 (by decide))
        refine pm_iconst (pc := 97) (v := nI 1) dX10_canBe_97 (by decide) ?_
        refine pm_goto (pc := 98) (tgt := 102) dX10_canBe_98 rfl ?_
        refine pm_zret (pc := 102) (by decide) rfl (Nat.le_refl _) (Nat.le_refl _) dX10_canBe_102 ?_
        first | exact absurd h78 (by decide) | exact absurd h83 (by decide) | exact QR.r (b1_t ⟨⟨(Or.inl hk), (Or.inr (Or.inr e66))⟩, (fun z => absurd z (by omega))⟩) | exact QR.r (b1_f (fun z => e66 ((z.1.2.resolve_left (by omega)).resolve_left (by omega))))
set_option maxRecDepth 100000 in
set_option maxHeartbeats 4000000 in
theorem c_mCanBe_2 {I : pm_I} {L : pm_L} {s : gS} {c : Nat} (hG : MG I s) (hI : gInv s) (ho : a_okW s c) (hk : a_h c = 2) : PC 1 0 0 yX10_canBe cX10_canBe 7 (some (.boolean)) [.ref 40, .int (nI c)] GG I L (QR GG I L (b1 (a_canW s c))) := by
  have hlt := a_ltW ho
  have h12 := hI.n12
  obtain ⟨o1, o2, o3, o4⟩ := ho
  have hlen := hI.len o2
  refine PC.of [some (.ref 40), some (.int (nI c)), none, none, none, none, none] (by decide) (Nat.le_of_ble_eq_true rfl) rfl (fun l P => ?_)
  refine pm_iload_n (pc := 0) dX10_canBe_0 rfl ?_
  refine pm_cSR (pc := 1) dX10_canBe_1 (c_mPlaceOf (c := c) (by omega)) wq_X10_placeOf wm_X10_202 wt_X10_placeOf ⟨Nat.le_of_ble_eq_true rfl, Nat.le_of_ble_eq_true rfl⟩ ⟨Nat.le_of_ble_eq_true rfl, Nat.le_of_ble_eq_true rfl⟩ rfl (Nat.le_of_ble_eq_true rfl) ?_
  refine pm_istore_n (pc := 4) dX10_canBe_4 (by decide) rfl ?_
  refine pm_iload_n (pc := 5) dX10_canBe_5 rfl ?_
  refine pm_cSR (pc := 6) dX10_canBe_6 (c_mOther (c := c) (by omega)) wq_X10_otherOf wm_X10_205 wt_X10_otherOf ⟨Nat.le_of_ble_eq_true rfl, Nat.le_of_ble_eq_true rfl⟩ ⟨Nat.le_of_ble_eq_true rfl, Nat.le_of_ble_eq_true rfl⟩ rfl (Nat.le_of_ble_eq_true rfl) ?_
  refine pm_istore_n (pc := 9) dX10_canBe_9 (by decide) rfl ?_
  refine pm_iload_n (pc := 10) dX10_canBe_10 rfl ?_
  refine pm_cSR (pc := 11) dX10_canBe_11 (c_mKind (by omega) hk) wq_X10_kindOf wm_X10_208 wt_X10_kindOf ⟨Nat.le_of_ble_eq_true rfl, Nat.le_of_ble_eq_true rfl⟩ ⟨Nat.le_of_ble_eq_true rfl, Nat.le_of_ble_eq_true rfl⟩ rfl (Nat.le_of_ble_eq_true rfl) ?_
  refine pm_istore (pc := 14) dX10_canBe_14 (by decide) rfl ?_
  refine pm_iload (pc := 16) dX10_canBe_16 rfl ?_
  refine pm_iconst (pc := 18) (v := nI 1) dX10_canBe_18 (by decide) ?_
  refine pm_icmp_eq (pc := 19) (tgt := 31) dX10_canBe_19 rfl (fun h19 => absurd h19 (by decide)) (fun h19 => ?_)
  refine pm_aload_n (pc := 22) dX10_canBe_22 rfl ?_
  refine pm_getr (pc := 23) (ci := 8) (C0 := RX10) (T := TX10) (N := 34) (j := 5) rfl rfl in_X10 (by decide) wf_X10_22 rfl dX10_canBe_23 ?_
  refine pm_iload_n (pc := 26) dX10_canBe_26 rfl ?_
  refine pm_iald (pc := 27) rfl (by omega) (by decide) dX10_canBe_27 ?_
  refine pm_if_le (pc := 28) (tgt := 35) dX10_canBe_28 rfl (fun h28 => ?_) (fun h28 => ?_)
  · have e28 : g_st s (a_p c) = [] := by
      rw [hG.mn o2] at h28
      simp (disch := omega) only [pm_leI, nI_toInt, pm_t0] at h28
      exact List.length_eq_zero_iff.mp (by omega)
    refine pm_iconst (pc := 35) (v := nI 0) dX10_canBe_35 (by decide) ?_
    refine pm_istore (pc := 36) dX10_canBe_36 (by decide) rfl ?_
    refine pm_iload (pc := 38) dX10_canBe_38 rfl ?_
    refine pm_iconst (pc := 40) (v := nI 1) dX10_canBe_40 (by decide) ?_
    refine pm_icmp_eq (pc := 41) (tgt := 50) dX10_canBe_41 rfl (fun h41 => absurd h41 (by decide)) (fun h41 => ?_)
    refine pm_iload (pc := 44) dX10_canBe_44 rfl ?_
    refine pm_iconst (pc := 46) (v := nI 2) dX10_canBe_46 (by decide) ?_
    refine pm_icmp_ne (pc := 47) (tgt := 69) dX10_canBe_47 rfl (fun h47 => absurd rfl h47) (fun h47 => ?_)
    refine pm_iload_n (pc := 50) dX10_canBe_50 rfl ?_
    refine pm_aload_n (pc := 51) dX10_canBe_51 rfl ?_
    refine pm_get (pc := 52) (ci := 8) (C0 := RX10) (T := TX10) (N := 34) (j := 0) rfl rfl in_X10 (by decide) wf_X10_83 rfl dX10_canBe_52 ?_
    refine pm_icmp_ge (pc := 55) (tgt := 73) dX10_canBe_55 rfl (fun h55 => (by simp (disch := omega) only [hG.n, pm_eqI, pm_ltI, pm_leI, nI_toInt, pm_t0, pm_t1, pm_tm1] at h55; omega)) (fun h55 => ?_)
    refine pm_aload_n (pc := 58) dX10_canBe_58 rfl ?_
    refine pm_getr (pc := 59) (ci := 8) (C0 := RX10) (T := TX10) (N := 34) (j := 4) rfl rfl in_X10 (by decide) wf_X10_19 rfl dX10_canBe_59 ?_
    refine pm_iload_n (pc := 62) dX10_canBe_62 rfl ?_
    refine pm_iald (pc := 63) rfl (by omega) (by decide) dX10_canBe_63 ?_
    refine pm_bipush (pc := 64) (v := nI 6) dX10_canBe_64 (by decide) ?_
    refine pm_icmp_ne (pc := 66) (tgt := 73) dX10_canBe_66 rfl (fun h66 => ?_) (fun h66 => ?_)
    · have e66 : ¬ g_wh s (a_o c) = 6 := by
        rw [hG.wh (o3 (by omega)), nI_eq (by have := (hI.2.1 (a_o c) (o3 (by omega))).2.2.2.2; omega) (by decide)] at h66
        exact h66
      refine pm_iconst (pc := 73) (v := nI 0) dX10_canBe_73 (by decide) ?_
      refine pm_istore (pc := 74) dX10_canBe_74 (by decide) rfl ?_
      refine pm_iload (pc := 76) dX10_canBe_76 rfl ?_
      refine pm_if_eq (pc := 78) (tgt := 101) dX10_canBe_78 rfl (fun h78 => ?_) (fun h78 => ?_)
      · refine pm_iconst (pc := 101) (v := nI 0) dX10_canBe_101 (by decide) ?_
        refine pm_zret (pc := 102) (by decide) rfl (Nat.le_refl _) (Nat.le_refl _) dX10_canBe_102 ?_
        first | exact absurd h78 (by decide) | exact absurd h83 (by decide) | exact QR.r (b1_t ⟨⟨(Or.inr e28), (Or.inr (Or.inr e66))⟩, (fun z => absurd z (by omega))⟩) | exact QR.r (b1_f (fun z => (z.1.1.resolve_left (by omega)) e28)) | exact QR.r (b1_f (fun z => e66 ((z.1.2.resolve_left (by omega)).resolve_left (by omega))))
      · refine pm_iload (pc := 81) dX10_canBe_81 rfl ?_
        refine pm_if_eq (pc := 83) (tgt := 101) dX10_canBe_83 rfl (fun h83 => ?_) (fun h83 => ?_)
        · refine pm_iconst (pc := 101) (v := nI 0) dX10_canBe_101 (by decide) ?_
          refine pm_zret (pc := 102) (by decide) rfl (Nat.le_refl _) (Nat.le_refl _) dX10_canBe_102 ?_
          first | exact absurd h78 (by decide) | exact absurd h83 (by decide) | exact QR.r (b1_t ⟨⟨(Or.inr e28), (Or.inr (Or.inr e66))⟩, (fun z => absurd z (by omega))⟩) | exact QR.r (b1_f (fun z => (z.1.1.resolve_left (by omega)) e28)) | exact QR.r (b1_f (fun z => e66 ((z.1.2.resolve_left (by omega)).resolve_left (by omega))))
        · refine pm_iload (pc := 86) dX10_canBe_86 rfl ?_
          refine pm_iconst (pc := 88) (v := nI 3) dX10_canBe_88 (by decide) ?_
          refine pm_icmp_ne (pc := 89) (tgt := 97) dX10_canBe_89 rfl (fun h89 => ?_) (fun h89 => absurd h89 (by decide))
          refine pm_iconst (pc := 97) (v := nI 1) dX10_canBe_97 (by decide) ?_
          refine pm_goto (pc := 98) (tgt := 102) dX10_canBe_98 rfl ?_
          refine pm_zret (pc := 102) (by decide) rfl (Nat.le_refl _) (Nat.le_refl _) dX10_canBe_102 ?_
          first | exact absurd h78 (by decide) | exact absurd h83 (by decide) | exact QR.r (b1_t ⟨⟨(Or.inr e28), (Or.inr (Or.inr e66))⟩, (fun z => absurd z (by omega))⟩) | exact QR.r (b1_f (fun z => (z.1.1.resolve_left (by omega)) e28)) | exact QR.r (b1_f (fun z => e66 ((z.1.2.resolve_left (by omega)).resolve_left (by omega))))
    · have e66 : g_wh s (a_o c) = 6 := by
        rw [hG.wh (o3 (by omega)), nI_eq (by have := (hI.2.1 (a_o c) (o3 (by omega))).2.2.2.2; omega) (by decide)] at h66
        exact h66
      refine pm_iconst (pc := 69) (v := nI 1) dX10_canBe_69 (by decide) ?_
      refine pm_goto (pc := 70) (tgt := 74) dX10_canBe_70 rfl ?_
      refine pm_istore (pc := 74) dX10_canBe_74 (by decide) rfl ?_
      refine pm_iload (pc := 76) dX10_canBe_76 rfl ?_
      refine pm_if_eq (pc := 78) (tgt := 101) dX10_canBe_78 rfl (fun h78 => ?_) (fun h78 => ?_)
      · refine pm_iconst (pc := 101) (v := nI 0) dX10_canBe_101 (by decide) ?_
        refine pm_zret (pc := 102) (by decide) rfl (Nat.le_refl _) (Nat.le_refl _) dX10_canBe_102 ?_
        first | exact absurd h78 (by decide) | exact absurd h83 (by decide) | exact QR.r (b1_t ⟨⟨(Or.inr e28), (Or.inr (Or.inr e66))⟩, (fun z => absurd z (by omega))⟩) | exact QR.r (b1_f (fun z => (z.1.1.resolve_left (by omega)) e28)) | exact QR.r (b1_f (fun z => e66 ((z.1.2.resolve_left (by omega)).resolve_left (by omega))))
      · refine pm_iload (pc := 81) dX10_canBe_81 rfl ?_
        refine pm_if_eq (pc := 83) (tgt := 101) dX10_canBe_83 rfl (fun h83 => ?_) (fun h83 => ?_)
        · refine pm_iconst (pc := 101) (v := nI 0) dX10_canBe_101 (by decide) ?_
          refine pm_zret (pc := 102) (by decide) rfl (Nat.le_refl _) (Nat.le_refl _) dX10_canBe_102 ?_
          first | exact absurd h78 (by decide) | exact absurd h83 (by decide) | exact QR.r (b1_t ⟨⟨(Or.inr e28), (Or.inr (Or.inr e66))⟩, (fun z => absurd z (by omega))⟩) | exact QR.r (b1_f (fun z => (z.1.1.resolve_left (by omega)) e28)) | exact QR.r (b1_f (fun z => e66 ((z.1.2.resolve_left (by omega)).resolve_left (by omega))))
        · refine pm_iload (pc := 86) dX10_canBe_86 rfl ?_
          refine pm_iconst (pc := 88) (v := nI 3) dX10_canBe_88 (by decide) ?_
          refine pm_icmp_ne (pc := 89) (tgt := 97) dX10_canBe_89 rfl (fun h89 => ?_) (fun h89 => absurd h89 (by decide))
          refine pm_iconst (pc := 97) (v := nI 1) dX10_canBe_97 (by decide) ?_
          refine pm_goto (pc := 98) (tgt := 102) dX10_canBe_98 rfl ?_
          refine pm_zret (pc := 102) (by decide) rfl (Nat.le_refl _) (Nat.le_refl _) dX10_canBe_102 ?_
          first | exact absurd h78 (by decide) | exact absurd h83 (by decide) | exact QR.r (b1_t ⟨⟨(Or.inr e28), (Or.inr (Or.inr e66))⟩, (fun z => absurd z (by omega))⟩) | exact QR.r (b1_f (fun z => (z.1.1.resolve_left (by omega)) e28)) | exact QR.r (b1_f (fun z => e66 ((z.1.2.resolve_left (by omega)).resolve_left (by omega))))
  · have e28 : g_st s (a_p c) ≠ [] := by
      rw [hG.mn o2] at h28
      simp (disch := omega) only [pm_leI, nI_toInt, pm_t0] at h28
      exact List.length_pos_iff.mp (by omega)
    refine pm_iconst (pc := 31) (v := nI 1) dX10_canBe_31 (by decide) ?_
    refine pm_goto (pc := 32) (tgt := 36) dX10_canBe_32 rfl ?_
    refine pm_istore (pc := 36) dX10_canBe_36 (by decide) rfl ?_
    refine pm_iload (pc := 38) dX10_canBe_38 rfl ?_
    refine pm_iconst (pc := 40) (v := nI 1) dX10_canBe_40 (by decide) ?_
    refine pm_icmp_eq (pc := 41) (tgt := 50) dX10_canBe_41 rfl (fun h41 => absurd h41 (by decide)) (fun h41 => ?_)
    refine pm_iload (pc := 44) dX10_canBe_44 rfl ?_
    refine pm_iconst (pc := 46) (v := nI 2) dX10_canBe_46 (by decide) ?_
    refine pm_icmp_ne (pc := 47) (tgt := 69) dX10_canBe_47 rfl (fun h47 => absurd rfl h47) (fun h47 => ?_)
    refine pm_iload_n (pc := 50) dX10_canBe_50 rfl ?_
    refine pm_aload_n (pc := 51) dX10_canBe_51 rfl ?_
    refine pm_get (pc := 52) (ci := 8) (C0 := RX10) (T := TX10) (N := 34) (j := 0) rfl rfl in_X10 (by decide) wf_X10_83 rfl dX10_canBe_52 ?_
    refine pm_icmp_ge (pc := 55) (tgt := 73) dX10_canBe_55 rfl (fun h55 => (by simp (disch := omega) only [hG.n, pm_eqI, pm_ltI, pm_leI, nI_toInt, pm_t0, pm_t1, pm_tm1] at h55; omega)) (fun h55 => ?_)
    refine pm_aload_n (pc := 58) dX10_canBe_58 rfl ?_
    refine pm_getr (pc := 59) (ci := 8) (C0 := RX10) (T := TX10) (N := 34) (j := 4) rfl rfl in_X10 (by decide) wf_X10_19 rfl dX10_canBe_59 ?_
    refine pm_iload_n (pc := 62) dX10_canBe_62 rfl ?_
    refine pm_iald (pc := 63) rfl (by omega) (by decide) dX10_canBe_63 ?_
    refine pm_bipush (pc := 64) (v := nI 6) dX10_canBe_64 (by decide) ?_
    refine pm_icmp_ne (pc := 66) (tgt := 73) dX10_canBe_66 rfl (fun h66 => ?_) (fun h66 => ?_)
    · have e66 : ¬ g_wh s (a_o c) = 6 := by
        rw [hG.wh (o3 (by omega)), nI_eq (by have := (hI.2.1 (a_o c) (o3 (by omega))).2.2.2.2; omega) (by decide)] at h66
        exact h66
      refine pm_iconst (pc := 73) (v := nI 0) dX10_canBe_73 (by decide) ?_
      refine pm_istore (pc := 74) dX10_canBe_74 (by decide) rfl ?_
      refine pm_iload (pc := 76) dX10_canBe_76 rfl ?_
      refine pm_if_eq (pc := 78) (tgt := 101) dX10_canBe_78 rfl (fun h78 => ?_) (fun h78 => ?_)
      · refine pm_iconst (pc := 101) (v := nI 0) dX10_canBe_101 (by decide) ?_
        refine pm_zret (pc := 102) (by decide) rfl (Nat.le_refl _) (Nat.le_refl _) dX10_canBe_102 ?_
        first | exact absurd h78 (by decide) | exact absurd h83 (by decide) | exact QR.r (b1_t ⟨⟨(Or.inr e28), (Or.inr (Or.inr e66))⟩, (fun z => absurd z (by omega))⟩) | exact QR.r (b1_f (fun z => (z.1.1.resolve_left (by omega)) e28)) | exact QR.r (b1_f (fun z => e66 ((z.1.2.resolve_left (by omega)).resolve_left (by omega))))
      · refine pm_iload (pc := 81) dX10_canBe_81 rfl ?_
        refine pm_if_eq (pc := 83) (tgt := 101) dX10_canBe_83 rfl (fun h83 => ?_) (fun h83 => ?_)
        · refine pm_iconst (pc := 101) (v := nI 0) dX10_canBe_101 (by decide) ?_
          refine pm_zret (pc := 102) (by decide) rfl (Nat.le_refl _) (Nat.le_refl _) dX10_canBe_102 ?_
          first | exact absurd h78 (by decide) | exact absurd h83 (by decide) | exact QR.r (b1_t ⟨⟨(Or.inr e28), (Or.inr (Or.inr e66))⟩, (fun z => absurd z (by omega))⟩) | exact QR.r (b1_f (fun z => (z.1.1.resolve_left (by omega)) e28)) | exact QR.r (b1_f (fun z => e66 ((z.1.2.resolve_left (by omega)).resolve_left (by omega))))
        · refine pm_iload (pc := 86) dX10_canBe_86 rfl ?_
          refine pm_iconst (pc := 88) (v := nI 3) dX10_canBe_88 (by decide) ?_
          refine pm_icmp_ne (pc := 89) (tgt := 97) dX10_canBe_89 rfl (fun h89 => ?_) (fun h89 => absurd h89 (by decide))
          refine pm_iconst (pc := 97) (v := nI 1) dX10_canBe_97 (by decide) ?_
          refine pm_goto (pc := 98) (tgt := 102) dX10_canBe_98 rfl ?_
          refine pm_zret (pc := 102) (by decide) rfl (Nat.le_refl _) (Nat.le_refl _) dX10_canBe_102 ?_
          first | exact absurd h78 (by decide) | exact absurd h83 (by decide) | exact QR.r (b1_t ⟨⟨(Or.inr e28), (Or.inr (Or.inr e66))⟩, (fun z => absurd z (by omega))⟩) | exact QR.r (b1_f (fun z => (z.1.1.resolve_left (by omega)) e28)) | exact QR.r (b1_f (fun z => e66 ((z.1.2.resolve_left (by omega)).resolve_left (by omega))))
    · have e66 : g_wh s (a_o c) = 6 := by
        rw [hG.wh (o3 (by omega)), nI_eq (by have := (hI.2.1 (a_o c) (o3 (by omega))).2.2.2.2; omega) (by decide)] at h66
        exact h66
      refine pm_iconst (pc := 69) (v := nI 1) dX10_canBe_69 (by decide) ?_
      refine pm_goto (pc := 70) (tgt := 74) dX10_canBe_70 rfl ?_
      refine pm_istore (pc := 74) dX10_canBe_74 (by decide) rfl ?_
      refine pm_iload (pc := 76) dX10_canBe_76 rfl ?_
      refine pm_if_eq (pc := 78) (tgt := 101) dX10_canBe_78 rfl (fun h78 => ?_) (fun h78 => ?_)
      · refine pm_iconst (pc := 101) (v := nI 0) dX10_canBe_101 (by decide) ?_
        refine pm_zret (pc := 102) (by decide) rfl (Nat.le_refl _) (Nat.le_refl _) dX10_canBe_102 ?_
        first | exact absurd h78 (by decide) | exact absurd h83 (by decide) | exact QR.r (b1_t ⟨⟨(Or.inr e28), (Or.inr (Or.inr e66))⟩, (fun z => absurd z (by omega))⟩) | exact QR.r (b1_f (fun z => (z.1.1.resolve_left (by omega)) e28)) | exact QR.r (b1_f (fun z => e66 ((z.1.2.resolve_left (by omega)).resolve_left (by omega))))
      · refine pm_iload (pc := 81) dX10_canBe_81 rfl ?_
        refine pm_if_eq (pc := 83) (tgt := 101) dX10_canBe_83 rfl (fun h83 => ?_) (fun h83 => ?_)
        · refine pm_iconst (pc := 101) (v := nI 0) dX10_canBe_101 (by decide) ?_
          refine pm_zret (pc := 102) (by decide) rfl (Nat.le_refl _) (Nat.le_refl _) dX10_canBe_102 ?_
          first | exact absurd h78 (by decide) | exact absurd h83 (by decide) | exact QR.r (b1_t ⟨⟨(Or.inr e28), (Or.inr (Or.inr e66))⟩, (fun z => absurd z (by omega))⟩) | exact QR.r (b1_f (fun z => (z.1.1.resolve_left (by omega)) e28)) | exact QR.r (b1_f (fun z => e66 ((z.1.2.resolve_left (by omega)).resolve_left (by omega))))
        · refine pm_iload (pc := 86) dX10_canBe_86 rfl ?_
          refine pm_iconst (pc := 88) (v := nI 3) dX10_canBe_88 (by decide) ?_
          refine pm_icmp_ne (pc := 89) (tgt := 97) dX10_canBe_89 rfl (fun h89 => ?_) (fun h89 => absurd h89 (by decide))
          refine pm_iconst (pc := 97) (v := nI 1) dX10_canBe_97 (by decide) ?_
          refine pm_goto (pc := 98) (tgt := 102) dX10_canBe_98 rfl ?_
          refine pm_zret (pc := 102) (by decide) rfl (Nat.le_refl _) (Nat.le_refl _) dX10_canBe_102 ?_
          first | exact absurd h78 (by decide) | exact absurd h83 (by decide) | exact QR.r (b1_t ⟨⟨(Or.inr e28), (Or.inr (Or.inr e66))⟩, (fun z => absurd z (by omega))⟩) | exact QR.r (b1_f (fun z => (z.1.1.resolve_left (by omega)) e28)) | exact QR.r (b1_f (fun z => e66 ((z.1.2.resolve_left (by omega)).resolve_left (by omega))))
set_option maxRecDepth 100000 in
set_option maxHeartbeats 4000000 in
theorem c_mCanBe_3 {I : pm_I} {L : pm_L} {s : gS} {c : Nat} (hG : MG I s) (hI : gInv s) (ho : a_okW s c) (hk : a_h c = 3) : PC 1 0 0 yX10_canBe cX10_canBe 7 (some (.boolean)) [.ref 40, .int (nI c)] GG I L (QR GG I L (b1 (a_canW s c))) := by
  have hlt := a_ltW ho
  have h12 := hI.n12
  obtain ⟨o1, o2, o3, o4⟩ := ho
  have hlen := hI.len o2
  refine PC.of [some (.ref 40), some (.int (nI c)), none, none, none, none, none] (by decide) (Nat.le_of_ble_eq_true rfl) rfl (fun l P => ?_)
  refine pm_iload_n (pc := 0) dX10_canBe_0 rfl ?_
  refine pm_cSR (pc := 1) dX10_canBe_1 (c_mPlaceOf (c := c) (by omega)) wq_X10_placeOf wm_X10_202 wt_X10_placeOf ⟨Nat.le_of_ble_eq_true rfl, Nat.le_of_ble_eq_true rfl⟩ ⟨Nat.le_of_ble_eq_true rfl, Nat.le_of_ble_eq_true rfl⟩ rfl (Nat.le_of_ble_eq_true rfl) ?_
  refine pm_istore_n (pc := 4) dX10_canBe_4 (by decide) rfl ?_
  refine pm_iload_n (pc := 5) dX10_canBe_5 rfl ?_
  refine pm_cSR (pc := 6) dX10_canBe_6 (c_mOther (c := c) (by omega)) wq_X10_otherOf wm_X10_205 wt_X10_otherOf ⟨Nat.le_of_ble_eq_true rfl, Nat.le_of_ble_eq_true rfl⟩ ⟨Nat.le_of_ble_eq_true rfl, Nat.le_of_ble_eq_true rfl⟩ rfl (Nat.le_of_ble_eq_true rfl) ?_
  refine pm_istore_n (pc := 9) dX10_canBe_9 (by decide) rfl ?_
  refine pm_iload_n (pc := 10) dX10_canBe_10 rfl ?_
  refine pm_cSR (pc := 11) dX10_canBe_11 (c_mKind (by omega) hk) wq_X10_kindOf wm_X10_208 wt_X10_kindOf ⟨Nat.le_of_ble_eq_true rfl, Nat.le_of_ble_eq_true rfl⟩ ⟨Nat.le_of_ble_eq_true rfl, Nat.le_of_ble_eq_true rfl⟩ rfl (Nat.le_of_ble_eq_true rfl) ?_
  refine pm_istore (pc := 14) dX10_canBe_14 (by decide) rfl ?_
  refine pm_iload (pc := 16) dX10_canBe_16 rfl ?_
  refine pm_iconst (pc := 18) (v := nI 1) dX10_canBe_18 (by decide) ?_
  refine pm_icmp_eq (pc := 19) (tgt := 31) dX10_canBe_19 rfl (fun h19 => absurd h19 (by decide)) (fun h19 => ?_)
  refine pm_aload_n (pc := 22) dX10_canBe_22 rfl ?_
  refine pm_getr (pc := 23) (ci := 8) (C0 := RX10) (T := TX10) (N := 34) (j := 5) rfl rfl in_X10 (by decide) wf_X10_22 rfl dX10_canBe_23 ?_
  refine pm_iload_n (pc := 26) dX10_canBe_26 rfl ?_
  refine pm_iald (pc := 27) rfl (by omega) (by decide) dX10_canBe_27 ?_
  refine pm_if_le (pc := 28) (tgt := 35) dX10_canBe_28 rfl (fun h28 => ?_) (fun h28 => ?_)
  · have e28 : g_st s (a_p c) = [] := by
      rw [hG.mn o2] at h28
      simp (disch := omega) only [pm_leI, nI_toInt, pm_t0] at h28
      exact List.length_eq_zero_iff.mp (by omega)
    refine pm_iconst (pc := 35) (v := nI 0) dX10_canBe_35 (by decide) ?_
    refine pm_istore (pc := 36) dX10_canBe_36 (by decide) rfl ?_
    refine pm_iload (pc := 38) dX10_canBe_38 rfl ?_
    refine pm_iconst (pc := 40) (v := nI 1) dX10_canBe_40 (by decide) ?_
    refine pm_icmp_eq (pc := 41) (tgt := 50) dX10_canBe_41 rfl (fun h41 => absurd h41 (by decide)) (fun h41 => ?_)
    refine pm_iload (pc := 44) dX10_canBe_44 rfl ?_
    refine pm_iconst (pc := 46) (v := nI 2) dX10_canBe_46 (by decide) ?_
    refine pm_icmp_ne (pc := 47) (tgt := 69) dX10_canBe_47 rfl (fun h47 => ?_) (fun h47 => absurd h47 (by decide))
    refine pm_iconst (pc := 69) (v := nI 1) dX10_canBe_69 (by decide) ?_
    refine pm_goto (pc := 70) (tgt := 74) dX10_canBe_70 rfl ?_
    refine pm_istore (pc := 74) dX10_canBe_74 (by decide) rfl ?_
    refine pm_iload (pc := 76) dX10_canBe_76 rfl ?_
    refine pm_if_eq (pc := 78) (tgt := 101) dX10_canBe_78 rfl (fun h78 => ?_) (fun h78 => ?_)
    · refine pm_iconst (pc := 101) (v := nI 0) dX10_canBe_101 (by decide) ?_
      refine pm_zret (pc := 102) (by decide) rfl (Nat.le_refl _) (Nat.le_refl _) dX10_canBe_102 ?_
      first | exact absurd h78 (by decide) | exact absurd h83 (by decide) | exact QR.r (b1_t ⟨⟨(Or.inr e28), (Or.inr (Or.inl hk))⟩, (fun _ => e94)⟩) | exact QR.r (b1_f (fun z => (z.1.1.resolve_left (by omega)) e28)) | exact QR.r (b1_f (fun z => z.2 hk e94))
    · refine pm_iload (pc := 81) dX10_canBe_81 rfl ?_
      refine pm_if_eq (pc := 83) (tgt := 101) dX10_canBe_83 rfl (fun h83 => ?_) (fun h83 => ?_)
      · refine pm_iconst (pc := 101) (v := nI 0) dX10_canBe_101 (by decide) ?_
        refine pm_zret (pc := 102) (by decide) rfl (Nat.le_refl _) (Nat.le_refl _) dX10_canBe_102 ?_
        first | exact absurd h78 (by decide) | exact absurd h83 (by decide) | exact QR.r (b1_t ⟨⟨(Or.inr e28), (Or.inr (Or.inl hk))⟩, (fun _ => e94)⟩) | exact QR.r (b1_f (fun z => (z.1.1.resolve_left (by omega)) e28)) | exact QR.r (b1_f (fun z => z.2 hk e94))
      · refine pm_iload (pc := 86) dX10_canBe_86 rfl ?_
        refine pm_iconst (pc := 88) (v := nI 3) dX10_canBe_88 (by decide) ?_
        refine pm_icmp_ne (pc := 89) (tgt := 97) dX10_canBe_89 rfl (fun h89 => absurd rfl h89) (fun h89 => ?_)
        refine pm_iload_n (pc := 92) dX10_canBe_92 rfl ?_
        refine pm_iload_n (pc := 93) dX10_canBe_93 rfl ?_
        refine pm_icmp_eq (pc := 94) (tgt := 101) dX10_canBe_94 rfl (fun h94 => ?_) (fun h94 => ?_)
        · have e94 : a_p c = a_o c := (nI_eq (by omega) (by omega)).mp h94
          refine pm_iconst (pc := 101) (v := nI 0) dX10_canBe_101 (by decide) ?_
          refine pm_zret (pc := 102) (by decide) rfl (Nat.le_refl _) (Nat.le_refl _) dX10_canBe_102 ?_
          first | exact absurd h78 (by decide) | exact absurd h83 (by decide) | exact QR.r (b1_t ⟨⟨(Or.inr e28), (Or.inr (Or.inl hk))⟩, (fun _ => e94)⟩) | exact QR.r (b1_f (fun z => (z.1.1.resolve_left (by omega)) e28)) | exact QR.r (b1_f (fun z => z.2 hk e94))
        · have e94 : ¬ a_p c = a_o c := fun z => h94 (by rw [z])
          refine pm_iconst (pc := 97) (v := nI 1) dX10_canBe_97 (by decide) ?_
          refine pm_goto (pc := 98) (tgt := 102) dX10_canBe_98 rfl ?_
          refine pm_zret (pc := 102) (by decide) rfl (Nat.le_refl _) (Nat.le_refl _) dX10_canBe_102 ?_
          first | exact absurd h78 (by decide) | exact absurd h83 (by decide) | exact QR.r (b1_t ⟨⟨(Or.inr e28), (Or.inr (Or.inl hk))⟩, (fun _ => e94)⟩) | exact QR.r (b1_f (fun z => (z.1.1.resolve_left (by omega)) e28)) | exact QR.r (b1_f (fun z => z.2 hk e94))
  · have e28 : g_st s (a_p c) ≠ [] := by
      rw [hG.mn o2] at h28
      simp (disch := omega) only [pm_leI, nI_toInt, pm_t0] at h28
      exact List.length_pos_iff.mp (by omega)
    refine pm_iconst (pc := 31) (v := nI 1) dX10_canBe_31 (by decide) ?_
    refine pm_goto (pc := 32) (tgt := 36) dX10_canBe_32 rfl ?_
    refine pm_istore (pc := 36) dX10_canBe_36 (by decide) rfl ?_
    refine pm_iload (pc := 38) dX10_canBe_38 rfl ?_
    refine pm_iconst (pc := 40) (v := nI 1) dX10_canBe_40 (by decide) ?_
    refine pm_icmp_eq (pc := 41) (tgt := 50) dX10_canBe_41 rfl (fun h41 => absurd h41 (by decide)) (fun h41 => ?_)
    refine pm_iload (pc := 44) dX10_canBe_44 rfl ?_
    refine pm_iconst (pc := 46) (v := nI 2) dX10_canBe_46 (by decide) ?_
    refine pm_icmp_ne (pc := 47) (tgt := 69) dX10_canBe_47 rfl (fun h47 => ?_) (fun h47 => absurd h47 (by decide))
    refine pm_iconst (pc := 69) (v := nI 1) dX10_canBe_69 (by decide) ?_
    refine pm_goto (pc := 70) (tgt := 74) dX10_canBe_70 rfl ?_
    refine pm_istore (pc := 74) dX10_canBe_74 (by decide) rfl ?_
    refine pm_iload (pc := 76) dX10_canBe_76 rfl ?_
    refine pm_if_eq (pc := 78) (tgt := 101) dX10_canBe_78 rfl (fun h78 => ?_) (fun h78 => ?_)
    · refine pm_iconst (pc := 101) (v := nI 0) dX10_canBe_101 (by decide) ?_
      refine pm_zret (pc := 102) (by decide) rfl (Nat.le_refl _) (Nat.le_refl _) dX10_canBe_102 ?_
      first | exact absurd h78 (by decide) | exact absurd h83 (by decide) | exact QR.r (b1_t ⟨⟨(Or.inr e28), (Or.inr (Or.inl hk))⟩, (fun _ => e94)⟩) | exact QR.r (b1_f (fun z => (z.1.1.resolve_left (by omega)) e28)) | exact QR.r (b1_f (fun z => z.2 hk e94))
    · refine pm_iload (pc := 81) dX10_canBe_81 rfl ?_
      refine pm_if_eq (pc := 83) (tgt := 101) dX10_canBe_83 rfl (fun h83 => ?_) (fun h83 => ?_)
      · refine pm_iconst (pc := 101) (v := nI 0) dX10_canBe_101 (by decide) ?_
        refine pm_zret (pc := 102) (by decide) rfl (Nat.le_refl _) (Nat.le_refl _) dX10_canBe_102 ?_
        first | exact absurd h78 (by decide) | exact absurd h83 (by decide) | exact QR.r (b1_t ⟨⟨(Or.inr e28), (Or.inr (Or.inl hk))⟩, (fun _ => e94)⟩) | exact QR.r (b1_f (fun z => (z.1.1.resolve_left (by omega)) e28)) | exact QR.r (b1_f (fun z => z.2 hk e94))
      · refine pm_iload (pc := 86) dX10_canBe_86 rfl ?_
        refine pm_iconst (pc := 88) (v := nI 3) dX10_canBe_88 (by decide) ?_
        refine pm_icmp_ne (pc := 89) (tgt := 97) dX10_canBe_89 rfl (fun h89 => absurd rfl h89) (fun h89 => ?_)
        refine pm_iload_n (pc := 92) dX10_canBe_92 rfl ?_
        refine pm_iload_n (pc := 93) dX10_canBe_93 rfl ?_
        refine pm_icmp_eq (pc := 94) (tgt := 101) dX10_canBe_94 rfl (fun h94 => ?_) (fun h94 => ?_)
        · have e94 : a_p c = a_o c := (nI_eq (by omega) (by omega)).mp h94
          refine pm_iconst (pc := 101) (v := nI 0) dX10_canBe_101 (by decide) ?_
          refine pm_zret (pc := 102) (by decide) rfl (Nat.le_refl _) (Nat.le_refl _) dX10_canBe_102 ?_
          first | exact absurd h78 (by decide) | exact absurd h83 (by decide) | exact QR.r (b1_t ⟨⟨(Or.inr e28), (Or.inr (Or.inl hk))⟩, (fun _ => e94)⟩) | exact QR.r (b1_f (fun z => (z.1.1.resolve_left (by omega)) e28)) | exact QR.r (b1_f (fun z => z.2 hk e94))
        · have e94 : ¬ a_p c = a_o c := fun z => h94 (by rw [z])
          refine pm_iconst (pc := 97) (v := nI 1) dX10_canBe_97 (by decide) ?_
          refine pm_goto (pc := 98) (tgt := 102) dX10_canBe_98 rfl ?_
          refine pm_zret (pc := 102) (by decide) rfl (Nat.le_refl _) (Nat.le_refl _) dX10_canBe_102 ?_
          first | exact absurd h78 (by decide) | exact absurd h83 (by decide) | exact QR.r (b1_t ⟨⟨(Or.inr e28), (Or.inr (Or.inl hk))⟩, (fun _ => e94)⟩) | exact QR.r (b1_f (fun z => (z.1.1.resolve_left (by omega)) e28)) | exact QR.r (b1_f (fun z => z.2 hk e94))
theorem c_mCanBe {I : pm_I} {L : pm_L} {s : gS} {c : Nat} (hG : MG I s) (hI : gInv s) (ho : a_okW s c) : PC 1 0 0 yX10_canBe cX10_canBe 7 (some (.boolean)) [.ref 40, .int (nI c)] GG I L (QR GG I L (b1 (a_canW s c))) := by
  have h := ho.1
  rcases (show a_h c = 0 ∨ a_h c = 1 ∨ a_h c = 2 ∨ a_h c = 3 by omega) with hk | hk | hk | hk
  · exact c_mCanBe_0 hG hI ho hk
  · exact c_mCanBe_1 hG hI ho hk
  · exact c_mCanBe_2 hG hI ho hk
  · exact c_mCanBe_3 hG hI ho hk
set_option maxRecDepth 100000 in
set_option maxHeartbeats 4000000 in
theorem c_mSize {I : pm_I} {L : pm_L} {x : Int32} {a b : Nat} (hx : x.toInt = (a : Int) - b) (ha : a < 2 ^ 30) (hb : b < 2 ^ 30) : PC 0 0 0 yX10_size cX10_size 1 (some (.int)) [.int x] GG I L (QR GG I L (nI ((a - b) + (b - a)))) := by
  refine PC.of [some (.int x)] (by decide) (Nat.le_of_ble_eq_true rfl) rfl (fun l P => ?_)
  refine pm_iload_n (pc := 0) dX10_size_0 rfl ?_
  refine pm_if_ge (pc := 1) (tgt := 9) dX10_size_1 rfl (fun h1 => ?_) (fun h1 => ?_)
  · refine pm_iload_n (pc := 9) dX10_size_9 rfl ?_
    refine pm_iret (pc := 10) rfl (Nat.le_refl _) (Nat.le_refl _) dX10_size_10 ?_
    refine QR.r ?_
    rw [← pm_absI hx ha hb]
    first
    | (rw [if_pos h1]; done)
    | (rw [if_neg h1, pm_eqI]
       rw [fb_subI (by rw [pm_t0, hx]; omega) (by rw [pm_t0, hx]; omega), fb_negI (by rw [hx]; omega), pm_t0]; omega)
  · refine pm_iload_n (pc := 4) dX10_size_4 rfl ?_
    refine pm_ineg (pc := 5) dX10_size_5 ?_
    refine pm_goto (pc := 6) (tgt := 10) dX10_size_6 rfl ?_
    refine pm_iret (pc := 10) rfl (Nat.le_refl _) (Nat.le_refl _) dX10_size_10 ?_
    refine QR.r ?_
    rw [← pm_absI hx ha hb]
    first
    | (rw [if_pos h1]; done)
    | (rw [if_neg h1, pm_eqI]
       rw [fb_subI (by rw [pm_t0, hx]; omega) (by rw [pm_t0, hx]; omega), fb_negI (by rw [hx]; omega), pm_t0]; omega)
set_option maxRecDepth 100000 in
set_option maxHeartbeats 4000000 in
theorem c_mIsFelt_0 {I : pm_I} {L : pm_L} {s : gS} {c : Nat} (hG : MG I s) (hI : gInv s) (ho : a_okW s c) (hc : a_can s c) (hk : a_h c = 0) : PC 1 0 0 yX10_isFelt cX10_isFelt 6 (some (.boolean)) [.ref 40, .int (nI c)] GG I L (QR GG I L (b1 (a_felt s c))) := by
  have hlt := a_ltW ho
  have h12 := hI.n12
  obtain ⟨o1, o2, o3, o4⟩ := ho
  have hlen := hI.len o2
  have eo : a_out s c = g_w s (g_top s (a_p c)) := by unfold a_out; rw [if_neg (by omega)]
  have ei : a_in s c = 0 := by unfold a_in; rw [if_neg (by omega)]
  have hs : g_st s (a_p c) ≠ [] := hc.1.resolve_left (by omega)
  have ht := (hI.top o2 hs).1
  have w1 := hI.w ht
  refine PC.of [some (.ref 40), some (.int (nI c)), none, none, none, none] (by decide) (Nat.le_of_ble_eq_true rfl) rfl (fun l P => ?_)
  refine pm_iload_n (pc := 0) dX10_isFelt_0 rfl ?_
  refine pm_cSR (pc := 1) dX10_isFelt_1 (c_mPlaceOf (c := c) (by omega)) wq_X10_placeOf wm_X10_202 wt_X10_placeOf ⟨Nat.le_of_ble_eq_true rfl, Nat.le_of_ble_eq_true rfl⟩ ⟨Nat.le_of_ble_eq_true rfl, Nat.le_of_ble_eq_true rfl⟩ rfl (Nat.le_of_ble_eq_true rfl) ?_
  refine pm_istore_n (pc := 4) dX10_isFelt_4 (by decide) rfl ?_
  refine pm_iload_n (pc := 5) dX10_isFelt_5 rfl ?_
  refine pm_cSR (pc := 6) dX10_isFelt_6 (c_mOther (c := c) (by omega)) wq_X10_otherOf wm_X10_205 wt_X10_otherOf ⟨Nat.le_of_ble_eq_true rfl, Nat.le_of_ble_eq_true rfl⟩ ⟨Nat.le_of_ble_eq_true rfl, Nat.le_of_ble_eq_true rfl⟩ rfl (Nat.le_of_ble_eq_true rfl) ?_
  refine pm_istore_n (pc := 9) dX10_isFelt_9 (by decide) rfl ?_
  refine pm_iload_n (pc := 10) dX10_isFelt_10 rfl ?_
  refine pm_cSR (pc := 11) dX10_isFelt_11 (c_mKind (by omega) hk) wq_X10_kindOf wm_X10_208 wt_X10_kindOf ⟨Nat.le_of_ble_eq_true rfl, Nat.le_of_ble_eq_true rfl⟩ ⟨Nat.le_of_ble_eq_true rfl, Nat.le_of_ble_eq_true rfl⟩ rfl (Nat.le_of_ble_eq_true rfl) ?_
  refine pm_iconst (pc := 14) (v := nI 1) dX10_isFelt_14 (by decide) ?_
  refine pm_icmp_ne (pc := 15) (tgt := 22) dX10_isFelt_15 rfl (fun h15 => ?_) (fun h15 => absurd h15 (by decide))
  refine pm_aload_n (pc := 22) dX10_isFelt_22 rfl ?_
  refine pm_aload_n (pc := 23) dX10_isFelt_23 rfl ?_
  refine pm_iload_n (pc := 24) dX10_isFelt_24 rfl ?_
  refine pm_cVR (pc := 25) dX10_isFelt_25 (c_mTopOf hG hI o2) wq_X10_topOf wm_X10_93 wi_X10_topOf ws_X10_topOf rfl rfl ⟨Nat.le_of_ble_eq_true rfl, Nat.le_of_ble_eq_true rfl⟩ ⟨Nat.le_of_ble_eq_true rfl, Nat.le_of_ble_eq_true rfl⟩ rfl (Nat.le_of_ble_eq_true rfl) ?_
  refine pm_cVR (pc := 28) dX10_isFelt_28 (c_mWeighs hG hI ht) wq_X10_weighs wm_X10_97 wi_X10_weighs ws_X10_weighs rfl rfl ⟨Nat.le_of_ble_eq_true rfl, Nat.le_of_ble_eq_true rfl⟩ ⟨Nat.le_of_ble_eq_true rfl, Nat.le_of_ble_eq_true rfl⟩ rfl (Nat.le_of_ble_eq_true rfl) ?_
  refine pm_istore (pc := 31) dX10_isFelt_31 (by decide) rfl ?_
  refine pm_iload_n (pc := 33) dX10_isFelt_33 rfl ?_
  refine pm_cSR (pc := 34) dX10_isFelt_34 (c_mKind (by omega) hk) wq_X10_kindOf wm_X10_208 wt_X10_kindOf ⟨Nat.le_of_ble_eq_true rfl, Nat.le_of_ble_eq_true rfl⟩ ⟨Nat.le_of_ble_eq_true rfl, Nat.le_of_ble_eq_true rfl⟩ rfl (Nat.le_of_ble_eq_true rfl) ?_
  refine pm_iconst (pc := 37) (v := nI 1) dX10_isFelt_37 (by decide) ?_
  refine pm_icmp_eq (pc := 38) (tgt := 49) dX10_isFelt_38 rfl (fun h38 => absurd h38 (by decide)) (fun h38 => ?_)
  refine pm_iload_n (pc := 41) dX10_isFelt_41 rfl ?_
  refine pm_cSR (pc := 42) dX10_isFelt_42 (c_mKind (by omega) hk) wq_X10_kindOf wm_X10_208 wt_X10_kindOf ⟨Nat.le_of_ble_eq_true rfl, Nat.le_of_ble_eq_true rfl⟩ ⟨Nat.le_of_ble_eq_true rfl, Nat.le_of_ble_eq_true rfl⟩ rfl (Nat.le_of_ble_eq_true rfl) ?_
  refine pm_iconst (pc := 45) (v := nI 2) dX10_isFelt_45 (by decide) ?_
  refine pm_icmp_ne (pc := 46) (tgt := 57) dX10_isFelt_46 rfl (fun h46 => ?_) (fun h46 => absurd h46 (by decide))
  refine pm_iconst (pc := 57) (v := nI 0) dX10_isFelt_57 (by decide) ?_
  refine pm_istore (pc := 58) dX10_isFelt_58 (by decide) rfl ?_
  refine pm_iload (pc := 60) dX10_isFelt_60 rfl ?_
  refine pm_iload (pc := 62) dX10_isFelt_62 rfl ?_
  refine pm_isub (pc := 64) dX10_isFelt_64 ?_
  refine pm_cSR (pc := 65) dX10_isFelt_65 (c_mSize (a := g_w s (g_top s (a_p c))) (b := 0) (pk_sub_toInt (by omega) (by omega)) (by omega) (by omega)) wq_X10_size wm_X10_211 wt_X10_size ⟨Nat.le_of_ble_eq_true rfl, Nat.le_of_ble_eq_true rfl⟩ ⟨Nat.le_of_ble_eq_true rfl, Nat.le_of_ble_eq_true rfl⟩ rfl (Nat.le_of_ble_eq_true rfl) ?_
  refine pm_aload_n (pc := 68) dX10_isFelt_68 rfl ?_
  refine pm_getr (pc := 69) (ci := 8) (C0 := RX10) (T := TX10) (N := 34) (j := 7) rfl rfl in_X10 (by decide) wf_X10_28 rfl dX10_isFelt_69 ?_
  refine pm_iload_n (pc := 72) dX10_isFelt_72 rfl ?_
  refine pm_iald (pc := 73) rfl (by omega) (by decide) dX10_isFelt_73 ?_
  refine pm_icmp_gt (pc := 74) (tgt := 96) dX10_isFelt_74 rfl (fun h74 => ?_) (fun h74 => ?_)
  · have sn := (hI.2.2 (a_p c) o2).1
    rw [hG.sn o2] at h74
    simp (disch := omega) only [pm_ltI, nI_toInt] at h74
    refine pm_iconst (pc := 96) (v := nI 1) dX10_isFelt_96 (by decide) ?_
    refine pm_goto (pc := 97) (tgt := 101) dX10_isFelt_97 rfl ?_
    refine pm_zret (pc := 101) (by decide) rfl (Nat.le_refl _) (Nat.le_refl _) dX10_isFelt_101 ?_
    first | exact QR.r (b1_t (Or.inl (by rw [eo, ei]; omega))) | exact QR.r (b1_f (fun z => z.elim (fun q => by rw [eo, ei] at q; omega) (fun q => absurd q.1 (by omega))))
  · have sn := (hI.2.2 (a_p c) o2).1
    rw [hG.sn o2] at h74
    simp (disch := omega) only [pm_ltI, nI_toInt] at h74
    refine pm_iload_n (pc := 77) dX10_isFelt_77 rfl ?_
    refine pm_cSR (pc := 78) dX10_isFelt_78 (c_mKind (by omega) hk) wq_X10_kindOf wm_X10_208 wt_X10_kindOf ⟨Nat.le_of_ble_eq_true rfl, Nat.le_of_ble_eq_true rfl⟩ ⟨Nat.le_of_ble_eq_true rfl, Nat.le_of_ble_eq_true rfl⟩ rfl (Nat.le_of_ble_eq_true rfl) ?_
    refine pm_iconst (pc := 81) (v := nI 3) dX10_isFelt_81 (by decide) ?_
    refine pm_icmp_ne (pc := 82) (tgt := 100) dX10_isFelt_82 rfl (fun h82 => ?_) (fun h82 => absurd h82 (by decide))
    refine pm_iconst (pc := 100) (v := nI 0) dX10_isFelt_100 (by decide) ?_
    refine pm_zret (pc := 101) (by decide) rfl (Nat.le_refl _) (Nat.le_refl _) dX10_isFelt_101 ?_
    first | exact QR.r (b1_t (Or.inl (by rw [eo, ei]; omega))) | exact QR.r (b1_f (fun z => z.elim (fun q => by rw [eo, ei] at q; omega) (fun q => absurd q.1 (by omega))))
set_option maxRecDepth 100000 in
set_option maxHeartbeats 4000000 in
theorem c_mIsFelt_1 {I : pm_I} {L : pm_L} {s : gS} {c : Nat} (hG : MG I s) (hI : gInv s) (ho : a_okW s c) (hc : a_can s c) (hk : a_h c = 1) : PC 1 0 0 yX10_isFelt cX10_isFelt 6 (some (.boolean)) [.ref 40, .int (nI c)] GG I L (QR GG I L (b1 (a_felt s c))) := by
  have hlt := a_ltW ho
  have h12 := hI.n12
  obtain ⟨o1, o2, o3, o4⟩ := ho
  have hlen := hI.len o2
  have eo : a_out s c = 0 := by unfold a_out; rw [if_pos hk]
  have ei : a_in s c = g_w s (a_o c) := by unfold a_in; rw [if_pos (by omega)]
  have w2 := hI.w (o3 (by omega))
  refine PC.of [some (.ref 40), some (.int (nI c)), none, none, none, none] (by decide) (Nat.le_of_ble_eq_true rfl) rfl (fun l P => ?_)
  refine pm_iload_n (pc := 0) dX10_isFelt_0 rfl ?_
  refine pm_cSR (pc := 1) dX10_isFelt_1 (c_mPlaceOf (c := c) (by omega)) wq_X10_placeOf wm_X10_202 wt_X10_placeOf ⟨Nat.le_of_ble_eq_true rfl, Nat.le_of_ble_eq_true rfl⟩ ⟨Nat.le_of_ble_eq_true rfl, Nat.le_of_ble_eq_true rfl⟩ rfl (Nat.le_of_ble_eq_true rfl) ?_
  refine pm_istore_n (pc := 4) dX10_isFelt_4 (by decide) rfl ?_
  refine pm_iload_n (pc := 5) dX10_isFelt_5 rfl ?_
  refine pm_cSR (pc := 6) dX10_isFelt_6 (c_mOther (c := c) (by omega)) wq_X10_otherOf wm_X10_205 wt_X10_otherOf ⟨Nat.le_of_ble_eq_true rfl, Nat.le_of_ble_eq_true rfl⟩ ⟨Nat.le_of_ble_eq_true rfl, Nat.le_of_ble_eq_true rfl⟩ rfl (Nat.le_of_ble_eq_true rfl) ?_
  refine pm_istore_n (pc := 9) dX10_isFelt_9 (by decide) rfl ?_
  refine pm_iload_n (pc := 10) dX10_isFelt_10 rfl ?_
  refine pm_cSR (pc := 11) dX10_isFelt_11 (c_mKind (by omega) hk) wq_X10_kindOf wm_X10_208 wt_X10_kindOf ⟨Nat.le_of_ble_eq_true rfl, Nat.le_of_ble_eq_true rfl⟩ ⟨Nat.le_of_ble_eq_true rfl, Nat.le_of_ble_eq_true rfl⟩ rfl (Nat.le_of_ble_eq_true rfl) ?_
  refine pm_iconst (pc := 14) (v := nI 1) dX10_isFelt_14 (by decide) ?_
  refine pm_icmp_ne (pc := 15) (tgt := 22) dX10_isFelt_15 rfl (fun h15 => absurd rfl h15) (fun h15 => ?_)
  refine pm_iconst (pc := 18) (v := nI 0) dX10_isFelt_18 (by decide) ?_
  refine pm_goto (pc := 19) (tgt := 31) dX10_isFelt_19 rfl ?_
  refine pm_istore (pc := 31) dX10_isFelt_31 (by decide) rfl ?_
  refine pm_iload_n (pc := 33) dX10_isFelt_33 rfl ?_
  refine pm_cSR (pc := 34) dX10_isFelt_34 (c_mKind (by omega) hk) wq_X10_kindOf wm_X10_208 wt_X10_kindOf ⟨Nat.le_of_ble_eq_true rfl, Nat.le_of_ble_eq_true rfl⟩ ⟨Nat.le_of_ble_eq_true rfl, Nat.le_of_ble_eq_true rfl⟩ rfl (Nat.le_of_ble_eq_true rfl) ?_
  refine pm_iconst (pc := 37) (v := nI 1) dX10_isFelt_37 (by decide) ?_
  refine pm_icmp_eq (pc := 38) (tgt := 49) dX10_isFelt_38 rfl (fun h38 => ?_) (fun h38 => absurd rfl h38)
  refine pm_aload_n (pc := 49) dX10_isFelt_49 rfl ?_
  refine pm_iload_n (pc := 50) dX10_isFelt_50 rfl ?_
  refine pm_cVR (pc := 51) dX10_isFelt_51 (c_mWeighs hG hI (o3 (by omega))) wq_X10_weighs wm_X10_97 wi_X10_weighs ws_X10_weighs rfl rfl ⟨Nat.le_of_ble_eq_true rfl, Nat.le_of_ble_eq_true rfl⟩ ⟨Nat.le_of_ble_eq_true rfl, Nat.le_of_ble_eq_true rfl⟩ rfl (Nat.le_of_ble_eq_true rfl) ?_
  refine pm_goto (pc := 54) (tgt := 58) dX10_isFelt_54 rfl ?_
  refine pm_istore (pc := 58) dX10_isFelt_58 (by decide) rfl ?_
  refine pm_iload (pc := 60) dX10_isFelt_60 rfl ?_
  refine pm_iload (pc := 62) dX10_isFelt_62 rfl ?_
  refine pm_isub (pc := 64) dX10_isFelt_64 ?_
  refine pm_cSR (pc := 65) dX10_isFelt_65 (c_mSize (a := 0) (b := g_w s (a_o c)) (pk_sub_toInt (by omega) (by omega)) (by omega) (by omega)) wq_X10_size wm_X10_211 wt_X10_size ⟨Nat.le_of_ble_eq_true rfl, Nat.le_of_ble_eq_true rfl⟩ ⟨Nat.le_of_ble_eq_true rfl, Nat.le_of_ble_eq_true rfl⟩ rfl (Nat.le_of_ble_eq_true rfl) ?_
  refine pm_aload_n (pc := 68) dX10_isFelt_68 rfl ?_
  refine pm_getr (pc := 69) (ci := 8) (C0 := RX10) (T := TX10) (N := 34) (j := 7) rfl rfl in_X10 (by decide) wf_X10_28 rfl dX10_isFelt_69 ?_
  refine pm_iload_n (pc := 72) dX10_isFelt_72 rfl ?_
  refine pm_iald (pc := 73) rfl (by omega) (by decide) dX10_isFelt_73 ?_
  refine pm_icmp_gt (pc := 74) (tgt := 96) dX10_isFelt_74 rfl (fun h74 => ?_) (fun h74 => ?_)
  · have sn := (hI.2.2 (a_p c) o2).1
    rw [hG.sn o2] at h74
    simp (disch := omega) only [pm_ltI, nI_toInt] at h74
    refine pm_iconst (pc := 96) (v := nI 1) dX10_isFelt_96 (by decide) ?_
    refine pm_goto (pc := 97) (tgt := 101) dX10_isFelt_97 rfl ?_
    refine pm_zret (pc := 101) (by decide) rfl (Nat.le_refl _) (Nat.le_refl _) dX10_isFelt_101 ?_
    first | exact QR.r (b1_t (Or.inl (by rw [eo, ei]; omega))) | exact QR.r (b1_f (fun z => z.elim (fun q => by rw [eo, ei] at q; omega) (fun q => absurd q.1 (by omega))))
  · have sn := (hI.2.2 (a_p c) o2).1
    rw [hG.sn o2] at h74
    simp (disch := omega) only [pm_ltI, nI_toInt] at h74
    refine pm_iload_n (pc := 77) dX10_isFelt_77 rfl ?_
    refine pm_cSR (pc := 78) dX10_isFelt_78 (c_mKind (by omega) hk) wq_X10_kindOf wm_X10_208 wt_X10_kindOf ⟨Nat.le_of_ble_eq_true rfl, Nat.le_of_ble_eq_true rfl⟩ ⟨Nat.le_of_ble_eq_true rfl, Nat.le_of_ble_eq_true rfl⟩ rfl (Nat.le_of_ble_eq_true rfl) ?_
    refine pm_iconst (pc := 81) (v := nI 3) dX10_isFelt_81 (by decide) ?_
    refine pm_icmp_ne (pc := 82) (tgt := 100) dX10_isFelt_82 rfl (fun h82 => ?_) (fun h82 => absurd h82 (by decide))
    refine pm_iconst (pc := 100) (v := nI 0) dX10_isFelt_100 (by decide) ?_
    refine pm_zret (pc := 101) (by decide) rfl (Nat.le_refl _) (Nat.le_refl _) dX10_isFelt_101 ?_
    first | exact QR.r (b1_t (Or.inl (by rw [eo, ei]; omega))) | exact QR.r (b1_f (fun z => z.elim (fun q => by rw [eo, ei] at q; omega) (fun q => absurd q.1 (by omega))))
set_option maxRecDepth 100000 in
set_option maxHeartbeats 4000000 in
theorem c_mIsFelt_2 {I : pm_I} {L : pm_L} {s : gS} {c : Nat} (hG : MG I s) (hI : gInv s) (ho : a_okW s c) (hc : a_can s c) (hk : a_h c = 2) : PC 1 0 0 yX10_isFelt cX10_isFelt 6 (some (.boolean)) [.ref 40, .int (nI c)] GG I L (QR GG I L (b1 (a_felt s c))) := by
  have hlt := a_ltW ho
  have h12 := hI.n12
  obtain ⟨o1, o2, o3, o4⟩ := ho
  have hlen := hI.len o2
  have eo : a_out s c = g_w s (g_top s (a_p c)) := by unfold a_out; rw [if_neg (by omega)]
  have ei : a_in s c = g_w s (a_o c) := by unfold a_in; rw [if_pos (by omega)]
  have hs : g_st s (a_p c) ≠ [] := hc.1.resolve_left (by omega)
  have ht := (hI.top o2 hs).1
  have w1 := hI.w ht
  have w2 := hI.w (o3 (by omega))
  refine PC.of [some (.ref 40), some (.int (nI c)), none, none, none, none] (by decide) (Nat.le_of_ble_eq_true rfl) rfl (fun l P => ?_)
  refine pm_iload_n (pc := 0) dX10_isFelt_0 rfl ?_
  refine pm_cSR (pc := 1) dX10_isFelt_1 (c_mPlaceOf (c := c) (by omega)) wq_X10_placeOf wm_X10_202 wt_X10_placeOf ⟨Nat.le_of_ble_eq_true rfl, Nat.le_of_ble_eq_true rfl⟩ ⟨Nat.le_of_ble_eq_true rfl, Nat.le_of_ble_eq_true rfl⟩ rfl (Nat.le_of_ble_eq_true rfl) ?_
  refine pm_istore_n (pc := 4) dX10_isFelt_4 (by decide) rfl ?_
  refine pm_iload_n (pc := 5) dX10_isFelt_5 rfl ?_
  refine pm_cSR (pc := 6) dX10_isFelt_6 (c_mOther (c := c) (by omega)) wq_X10_otherOf wm_X10_205 wt_X10_otherOf ⟨Nat.le_of_ble_eq_true rfl, Nat.le_of_ble_eq_true rfl⟩ ⟨Nat.le_of_ble_eq_true rfl, Nat.le_of_ble_eq_true rfl⟩ rfl (Nat.le_of_ble_eq_true rfl) ?_
  refine pm_istore_n (pc := 9) dX10_isFelt_9 (by decide) rfl ?_
  refine pm_iload_n (pc := 10) dX10_isFelt_10 rfl ?_
  refine pm_cSR (pc := 11) dX10_isFelt_11 (c_mKind (by omega) hk) wq_X10_kindOf wm_X10_208 wt_X10_kindOf ⟨Nat.le_of_ble_eq_true rfl, Nat.le_of_ble_eq_true rfl⟩ ⟨Nat.le_of_ble_eq_true rfl, Nat.le_of_ble_eq_true rfl⟩ rfl (Nat.le_of_ble_eq_true rfl) ?_
  refine pm_iconst (pc := 14) (v := nI 1) dX10_isFelt_14 (by decide) ?_
  refine pm_icmp_ne (pc := 15) (tgt := 22) dX10_isFelt_15 rfl (fun h15 => ?_) (fun h15 => absurd h15 (by decide))
  refine pm_aload_n (pc := 22) dX10_isFelt_22 rfl ?_
  refine pm_aload_n (pc := 23) dX10_isFelt_23 rfl ?_
  refine pm_iload_n (pc := 24) dX10_isFelt_24 rfl ?_
  refine pm_cVR (pc := 25) dX10_isFelt_25 (c_mTopOf hG hI o2) wq_X10_topOf wm_X10_93 wi_X10_topOf ws_X10_topOf rfl rfl ⟨Nat.le_of_ble_eq_true rfl, Nat.le_of_ble_eq_true rfl⟩ ⟨Nat.le_of_ble_eq_true rfl, Nat.le_of_ble_eq_true rfl⟩ rfl (Nat.le_of_ble_eq_true rfl) ?_
  refine pm_cVR (pc := 28) dX10_isFelt_28 (c_mWeighs hG hI ht) wq_X10_weighs wm_X10_97 wi_X10_weighs ws_X10_weighs rfl rfl ⟨Nat.le_of_ble_eq_true rfl, Nat.le_of_ble_eq_true rfl⟩ ⟨Nat.le_of_ble_eq_true rfl, Nat.le_of_ble_eq_true rfl⟩ rfl (Nat.le_of_ble_eq_true rfl) ?_
  refine pm_istore (pc := 31) dX10_isFelt_31 (by decide) rfl ?_
  refine pm_iload_n (pc := 33) dX10_isFelt_33 rfl ?_
  refine pm_cSR (pc := 34) dX10_isFelt_34 (c_mKind (by omega) hk) wq_X10_kindOf wm_X10_208 wt_X10_kindOf ⟨Nat.le_of_ble_eq_true rfl, Nat.le_of_ble_eq_true rfl⟩ ⟨Nat.le_of_ble_eq_true rfl, Nat.le_of_ble_eq_true rfl⟩ rfl (Nat.le_of_ble_eq_true rfl) ?_
  refine pm_iconst (pc := 37) (v := nI 1) dX10_isFelt_37 (by decide) ?_
  refine pm_icmp_eq (pc := 38) (tgt := 49) dX10_isFelt_38 rfl (fun h38 => absurd h38 (by decide)) (fun h38 => ?_)
  refine pm_iload_n (pc := 41) dX10_isFelt_41 rfl ?_
  refine pm_cSR (pc := 42) dX10_isFelt_42 (c_mKind (by omega) hk) wq_X10_kindOf wm_X10_208 wt_X10_kindOf ⟨Nat.le_of_ble_eq_true rfl, Nat.le_of_ble_eq_true rfl⟩ ⟨Nat.le_of_ble_eq_true rfl, Nat.le_of_ble_eq_true rfl⟩ rfl (Nat.le_of_ble_eq_true rfl) ?_
  refine pm_iconst (pc := 45) (v := nI 2) dX10_isFelt_45 (by decide) ?_
  refine pm_icmp_ne (pc := 46) (tgt := 57) dX10_isFelt_46 rfl (fun h46 => absurd rfl h46) (fun h46 => ?_)
  refine pm_aload_n (pc := 49) dX10_isFelt_49 rfl ?_
  refine pm_iload_n (pc := 50) dX10_isFelt_50 rfl ?_
  refine pm_cVR (pc := 51) dX10_isFelt_51 (c_mWeighs hG hI (o3 (by omega))) wq_X10_weighs wm_X10_97 wi_X10_weighs ws_X10_weighs rfl rfl ⟨Nat.le_of_ble_eq_true rfl, Nat.le_of_ble_eq_true rfl⟩ ⟨Nat.le_of_ble_eq_true rfl, Nat.le_of_ble_eq_true rfl⟩ rfl (Nat.le_of_ble_eq_true rfl) ?_
  refine pm_goto (pc := 54) (tgt := 58) dX10_isFelt_54 rfl ?_
  refine pm_istore (pc := 58) dX10_isFelt_58 (by decide) rfl ?_
  refine pm_iload (pc := 60) dX10_isFelt_60 rfl ?_
  refine pm_iload (pc := 62) dX10_isFelt_62 rfl ?_
  refine pm_isub (pc := 64) dX10_isFelt_64 ?_
  refine pm_cSR (pc := 65) dX10_isFelt_65 (c_mSize (a := g_w s (g_top s (a_p c))) (b := g_w s (a_o c)) (pk_sub_toInt (by omega) (by omega)) (by omega) (by omega)) wq_X10_size wm_X10_211 wt_X10_size ⟨Nat.le_of_ble_eq_true rfl, Nat.le_of_ble_eq_true rfl⟩ ⟨Nat.le_of_ble_eq_true rfl, Nat.le_of_ble_eq_true rfl⟩ rfl (Nat.le_of_ble_eq_true rfl) ?_
  refine pm_aload_n (pc := 68) dX10_isFelt_68 rfl ?_
  refine pm_getr (pc := 69) (ci := 8) (C0 := RX10) (T := TX10) (N := 34) (j := 7) rfl rfl in_X10 (by decide) wf_X10_28 rfl dX10_isFelt_69 ?_
  refine pm_iload_n (pc := 72) dX10_isFelt_72 rfl ?_
  refine pm_iald (pc := 73) rfl (by omega) (by decide) dX10_isFelt_73 ?_
  refine pm_icmp_gt (pc := 74) (tgt := 96) dX10_isFelt_74 rfl (fun h74 => ?_) (fun h74 => ?_)
  · have sn := (hI.2.2 (a_p c) o2).1
    rw [hG.sn o2] at h74
    simp (disch := omega) only [pm_ltI, nI_toInt] at h74
    refine pm_iconst (pc := 96) (v := nI 1) dX10_isFelt_96 (by decide) ?_
    refine pm_goto (pc := 97) (tgt := 101) dX10_isFelt_97 rfl ?_
    refine pm_zret (pc := 101) (by decide) rfl (Nat.le_refl _) (Nat.le_refl _) dX10_isFelt_101 ?_
    first | exact QR.r (b1_t (Or.inl (by rw [eo, ei]; omega))) | exact QR.r (b1_f (fun z => z.elim (fun q => by rw [eo, ei] at q; omega) (fun q => absurd q.1 (by omega))))
  · have sn := (hI.2.2 (a_p c) o2).1
    rw [hG.sn o2] at h74
    simp (disch := omega) only [pm_ltI, nI_toInt] at h74
    refine pm_iload_n (pc := 77) dX10_isFelt_77 rfl ?_
    refine pm_cSR (pc := 78) dX10_isFelt_78 (c_mKind (by omega) hk) wq_X10_kindOf wm_X10_208 wt_X10_kindOf ⟨Nat.le_of_ble_eq_true rfl, Nat.le_of_ble_eq_true rfl⟩ ⟨Nat.le_of_ble_eq_true rfl, Nat.le_of_ble_eq_true rfl⟩ rfl (Nat.le_of_ble_eq_true rfl) ?_
    refine pm_iconst (pc := 81) (v := nI 3) dX10_isFelt_81 (by decide) ?_
    refine pm_icmp_ne (pc := 82) (tgt := 100) dX10_isFelt_82 rfl (fun h82 => ?_) (fun h82 => absurd h82 (by decide))
    refine pm_iconst (pc := 100) (v := nI 0) dX10_isFelt_100 (by decide) ?_
    refine pm_zret (pc := 101) (by decide) rfl (Nat.le_refl _) (Nat.le_refl _) dX10_isFelt_101 ?_
    first | exact QR.r (b1_t (Or.inl (by rw [eo, ei]; omega))) | exact QR.r (b1_f (fun z => z.elim (fun q => by rw [eo, ei] at q; omega) (fun q => absurd q.1 (by omega))))
set_option maxRecDepth 100000 in
set_option maxHeartbeats 4000000 in
theorem c_mIsFelt_3 {I : pm_I} {L : pm_L} {s : gS} {c : Nat} (hG : MG I s) (hI : gInv s) (ho : a_okW s c) (hc : a_can s c) (hk : a_h c = 3) : PC 1 0 0 yX10_isFelt cX10_isFelt 6 (some (.boolean)) [.ref 40, .int (nI c)] GG I L (QR GG I L (b1 (a_felt s c))) := by
  have hlt := a_ltW ho
  have h12 := hI.n12
  obtain ⟨o1, o2, o3, o4⟩ := ho
  have hlen := hI.len o2
  have eo : a_out s c = g_w s (g_top s (a_p c)) := by unfold a_out; rw [if_neg (by omega)]
  have ei : a_in s c = 0 := by unfold a_in; rw [if_neg (by omega)]
  have hs : g_st s (a_p c) ≠ [] := hc.1.resolve_left (by omega)
  have ht := (hI.top o2 hs).1
  have w1 := hI.w ht
  refine PC.of [some (.ref 40), some (.int (nI c)), none, none, none, none] (by decide) (Nat.le_of_ble_eq_true rfl) rfl (fun l P => ?_)
  refine pm_iload_n (pc := 0) dX10_isFelt_0 rfl ?_
  refine pm_cSR (pc := 1) dX10_isFelt_1 (c_mPlaceOf (c := c) (by omega)) wq_X10_placeOf wm_X10_202 wt_X10_placeOf ⟨Nat.le_of_ble_eq_true rfl, Nat.le_of_ble_eq_true rfl⟩ ⟨Nat.le_of_ble_eq_true rfl, Nat.le_of_ble_eq_true rfl⟩ rfl (Nat.le_of_ble_eq_true rfl) ?_
  refine pm_istore_n (pc := 4) dX10_isFelt_4 (by decide) rfl ?_
  refine pm_iload_n (pc := 5) dX10_isFelt_5 rfl ?_
  refine pm_cSR (pc := 6) dX10_isFelt_6 (c_mOther (c := c) (by omega)) wq_X10_otherOf wm_X10_205 wt_X10_otherOf ⟨Nat.le_of_ble_eq_true rfl, Nat.le_of_ble_eq_true rfl⟩ ⟨Nat.le_of_ble_eq_true rfl, Nat.le_of_ble_eq_true rfl⟩ rfl (Nat.le_of_ble_eq_true rfl) ?_
  refine pm_istore_n (pc := 9) dX10_isFelt_9 (by decide) rfl ?_
  refine pm_iload_n (pc := 10) dX10_isFelt_10 rfl ?_
  refine pm_cSR (pc := 11) dX10_isFelt_11 (c_mKind (by omega) hk) wq_X10_kindOf wm_X10_208 wt_X10_kindOf ⟨Nat.le_of_ble_eq_true rfl, Nat.le_of_ble_eq_true rfl⟩ ⟨Nat.le_of_ble_eq_true rfl, Nat.le_of_ble_eq_true rfl⟩ rfl (Nat.le_of_ble_eq_true rfl) ?_
  refine pm_iconst (pc := 14) (v := nI 1) dX10_isFelt_14 (by decide) ?_
  refine pm_icmp_ne (pc := 15) (tgt := 22) dX10_isFelt_15 rfl (fun h15 => ?_) (fun h15 => absurd h15 (by decide))
  refine pm_aload_n (pc := 22) dX10_isFelt_22 rfl ?_
  refine pm_aload_n (pc := 23) dX10_isFelt_23 rfl ?_
  refine pm_iload_n (pc := 24) dX10_isFelt_24 rfl ?_
  refine pm_cVR (pc := 25) dX10_isFelt_25 (c_mTopOf hG hI o2) wq_X10_topOf wm_X10_93 wi_X10_topOf ws_X10_topOf rfl rfl ⟨Nat.le_of_ble_eq_true rfl, Nat.le_of_ble_eq_true rfl⟩ ⟨Nat.le_of_ble_eq_true rfl, Nat.le_of_ble_eq_true rfl⟩ rfl (Nat.le_of_ble_eq_true rfl) ?_
  refine pm_cVR (pc := 28) dX10_isFelt_28 (c_mWeighs hG hI ht) wq_X10_weighs wm_X10_97 wi_X10_weighs ws_X10_weighs rfl rfl ⟨Nat.le_of_ble_eq_true rfl, Nat.le_of_ble_eq_true rfl⟩ ⟨Nat.le_of_ble_eq_true rfl, Nat.le_of_ble_eq_true rfl⟩ rfl (Nat.le_of_ble_eq_true rfl) ?_
  refine pm_istore (pc := 31) dX10_isFelt_31 (by decide) rfl ?_
  refine pm_iload_n (pc := 33) dX10_isFelt_33 rfl ?_
  refine pm_cSR (pc := 34) dX10_isFelt_34 (c_mKind (by omega) hk) wq_X10_kindOf wm_X10_208 wt_X10_kindOf ⟨Nat.le_of_ble_eq_true rfl, Nat.le_of_ble_eq_true rfl⟩ ⟨Nat.le_of_ble_eq_true rfl, Nat.le_of_ble_eq_true rfl⟩ rfl (Nat.le_of_ble_eq_true rfl) ?_
  refine pm_iconst (pc := 37) (v := nI 1) dX10_isFelt_37 (by decide) ?_
  refine pm_icmp_eq (pc := 38) (tgt := 49) dX10_isFelt_38 rfl (fun h38 => absurd h38 (by decide)) (fun h38 => ?_)
  refine pm_iload_n (pc := 41) dX10_isFelt_41 rfl ?_
  refine pm_cSR (pc := 42) dX10_isFelt_42 (c_mKind (by omega) hk) wq_X10_kindOf wm_X10_208 wt_X10_kindOf ⟨Nat.le_of_ble_eq_true rfl, Nat.le_of_ble_eq_true rfl⟩ ⟨Nat.le_of_ble_eq_true rfl, Nat.le_of_ble_eq_true rfl⟩ rfl (Nat.le_of_ble_eq_true rfl) ?_
  refine pm_iconst (pc := 45) (v := nI 2) dX10_isFelt_45 (by decide) ?_
  refine pm_icmp_ne (pc := 46) (tgt := 57) dX10_isFelt_46 rfl (fun h46 => ?_) (fun h46 => absurd h46 (by decide))
  refine pm_iconst (pc := 57) (v := nI 0) dX10_isFelt_57 (by decide) ?_
  refine pm_istore (pc := 58) dX10_isFelt_58 (by decide) rfl ?_
  refine pm_iload (pc := 60) dX10_isFelt_60 rfl ?_
  refine pm_iload (pc := 62) dX10_isFelt_62 rfl ?_
  refine pm_isub (pc := 64) dX10_isFelt_64 ?_
  refine pm_cSR (pc := 65) dX10_isFelt_65 (c_mSize (a := g_w s (g_top s (a_p c))) (b := 0) (pk_sub_toInt (by omega) (by omega)) (by omega) (by omega)) wq_X10_size wm_X10_211 wt_X10_size ⟨Nat.le_of_ble_eq_true rfl, Nat.le_of_ble_eq_true rfl⟩ ⟨Nat.le_of_ble_eq_true rfl, Nat.le_of_ble_eq_true rfl⟩ rfl (Nat.le_of_ble_eq_true rfl) ?_
  refine pm_aload_n (pc := 68) dX10_isFelt_68 rfl ?_
  refine pm_getr (pc := 69) (ci := 8) (C0 := RX10) (T := TX10) (N := 34) (j := 7) rfl rfl in_X10 (by decide) wf_X10_28 rfl dX10_isFelt_69 ?_
  refine pm_iload_n (pc := 72) dX10_isFelt_72 rfl ?_
  refine pm_iald (pc := 73) rfl (by omega) (by decide) dX10_isFelt_73 ?_
  refine pm_icmp_gt (pc := 74) (tgt := 96) dX10_isFelt_74 rfl (fun h74 => ?_) (fun h74 => ?_)
  · have sn := (hI.2.2 (a_p c) o2).1
    rw [hG.sn o2] at h74
    simp (disch := omega) only [pm_ltI, nI_toInt] at h74
    refine pm_iconst (pc := 96) (v := nI 1) dX10_isFelt_96 (by decide) ?_
    refine pm_goto (pc := 97) (tgt := 101) dX10_isFelt_97 rfl ?_
    refine pm_zret (pc := 101) (by decide) rfl (Nat.le_refl _) (Nat.le_refl _) dX10_isFelt_101 ?_
    first | exact QR.r (b1_t (Or.inl (by rw [eo, ei]; omega))) | exact QR.r (b1_t (Or.inr ⟨hk, by rw [eo]; omega⟩)) | exact QR.r (b1_f (fun z => z.elim (fun q => by rw [eo, ei] at q; omega) (fun q => by have := q.2; rw [eo] at this; omega)))
  · have sn := (hI.2.2 (a_p c) o2).1
    rw [hG.sn o2] at h74
    simp (disch := omega) only [pm_ltI, nI_toInt] at h74
    refine pm_iload_n (pc := 77) dX10_isFelt_77 rfl ?_
    refine pm_cSR (pc := 78) dX10_isFelt_78 (c_mKind (by omega) hk) wq_X10_kindOf wm_X10_208 wt_X10_kindOf ⟨Nat.le_of_ble_eq_true rfl, Nat.le_of_ble_eq_true rfl⟩ ⟨Nat.le_of_ble_eq_true rfl, Nat.le_of_ble_eq_true rfl⟩ rfl (Nat.le_of_ble_eq_true rfl) ?_
    refine pm_iconst (pc := 81) (v := nI 3) dX10_isFelt_81 (by decide) ?_
    refine pm_icmp_ne (pc := 82) (tgt := 100) dX10_isFelt_82 rfl (fun h82 => absurd rfl h82) (fun h82 => ?_)
    refine pm_iload (pc := 85) dX10_isFelt_85 rfl ?_
    refine pm_aload_n (pc := 87) dX10_isFelt_87 rfl ?_
    refine pm_getr (pc := 88) (ci := 8) (C0 := RX10) (T := TX10) (N := 34) (j := 7) rfl rfl in_X10 (by decide) wf_X10_28 rfl dX10_isFelt_88 ?_
    refine pm_iload_n (pc := 91) dX10_isFelt_91 rfl ?_
    refine pm_iald (pc := 92) rfl (by omega) (by decide) dX10_isFelt_92 ?_
    refine pm_icmp_le (pc := 93) (tgt := 100) dX10_isFelt_93 rfl (fun h93 => ?_) (fun h93 => ?_)
    · have sn2 := (hI.2.2 (a_o c) (o4 hk)).1
      rw [hG.sn (o4 hk)] at h93
      simp (disch := omega) only [pm_leI, nI_toInt] at h93
      refine pm_iconst (pc := 100) (v := nI 0) dX10_isFelt_100 (by decide) ?_
      refine pm_zret (pc := 101) (by decide) rfl (Nat.le_refl _) (Nat.le_refl _) dX10_isFelt_101 ?_
      first | exact QR.r (b1_t (Or.inl (by rw [eo, ei]; omega))) | exact QR.r (b1_t (Or.inr ⟨hk, by rw [eo]; omega⟩)) | exact QR.r (b1_f (fun z => z.elim (fun q => by rw [eo, ei] at q; omega) (fun q => by have := q.2; rw [eo] at this; omega)))
    · have sn2 := (hI.2.2 (a_o c) (o4 hk)).1
      rw [hG.sn (o4 hk)] at h93
      simp (disch := omega) only [pm_leI, nI_toInt] at h93
      refine pm_iconst (pc := 96) (v := nI 1) dX10_isFelt_96 (by decide) ?_
      refine pm_goto (pc := 97) (tgt := 101) dX10_isFelt_97 rfl ?_
      refine pm_zret (pc := 101) (by decide) rfl (Nat.le_refl _) (Nat.le_refl _) dX10_isFelt_101 ?_
      first | exact QR.r (b1_t (Or.inl (by rw [eo, ei]; omega))) | exact QR.r (b1_t (Or.inr ⟨hk, by rw [eo]; omega⟩)) | exact QR.r (b1_f (fun z => z.elim (fun q => by rw [eo, ei] at q; omega) (fun q => by have := q.2; rw [eo] at this; omega)))
theorem c_mIsFelt {I : pm_I} {L : pm_L} {s : gS} {c : Nat} (hG : MG I s) (hI : gInv s) (ho : a_okW s c) (hc : a_can s c) : PC 1 0 0 yX10_isFelt cX10_isFelt 6 (some (.boolean)) [.ref 40, .int (nI c)] GG I L (QR GG I L (b1 (a_felt s c))) := by
  have h := ho.1
  rcases (show a_h c = 0 ∨ a_h c = 1 ∨ a_h c = 2 ∨ a_h c = 3 by omega) with hk | hk | hk | hk
  · exact c_mIsFelt_0 hG hI ho hc hk
  · exact c_mIsFelt_1 hG hI ho hc hk
  · exact c_mIsFelt_2 hG hI ho hc hk
  · exact c_mIsFelt_3 hG hI ho hc hk
/-- the piece that an act names in the reference -/
def a_res (s : gS) (c : Nat) : Nat := if a_h c = 1 then a_o c else g_top s (a_p c)
set_option maxRecDepth 100000 in
set_option maxHeartbeats 4000000 in
theorem c_mDoAct_0 {I : pm_I} {L : pm_L} {s : gS} {c : Nat} (hG : MG I s) (hI : gInv s) (ho : a_okW s c) (hc : a_can s c) (hk : a_h c = 0) : PC 2 0 0 yX10_doAct cX10_doAct 5 (some (.int)) [.ref 40, .int (nI c)] GG I L (QI GG (fun r I' L' => r = nI (a_res s c) ∧ mX I (s_do s c) I' ∧ L' = L)) := by
  have hlt := a_ltW ho
  have h12 := hI.n12
  obtain ⟨o1, o2, o3, o4⟩ := ho
  have hlen := hI.len o2
  have hs : g_st s (a_p c) ≠ [] := hc.1.resolve_left (by omega)
  have ht := (hI.top o2 hs).1
  have hI2 := gInv_take hI o2 hs
  have ed : s_do s c = s_take s (a_p c) := by unfold s_do; simp only [hk]; rfl
  have er : a_res s c = g_top s (a_p c) := by unfold a_res; rw [if_neg (by omega)]
  refine PC.of [some (.ref 40), some (.int (nI c)), none, none, none] (by decide) (Nat.le_of_ble_eq_true rfl) rfl (fun l P => ?_)
  refine pm_iload_n (pc := 0) dX10_doAct_0 rfl ?_
  refine pm_cSR (pc := 1) dX10_doAct_1 (c_mPlaceOf (c := c) (by omega)) wq_X10_placeOf wm_X10_202 wt_X10_placeOf ⟨Nat.le_of_ble_eq_true rfl, Nat.le_of_ble_eq_true rfl⟩ ⟨Nat.le_of_ble_eq_true rfl, Nat.le_of_ble_eq_true rfl⟩ rfl (Nat.le_of_ble_eq_true rfl) ?_
  refine pm_istore_n (pc := 4) dX10_doAct_4 (by decide) rfl ?_
  refine pm_iload_n (pc := 5) dX10_doAct_5 rfl ?_
  refine pm_cSR (pc := 6) dX10_doAct_6 (c_mOther (c := c) (by omega)) wq_X10_otherOf wm_X10_205 wt_X10_otherOf ⟨Nat.le_of_ble_eq_true rfl, Nat.le_of_ble_eq_true rfl⟩ ⟨Nat.le_of_ble_eq_true rfl, Nat.le_of_ble_eq_true rfl⟩ rfl (Nat.le_of_ble_eq_true rfl) ?_
  refine pm_istore_n (pc := 9) dX10_doAct_9 (by decide) rfl ?_
  refine pm_iload_n (pc := 10) dX10_doAct_10 rfl ?_
  refine pm_cSR (pc := 11) dX10_doAct_11 (c_mKind (by omega) hk) wq_X10_kindOf wm_X10_208 wt_X10_kindOf ⟨Nat.le_of_ble_eq_true rfl, Nat.le_of_ble_eq_true rfl⟩ ⟨Nat.le_of_ble_eq_true rfl, Nat.le_of_ble_eq_true rfl⟩ rfl (Nat.le_of_ble_eq_true rfl) ?_
  refine pm_iconst (pc := 14) (v := nI 1) dX10_doAct_14 (by decide) ?_
  refine pm_icmp_ne (pc := 15) (tgt := 22) dX10_doAct_15 rfl (fun h15 => ?_) (fun h15 => absurd h15 (by decide))
  refine pm_aload_n (pc := 22) dX10_doAct_22 rfl ?_
  refine pm_iload_n (pc := 23) dX10_doAct_23 rfl ?_
  refine pm_cVI (pc := 24) dX10_doAct_24 (c_mTake hG hI o2 hs) wq_X10_takeTop wm_X10_214 wi_X10_takeTop ws_X10_takeTop rfl rfl ⟨Nat.le_of_ble_eq_true rfl, Nat.le_of_ble_eq_true rfl⟩ ⟨Nat.le_of_ble_eq_true rfl, Nat.le_of_ble_eq_true rfl⟩ rfl (Nat.le_of_ble_eq_true rfl) (fun r24 I24 L24 q24 => ?_)
  obtain ⟨qr, qx, ql⟩ := q24
  subst qr; subst ql
  refine pm_istore (pc := 27) dX10_doAct_27 (by decide) rfl ?_
  refine pm_iload_n (pc := 29) dX10_doAct_29 rfl ?_
  refine pm_cSR (pc := 30) dX10_doAct_30 (c_mKind (by omega) hk) wq_X10_kindOf wm_X10_208 wt_X10_kindOf ⟨Nat.le_of_ble_eq_true rfl, Nat.le_of_ble_eq_true rfl⟩ ⟨Nat.le_of_ble_eq_true rfl, Nat.le_of_ble_eq_true rfl⟩ rfl (Nat.le_of_ble_eq_true rfl) ?_
  refine pm_iconst (pc := 33) (v := nI 1) dX10_doAct_33 (by decide) ?_
  refine pm_icmp_eq (pc := 34) (tgt := 45) dX10_doAct_34 rfl (fun h34 => absurd h34 (by decide)) (fun h34 => ?_)
  refine pm_iload_n (pc := 37) dX10_doAct_37 rfl ?_
  refine pm_cSR (pc := 38) dX10_doAct_38 (c_mKind (by omega) hk) wq_X10_kindOf wm_X10_208 wt_X10_kindOf ⟨Nat.le_of_ble_eq_true rfl, Nat.le_of_ble_eq_true rfl⟩ ⟨Nat.le_of_ble_eq_true rfl, Nat.le_of_ble_eq_true rfl⟩ rfl (Nat.le_of_ble_eq_true rfl) ?_
  refine pm_iconst (pc := 41) (v := nI 2) dX10_doAct_41 (by decide) ?_
  refine pm_icmp_ne (pc := 42) (tgt := 51) dX10_doAct_42 rfl (fun h42 => ?_) (fun h42 => absurd h42 (by decide))
  refine pm_iload_n (pc := 51) dX10_doAct_51 rfl ?_
  refine pm_cSR (pc := 52) dX10_doAct_52 (c_mKind (by omega) hk) wq_X10_kindOf wm_X10_208 wt_X10_kindOf ⟨Nat.le_of_ble_eq_true rfl, Nat.le_of_ble_eq_true rfl⟩ ⟨Nat.le_of_ble_eq_true rfl, Nat.le_of_ble_eq_true rfl⟩ rfl (Nat.le_of_ble_eq_true rfl) ?_
  refine pm_iconst (pc := 55) (v := nI 3) dX10_doAct_55 (by decide) ?_
  refine pm_icmp_ne (pc := 56) (tgt := 66) dX10_doAct_56 rfl (fun h56 => ?_) (fun h56 => absurd h56 (by decide))
  refine pm_iload (pc := 66) dX10_doAct_66 rfl ?_
  refine pm_iret (pc := 68) rfl (Nat.le_refl _) (Nat.le_refl _) dX10_doAct_68 ?_
  exact QI.r ⟨by rw [er], by rw [ed]; exact qx, rfl⟩
set_option maxRecDepth 100000 in
set_option maxHeartbeats 4000000 in
theorem c_mDoAct_1 {I : pm_I} {L : pm_L} {s : gS} {c : Nat} (hG : MG I s) (hI : gInv s) (ho : a_okW s c) (hc : a_can s c) (hk : a_h c = 1) : PC 2 0 0 yX10_doAct cX10_doAct 5 (some (.int)) [.ref 40, .int (nI c)] GG I L (QI GG (fun r I' L' => r = nI (a_res s c) ∧ mX I (s_do s c) I' ∧ L' = L)) := by
  have hlt := a_ltW ho
  have h12 := hI.n12
  obtain ⟨o1, o2, o3, o4⟩ := ho
  have hlen := hI.len o2
  have ed : s_do s c = s_put s (a_o c) (a_p c) := by unfold s_do; simp only [hk]; rfl
  have er : a_res s c = a_o c := by unfold a_res; rw [if_pos (by omega)]
  have hw6 : g_wh s (a_o c) = 6 := by have := hc.2; omega
  refine PC.of [some (.ref 40), some (.int (nI c)), none, none, none] (by decide) (Nat.le_of_ble_eq_true rfl) rfl (fun l P => ?_)
  refine pm_iload_n (pc := 0) dX10_doAct_0 rfl ?_
  refine pm_cSR (pc := 1) dX10_doAct_1 (c_mPlaceOf (c := c) (by omega)) wq_X10_placeOf wm_X10_202 wt_X10_placeOf ⟨Nat.le_of_ble_eq_true rfl, Nat.le_of_ble_eq_true rfl⟩ ⟨Nat.le_of_ble_eq_true rfl, Nat.le_of_ble_eq_true rfl⟩ rfl (Nat.le_of_ble_eq_true rfl) ?_
  refine pm_istore_n (pc := 4) dX10_doAct_4 (by decide) rfl ?_
  refine pm_iload_n (pc := 5) dX10_doAct_5 rfl ?_
  refine pm_cSR (pc := 6) dX10_doAct_6 (c_mOther (c := c) (by omega)) wq_X10_otherOf wm_X10_205 wt_X10_otherOf ⟨Nat.le_of_ble_eq_true rfl, Nat.le_of_ble_eq_true rfl⟩ ⟨Nat.le_of_ble_eq_true rfl, Nat.le_of_ble_eq_true rfl⟩ rfl (Nat.le_of_ble_eq_true rfl) ?_
  refine pm_istore_n (pc := 9) dX10_doAct_9 (by decide) rfl ?_
  refine pm_iload_n (pc := 10) dX10_doAct_10 rfl ?_
  refine pm_cSR (pc := 11) dX10_doAct_11 (c_mKind (by omega) hk) wq_X10_kindOf wm_X10_208 wt_X10_kindOf ⟨Nat.le_of_ble_eq_true rfl, Nat.le_of_ble_eq_true rfl⟩ ⟨Nat.le_of_ble_eq_true rfl, Nat.le_of_ble_eq_true rfl⟩ rfl (Nat.le_of_ble_eq_true rfl) ?_
  refine pm_iconst (pc := 14) (v := nI 1) dX10_doAct_14 (by decide) ?_
  refine pm_icmp_ne (pc := 15) (tgt := 22) dX10_doAct_15 rfl (fun h15 => absurd rfl h15) (fun h15 => ?_)
  refine pm_iload_n (pc := 18) dX10_doAct_18 rfl ?_
  refine pm_goto (pc := 19) (tgt := 27) dX10_doAct_19 rfl ?_
  refine pm_istore (pc := 27) dX10_doAct_27 (by decide) rfl ?_
  refine pm_iload_n (pc := 29) dX10_doAct_29 rfl ?_
  refine pm_cSR (pc := 30) dX10_doAct_30 (c_mKind (by omega) hk) wq_X10_kindOf wm_X10_208 wt_X10_kindOf ⟨Nat.le_of_ble_eq_true rfl, Nat.le_of_ble_eq_true rfl⟩ ⟨Nat.le_of_ble_eq_true rfl, Nat.le_of_ble_eq_true rfl⟩ rfl (Nat.le_of_ble_eq_true rfl) ?_
  refine pm_iconst (pc := 33) (v := nI 1) dX10_doAct_33 (by decide) ?_
  refine pm_icmp_eq (pc := 34) (tgt := 45) dX10_doAct_34 rfl (fun h34 => ?_) (fun h34 => absurd rfl h34)
  refine pm_aload_n (pc := 45) dX10_doAct_45 rfl ?_
  refine pm_iload_n (pc := 46) dX10_doAct_46 rfl ?_
  refine pm_iload_n (pc := 47) dX10_doAct_47 rfl ?_
  refine pm_cVV (pc := 48) dX10_doAct_48 (c_mPut hG hI (o3 (Or.inl hk)) (by omega) o2) wq_X10_put wm_X10_100 wi_X10_put ws_X10_put rfl rfl ⟨Nat.le_of_ble_eq_true rfl, Nat.le_of_ble_eq_true rfl⟩ ⟨Nat.le_of_ble_eq_true rfl, Nat.le_of_ble_eq_true rfl⟩ rfl (Nat.le_of_ble_eq_true rfl) (fun I48 L48 q48 => ?_)
  obtain ⟨qx, ql⟩ := q48
  subst ql
  refine pm_iload_n (pc := 51) dX10_doAct_51 rfl ?_
  refine pm_cSR (pc := 52) dX10_doAct_52 (c_mKind (by omega) hk) wq_X10_kindOf wm_X10_208 wt_X10_kindOf ⟨Nat.le_of_ble_eq_true rfl, Nat.le_of_ble_eq_true rfl⟩ ⟨Nat.le_of_ble_eq_true rfl, Nat.le_of_ble_eq_true rfl⟩ rfl (Nat.le_of_ble_eq_true rfl) ?_
  refine pm_iconst (pc := 55) (v := nI 3) dX10_doAct_55 (by decide) ?_
  refine pm_icmp_ne (pc := 56) (tgt := 66) dX10_doAct_56 rfl (fun h56 => ?_) (fun h56 => absurd h56 (by decide))
  refine pm_iload (pc := 66) dX10_doAct_66 rfl ?_
  refine pm_iret (pc := 68) rfl (Nat.le_refl _) (Nat.le_refl _) dX10_doAct_68 ?_
  exact QI.r ⟨by rw [er], by rw [ed]; exact qx, rfl⟩
set_option maxRecDepth 100000 in
set_option maxHeartbeats 4000000 in
theorem c_mDoAct_2 {I : pm_I} {L : pm_L} {s : gS} {c : Nat} (hG : MG I s) (hI : gInv s) (ho : a_okW s c) (hc : a_can s c) (hk : a_h c = 2) : PC 2 0 0 yX10_doAct cX10_doAct 5 (some (.int)) [.ref 40, .int (nI c)] GG I L (QI GG (fun r I' L' => r = nI (a_res s c) ∧ mX I (s_do s c) I' ∧ L' = L)) := by
  have hlt := a_ltW ho
  have h12 := hI.n12
  obtain ⟨o1, o2, o3, o4⟩ := ho
  have hlen := hI.len o2
  have hs : g_st s (a_p c) ≠ [] := hc.1.resolve_left (by omega)
  have ht := (hI.top o2 hs).1
  have hI2 := gInv_take hI o2 hs
  have ed : s_do s c = s_put (s_take s (a_p c)) (a_o c) (a_p c) := by unfold s_do; simp only [hk]; rfl
  have er : a_res s c = g_top s (a_p c) := by unfold a_res; rw [if_neg (by omega)]
  have hw6 : g_wh s (a_o c) = 6 := by have := hc.2; omega
  refine PC.of [some (.ref 40), some (.int (nI c)), none, none, none] (by decide) (Nat.le_of_ble_eq_true rfl) rfl (fun l P => ?_)
  refine pm_iload_n (pc := 0) dX10_doAct_0 rfl ?_
  refine pm_cSR (pc := 1) dX10_doAct_1 (c_mPlaceOf (c := c) (by omega)) wq_X10_placeOf wm_X10_202 wt_X10_placeOf ⟨Nat.le_of_ble_eq_true rfl, Nat.le_of_ble_eq_true rfl⟩ ⟨Nat.le_of_ble_eq_true rfl, Nat.le_of_ble_eq_true rfl⟩ rfl (Nat.le_of_ble_eq_true rfl) ?_
  refine pm_istore_n (pc := 4) dX10_doAct_4 (by decide) rfl ?_
  refine pm_iload_n (pc := 5) dX10_doAct_5 rfl ?_
  refine pm_cSR (pc := 6) dX10_doAct_6 (c_mOther (c := c) (by omega)) wq_X10_otherOf wm_X10_205 wt_X10_otherOf ⟨Nat.le_of_ble_eq_true rfl, Nat.le_of_ble_eq_true rfl⟩ ⟨Nat.le_of_ble_eq_true rfl, Nat.le_of_ble_eq_true rfl⟩ rfl (Nat.le_of_ble_eq_true rfl) ?_
  refine pm_istore_n (pc := 9) dX10_doAct_9 (by decide) rfl ?_
  refine pm_iload_n (pc := 10) dX10_doAct_10 rfl ?_
  refine pm_cSR (pc := 11) dX10_doAct_11 (c_mKind (by omega) hk) wq_X10_kindOf wm_X10_208 wt_X10_kindOf ⟨Nat.le_of_ble_eq_true rfl, Nat.le_of_ble_eq_true rfl⟩ ⟨Nat.le_of_ble_eq_true rfl, Nat.le_of_ble_eq_true rfl⟩ rfl (Nat.le_of_ble_eq_true rfl) ?_
  refine pm_iconst (pc := 14) (v := nI 1) dX10_doAct_14 (by decide) ?_
  refine pm_icmp_ne (pc := 15) (tgt := 22) dX10_doAct_15 rfl (fun h15 => ?_) (fun h15 => absurd h15 (by decide))
  refine pm_aload_n (pc := 22) dX10_doAct_22 rfl ?_
  refine pm_iload_n (pc := 23) dX10_doAct_23 rfl ?_
  refine pm_cVI (pc := 24) dX10_doAct_24 (c_mTake hG hI o2 hs) wq_X10_takeTop wm_X10_214 wi_X10_takeTop ws_X10_takeTop rfl rfl ⟨Nat.le_of_ble_eq_true rfl, Nat.le_of_ble_eq_true rfl⟩ ⟨Nat.le_of_ble_eq_true rfl, Nat.le_of_ble_eq_true rfl⟩ rfl (Nat.le_of_ble_eq_true rfl) (fun r24 I24 L24 q24 => ?_)
  obtain ⟨qr, qx, ql⟩ := q24
  subst qr; subst ql
  refine pm_istore (pc := 27) dX10_doAct_27 (by decide) rfl ?_
  refine pm_iload_n (pc := 29) dX10_doAct_29 rfl ?_
  refine pm_cSR (pc := 30) dX10_doAct_30 (c_mKind (by omega) hk) wq_X10_kindOf wm_X10_208 wt_X10_kindOf ⟨Nat.le_of_ble_eq_true rfl, Nat.le_of_ble_eq_true rfl⟩ ⟨Nat.le_of_ble_eq_true rfl, Nat.le_of_ble_eq_true rfl⟩ rfl (Nat.le_of_ble_eq_true rfl) ?_
  refine pm_iconst (pc := 33) (v := nI 1) dX10_doAct_33 (by decide) ?_
  refine pm_icmp_eq (pc := 34) (tgt := 45) dX10_doAct_34 rfl (fun h34 => absurd h34 (by decide)) (fun h34 => ?_)
  refine pm_iload_n (pc := 37) dX10_doAct_37 rfl ?_
  refine pm_cSR (pc := 38) dX10_doAct_38 (c_mKind (by omega) hk) wq_X10_kindOf wm_X10_208 wt_X10_kindOf ⟨Nat.le_of_ble_eq_true rfl, Nat.le_of_ble_eq_true rfl⟩ ⟨Nat.le_of_ble_eq_true rfl, Nat.le_of_ble_eq_true rfl⟩ rfl (Nat.le_of_ble_eq_true rfl) ?_
  refine pm_iconst (pc := 41) (v := nI 2) dX10_doAct_41 (by decide) ?_
  refine pm_icmp_ne (pc := 42) (tgt := 51) dX10_doAct_42 rfl (fun h42 => absurd rfl h42) (fun h42 => ?_)
  refine pm_aload_n (pc := 45) dX10_doAct_45 rfl ?_
  refine pm_iload_n (pc := 46) dX10_doAct_46 rfl ?_
  refine pm_iload_n (pc := 47) dX10_doAct_47 rfl ?_
  refine pm_cVV (pc := 48) dX10_doAct_48 (c_mPut qx.1 hI2 (o3 (Or.inr hk)) (s_take_wh hI o2 hs (by omega)) o2) wq_X10_put wm_X10_100 wi_X10_put ws_X10_put rfl rfl ⟨Nat.le_of_ble_eq_true rfl, Nat.le_of_ble_eq_true rfl⟩ ⟨Nat.le_of_ble_eq_true rfl, Nat.le_of_ble_eq_true rfl⟩ rfl (Nat.le_of_ble_eq_true rfl) (fun I48 L48 q48 => ?_)
  obtain ⟨qy, ql⟩ := q48
  subst ql
  refine pm_iload_n (pc := 51) dX10_doAct_51 rfl ?_
  refine pm_cSR (pc := 52) dX10_doAct_52 (c_mKind (by omega) hk) wq_X10_kindOf wm_X10_208 wt_X10_kindOf ⟨Nat.le_of_ble_eq_true rfl, Nat.le_of_ble_eq_true rfl⟩ ⟨Nat.le_of_ble_eq_true rfl, Nat.le_of_ble_eq_true rfl⟩ rfl (Nat.le_of_ble_eq_true rfl) ?_
  refine pm_iconst (pc := 55) (v := nI 3) dX10_doAct_55 (by decide) ?_
  refine pm_icmp_ne (pc := 56) (tgt := 66) dX10_doAct_56 rfl (fun h56 => ?_) (fun h56 => absurd h56 (by decide))
  refine pm_iload (pc := 66) dX10_doAct_66 rfl ?_
  refine pm_iret (pc := 68) rfl (Nat.le_refl _) (Nat.le_refl _) dX10_doAct_68 ?_
  exact QI.r ⟨by rw [er], by rw [ed]; exact qx.tr qy, rfl⟩
set_option maxRecDepth 100000 in
set_option maxHeartbeats 4000000 in
theorem c_mDoAct_3 {I : pm_I} {L : pm_L} {s : gS} {c : Nat} (hG : MG I s) (hI : gInv s) (ho : a_okW s c) (hc : a_can s c) (hk : a_h c = 3) : PC 2 0 0 yX10_doAct cX10_doAct 5 (some (.int)) [.ref 40, .int (nI c)] GG I L (QI GG (fun r I' L' => r = nI (a_res s c) ∧ mX I (s_do s c) I' ∧ L' = L)) := by
  have hlt := a_ltW ho
  have h12 := hI.n12
  obtain ⟨o1, o2, o3, o4⟩ := ho
  have hlen := hI.len o2
  have hs : g_st s (a_p c) ≠ [] := hc.1.resolve_left (by omega)
  have ht := (hI.top o2 hs).1
  have hI2 := gInv_take hI o2 hs
  have ed : s_do s c = s_put (s_take s (a_p c)) (g_top s (a_p c)) (a_o c) := by unfold s_do; simp only [hk]; rfl
  have er : a_res s c = g_top s (a_p c) := by unfold a_res; rw [if_neg (by omega)]
  refine PC.of [some (.ref 40), some (.int (nI c)), none, none, none] (by decide) (Nat.le_of_ble_eq_true rfl) rfl (fun l P => ?_)
  refine pm_iload_n (pc := 0) dX10_doAct_0 rfl ?_
  refine pm_cSR (pc := 1) dX10_doAct_1 (c_mPlaceOf (c := c) (by omega)) wq_X10_placeOf wm_X10_202 wt_X10_placeOf ⟨Nat.le_of_ble_eq_true rfl, Nat.le_of_ble_eq_true rfl⟩ ⟨Nat.le_of_ble_eq_true rfl, Nat.le_of_ble_eq_true rfl⟩ rfl (Nat.le_of_ble_eq_true rfl) ?_
  refine pm_istore_n (pc := 4) dX10_doAct_4 (by decide) rfl ?_
  refine pm_iload_n (pc := 5) dX10_doAct_5 rfl ?_
  refine pm_cSR (pc := 6) dX10_doAct_6 (c_mOther (c := c) (by omega)) wq_X10_otherOf wm_X10_205 wt_X10_otherOf ⟨Nat.le_of_ble_eq_true rfl, Nat.le_of_ble_eq_true rfl⟩ ⟨Nat.le_of_ble_eq_true rfl, Nat.le_of_ble_eq_true rfl⟩ rfl (Nat.le_of_ble_eq_true rfl) ?_
  refine pm_istore_n (pc := 9) dX10_doAct_9 (by decide) rfl ?_
  refine pm_iload_n (pc := 10) dX10_doAct_10 rfl ?_
  refine pm_cSR (pc := 11) dX10_doAct_11 (c_mKind (by omega) hk) wq_X10_kindOf wm_X10_208 wt_X10_kindOf ⟨Nat.le_of_ble_eq_true rfl, Nat.le_of_ble_eq_true rfl⟩ ⟨Nat.le_of_ble_eq_true rfl, Nat.le_of_ble_eq_true rfl⟩ rfl (Nat.le_of_ble_eq_true rfl) ?_
  refine pm_iconst (pc := 14) (v := nI 1) dX10_doAct_14 (by decide) ?_
  refine pm_icmp_ne (pc := 15) (tgt := 22) dX10_doAct_15 rfl (fun h15 => ?_) (fun h15 => absurd h15 (by decide))
  refine pm_aload_n (pc := 22) dX10_doAct_22 rfl ?_
  refine pm_iload_n (pc := 23) dX10_doAct_23 rfl ?_
  refine pm_cVI (pc := 24) dX10_doAct_24 (c_mTake hG hI o2 hs) wq_X10_takeTop wm_X10_214 wi_X10_takeTop ws_X10_takeTop rfl rfl ⟨Nat.le_of_ble_eq_true rfl, Nat.le_of_ble_eq_true rfl⟩ ⟨Nat.le_of_ble_eq_true rfl, Nat.le_of_ble_eq_true rfl⟩ rfl (Nat.le_of_ble_eq_true rfl) (fun r24 I24 L24 q24 => ?_)
  obtain ⟨qr, qx, ql⟩ := q24
  subst qr; subst ql
  refine pm_istore (pc := 27) dX10_doAct_27 (by decide) rfl ?_
  refine pm_iload_n (pc := 29) dX10_doAct_29 rfl ?_
  refine pm_cSR (pc := 30) dX10_doAct_30 (c_mKind (by omega) hk) wq_X10_kindOf wm_X10_208 wt_X10_kindOf ⟨Nat.le_of_ble_eq_true rfl, Nat.le_of_ble_eq_true rfl⟩ ⟨Nat.le_of_ble_eq_true rfl, Nat.le_of_ble_eq_true rfl⟩ rfl (Nat.le_of_ble_eq_true rfl) ?_
  refine pm_iconst (pc := 33) (v := nI 1) dX10_doAct_33 (by decide) ?_
  refine pm_icmp_eq (pc := 34) (tgt := 45) dX10_doAct_34 rfl (fun h34 => absurd h34 (by decide)) (fun h34 => ?_)
  refine pm_iload_n (pc := 37) dX10_doAct_37 rfl ?_
  refine pm_cSR (pc := 38) dX10_doAct_38 (c_mKind (by omega) hk) wq_X10_kindOf wm_X10_208 wt_X10_kindOf ⟨Nat.le_of_ble_eq_true rfl, Nat.le_of_ble_eq_true rfl⟩ ⟨Nat.le_of_ble_eq_true rfl, Nat.le_of_ble_eq_true rfl⟩ rfl (Nat.le_of_ble_eq_true rfl) ?_
  refine pm_iconst (pc := 41) (v := nI 2) dX10_doAct_41 (by decide) ?_
  refine pm_icmp_ne (pc := 42) (tgt := 51) dX10_doAct_42 rfl (fun h42 => ?_) (fun h42 => absurd h42 (by decide))
  refine pm_iload_n (pc := 51) dX10_doAct_51 rfl ?_
  refine pm_cSR (pc := 52) dX10_doAct_52 (c_mKind (by omega) hk) wq_X10_kindOf wm_X10_208 wt_X10_kindOf ⟨Nat.le_of_ble_eq_true rfl, Nat.le_of_ble_eq_true rfl⟩ ⟨Nat.le_of_ble_eq_true rfl, Nat.le_of_ble_eq_true rfl⟩ rfl (Nat.le_of_ble_eq_true rfl) ?_
  refine pm_iconst (pc := 55) (v := nI 3) dX10_doAct_55 (by decide) ?_
  refine pm_icmp_ne (pc := 56) (tgt := 66) dX10_doAct_56 rfl (fun h56 => absurd rfl h56) (fun h56 => ?_)
  refine pm_aload_n (pc := 59) dX10_doAct_59 rfl ?_
  refine pm_iload (pc := 60) dX10_doAct_60 rfl ?_
  refine pm_iload_n (pc := 62) dX10_doAct_62 rfl ?_
  refine pm_cVV (pc := 63) dX10_doAct_63 (c_mPut qx.1 hI2 ht (by rw [s_take_top]; exact Nat.le_refl 6) (o4 hk)) wq_X10_put wm_X10_100 wi_X10_put ws_X10_put rfl rfl ⟨Nat.le_of_ble_eq_true rfl, Nat.le_of_ble_eq_true rfl⟩ ⟨Nat.le_of_ble_eq_true rfl, Nat.le_of_ble_eq_true rfl⟩ rfl (Nat.le_of_ble_eq_true rfl) (fun I63 L63 q63 => ?_)
  obtain ⟨qy, ql⟩ := q63
  subst ql
  refine pm_iload (pc := 66) dX10_doAct_66 rfl ?_
  refine pm_iret (pc := 68) rfl (Nat.le_refl _) (Nat.le_refl _) dX10_doAct_68 ?_
  exact QI.r ⟨by rw [er], by rw [ed]; exact qx.tr qy, rfl⟩
theorem c_mDoAct {I : pm_I} {L : pm_L} {s : gS} {c : Nat} (hG : MG I s) (hI : gInv s) (ho : a_okW s c) (hc : a_can s c) : PC 2 0 0 yX10_doAct cX10_doAct 5 (some (.int)) [.ref 40, .int (nI c)] GG I L (QI GG (fun r I' L' => r = nI (a_res s c) ∧ mX I (s_do s c) I' ∧ L' = L)) := by
  have h := ho.1
  rcases (show a_h c = 0 ∨ a_h c = 1 ∨ a_h c = 2 ∨ a_h c = 3 by omega) with hk | hk | hk | hk
  · exact c_mDoAct_0 hG hI ho hc hk
  · exact c_mDoAct_1 hG hI ho hc hk
  · exact c_mDoAct_2 hG hI ho hc hk
  · exact c_mDoAct_3 hG hI ho hc hk
def m_eat (s : gS) (i : Nat) : Int32 := if s_eat s i = 12 then -1 else nI (s_eat s i)
set_option maxRecDepth 100000 in
theorem l_wake {I : pm_I} {L : pm_L} {s : gS} (hG : MG I s) (hI : gInv s) {l : Launch} {P : pm_E} {Q : pm_QT} (hQ : Q none GG (if s_eat s (g_n s) = 12 then I else pm_u I 44 (upd (I 44) (s_eat s (g_n s)) (nI 7))) L) : PW l P yX10_wake cX10_wake 4 none (pm_rm 1 0 0) (pm_Tg P Q 0 0) 0 0 10 [some (.ref 40), none, none, none] [] GG I L := by
  have h12 := hI.n12
  have lp : ∀ (m i : Nat), i + m = g_n s → PW l P yX10_wake cX10_wake 4 none (pm_rm 1 0 0) (pm_Tg P Q 0 0) 0 0 14 [some (.ref 40), some (.int (m_eat s i)), some (.int (nI i)), none] [] GG I L := by
    intro m
    induction m with
    | zero =>
      intro i hm
      have e : i = g_n s := by omega
      subst e
      by_cases he : s_eat s (g_n s) = 12
      · rw [if_pos he] at hQ
        rw [m_eat, if_pos he]
        refine pm_iload_n (pc := 14) dX10_wake_14 rfl ?_
        refine pm_aload_n (pc := 15) dX10_wake_15 rfl ?_
        refine pm_get (pc := 16) (ci := 8) (C0 := RX10) (T := TX10) (N := 34) (j := 0) rfl rfl in_X10 (by decide) wf_X10_83 rfl dX10_wake_16 ?_
        refine pm_icmp_ge (pc := 19) (tgt := 82) dX10_wake_19 rfl (fun h19 => ?_) (fun h19 => (by simp (disch := omega) only [hG.n, pm_eqI, pm_ltI, pm_leI, nI_toInt, pm_t0, pm_t1, pm_tm1] at h19; omega))
        refine pm_iload_n (pc := 82) dX10_wake_82 rfl ?_
        refine pm_if_lt (pc := 83) (tgt := 94) dX10_wake_83 rfl (fun h83 => ?_) (fun h83 => absurd (by decide) h83)
        refine pm_vret (pc := 94) rfl (Nat.le_refl _) (Nat.le_refl _) dX10_wake_94 ?_
        exact hQ
      · rw [if_neg he] at hQ
        rw [m_eat, if_neg he]
        have hlt : s_eat s (g_n s) < g_n s := ((s_eat_in (s := s) (g_n s)).resolve_left he).1
        refine pm_iload_n (pc := 14) dX10_wake_14 rfl ?_
        refine pm_aload_n (pc := 15) dX10_wake_15 rfl ?_
        refine pm_get (pc := 16) (ci := 8) (C0 := RX10) (T := TX10) (N := 34) (j := 0) rfl rfl in_X10 (by decide) wf_X10_83 rfl dX10_wake_16 ?_
        refine pm_icmp_ge (pc := 19) (tgt := 82) dX10_wake_19 rfl (fun h19 => ?_) (fun h19 => (by simp (disch := omega) only [hG.n, pm_eqI, pm_ltI, pm_leI, nI_toInt, pm_t0, pm_t1, pm_tm1] at h19; omega))
        refine pm_iload_n (pc := 82) dX10_wake_82 rfl ?_
        refine pm_if_lt (pc := 83) (tgt := 94) dX10_wake_83 rfl (fun h83 => (by simp (disch := omega) only [pm_eqI, pm_ltI, pm_leI, nI_toInt, pm_t0, pm_t1, pm_tm1] at h83; omega)) (fun h83 => ?_)
        refine pm_aload_n (pc := 86) dX10_wake_86 rfl ?_
        refine pm_getr (pc := 87) (ci := 8) (C0 := RX10) (T := TX10) (N := 34) (j := 4) rfl rfl in_X10 (by decide) wf_X10_19 rfl dX10_wake_87 ?_
        refine pm_iload_n (pc := 90) dX10_wake_90 rfl ?_
        refine pm_bipush (pc := 91) (v := nI 7) dX10_wake_91 (by decide) ?_
        refine pm_iast (pc := 93) rfl (by omega) (by decide) dX10_wake_93 ?_
        refine pm_vret (pc := 94) rfl (Nat.le_refl _) (Nat.le_refl _) dX10_wake_94 ?_
        exact hQ
    | succ m ih =>
      intro i hm
      have hi : i < g_n s := by omega
      have hv := hI.2.1 i hi
      have k9 := ih (i + 1) (by omega)
      by_cases ew : g_wh s i = 6
      · by_cases ek : g_kd s i = 3
        · have es : m_eat s (i + 1) = m_eat s i := by
            have e9 : s_eat s (i + 1) = s_eat s i := by rw [s_eat, if_neg]; exact fun z => z.2.1 ek
            rw [m_eat, m_eat, e9]
          refine pm_iload_n (pc := 14) dX10_wake_14 rfl ?_
          refine pm_aload_n (pc := 15) dX10_wake_15 rfl ?_
          refine pm_get (pc := 16) (ci := 8) (C0 := RX10) (T := TX10) (N := 34) (j := 0) rfl rfl in_X10 (by decide) wf_X10_83 rfl dX10_wake_16 ?_
          refine pm_icmp_ge (pc := 19) (tgt := 82) dX10_wake_19 rfl (fun h19 => (by simp (disch := omega) only [hG.n, pm_eqI, pm_ltI, pm_leI, nI_toInt, pm_t0, pm_t1, pm_tm1] at h19; omega)) (fun h19 => ?_)
          refine pm_aload_n (pc := 22) dX10_wake_22 rfl ?_
          refine pm_getr (pc := 23) (ci := 8) (C0 := RX10) (T := TX10) (N := 34) (j := 4) rfl rfl in_X10 (by decide) wf_X10_19 rfl dX10_wake_23 ?_
          refine pm_iload_n (pc := 26) dX10_wake_26 rfl ?_
          refine pm_iald (pc := 27) rfl (by omega) (by decide) dX10_wake_27 ?_
          rw [hG.wh hi]
          refine pm_bipush (pc := 28) (v := nI 6) dX10_wake_28 (by decide) ?_
          refine pm_icmp_ne (pc := 30) (tgt := 47) dX10_wake_30 rfl (fun h30 => absurd (by rw [ew]) h30) (fun h30 => ?_)
          refine pm_aload_n (pc := 33) dX10_wake_33 rfl ?_
          refine pm_getr (pc := 34) (ci := 8) (C0 := RX10) (T := TX10) (N := 34) (j := 1) rfl rfl in_X10 (by decide) wf_X10_7 rfl dX10_wake_34 ?_
          refine pm_iload_n (pc := 37) dX10_wake_37 rfl ?_
          refine pm_iald (pc := 38) rfl (by omega) (by decide) dX10_wake_38 ?_
          rw [hG.kd hi]
          refine pm_iconst (pc := 39) (v := nI 3) dX10_wake_39 (by decide) ?_
          refine pm_icmp_eq (pc := 40) (tgt := 47) dX10_wake_40 rfl (fun h40 => ?_) (fun h40 => absurd (by rw [ek]) h40)
          refine pm_iconst (pc := 47) (v := nI 0) dX10_wake_47 (by decide) ?_
          refine pm_istore_n (pc := 48) dX10_wake_48 (by decide) rfl ?_
          refine pm_iload_n (pc := 49) dX10_wake_49 rfl ?_
          refine pm_if_eq (pc := 50) (tgt := 74) dX10_wake_50 rfl (fun h50 => ?_) (fun h50 => absurd rfl h50)
          refine pm_iload_n (pc := 74) dX10_wake_74 rfl ?_
          refine pm_istore_n (pc := 75) dX10_wake_75 (by decide) rfl ?_
          refine pm_iinc (pc := 76) dX10_wake_76 rfl (pm_inc1 _) (by decide) rfl ?_
          refine pm_goto (pc := 79) (tgt := 14) dX10_wake_79 rfl ?_
          refine pm_kill 3 ?_
          rw [es] at k9
          exact k9
        · by_cases e1 : s_eat s i = 12
          · rw [m_eat, if_pos e1]
            have es : m_eat s (i + 1) = nI i := by
              have e9 : s_eat s (i + 1) = i := by rw [s_eat, if_pos ⟨ew, ek, Or.inl e1⟩]
              rw [m_eat, e9, if_neg (by omega)]
            refine pm_iload_n (pc := 14) dX10_wake_14 rfl ?_
            refine pm_aload_n (pc := 15) dX10_wake_15 rfl ?_
            refine pm_get (pc := 16) (ci := 8) (C0 := RX10) (T := TX10) (N := 34) (j := 0) rfl rfl in_X10 (by decide) wf_X10_83 rfl dX10_wake_16 ?_
            refine pm_icmp_ge (pc := 19) (tgt := 82) dX10_wake_19 rfl (fun h19 => (by simp (disch := omega) only [hG.n, pm_eqI, pm_ltI, pm_leI, nI_toInt, pm_t0, pm_t1, pm_tm1] at h19; omega)) (fun h19 => ?_)
            refine pm_aload_n (pc := 22) dX10_wake_22 rfl ?_
            refine pm_getr (pc := 23) (ci := 8) (C0 := RX10) (T := TX10) (N := 34) (j := 4) rfl rfl in_X10 (by decide) wf_X10_19 rfl dX10_wake_23 ?_
            refine pm_iload_n (pc := 26) dX10_wake_26 rfl ?_
            refine pm_iald (pc := 27) rfl (by omega) (by decide) dX10_wake_27 ?_
            rw [hG.wh hi]
            refine pm_bipush (pc := 28) (v := nI 6) dX10_wake_28 (by decide) ?_
            refine pm_icmp_ne (pc := 30) (tgt := 47) dX10_wake_30 rfl (fun h30 => absurd (by rw [ew]) h30) (fun h30 => ?_)
            refine pm_aload_n (pc := 33) dX10_wake_33 rfl ?_
            refine pm_getr (pc := 34) (ci := 8) (C0 := RX10) (T := TX10) (N := 34) (j := 1) rfl rfl in_X10 (by decide) wf_X10_7 rfl dX10_wake_34 ?_
            refine pm_iload_n (pc := 37) dX10_wake_37 rfl ?_
            refine pm_iald (pc := 38) rfl (by omega) (by decide) dX10_wake_38 ?_
            rw [hG.kd hi]
            refine pm_iconst (pc := 39) (v := nI 3) dX10_wake_39 (by decide) ?_
            refine pm_icmp_eq (pc := 40) (tgt := 47) dX10_wake_40 rfl (fun h40 => absurd ((nI_eq (by omega) (by decide)).mp h40) ek) (fun h40 => ?_)
            refine pm_iconst (pc := 43) (v := nI 1) dX10_wake_43 (by decide) ?_
            refine pm_goto (pc := 44) (tgt := 48) dX10_wake_44 rfl ?_
            refine pm_istore_n (pc := 48) dX10_wake_48 (by decide) rfl ?_
            refine pm_iload_n (pc := 49) dX10_wake_49 rfl ?_
            refine pm_if_eq (pc := 50) (tgt := 74) dX10_wake_50 rfl (fun h50 => absurd h50 (by decide)) (fun h50 => ?_)
            refine pm_iload_n (pc := 53) dX10_wake_53 rfl ?_
            refine pm_if_lt (pc := 54) (tgt := 70) dX10_wake_54 rfl (fun h54 => ?_) (fun h54 => absurd (by decide) h54)
            refine pm_iload_n (pc := 70) dX10_wake_70 rfl ?_
            refine pm_goto (pc := 71) (tgt := 75) dX10_wake_71 rfl ?_
            refine pm_istore_n (pc := 75) dX10_wake_75 (by decide) rfl ?_
            refine pm_iinc (pc := 76) dX10_wake_76 rfl (pm_inc1 _) (by decide) rfl ?_
            refine pm_goto (pc := 79) (tgt := 14) dX10_wake_79 rfl ?_
            refine pm_kill 3 ?_
            rw [es] at k9
            exact k9
          · have hlt : s_eat s i < i := ((s_eat_in (s := s) i).resolve_left e1).1
            have w1 := hI.w hi
            have w2 := hI.w (show s_eat s i < g_n s by omega)
            have em : m_eat s i = nI (s_eat s i) := by rw [m_eat, if_neg e1]
            rw [em]
            refine pm_iload_n (pc := 14) dX10_wake_14 rfl ?_
            refine pm_aload_n (pc := 15) dX10_wake_15 rfl ?_
            refine pm_get (pc := 16) (ci := 8) (C0 := RX10) (T := TX10) (N := 34) (j := 0) rfl rfl in_X10 (by decide) wf_X10_83 rfl dX10_wake_16 ?_
            refine pm_icmp_ge (pc := 19) (tgt := 82) dX10_wake_19 rfl (fun h19 => (by simp (disch := omega) only [hG.n, pm_eqI, pm_ltI, pm_leI, nI_toInt, pm_t0, pm_t1, pm_tm1] at h19; omega)) (fun h19 => ?_)
            refine pm_aload_n (pc := 22) dX10_wake_22 rfl ?_
            refine pm_getr (pc := 23) (ci := 8) (C0 := RX10) (T := TX10) (N := 34) (j := 4) rfl rfl in_X10 (by decide) wf_X10_19 rfl dX10_wake_23 ?_
            refine pm_iload_n (pc := 26) dX10_wake_26 rfl ?_
            refine pm_iald (pc := 27) rfl (by omega) (by decide) dX10_wake_27 ?_
            rw [hG.wh hi]
            refine pm_bipush (pc := 28) (v := nI 6) dX10_wake_28 (by decide) ?_
            refine pm_icmp_ne (pc := 30) (tgt := 47) dX10_wake_30 rfl (fun h30 => absurd (by rw [ew]) h30) (fun h30 => ?_)
            refine pm_aload_n (pc := 33) dX10_wake_33 rfl ?_
            refine pm_getr (pc := 34) (ci := 8) (C0 := RX10) (T := TX10) (N := 34) (j := 1) rfl rfl in_X10 (by decide) wf_X10_7 rfl dX10_wake_34 ?_
            refine pm_iload_n (pc := 37) dX10_wake_37 rfl ?_
            refine pm_iald (pc := 38) rfl (by omega) (by decide) dX10_wake_38 ?_
            rw [hG.kd hi]
            refine pm_iconst (pc := 39) (v := nI 3) dX10_wake_39 (by decide) ?_
            refine pm_icmp_eq (pc := 40) (tgt := 47) dX10_wake_40 rfl (fun h40 => absurd ((nI_eq (by omega) (by decide)).mp h40) ek) (fun h40 => ?_)
            refine pm_iconst (pc := 43) (v := nI 1) dX10_wake_43 (by decide) ?_
            refine pm_goto (pc := 44) (tgt := 48) dX10_wake_44 rfl ?_
            refine pm_istore_n (pc := 48) dX10_wake_48 (by decide) rfl ?_
            refine pm_iload_n (pc := 49) dX10_wake_49 rfl ?_
            refine pm_if_eq (pc := 50) (tgt := 74) dX10_wake_50 rfl (fun h50 => absurd h50 (by decide)) (fun h50 => ?_)
            refine pm_iload_n (pc := 53) dX10_wake_53 rfl ?_
            refine pm_if_lt (pc := 54) (tgt := 70) dX10_wake_54 rfl (fun h54 => (by simp (disch := omega) only [pm_eqI, pm_ltI, pm_leI, nI_toInt, pm_t0, pm_t1, pm_tm1] at h54; omega)) (fun h54 => ?_)
            refine pm_aload_n (pc := 57) dX10_wake_57 rfl ?_
            refine pm_iload_n (pc := 58) dX10_wake_58 rfl ?_
            refine pm_cVR (pc := 59) dX10_wake_59 (c_mWeighs hG hI hi) wq_X10_weighs wm_X10_97 wi_X10_weighs ws_X10_weighs rfl rfl ⟨Nat.le_of_ble_eq_true rfl, Nat.le_of_ble_eq_true rfl⟩ ⟨Nat.le_of_ble_eq_true rfl, Nat.le_of_ble_eq_true rfl⟩ rfl (Nat.le_of_ble_eq_true rfl) ?_
            refine pm_aload_n (pc := 62) dX10_wake_62 rfl ?_
            refine pm_iload_n (pc := 63) dX10_wake_63 rfl ?_
            refine pm_cVR (pc := 64) dX10_wake_64 (c_mWeighs hG hI (show s_eat s i < g_n s by omega)) wq_X10_weighs wm_X10_97 wi_X10_weighs ws_X10_weighs rfl rfl ⟨Nat.le_of_ble_eq_true rfl, Nat.le_of_ble_eq_true rfl⟩ ⟨Nat.le_of_ble_eq_true rfl, Nat.le_of_ble_eq_true rfl⟩ rfl (Nat.le_of_ble_eq_true rfl) ?_
            refine pm_icmp_ge (pc := 67) (tgt := 74) dX10_wake_67 rfl (fun h67 => ?_) (fun h67 => ?_)
            · rw [nI_leI (by omega) (by omega)] at h67
              have es : m_eat s (i + 1) = m_eat s i := by
                have e9 : s_eat s (i + 1) = s_eat s i := by rw [s_eat, if_neg]; exact fun z => by have := z.2.2; omega
                rw [m_eat, m_eat, e9]
              rw [em] at es
              refine pm_iload_n (pc := 74) dX10_wake_74 rfl ?_
              refine pm_istore_n (pc := 75) dX10_wake_75 (by decide) rfl ?_
              refine pm_iinc (pc := 76) dX10_wake_76 rfl (pm_inc1 _) (by decide) rfl ?_
              refine pm_goto (pc := 79) (tgt := 14) dX10_wake_79 rfl ?_
              refine pm_kill 3 ?_
              rw [es] at k9
              exact k9
            · rw [nI_leI (by omega) (by omega)] at h67
              have es : m_eat s (i + 1) = nI i := by
                have e9 : s_eat s (i + 1) = i := by rw [s_eat, if_pos ⟨ew, ek, Or.inr (by omega)⟩]
                rw [m_eat, e9, if_neg (by omega)]
              refine pm_iload_n (pc := 70) dX10_wake_70 rfl ?_
              refine pm_goto (pc := 71) (tgt := 75) dX10_wake_71 rfl ?_
              refine pm_istore_n (pc := 75) dX10_wake_75 (by decide) rfl ?_
              refine pm_iinc (pc := 76) dX10_wake_76 rfl (pm_inc1 _) (by decide) rfl ?_
              refine pm_goto (pc := 79) (tgt := 14) dX10_wake_79 rfl ?_
              refine pm_kill 3 ?_
              rw [es] at k9
              exact k9
      · have es : m_eat s (i + 1) = m_eat s i := by
          have e9 : s_eat s (i + 1) = s_eat s i := by rw [s_eat, if_neg]; exact fun z => ew z.1
          rw [m_eat, m_eat, e9]
        refine pm_iload_n (pc := 14) dX10_wake_14 rfl ?_
        refine pm_aload_n (pc := 15) dX10_wake_15 rfl ?_
        refine pm_get (pc := 16) (ci := 8) (C0 := RX10) (T := TX10) (N := 34) (j := 0) rfl rfl in_X10 (by decide) wf_X10_83 rfl dX10_wake_16 ?_
        refine pm_icmp_ge (pc := 19) (tgt := 82) dX10_wake_19 rfl (fun h19 => (by simp (disch := omega) only [hG.n, pm_eqI, pm_ltI, pm_leI, nI_toInt, pm_t0, pm_t1, pm_tm1] at h19; omega)) (fun h19 => ?_)
        refine pm_aload_n (pc := 22) dX10_wake_22 rfl ?_
        refine pm_getr (pc := 23) (ci := 8) (C0 := RX10) (T := TX10) (N := 34) (j := 4) rfl rfl in_X10 (by decide) wf_X10_19 rfl dX10_wake_23 ?_
        refine pm_iload_n (pc := 26) dX10_wake_26 rfl ?_
        refine pm_iald (pc := 27) rfl (by omega) (by decide) dX10_wake_27 ?_
        rw [hG.wh hi]
        refine pm_bipush (pc := 28) (v := nI 6) dX10_wake_28 (by decide) ?_
        refine pm_icmp_ne (pc := 30) (tgt := 47) dX10_wake_30 rfl (fun h30 => ?_) (fun h30 => absurd ((nI_eq (by omega) (by decide)).mp h30) ew)
        refine pm_iconst (pc := 47) (v := nI 0) dX10_wake_47 (by decide) ?_
        refine pm_istore_n (pc := 48) dX10_wake_48 (by decide) rfl ?_
        refine pm_iload_n (pc := 49) dX10_wake_49 rfl ?_
        refine pm_if_eq (pc := 50) (tgt := 74) dX10_wake_50 rfl (fun h50 => ?_) (fun h50 => absurd rfl h50)
        refine pm_iload_n (pc := 74) dX10_wake_74 rfl ?_
        refine pm_istore_n (pc := 75) dX10_wake_75 (by decide) rfl ?_
        refine pm_iinc (pc := 76) dX10_wake_76 rfl (pm_inc1 _) (by decide) rfl ?_
        refine pm_goto (pc := 79) (tgt := 14) dX10_wake_79 rfl ?_
        refine pm_kill 3 ?_
        rw [es] at k9
        exact k9
  refine pm_iconst (pc := 10) (v := (-1)) dX10_wake_10 (by decide) ?_
  refine pm_istore_n (pc := 11) dX10_wake_11 (by decide) rfl ?_
  refine pm_iconst (pc := 12) (v := nI 0) dX10_wake_12 (by decide) ?_
  refine pm_istore_n (pc := 13) dX10_wake_13 (by decide) rfl ?_
  exact lp (g_n s) 0 (by omega)
set_option maxRecDepth 100000 in
set_option maxHeartbeats 4000000 in
theorem c_mWake {I : pm_I} {L : pm_L} {s : gS} (hG : MG I s) (hI : gInv s)  : PC 1 0 0 yX10_wake cX10_wake 4 none [.ref 40] GG I L (QV GG (fun I' L' => mX I (s_wake s) I' ∧ L' = L)) := by
  refine PC.of [some (.ref 40), none, none, none] (by decide) (Nat.le_of_ble_eq_true rfl) rfl (fun l P => ?_)
  refine pm_aload_n (pc := 0) dX10_wake_0 rfl ?_
  refine pm_dup (pc := 1) dX10_wake_1 rfl ?_
  refine pm_get (pc := 2) (ci := 8) (C0 := RX10) (T := TX10) (N := 34) (j := 8) rfl rfl in_X10 (by decide) wf_X10_133 rfl dX10_wake_2 ?_
  refine pm_iconst (pc := 5) (v := nI 1) dX10_wake_5 (by decide) ?_
  refine pm_iadd (pc := 6) dX10_wake_6 ?_
  refine pm_put (pc := 7) (ci := 8) (C0 := RX10) (T := TX10) (N := 34) (j := 8) (ty := .int) rfl rfl in_X10 tyX10 tyX10_ok nmX10 (by decide) wf_X10_133 rfl rfl (by decide +kernel) rfl rfl dX10_wake_7 ?_
  refine l_wake (s := s_awk s) (MG_awk hG).1 (gInv_awk hI) ?_
  refine QV.r ⟨?_, rfl⟩
  have e1 : s_eat (s_awk s) (g_n (s_awk s)) = s_eat s (g_n s) := s_eat_awk s _
  rw [e1]
  by_cases he : s_eat s (g_n s) = 12
  · rw [if_pos he]; exact MG_wake0 hG hI he
  · rw [if_neg he]; exact MG_wake hG hI he
/-- an act that can be, run in a night -/
def s_goes (s : gS) (c : Nat) : gS := if a_felt s c then s_wake s else s_do s c
set_option maxRecDepth 100000 in
set_option maxHeartbeats 4000000 in
theorem c_mGoes {I : pm_I} {L : pm_L} {s : gS} {c : Nat} (hG : MG I s) (hI : gInv s) (ho : a_okW s c) (hc : a_can s c) : PC 3 0 0 yX10_goes cX10_goes 3 (some (.boolean)) [.ref 40, .int (nI c)] GG I L (QI GG (fun r I' L' => r = b1 (¬ a_felt s c) ∧ mX I (s_goes s c) I' ∧ L' = L)) := by
  refine PC.of [some (.ref 40), some (.int (nI c)), none] (by decide) (Nat.le_of_ble_eq_true rfl) rfl (fun l P => ?_)
  refine pm_aload_n (pc := 0) dX10_goes_0 rfl ?_
  refine pm_iload_n (pc := 1) dX10_goes_1 rfl ?_
  refine pm_cVR (pc := 2) dX10_goes_2 (c_mIsFelt hG hI ho hc) wq_X10_isFelt wm_X10_217 wi_X10_isFelt ws_X10_isFelt rfl rfl ⟨Nat.le_of_ble_eq_true rfl, Nat.le_of_ble_eq_true rfl⟩ ⟨Nat.le_of_ble_eq_true rfl, Nat.le_of_ble_eq_true rfl⟩ rfl (Nat.le_of_ble_eq_true rfl) ?_
  refine pm_if_eq (pc := 5) (tgt := 14) dX10_goes_5 rfl (fun h5 => ?_) (fun h5 => ?_)
  · have hf : ¬ a_felt s c := b1_0.mp h5
    refine pm_aload_n (pc := 14) dX10_goes_14 rfl ?_
    refine pm_iload_n (pc := 15) dX10_goes_15 rfl ?_
    refine pm_cVI (pc := 16) dX10_goes_16 (c_mDoAct hG hI ho hc) wq_X10_doAct wm_X10_223 wi_X10_doAct ws_X10_doAct rfl rfl ⟨Nat.le_of_ble_eq_true rfl, Nat.le_of_ble_eq_true rfl⟩ ⟨Nat.le_of_ble_eq_true rfl, Nat.le_of_ble_eq_true rfl⟩ rfl (Nat.le_of_ble_eq_true rfl) (fun r16 I16 L16 q16 => ?_)
    obtain ⟨qr, qx, ql⟩ := q16
    subst qr; subst ql
    refine pm_istore_n (pc := 19) dX10_goes_19 (by decide) rfl ?_
    refine pm_iconst (pc := 20) (v := nI 1) dX10_goes_20 (by decide) ?_
    refine pm_zret (pc := 21) (by decide) rfl (Nat.le_refl _) (Nat.le_refl _) dX10_goes_21 ?_
    exact QI.r ⟨b1_t hf, by rw [s_goes, if_neg hf]; exact qx, rfl⟩
  · have hf : a_felt s c := Decidable.not_not.mp (fun z => h5 (b1_0.mpr z))
    refine pm_aload_n (pc := 8) dX10_goes_8 rfl ?_
    refine pm_cVV (pc := 9) dX10_goes_9 (c_mWake hG hI) wq_X10_wake wm_X10_220 wi_X10_wake ws_X10_wake rfl rfl ⟨Nat.le_of_ble_eq_true rfl, Nat.le_of_ble_eq_true rfl⟩ ⟨Nat.le_of_ble_eq_true rfl, Nat.le_of_ble_eq_true rfl⟩ rfl (Nat.le_of_ble_eq_true rfl) (fun I9 L9 q9 => ?_)
    obtain ⟨qx, ql⟩ := q9
    subst ql
    refine pm_iconst (pc := 12) (v := nI 0) dX10_goes_12 (by decide) ?_
    refine pm_zret (pc := 13) (by decide) rfl (Nat.le_refl _) (Nat.le_refl _) dX10_goes_13 ?_
    exact QI.r ⟨b1_f (fun z => z hf), by rw [s_goes, if_pos hf]; exact qx, rfl⟩
/-- an act tried, as the reference answers: the piece, or what is refused -/
def m_try (s : gS) (c : Nat) : Int32 := if (s_try s c).1 = 0 then nI (a_res s c) else (s_try s c).1
set_option maxRecDepth 100000 in
set_option maxHeartbeats 4000000 in
theorem c_mTryAct {I : pm_I} {L : pm_L} {s : gS} {c : Nat} (hG : MG I s) (hI : gInv s) (hn : a_ok s c) : PC 3 0 0 yX10_tryAct cX10_tryAct 2 (some (.int)) [.ref 40, .int (nI c)] GG I L (QI GG (fun r I' L' => r = m_try s c ∧ mX I (s_try s c).2 I' ∧ L' = L)) := by
  have ho := hn.W
  refine PC.of [some (.ref 40), some (.int (nI c))] (by decide) (Nat.le_of_ble_eq_true rfl) rfl (fun l P => ?_)
  refine pm_aload_n (pc := 0) dX10_tryAct_0 rfl ?_
  refine pm_iload_n (pc := 1) dX10_tryAct_1 rfl ?_
  refine pm_cVR (pc := 2) dX10_tryAct_2 (c_mCanBe hG hI ho) wq_X10_canBe wm_X10_196 wi_X10_canBe ws_X10_canBe rfl rfl ⟨Nat.le_of_ble_eq_true rfl, Nat.le_of_ble_eq_true rfl⟩ ⟨Nat.le_of_ble_eq_true rfl, Nat.le_of_ble_eq_true rfl⟩ rfl (Nat.le_of_ble_eq_true rfl) ?_
  refine pm_if_ne (pc := 5) (tgt := 11) dX10_tryAct_5 rfl (fun h5 => ?_) (fun h5 => ?_)
  · have hc : a_can s c := (Decidable.not_not.mp (fun z => h5 (b1_0.mpr z)) : a_canW s c).1
    refine pm_aload_n (pc := 11) dX10_tryAct_11 rfl ?_
    refine pm_iload_n (pc := 12) dX10_tryAct_12 rfl ?_
    refine pm_cVR (pc := 13) dX10_tryAct_13 (c_mIsFelt hG hI ho hc) wq_X10_isFelt wm_X10_217 wi_X10_isFelt ws_X10_isFelt rfl rfl ⟨Nat.le_of_ble_eq_true rfl, Nat.le_of_ble_eq_true rfl⟩ ⟨Nat.le_of_ble_eq_true rfl, Nat.le_of_ble_eq_true rfl⟩ rfl (Nat.le_of_ble_eq_true rfl) ?_
    refine pm_if_eq (pc := 16) (tgt := 26) dX10_tryAct_16 rfl (fun h16 => ?_) (fun h16 => ?_)
    · have hf : ¬ a_felt s c := b1_0.mp h16
      refine pm_aload_n (pc := 26) dX10_tryAct_26 rfl ?_
      refine pm_iload_n (pc := 27) dX10_tryAct_27 rfl ?_
      refine pm_cVI (pc := 28) dX10_tryAct_28 (c_mDoAct hG hI ho hc) wq_X10_doAct wm_X10_223 wi_X10_doAct ws_X10_doAct rfl rfl ⟨Nat.le_of_ble_eq_true rfl, Nat.le_of_ble_eq_true rfl⟩ ⟨Nat.le_of_ble_eq_true rfl, Nat.le_of_ble_eq_true rfl⟩ rfl (Nat.le_of_ble_eq_true rfl) (fun r28 I28 L28 q28 => ?_)
      obtain ⟨qr, qx, ql⟩ := q28
      subst qr; subst ql
      refine pm_iret (pc := 31) rfl (Nat.le_refl _) (Nat.le_refl _) dX10_tryAct_31 ?_
      have et : s_try s c = (0, s_do s c) := by unfold s_try; rw [if_neg (fun z => z hc), if_neg hf]
      exact QI.r ⟨by rw [m_try, et]; rfl, by rw [et]; exact qx, rfl⟩
    · have hf : a_felt s c := Decidable.not_not.mp (fun z => h16 (b1_0.mpr z))
      refine pm_aload_n (pc := 19) dX10_tryAct_19 rfl ?_
      refine pm_cVV (pc := 20) dX10_tryAct_20 (c_mWake hG hI) wq_X10_wake wm_X10_220 wi_X10_wake ws_X10_wake rfl rfl ⟨Nat.le_of_ble_eq_true rfl, Nat.le_of_ble_eq_true rfl⟩ ⟨Nat.le_of_ble_eq_true rfl, Nat.le_of_ble_eq_true rfl⟩ rfl (Nat.le_of_ble_eq_true rfl) (fun I20 L20 q20 => ?_)
      obtain ⟨qx, ql⟩ := q20
      subst ql
      refine pm_bipush (pc := 23) (v := (-3)) dX10_tryAct_23 (by decide) ?_
      refine pm_iret (pc := 25) rfl (Nat.le_refl _) (Nat.le_refl _) dX10_tryAct_25 ?_
      have et : s_try s c = (-3, s_wake s) := by unfold s_try; rw [if_neg (fun z => z hc), if_pos hf]
      exact QI.r ⟨by rw [m_try, et]; exact (if_neg (show ¬ (-3 : Int32) = 0 by decide)).symm, by rw [et]; exact qx, rfl⟩
  · have hc : ¬ a_can s c := fun z => (b1_0.mp h5) ⟨z, fun y => Ne.symm (hn.2.2.2 y).2⟩
    refine pm_bipush (pc := 8) (v := (-2)) dX10_tryAct_8 (by decide) ?_
    refine pm_iret (pc := 10) rfl (Nat.le_refl _) (Nat.le_refl _) dX10_tryAct_10 ?_
    have et : s_try s c = (-2, s) := by unfold s_try; rw [if_pos hc]
    exact QI.r ⟨by rw [m_try, et]; exact (if_neg (show ¬ (-2 : Int32) = 0 by decide)).symm, by rw [et]; exact ⟨hG, mF.rf⟩, rfl⟩
set_option maxRecDepth 100000 in
set_option maxHeartbeats 4000000 in
theorem c_mAddPiece {I : pm_I} {L : pm_L} {s : gS} {k w t p : Nat} (hG : MG I s) (hI : gInv s) (hn : g_n s < 12) (hk : k < 4) (hw : 1 ≤ w ∧ w ≤ 99) (ht : t < 4) (hp : p < 2 ^ 31) : PC 1 0 0 yX10_addPiece cX10_addPiece 5 none [.ref 40, .int (nI k), .int (nI w), .int (nI t), .int (nI p)] GG I L (QV GG (fun I' L' => mX I (s_add s k w t p) I' ∧ L' = L)) := by
  have h12 := hI.n12
  have hX := MG_add0 hG (k := k) (w := w) (t := t)
  refine PC.of [some (.ref 40), some (.int (nI k)), some (.int (nI w)), some (.int (nI t)), some (.int (nI p))] (by decide) (Nat.le_of_ble_eq_true rfl) rfl (fun l P => ?_)
  refine pm_aload_n (pc := 0) dX10_addPiece_0 rfl ?_
  refine pm_getr (pc := 1) (ci := 8) (C0 := RX10) (T := TX10) (N := 34) (j := 1) rfl rfl in_X10 (by decide) wf_X10_7 rfl dX10_addPiece_1 ?_
  refine pm_aload_n (pc := 4) dX10_addPiece_4 rfl ?_
  refine pm_get (pc := 5) (ci := 8) (C0 := RX10) (T := TX10) (N := 34) (j := 0) rfl rfl in_X10 (by decide) wf_X10_83 rfl dX10_addPiece_5 ?_
  refine pm_top (x' := nI (g_n s)) hG.n ?_
  refine pm_iload_n (pc := 8) dX10_addPiece_8 rfl ?_
  refine pm_iast (pc := 9) rfl (by omega) (by decide) dX10_addPiece_9 ?_
  refine pm_aload_n (pc := 10) dX10_addPiece_10 rfl ?_
  refine pm_getr (pc := 11) (ci := 8) (C0 := RX10) (T := TX10) (N := 34) (j := 2) rfl rfl in_X10 (by decide) wf_X10_13 rfl dX10_addPiece_11 ?_
  refine pm_aload_n (pc := 14) dX10_addPiece_14 rfl ?_
  refine pm_get (pc := 15) (ci := 8) (C0 := RX10) (T := TX10) (N := 34) (j := 0) rfl rfl in_X10 (by decide) wf_X10_83 rfl dX10_addPiece_15 ?_
  refine pm_top (x' := nI (g_n s)) hG.n ?_
  refine pm_iload_n (pc := 18) dX10_addPiece_18 rfl ?_
  refine pm_iast (pc := 19) rfl (by omega) (by decide) dX10_addPiece_19 ?_
  refine pm_aload_n (pc := 20) dX10_addPiece_20 rfl ?_
  refine pm_getr (pc := 21) (ci := 8) (C0 := RX10) (T := TX10) (N := 34) (j := 3) rfl rfl in_X10 (by decide) wf_X10_16 rfl dX10_addPiece_21 ?_
  refine pm_aload_n (pc := 24) dX10_addPiece_24 rfl ?_
  refine pm_get (pc := 25) (ci := 8) (C0 := RX10) (T := TX10) (N := 34) (j := 0) rfl rfl in_X10 (by decide) wf_X10_83 rfl dX10_addPiece_25 ?_
  refine pm_top (x' := nI (g_n s)) hG.n ?_
  refine pm_iload_n (pc := 28) dX10_addPiece_28 rfl ?_
  refine pm_iast (pc := 29) rfl (by omega) (by decide) dX10_addPiece_29 ?_
  refine pm_aload_n (pc := 30) dX10_addPiece_30 rfl ?_
  refine pm_getr (pc := 31) (ci := 8) (C0 := RX10) (T := TX10) (N := 34) (j := 4) rfl rfl in_X10 (by decide) wf_X10_19 rfl dX10_addPiece_31 ?_
  refine pm_aload_n (pc := 34) dX10_addPiece_34 rfl ?_
  refine pm_get (pc := 35) (ci := 8) (C0 := RX10) (T := TX10) (N := 34) (j := 0) rfl rfl in_X10 (by decide) wf_X10_83 rfl dX10_addPiece_35 ?_
  refine pm_top (x' := nI (g_n s)) hG.n ?_
  refine pm_bipush (pc := 38) (v := nI 6) dX10_addPiece_38 (by decide) ?_
  refine pm_iast (pc := 40) rfl (by omega) (by decide) dX10_addPiece_40 ?_
  refine pm_aload_n (pc := 41) dX10_addPiece_41 rfl ?_
  refine pm_dup (pc := 42) dX10_addPiece_42 rfl ?_
  refine pm_get (pc := 43) (ci := 8) (C0 := RX10) (T := TX10) (N := 34) (j := 0) rfl rfl in_X10 (by decide) wf_X10_83 rfl dX10_addPiece_43 ?_
  refine pm_iconst (pc := 46) (v := nI 1) dX10_addPiece_46 (by decide) ?_
  refine pm_iadd (pc := 47) dX10_addPiece_47 ?_
  refine pm_top (x' := nI (g_n s + 1)) (by show I 40 0 + nI 1 = _; rw [hG.n, nI_add]) ?_
  refine pm_put (pc := 48) (ci := 8) (C0 := RX10) (T := TX10) (N := 34) (j := 0) (ty := .int) rfl rfl in_X10 tyX10 tyX10_ok nmX10 (by decide) wf_X10_83 rfl rfl (by decide +kernel) rfl rfl dX10_addPiece_48 ?_
  refine pm_iload (pc := 51) dX10_addPiece_51 rfl ?_
  refine pm_bipush (pc := 53) (v := nI 6) dX10_addPiece_53 (by decide) ?_
  refine pm_icmp_ge (pc := 55) (tgt := 70) dX10_addPiece_55 rfl (fun h55 => ?_) (fun h55 => ?_)
  · have e55 : ¬ p < 6 := by simp (disch := omega) only [pm_leI, nI_toInt] at h55; omega
    refine pm_vret (pc := 70) rfl (Nat.le_refl _) (Nat.le_refl _) dX10_addPiece_70 ?_
    first | exact QV.r ⟨by unfold s_add; rw [if_pos e55]; exact hX.tr qx, rfl⟩ | exact QV.r ⟨by unfold s_add; rw [if_neg e55]; exact hX, rfl⟩
  · have e55 : p < 6 := by simp (disch := omega) only [pm_leI, nI_toInt] at h55; omega
    refine pm_aload_n (pc := 58) dX10_addPiece_58 rfl ?_
    refine pm_aload_n (pc := 59) dX10_addPiece_59 rfl ?_
    refine pm_get (pc := 60) (ci := 8) (C0 := RX10) (T := TX10) (N := 34) (j := 0) rfl rfl in_X10 (by decide) wf_X10_83 rfl dX10_addPiece_60 ?_
    refine pm_iconst (pc := 63) (v := nI 1) dX10_addPiece_63 (by decide) ?_
    refine pm_isub (pc := 64) dX10_addPiece_64 ?_
    refine pm_top (x' := nI (g_n s)) (by show nI (g_n s + 1) - nI 1 = _; rw [pk_sub (by omega)]; rfl) ?_
    refine pm_iload (pc := 65) dX10_addPiece_65 rfl ?_
    refine pm_cVV (pc := 67) dX10_addPiece_67 (c_mPut (s := s_add0 s k w t) hX.1 (gInv_add0 hI hn hk hw ht) (show g_n s < g_n s + 1 by omega) (show 6 ≤ (if g_n s = g_n s then 6 else _) by rw [if_pos rfl]; exact Nat.le_refl 6) e55) wq_X10_put wm_X10_100 wi_X10_put ws_X10_put rfl rfl ⟨Nat.le_of_ble_eq_true rfl, Nat.le_of_ble_eq_true rfl⟩ ⟨Nat.le_of_ble_eq_true rfl, Nat.le_of_ble_eq_true rfl⟩ rfl (Nat.le_of_ble_eq_true rfl) (fun I67 L67 q67 => ?_)
    obtain ⟨qx, ql⟩ := q67
    subst ql
    refine pm_vret (pc := 70) rfl (Nat.le_refl _) (Nat.le_refl _) dX10_addPiece_70 ?_
    first | exact QV.r ⟨by unfold s_add; rw [if_pos e55]; exact hX.tr qx, rfl⟩ | exact QV.r ⟨by unfold s_add; rw [if_neg e55]; exact hX, rfl⟩
