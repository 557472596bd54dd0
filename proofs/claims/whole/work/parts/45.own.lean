theorem GR.e {I I' : pm_I} {o : Nat} {s : gS} (h : GR I o s) (e : ∀ a : Nat, o ≤ a → a ≤ o + 7 → I' a = I a) : GR I' o s := by
  unfold GR at h ⊢
  simp only [e o (by omega) (by omega), e (o + 1) (by omega) (by omega), e (o + 2) (by omega) (by omega), e (o + 3) (by omega) (by omega), e (o + 4) (by omega) (by omega), e (o + 5) (by omega) (by omega), e (o + 6) (by omega) (by omega), e (o + 7) (by omega) (by omega)]
  exact h
theorem XR.e {I I' : pm_I} {L : pm_L} {X : xS} (h : XR I L X) (e : ∀ a : Nat, (a ≤ 16 ∨ a = 22 ∨ a = 23 ∨ 32 ≤ a) → I' a = I a) : XR I' L X := by
  refine ⟨h.1.e (fun a _ _ => e a (by omega)), ?_, ?_, fun q hq => ⟨?_, (h.2.2.2 q hq).2⟩⟩
  · have h1 := h.2.1
    unfold XI at h1 ⊢
    split
    · rename_i hz; rw [hz] at h1; rw [e 0 (by omega)]; exact h1
    · rename_i s' hz
      rw [hz] at h1
      exact ⟨by rw [e 0 (by omega)]; exact h1.1, h1.2.e (fun a _ _ => e a (by omega))⟩
  · have h1 := h.2.2.1
    unfold XT at h1 ⊢
    rw [e 22 (by omega), e 23 (by omega)]; exact h1
  · have h1 := (h.2.2.2 q hq).1
    unfold XS at h1 ⊢
    rw [e (32 + 2 * q) (by omega)]; exact h1
theorem w_minI {a b : Nat} (ha : a < 2 ^ 31) (hb : b < 2 ^ 31) : (if nI a < nI b then nI a else nI b) = nI (if a < b then a else b) := by
  by_cases e : a < b
  · rw [if_pos e, if_pos (by rw [pm_ltI, nI_toInt ha, nI_toInt hb]; omega)]
  · rw [if_neg e, if_neg (by rw [pm_ltI, nI_toInt ha, nI_toInt hb]; omega)]
theorem w_or {x t : Nat} (hx : x < 16) (ht : t < 4) : (nI x ||| nI 1 <<< (nI t &&& 31)) &&& nI 15 = nI (x ||| 2 ^ t) := by
  rw [g_pow (by omega), fa_or, fa_and, show (15 : Nat) = 2 ^ 4 - 1 from rfl, Nat.and_two_pow_sub_one_eq_mod, Nat.mod_eq_of_lt (Nat.or_lt_two_pow (n := 4) hx (w_p16 ht))]
set_option maxRecDepth 100000 in
set_option maxHeartbeats 1000000 in
theorem c_astrayIn {I : pm_I} {L : pm_L} {s : gS} (hG : GR I 1 s) (hI : gInv s) {w t : Nat} (hw : w < 6) (ht : t < 4) : PC 2 0 0 yX8_astrayIn cX8_astrayIn 6 (some (.int)) [.ref 1, .int (nI w), .int (nI t)] GG I L (QR GG I L (nI (w_as s w t (g_n s)))) := by
  have h12 := hI.n12
  refine PC.of [some (.ref 1), some (.int (nI w)), some (.int (nI t)), none, none, none] (by decide) (Nat.le_of_ble_eq_true rfl) rfl (fun l P => ?_)
  refine pm_iconst (pc := 0) (v := nI 0) dX8_astrayIn_0 (by decide) ?_
  refine pm_istore_n (pc := 1) dX8_astrayIn_1 (by decide) rfl ?_
  refine pm_iconst (pc := 2) (v := nI 0) dX8_astrayIn_2 (by decide) ?_
  refine pm_istore (pc := 3) dX8_astrayIn_3 (by decide) rfl ?_
  have lp : ∀ (m i : Nat), i + m = g_n s → PW l P yX8_astrayIn cX8_astrayIn 6 (some (.int)) (pm_rm 2 0 0) (pm_Tg P (QR GG I L (nI (w_as s w t (g_n s)))) 0 0) 0 0 5 [some (.ref 1), some (.int (nI w)), some (.int (nI t)), some (.int (nI (w_as s w t i))), some (.int (nI i)), none] [] GG I L := by
    intro m
    induction m with
    | zero =>
      intro i hm
      have e : i = g_n s := by omega
      subst e
      refine pm_iload (pc := 5) dX8_astrayIn_5 rfl ?_
      refine pm_aload_n (pc := 7) dX8_astrayIn_7 rfl ?_
      refine pm_cVR (pc := 8) dX8_astrayIn_8 (c_pieces hG) wq_X2_pieces wm_X8_64 wi_X2_pieces ws_X2_pieces rfl rfl ⟨Nat.le_of_ble_eq_true rfl, Nat.le_of_ble_eq_true rfl⟩ ⟨Nat.le_of_ble_eq_true rfl, Nat.le_of_ble_eq_true rfl⟩ rfl (Nat.le_of_ble_eq_true rfl) ?_
      refine pm_icmp_ge (pc := 11) (tgt := 53) dX8_astrayIn_11 rfl (fun h11 => ?_) (fun h11 => (by simp (disch := omega) only [pm_eqI, pm_ltI, pm_leI, nI_toInt, pm_t0, pm_t1, pm_tm1] at h11; omega))
      refine pm_iload_n (pc := 53) dX8_astrayIn_53 rfl ?_
      refine pm_iret (pc := 54) rfl (Nat.le_refl _) (Nat.le_refl _) dX8_astrayIn_54 ?_
      exact QR.r rfl
    | succ m ih =>
      intro i hm
      have hj : i < g_n s := by omega
      have ho := ow_le hI hj
      have h7 := (hI.2.1 i hj).2.2.2.2
      have kw : nI (g_wh s i) = nI w ↔ g_wh s i = w := nI_eq (by omega) (by omega)
      have kt : nI (g_ow s i) = nI t ↔ g_ow s i = t := nI_eq (by omega) (by omega)
      have k4 : nI (g_ow s i) = nI 4 ↔ g_ow s i = 4 := nI_eq (by omega) (by omega)
      have hs : w_as s w t (i + 1) = w_as s w t i + w_aj s w t i := rfl
      refine pm_iload (pc := 5) dX8_astrayIn_5 rfl ?_
      refine pm_aload_n (pc := 7) dX8_astrayIn_7 rfl ?_
      refine pm_cVR (pc := 8) dX8_astrayIn_8 (c_pieces hG) wq_X2_pieces wm_X8_64 wi_X2_pieces ws_X2_pieces rfl rfl ⟨Nat.le_of_ble_eq_true rfl, Nat.le_of_ble_eq_true rfl⟩ ⟨Nat.le_of_ble_eq_true rfl, Nat.le_of_ble_eq_true rfl⟩ rfl (Nat.le_of_ble_eq_true rfl) ?_
      refine pm_icmp_ge (pc := 11) (tgt := 53) dX8_astrayIn_11 rfl (fun h11 => (by simp (disch := omega) only [pm_eqI, pm_ltI, pm_leI, nI_toInt, pm_t0, pm_t1, pm_tm1] at h11; omega)) (fun h11 => ?_)
      refine pm_aload_n (pc := 14) dX8_astrayIn_14 rfl ?_
      refine pm_iload (pc := 15) dX8_astrayIn_15 rfl ?_
      refine pm_cVR (pc := 17) dX8_astrayIn_17 (c_ownerOf hG hI hj) wq_X2_ownerOf wm_X8_28 wi_X2_ownerOf ws_X2_ownerOf rfl rfl ⟨Nat.le_of_ble_eq_true rfl, Nat.le_of_ble_eq_true rfl⟩ ⟨Nat.le_of_ble_eq_true rfl, Nat.le_of_ble_eq_true rfl⟩ rfl (Nat.le_of_ble_eq_true rfl) ?_
      refine pm_istore (pc := 20) dX8_astrayIn_20 (by decide) rfl ?_
      refine pm_aload_n (pc := 22) dX8_astrayIn_22 rfl ?_
      refine pm_iload (pc := 23) dX8_astrayIn_23 rfl ?_
      refine pm_cVR (pc := 25) dX8_astrayIn_25 (c_placeOf hG hI hj) wq_X2_placeOf wm_X8_68 wi_X2_placeOf ws_X2_placeOf rfl rfl ⟨Nat.le_of_ble_eq_true rfl, Nat.le_of_ble_eq_true rfl⟩ ⟨Nat.le_of_ble_eq_true rfl, Nat.le_of_ble_eq_true rfl⟩ rfl (Nat.le_of_ble_eq_true rfl) ?_
      refine pm_iload_n (pc := 28) dX8_astrayIn_28 rfl ?_
      refine pm_icmp_ne (pc := 29) (tgt := 47) dX8_astrayIn_29 rfl (fun h29 => ?_) (fun h29 => ?_)
      · rw [show w_aj s w t i = 0 from if_neg (fun z => h29 (kw.mpr z.1)), Nat.add_zero (w_as s w t i)] at hs
        refine pm_iinc (pc := 47) dX8_astrayIn_47 rfl (pm_inc1 _) (by decide) rfl ?_
        refine pm_goto (pc := 50) (tgt := 5) dX8_astrayIn_50 rfl ?_
        refine pm_kill 5 ?_
        rw [← hs]
        exact ih (i + 1) (by omega)
      · refine pm_iload (pc := 32) dX8_astrayIn_32 rfl ?_
        refine pm_iload_n (pc := 34) dX8_astrayIn_34 rfl ?_
        refine pm_icmp_eq (pc := 35) (tgt := 47) dX8_astrayIn_35 rfl (fun h35 => ?_) (fun h35 => ?_)
        · rw [show w_aj s w t i = 0 from if_neg (fun z => z.2.1 (kt.mp h35)), Nat.add_zero (w_as s w t i)] at hs
          refine pm_iinc (pc := 47) dX8_astrayIn_47 rfl (pm_inc1 _) (by decide) rfl ?_
          refine pm_goto (pc := 50) (tgt := 5) dX8_astrayIn_50 rfl ?_
          refine pm_kill 5 ?_
          rw [← hs]
          exact ih (i + 1) (by omega)
        · refine pm_iload (pc := 38) dX8_astrayIn_38 rfl ?_
          refine pm_iconst (pc := 40) (v := nI 4) dX8_astrayIn_40 (by decide) ?_
          refine pm_icmp_eq (pc := 41) (tgt := 47) dX8_astrayIn_41 rfl (fun h41 => ?_) (fun h41 => ?_)
          · rw [show w_aj s w t i = 0 from if_neg (fun z => z.2.2 (k4.mp h41)), Nat.add_zero (w_as s w t i)] at hs
            refine pm_iinc (pc := 47) dX8_astrayIn_47 rfl (pm_inc1 _) (by decide) rfl ?_
            refine pm_goto (pc := 50) (tgt := 5) dX8_astrayIn_50 rfl ?_
            refine pm_kill 5 ?_
            rw [← hs]
            exact ih (i + 1) (by omega)
          · rw [show w_aj s w t i = 1 from if_pos ⟨kw.mp (by simpa using h29), fun z => h35 (kt.mpr z), fun z => h41 (k4.mpr z)⟩] at hs
            refine pm_iinc (pc := 44) dX8_astrayIn_44 rfl (pm_inc1 _) (by decide) rfl ?_
            refine pm_iinc (pc := 47) dX8_astrayIn_47 rfl (pm_inc1 _) (by decide) rfl ?_
            refine pm_goto (pc := 50) (tgt := 5) dX8_astrayIn_50 rfl ?_
            refine pm_kill 5 ?_
            rw [← hs]
            exact ih (i + 1) (by omega)
  exact lp (g_n s) 0 (by omega)
set_option maxRecDepth 100000 in
set_option maxHeartbeats 1000000 in
theorem c_townsInPlaces {I : pm_I} {L : pm_L} {s : gS} (hG : GR I 1 s) (hI : gInv s) : PC 2 0 0 yX8_townsInPlaces cX8_townsInPlaces 4 (some (.int)) [.ref 1] GG I L (QR GG I L (nI (w_m s (g_n s)))) := by
  have h12 := hI.n12
  refine PC.of [some (.ref 1), none, none, none] (by decide) (Nat.le_of_ble_eq_true rfl) rfl (fun l P => ?_)
  refine pm_iconst (pc := 0) (v := nI 0) dX8_townsInPlaces_0 (by decide) ?_
  refine pm_istore_n (pc := 1) dX8_townsInPlaces_1 (by decide) rfl ?_
  refine pm_iconst (pc := 2) (v := nI 0) dX8_townsInPlaces_2 (by decide) ?_
  refine pm_istore_n (pc := 3) dX8_townsInPlaces_3 (by decide) rfl ?_
  have lp : ∀ (m i : Nat), i + m = g_n s → PW l P yX8_townsInPlaces cX8_townsInPlaces 4 (some (.int)) (pm_rm 2 0 0) (pm_Tg P (QR GG I L (nI (w_m s (g_n s)))) 0 0) 0 0 4 [some (.ref 1), some (.int (nI (w_m s i))), some (.int (nI i)), none] [] GG I L := by
    intro m
    induction m with
    | zero =>
      intro i hm
      have e : i = g_n s := by omega
      subst e
      refine pm_iload_n (pc := 4) dX8_townsInPlaces_4 rfl ?_
      refine pm_aload_n (pc := 5) dX8_townsInPlaces_5 rfl ?_
      refine pm_cVR (pc := 6) dX8_townsInPlaces_6 (c_pieces hG) wq_X2_pieces wm_X8_64 wi_X2_pieces ws_X2_pieces rfl rfl ⟨Nat.le_of_ble_eq_true rfl, Nat.le_of_ble_eq_true rfl⟩ ⟨Nat.le_of_ble_eq_true rfl, Nat.le_of_ble_eq_true rfl⟩ rfl (Nat.le_of_ble_eq_true rfl) ?_
      refine pm_icmp_ge (pc := 9) (tgt := 46) dX8_townsInPlaces_9 rfl (fun h9 => ?_) (fun h9 => (by simp (disch := omega) only [pm_eqI, pm_ltI, pm_leI, nI_toInt, pm_t0, pm_t1, pm_tm1] at h9; omega))
      refine pm_iload_n (pc := 46) dX8_townsInPlaces_46 rfl ?_
      refine pm_iret (pc := 47) rfl (Nat.le_refl _) (Nat.le_refl _) dX8_townsInPlaces_47 ?_
      exact QR.r rfl
    | succ m ih =>
      intro i hm
      have hj : i < g_n s := by omega
      have ho := ow_le hI hj
      have h7 := (hI.2.1 i hj).2.2.2.2
      have k6 : (0 ≤ nI (g_wh s i) ∧ nI (g_wh s i) < nI 6) ↔ g_wh s i < 6 := by simp (disch := omega) only [pm_ltI, pm_leI, nI_toInt, pm_t0]; omega
      have k4 : nI (g_ow s i) = nI 4 ↔ g_ow s i = 4 := nI_eq (by omega) (by omega)
      have hs : w_m s (i + 1) = w_m s i ||| (if g_wh s i < 6 ∧ g_ow s i < 4 then 2 ^ g_ow s i else 0) := rfl
      refine pm_iload_n (pc := 4) dX8_townsInPlaces_4 rfl ?_
      refine pm_aload_n (pc := 5) dX8_townsInPlaces_5 rfl ?_
      refine pm_cVR (pc := 6) dX8_townsInPlaces_6 (c_pieces hG) wq_X2_pieces wm_X8_64 wi_X2_pieces ws_X2_pieces rfl rfl ⟨Nat.le_of_ble_eq_true rfl, Nat.le_of_ble_eq_true rfl⟩ ⟨Nat.le_of_ble_eq_true rfl, Nat.le_of_ble_eq_true rfl⟩ rfl (Nat.le_of_ble_eq_true rfl) ?_
      refine pm_icmp_ge (pc := 9) (tgt := 46) dX8_townsInPlaces_9 rfl (fun h9 => (by simp (disch := omega) only [pm_eqI, pm_ltI, pm_leI, nI_toInt, pm_t0, pm_t1, pm_tm1] at h9; omega)) (fun h9 => ?_)
      refine pm_aload_n (pc := 12) dX8_townsInPlaces_12 rfl ?_
      refine pm_iload_n (pc := 13) dX8_townsInPlaces_13 rfl ?_
      refine pm_cVR (pc := 14) dX8_townsInPlaces_14 (c_ownerOf hG hI hj) wq_X2_ownerOf wm_X8_28 wi_X2_ownerOf ws_X2_ownerOf rfl rfl ⟨Nat.le_of_ble_eq_true rfl, Nat.le_of_ble_eq_true rfl⟩ ⟨Nat.le_of_ble_eq_true rfl, Nat.le_of_ble_eq_true rfl⟩ rfl (Nat.le_of_ble_eq_true rfl) ?_
      refine pm_istore_n (pc := 17) dX8_townsInPlaces_17 (by decide) rfl ?_
      refine pm_aload_n (pc := 18) dX8_townsInPlaces_18 rfl ?_
      refine pm_iload_n (pc := 19) dX8_townsInPlaces_19 rfl ?_
      refine pm_cVR (pc := 20) dX8_townsInPlaces_20 (c_placeOf hG hI hj) wq_X2_placeOf wm_X8_68 wi_X2_placeOf ws_X2_placeOf rfl rfl ⟨Nat.le_of_ble_eq_true rfl, Nat.le_of_ble_eq_true rfl⟩ ⟨Nat.le_of_ble_eq_true rfl, Nat.le_of_ble_eq_true rfl⟩ rfl (Nat.le_of_ble_eq_true rfl) ?_
      refine pm_cSNR (hst := RX9) (pc := 23) dX8_townsInPlaces_23 (c_isPlace) wq_X9_isPlace (by decide +kernel) wt_X9_isPlace ⟨Nat.le_of_ble_eq_true rfl, Nat.le_of_ble_eq_true rfl⟩ ⟨Nat.le_of_ble_eq_true rfl, Nat.le_of_ble_eq_true rfl⟩ rfl (Nat.le_of_ble_eq_true rfl) ?_
      refine pm_if_eq (pc := 26) (tgt := 40) dX8_townsInPlaces_26 rfl (fun h26 => ?_) (fun h26 => ?_)
      · rw [if_neg (fun z => b1_0.mp h26 (k6.mpr z.1)), Nat.or_zero] at hs
        refine pm_iinc (pc := 40) dX8_townsInPlaces_40 rfl (pm_inc1 _) (by decide) rfl ?_
        refine pm_goto (pc := 43) (tgt := 4) dX8_townsInPlaces_43 rfl ?_
        refine pm_kill 3 ?_
        rw [← hs]
        exact ih (i + 1) (by omega)
      · refine pm_iload_n (pc := 29) dX8_townsInPlaces_29 rfl ?_
        refine pm_iconst (pc := 30) (v := nI 4) dX8_townsInPlaces_30 (by decide) ?_
        refine pm_icmp_eq (pc := 31) (tgt := 40) dX8_townsInPlaces_31 rfl (fun h31 => ?_) (fun h31 => ?_)
        · rw [if_neg (fun z => by have := k4.mp h31; omega), Nat.or_zero] at hs
          refine pm_iinc (pc := 40) dX8_townsInPlaces_40 rfl (pm_inc1 _) (by decide) rfl ?_
          refine pm_goto (pc := 43) (tgt := 4) dX8_townsInPlaces_43 rfl ?_
          refine pm_kill 3 ?_
          rw [← hs]
          exact ih (i + 1) (by omega)
        · rw [if_pos ⟨k6.mp (Classical.not_not.mp (fun z => h26 (b1_0.mpr z))), by have q : ¬ g_ow s i = 4 := fun z => h31 (k4.mpr z); omega⟩] at hs
          refine pm_iload_n (pc := 34) dX8_townsInPlaces_34 rfl ?_
          refine pm_iconst (pc := 35) (v := nI 1) dX8_townsInPlaces_35 (by decide) ?_
          refine pm_iload_n (pc := 36) dX8_townsInPlaces_36 rfl ?_
          refine pm_ishl (pc := 37) dX8_townsInPlaces_37 ?_
          refine pm_ior (pc := 38) dX8_townsInPlaces_38 ?_
          refine pm_top (x' := nI (w_m s i ||| 2 ^ g_ow s i)) (by rw [g_pow (by omega), fa_or]) ?_
          refine pm_istore_n (pc := 39) dX8_townsInPlaces_39 (by decide) rfl ?_
          refine pm_iinc (pc := 40) dX8_townsInPlaces_40 rfl (pm_inc1 _) (by decide) rfl ?_
          refine pm_goto (pc := 43) (tgt := 4) dX8_townsInPlaces_43 rfl ?_
          refine pm_kill 3 ?_
          rw [← hs]
          exact ih (i + 1) (by omega)
  exact lp (g_n s) 0 (by omega)
set_option maxRecDepth 100000 in
set_option maxHeartbeats 1000000 in
theorem l_gv28 {I : pm_I} {L : pm_L} {s : gS} (hG : GR I 1 s) (hI : gInv s) {w : Nat} (hw : w < 6) {F : Nat → Nat} (hT : w_T s w F) (hF : ∀ x, x < 16 → I 20 x = nI (F x)) {la : Launch} {P : pm_E} {t : Nat} (ht : t < 4) (k79 : ∀ (J : pm_I) (N : Nat → Nat), (∀ a : Nat, a ≠ 21 → J a = I a) → (∀ y, y < 16 → J 21 y = nI (N y)) → w_U s w F t 16 N → PW la P yX8_give cX8_give 7 none (pm_rm 3 0 0) (pm_Tg P (QV GG (fun I' L' => (∃ N : Nat → Nat, w_T s (w + 1) N ∧ ∀ x, x < 16 → I' 20 x = nI (N x)) ∧ (∀ a : Nat, a ≠ 20 → a ≠ 21 → I' a = I a) ∧ L' = L)) 0 0) 0 0 79 [some (.ref 19), some (.ref 1), some (.int (nI w)), some (.int (nI t)), none, none, none] [] GG J L) : ∀ (m x : Nat), x + m = 16 → ∀ (J : pm_I) (N : Nat → Nat), (∀ a : Nat, a ≠ 21 → J a = I a) → (∀ y, y < 16 → J 21 y = nI (N y)) → w_U s w F t x N → PW la P yX8_give cX8_give 7 none (pm_rm 3 0 0) (pm_Tg P (QV GG (fun I' L' => (∃ N : Nat → Nat, w_T s (w + 1) N ∧ ∀ x, x < 16 → I' 20 x = nI (N x)) ∧ (∀ a : Nat, a ≠ 20 → a ≠ 21 → I' a = I a) ∧ L' = L)) 0 0) 0 0 28 [some (.ref 19), some (.ref 1), some (.int (nI w)), some (.int (nI t)), some (.int (nI (w_as s w t (g_n s)))), some (.int (nI x)), none] [] GG J L
  | 0, x, hm, J, N, e1, e2, hU => by
    have e : x = 16 := by omega
    subst e
    refine pm_iload (pc := 28) dX8_give_28 rfl ?_
    refine pm_bipush (pc := 30) (v := nI 16) dX8_give_30 (by decide) ?_
    refine pm_icmp_ge (pc := 32) (tgt := 79) dX8_give_32 rfl (fun h32 => ?_) (fun h32 => (by simp (disch := omega) only [pm_eqI, pm_ltI, pm_leI, nI_toInt, pm_t0, pm_t1, pm_tm1] at h32; omega))
    refine pm_kill 4 ?_
    refine pm_kill 5 ?_
    exact k79 J N e1 e2 hU
  | m + 1, x, hm, J, N, e1, e2, hU => by
    have hx : x < 16 := by omega
    have hgl : x ||| 2 ^ t < 16 := Nat.or_lt_two_pow (n := 4) hx (w_p16 ht)
    have hA := w_as_le s w t (g_n s)
    have h12 := hI.n12
    have hFx := hT.2.1 x hx
    have hNg := hU.2.1 _ hgl
    have eF : J 20 x = nI (F x) := by rw [e1 20 (by decide)]; exact hF x hx
    have eN := e2 _ hgl
    refine pm_iload (pc := 28) dX8_give_28 rfl ?_
    refine pm_bipush (pc := 30) (v := nI 16) dX8_give_30 (by decide) ?_
    refine pm_icmp_ge (pc := 32) (tgt := 79) dX8_give_32 rfl (fun h32 => (by simp (disch := omega) only [pm_eqI, pm_ltI, pm_leI, nI_toInt, pm_t0, pm_t1, pm_tm1] at h32; omega)) (fun h32 => ?_)
    refine pm_iload (pc := 35) dX8_give_35 rfl ?_
    refine pm_iconst (pc := 37) (v := nI 1) dX8_give_37 (by decide) ?_
    refine pm_iload_n (pc := 38) dX8_give_38 rfl ?_
    refine pm_ishl (pc := 39) dX8_give_39 ?_
    refine pm_ior (pc := 40) dX8_give_40 ?_
    refine pm_bipush (pc := 41) (v := nI 15) dX8_give_41 (by decide) ?_
    refine pm_iand (pc := 43) dX8_give_43 ?_
    refine pm_top (w_or hx ht) ?_
    refine pm_istore (pc := 44) dX8_give_44 (by decide) rfl ?_
    refine pm_aload_n (pc := 46) dX8_give_46 rfl ?_
    refine pm_getr (pc := 47) (ci := 6) (C0 := RX8) (T := TX8) (N := 2) (j := 1) rfl rfl in_X8 (by decide) wf_X8_15 rfl dX8_give_47 ?_
    refine pm_iload (pc := 50) dX8_give_50 rfl ?_
    refine pm_aload_n (pc := 52) dX8_give_52 rfl ?_
    refine pm_getr (pc := 53) (ci := 6) (C0 := RX8) (T := TX8) (N := 2) (j := 1) rfl rfl in_X8 (by decide) wf_X8_15 rfl dX8_give_53 ?_
    refine pm_iload (pc := 56) dX8_give_56 rfl ?_
    refine pm_iald (pc := 58) rfl hgl (by decide) dX8_give_58 ?_
    rw [eN]
    refine pm_aload_n (pc := 59) dX8_give_59 rfl ?_
    refine pm_getr (pc := 60) (ci := 6) (C0 := RX8) (T := TX8) (N := 2) (j := 0) rfl rfl in_X8 (by decide) wf_X8_9 rfl dX8_give_60 ?_
    refine pm_iload (pc := 63) dX8_give_63 rfl ?_
    refine pm_iald (pc := 65) rfl hx (by decide) dX8_give_65 ?_
    rw [eF]
    refine pm_iload (pc := 66) dX8_give_66 rfl ?_
    refine pm_iadd (pc := 68) dX8_give_68 ?_
    refine pm_top (nI_add _ _) ?_
    refine pm_mmin (pc := 69) wm_X8_48 wt_mmin wz_math wo_mmin ⟨Nat.le_of_ble_eq_true rfl, Nat.le_of_ble_eq_true rfl, Nat.le_of_ble_eq_true rfl, Nat.le_of_ble_eq_true rfl⟩ (Nat.le_of_ble_eq_true rfl) dX8_give_69 ?_
    refine pm_top (w_minI (by omega) (by omega)) ?_
    refine pm_iast (pc := 72) rfl hgl (by decide) dX8_give_72 ?_
    refine pm_iinc (pc := 73) dX8_give_73 rfl (pm_inc1 _) (by decide) rfl ?_
    refine pm_goto (pc := 76) (tgt := 28) dX8_give_76 rfl ?_
    refine pm_kill 6 ?_
    refine l_gv28 hG hI hw hT hF ht k79 m (x + 1) (by omega) _ (w_n F N (x ||| 2 ^ t) x (w_as s w t (g_n s))) (fun a ha => (pm_un ha).trans (e1 a ha)) (fun y hy => ?_) (w_U_x hU ht hx)
    rw [pm_us]
    unfold upd w_n
    by_cases e : y = x ||| 2 ^ t
    · rw [if_pos e, if_pos e]
    · rw [if_neg e, if_neg e]; exact e2 y hy
set_option maxRecDepth 100000 in
set_option maxHeartbeats 1000000 in
theorem l_gv12 {I : pm_I} {L : pm_L} {s : gS} (hG : GR I 1 s) (hI : gInv s) {w : Nat} (hw : w < 6) {F : Nat → Nat} (hT : w_T s w F) (hF : ∀ x, x < 16 → I 20 x = nI (F x)) {la : Launch} {P : pm_E} : ∀ (m t : Nat), t + m = 4 → ∀ (J : pm_I) (N : Nat → Nat), (∀ a : Nat, a ≠ 21 → J a = I a) → (∀ y, y < 16 → J 21 y = nI (N y)) → w_U s w F t 0 N → PW la P yX8_give cX8_give 7 none (pm_rm 3 0 0) (pm_Tg P (QV GG (fun I' L' => (∃ N : Nat → Nat, w_T s (w + 1) N ∧ ∀ x, x < 16 → I' 20 x = nI (N x)) ∧ (∀ a : Nat, a ≠ 20 → a ≠ 21 → I' a = I a) ∧ L' = L)) 0 0) 0 0 12 [some (.ref 19), some (.ref 1), some (.int (nI w)), some (.int (nI t)), none, none, none] [] GG J L
  | 0, t, hm, J, N, e1, e2, hU => by
    have e : t = 4 := by omega
    subst e
    refine pm_iload_n (pc := 12) dX8_give_12 rfl ?_
    refine pm_iconst (pc := 13) (v := nI 4) dX8_give_13 (by decide) ?_
    refine pm_icmp_ge (pc := 14) (tgt := 85) dX8_give_14 rfl (fun h14 => ?_) (fun h14 => (by simp (disch := omega) only [pm_eqI, pm_ltI, pm_leI, nI_toInt, pm_t0, pm_t1, pm_tm1] at h14; omega))
    refine pm_aload_n (pc := 85) dX8_give_85 rfl ?_
    refine pm_getr (pc := 86) (ci := 6) (C0 := RX8) (T := TX8) (N := 2) (j := 1) rfl rfl in_X8 (by decide) wf_X8_15 rfl dX8_give_86 ?_
    refine pm_iconst (pc := 89) (v := nI 0) dX8_give_89 (by decide) ?_
    refine pm_aload_n (pc := 90) dX8_give_90 rfl ?_
    refine pm_getr (pc := 91) (ci := 6) (C0 := RX8) (T := TX8) (N := 2) (j := 0) rfl rfl in_X8 (by decide) wf_X8_9 rfl dX8_give_91 ?_
    refine pm_iconst (pc := 94) (v := nI 0) dX8_give_94 (by decide) ?_
    refine pm_bipush (pc := 95) (v := nI 16) dX8_give_95 (by decide) ?_
    refine pm_copyi (pc := 97) wm_X8_58 wna wta wz_sys rfl rfl (by decide) (by decide) (by decide) (by decide) (by decide) ⟨Nat.le_of_ble_eq_true rfl, Nat.le_of_ble_eq_true rfl⟩ (Nat.le_of_ble_eq_true rfl) dX8_give_97 ?_
    refine pm_vret (pc := 100) rfl (Nat.le_refl _) (Nat.le_refl _) dX8_give_100 ?_
    refine QV.r ⟨⟨N, w_T_succ hI hT hU, fun x hx => ?_⟩, fun a ha hb => (pm_un ha).trans (e1 a hb), rfl⟩
    rw [pm_us]
    exact (pm_cp hx (by decide)).trans (e2 x hx)
  | m + 1, t, hm, J, N, e1, e2, hU => by
    have ht : t < 4 := by omega
    have hGJ : GR J 1 s := hG.e (fun a h1 h2 => e1 a (by omega))
    have k79 : ∀ (J : pm_I) (N : Nat → Nat), (∀ a : Nat, a ≠ 21 → J a = I a) → (∀ y, y < 16 → J 21 y = nI (N y)) → w_U s w F t 16 N → PW la P yX8_give cX8_give 7 none (pm_rm 3 0 0) (pm_Tg P (QV GG (fun I' L' => (∃ N : Nat → Nat, w_T s (w + 1) N ∧ ∀ x, x < 16 → I' 20 x = nI (N x)) ∧ (∀ a : Nat, a ≠ 20 → a ≠ 21 → I' a = I a) ∧ L' = L)) 0 0) 0 0 79 [some (.ref 19), some (.ref 1), some (.int (nI w)), some (.int (nI t)), none, none, none] [] GG J L := fun J N e1 e2 hU => by
      refine pm_iinc (pc := 79) dX8_give_79 rfl (pm_inc1 _) (by decide) rfl ?_
      refine pm_goto (pc := 82) (tgt := 12) dX8_give_82 rfl ?_
      exact l_gv12 hG hI hw hT hF m (t + 1) (by omega) J N e1 e2 (w_U_t hU)
    refine pm_iload_n (pc := 12) dX8_give_12 rfl ?_
    refine pm_iconst (pc := 13) (v := nI 4) dX8_give_13 (by decide) ?_
    refine pm_icmp_ge (pc := 14) (tgt := 85) dX8_give_14 rfl (fun h14 => (by simp (disch := omega) only [pm_eqI, pm_ltI, pm_leI, nI_toInt, pm_t0, pm_t1, pm_tm1] at h14; omega)) (fun h14 => ?_)
    refine pm_aload_n (pc := 17) dX8_give_17 rfl ?_
    refine pm_iload_n (pc := 18) dX8_give_18 rfl ?_
    refine pm_iload_n (pc := 19) dX8_give_19 rfl ?_
    refine pm_cSR (pc := 20) dX8_give_20 (c_astrayIn hGJ hI hw ht) wq_X8_astrayIn wm_X8_54 wt_X8_astrayIn ⟨Nat.le_of_ble_eq_true rfl, Nat.le_of_ble_eq_true rfl⟩ ⟨Nat.le_of_ble_eq_true rfl, Nat.le_of_ble_eq_true rfl⟩ rfl (Nat.le_of_ble_eq_true rfl) ?_
    refine pm_istore (pc := 23) dX8_give_23 (by decide) rfl ?_
    refine pm_iconst (pc := 25) (v := nI 0) dX8_give_25 (by decide) ?_
    refine pm_istore (pc := 26) dX8_give_26 (by decide) rfl ?_
    exact l_gv28 hG hI hw hT hF ht k79 16 0 (by omega) J N e1 e2 hU
set_option maxRecDepth 100000 in
set_option maxHeartbeats 1000000 in
theorem c_give {I : pm_I} {L : pm_L} {s : gS} (hG : GR I 1 s) (hI : gInv s) {w : Nat} (hw : w < 6) {F : Nat → Nat} (hT : w_T s w F) (hF : ∀ x, x < 16 → I 20 x = nI (F x)) : PC 3 0 0 yX8_give cX8_give 7 none [.ref 19, .ref 1, .int (nI w)] GG I L (QV GG (fun I' L' => (∃ N : Nat → Nat, w_T s (w + 1) N ∧ ∀ x, x < 16 → I' 20 x = nI (N x)) ∧ (∀ a : Nat, a ≠ 20 → a ≠ 21 → I' a = I a) ∧ L' = L)) := by
  refine PC.of [some (.ref 19), some (.ref 1), some (.int (nI w)), none, none, none, none] (by decide) (Nat.le_of_ble_eq_true rfl) rfl (fun l P => ?_)
  refine pm_aload_n (pc := 0) dX8_give_0 rfl ?_
  refine pm_getr (pc := 1) (ci := 6) (C0 := RX8) (T := TX8) (N := 2) (j := 1) rfl rfl in_X8 (by decide) wf_X8_15 rfl dX8_give_1 ?_
  refine pm_sipush (pc := 4) (v := nI 1000) dX8_give_4 (by decide) ?_
  refine pm_cSV (pc := 7) dX8_give_7 (c_fill (N := 16) (o := 21) rfl (by decide)) wq_J7_fill_53178 wm_X8_34 wt_J7_fill_53178 ⟨Nat.le_of_ble_eq_true rfl, Nat.le_of_ble_eq_true rfl⟩ ⟨Nat.le_of_ble_eq_true rfl, Nat.le_of_ble_eq_true rfl⟩ rfl (Nat.le_of_ble_eq_true rfl) (fun I7 L7 q7 => ?_)
  obtain ⟨qx, ql⟩ := q7
  subst ql
  subst qx
  refine pm_iconst (pc := 10) (v := nI 0) dX8_give_10 (by decide) ?_
  refine pm_istore_n (pc := 11) dX8_give_11 (by decide) rfl ?_
  exact l_gv12 hG hI hw hT hF 4 0 (by omega) _ (fun _ => 1000) (fun a ha => pm_un ha) (fun y hy => by rw [pm_us]; exact fa_fill_in hy) (w_U_0 s w F)
set_option maxRecDepth 100000 in
set_option maxHeartbeats 1000000 in
theorem l_fa49 {I : pm_I} {L : pm_L} {s : gS} (hG : GR I 1 s) (hI : gInv s) {la : Launch} {P : pm_E} {J : pm_I} {F : Nat → Nat} (hT : w_T s 6 F) (e1 : ∀ a : Nat, a ≠ 20 → a ≠ 21 → J a = I a) (e2 : ∀ x, x < 16 → J 20 x = nI (F x)) : ∀ (m i : Nat), i + m = 16 → PW la P yX8_fewestAstray cX8_fewestAstray 5 (some (.int)) (pm_rm 4 0 0) (pm_Tg P (QI GG (fun r I' L' => r = nI (w_min s 4096) ∧ (∀ a : Nat, a ≠ 20 → a ≠ 21 → I' a = I a) ∧ L' = L)) 0 0) 0 0 49 [some (.ref 19), some (.ref 1), some (.int (nI (w_m s (g_n s)))), some (.int (nI (w_r F (w_m s (g_n s)) i))), some (.int (nI i))] [] GG J L
  | 0, i, hm => by
    have e : i = 16 := by omega
    subst e
    refine pm_iload (pc := 49) dX8_fewestAstray_49 rfl ?_
    refine pm_bipush (pc := 51) (v := nI 16) dX8_fewestAstray_51 (by decide) ?_
    refine pm_icmp_ge (pc := 53) (tgt := 82) dX8_fewestAstray_53 rfl (fun h53 => ?_) (fun h53 => (by simp (disch := omega) only [pm_eqI, pm_ltI, pm_leI, nI_toInt, pm_t0, pm_t1, pm_tm1] at h53; omega))
    refine pm_iload_n (pc := 82) dX8_fewestAstray_82 rfl ?_
    refine pm_iret (pc := 83) rfl (Nat.le_refl _) (Nat.le_refl _) dX8_fewestAstray_83 ?_
    exact QI.r ⟨congrArg nI (w_last hI hT), e1, rfl⟩
  | m + 1, i, hm => by
    have hi : i < 16 := by omega
    have hFi := hT.2.1 i hi
    have hr := w_r_1000 F (w_m s (g_n s)) i
    have hm4 := w_m_lt (s := s) (g_n s)
    have hai : i &&& (w_m s (g_n s)) < 16 := Nat.lt_of_le_of_lt Nat.and_le_left hi
    have km : nI (i &&& (w_m s (g_n s))) = nI (w_m s (g_n s)) ↔ i &&& (w_m s (g_n s)) = (w_m s (g_n s)) := nI_eq (by omega) (by omega)
    have k9 := l_fa49 hG hI hT e1 e2 m (i + 1) (by omega) (L := L) (la := la) (P := P)
    rw [show w_r F (w_m s (g_n s)) (i + 1) = (if i &&& (w_m s (g_n s)) = (w_m s (g_n s)) then (if F i < w_r F (w_m s (g_n s)) i then F i else w_r F (w_m s (g_n s)) i) else w_r F (w_m s (g_n s)) i) from rfl] at k9
    refine pm_iload (pc := 49) dX8_fewestAstray_49 rfl ?_
    refine pm_bipush (pc := 51) (v := nI 16) dX8_fewestAstray_51 (by decide) ?_
    refine pm_icmp_ge (pc := 53) (tgt := 82) dX8_fewestAstray_53 rfl (fun h53 => (by simp (disch := omega) only [pm_eqI, pm_ltI, pm_leI, nI_toInt, pm_t0, pm_t1, pm_tm1] at h53; omega)) (fun h53 => ?_)
    refine pm_iload (pc := 56) dX8_fewestAstray_56 rfl ?_
    refine pm_iload_n (pc := 58) dX8_fewestAstray_58 rfl ?_
    refine pm_iand (pc := 59) dX8_fewestAstray_59 ?_
    refine pm_top (fa_and _ _) ?_
    refine pm_iload_n (pc := 60) dX8_fewestAstray_60 rfl ?_
    refine pm_icmp_ne (pc := 61) (tgt := 76) dX8_fewestAstray_61 rfl (fun h61 => ?_) (fun h61 => ?_)
    · rw [if_neg (fun z => h61 (km.mpr z))] at k9
      refine pm_iinc (pc := 76) dX8_fewestAstray_76 rfl (pm_inc1 _) (by decide) rfl ?_
      refine pm_goto (pc := 79) (tgt := 49) dX8_fewestAstray_79 rfl ?_
      exact k9
    · rw [if_pos (km.mp h61)] at k9
      refine pm_iload_n (pc := 64) dX8_fewestAstray_64 rfl ?_
      refine pm_aload_n (pc := 65) dX8_fewestAstray_65 rfl ?_
      refine pm_getr (pc := 66) (ci := 6) (C0 := RX8) (T := TX8) (N := 2) (j := 0) rfl rfl in_X8 (by decide) wf_X8_9 rfl dX8_fewestAstray_66 ?_
      refine pm_iload (pc := 69) dX8_fewestAstray_69 rfl ?_
      refine pm_iald (pc := 71) rfl hi (by decide) dX8_fewestAstray_71 ?_
      rw [e2 i hi]
      refine pm_mmin (pc := 72) wm_X8_48 wt_mmin wz_math wo_mmin ⟨Nat.le_of_ble_eq_true rfl, Nat.le_of_ble_eq_true rfl, Nat.le_of_ble_eq_true rfl, Nat.le_of_ble_eq_true rfl⟩ (Nat.le_of_ble_eq_true rfl) dX8_fewestAstray_72 ?_
      refine pm_top (w_minI (by omega) (by omega)) ?_
      refine pm_istore_n (pc := 75) dX8_fewestAstray_75 (by decide) rfl ?_
      refine pm_iinc (pc := 76) dX8_fewestAstray_76 rfl (pm_inc1 _) (by decide) rfl ?_
      refine pm_goto (pc := 79) (tgt := 49) dX8_fewestAstray_79 rfl ?_
      exact k9
set_option maxRecDepth 100000 in
set_option maxHeartbeats 1000000 in
theorem l_fa19 {I : pm_I} {L : pm_L} {s : gS} (hG : GR I 1 s) (hI : gInv s) {la : Launch} {P : pm_E} : ∀ (m i : Nat), i + m = 6 → ∀ (J : pm_I) (F : Nat → Nat), w_T s i F → (∀ a : Nat, a ≠ 20 → a ≠ 21 → J a = I a) → (∀ x, x < 16 → J 20 x = nI (F x)) → PW la P yX8_fewestAstray cX8_fewestAstray 5 (some (.int)) (pm_rm 4 0 0) (pm_Tg P (QI GG (fun r I' L' => r = nI (w_min s 4096) ∧ (∀ a : Nat, a ≠ 20 → a ≠ 21 → I' a = I a) ∧ L' = L)) 0 0) 0 0 19 [some (.ref 19), some (.ref 1), some (.int (nI i)), none, none] [] GG J L
  | 0, i, hm, J, F, hT, e1, e2 => by
    have e : i = 6 := by omega
    subst e
    have hGJ : GR J 1 s := hG.e (fun a h1 h2 => e1 a (by omega) (by omega))
    refine pm_iload_n (pc := 19) dX8_fewestAstray_19 rfl ?_
    refine pm_bipush (pc := 20) (v := nI 6) dX8_fewestAstray_20 (by decide) ?_
    refine pm_icmp_ge (pc := 22) (tgt := 37) dX8_fewestAstray_22 rfl (fun h22 => ?_) (fun h22 => (by simp (disch := omega) only [pm_eqI, pm_ltI, pm_leI, nI_toInt, pm_t0, pm_t1, pm_tm1] at h22; omega))
    refine pm_aload_n (pc := 37) dX8_fewestAstray_37 rfl ?_
    refine pm_cSR (pc := 38) dX8_fewestAstray_38 (c_townsInPlaces hGJ hI) wq_X8_townsInPlaces wm_X8_44 wt_X8_townsInPlaces ⟨Nat.le_of_ble_eq_true rfl, Nat.le_of_ble_eq_true rfl⟩ ⟨Nat.le_of_ble_eq_true rfl, Nat.le_of_ble_eq_true rfl⟩ rfl (Nat.le_of_ble_eq_true rfl) ?_
    refine pm_istore_n (pc := 41) dX8_fewestAstray_41 (by decide) rfl ?_
    refine pm_sipush (pc := 42) (v := nI 1000) dX8_fewestAstray_42 (by decide) ?_
    refine pm_istore_n (pc := 45) dX8_fewestAstray_45 (by decide) rfl ?_
    refine pm_iconst (pc := 46) (v := nI 0) dX8_fewestAstray_46 (by decide) ?_
    refine pm_istore (pc := 47) dX8_fewestAstray_47 (by decide) rfl ?_
    exact l_fa49 hG hI hT e1 e2 16 0 (by omega)
  | m + 1, i, hm, J, F, hT, e1, e2 => by
    have hi : i < 6 := by omega
    have hGJ : GR J 1 s := hG.e (fun a h1 h2 => e1 a (by omega) (by omega))
    refine pm_iload_n (pc := 19) dX8_fewestAstray_19 rfl ?_
    refine pm_bipush (pc := 20) (v := nI 6) dX8_fewestAstray_20 (by decide) ?_
    refine pm_icmp_ge (pc := 22) (tgt := 37) dX8_fewestAstray_22 rfl (fun h22 => (by simp (disch := omega) only [pm_eqI, pm_ltI, pm_leI, nI_toInt, pm_t0, pm_t1, pm_tm1] at h22; omega)) (fun h22 => ?_)
    refine pm_aload_n (pc := 25) dX8_fewestAstray_25 rfl ?_
    refine pm_aload_n (pc := 26) dX8_fewestAstray_26 rfl ?_
    refine pm_iload_n (pc := 27) dX8_fewestAstray_27 rfl ?_
    refine pm_cVV (pc := 28) dX8_fewestAstray_28 (c_give hGJ hI hi hT e2) wq_X8_give wm_X8_40 wi_X8_give ws_X8_give rfl rfl ⟨Nat.le_of_ble_eq_true rfl, Nat.le_of_ble_eq_true rfl⟩ ⟨Nat.le_of_ble_eq_true rfl, Nat.le_of_ble_eq_true rfl⟩ rfl (Nat.le_of_ble_eq_true rfl) (fun I28 L28 q28 => ?_)
    obtain ⟨⟨N, hN, eN⟩, eg, el⟩ := q28
    subst el
    refine pm_iinc (pc := 31) dX8_fewestAstray_31 rfl (pm_inc1 _) (by decide) rfl ?_
    refine pm_goto (pc := 34) (tgt := 19) dX8_fewestAstray_34 rfl ?_
    exact l_fa19 hG hI m (i + 1) (by omega) _ N hN (fun a ha hb => (eg a ha hb).trans (e1 a ha hb)) eN
set_option maxRecDepth 100000 in
set_option maxHeartbeats 1000000 in
theorem c_fewestAstray {I : pm_I} {L : pm_L} {s : gS} (hG : GR I 1 s) (hI : gInv s) : PC 4 0 0 yX8_fewestAstray cX8_fewestAstray 5 (some (.int)) [.ref 19, .ref 1] GG I L (QI GG (fun r I' L' => r = nI (w_min s 4096) ∧ (∀ a : Nat, a ≠ 20 → a ≠ 21 → I' a = I a) ∧ L' = L)) := by
  refine PC.of [some (.ref 19), some (.ref 1), none, none, none] (by decide) (Nat.le_of_ble_eq_true rfl) rfl (fun l P => ?_)
  refine pm_aload_n (pc := 0) dX8_fewestAstray_0 rfl ?_
  refine pm_getr (pc := 1) (ci := 6) (C0 := RX8) (T := TX8) (N := 2) (j := 0) rfl rfl in_X8 (by decide) wf_X8_9 rfl dX8_fewestAstray_1 ?_
  refine pm_sipush (pc := 4) (v := nI 1000) dX8_fewestAstray_4 (by decide) ?_
  refine pm_cSV (pc := 7) dX8_fewestAstray_7 (c_fill (N := 16) (o := 20) rfl (by decide)) wq_J7_fill_53178 wm_X8_34 wt_J7_fill_53178 ⟨Nat.le_of_ble_eq_true rfl, Nat.le_of_ble_eq_true rfl⟩ ⟨Nat.le_of_ble_eq_true rfl, Nat.le_of_ble_eq_true rfl⟩ rfl (Nat.le_of_ble_eq_true rfl) (fun I7 L7 q7 => ?_)
  obtain ⟨qx, ql⟩ := q7
  subst ql
  subst qx
  refine pm_aload_n (pc := 10) dX8_fewestAstray_10 rfl ?_
  refine pm_getr (pc := 11) (ci := 6) (C0 := RX8) (T := TX8) (N := 2) (j := 0) rfl rfl in_X8 (by decide) wf_X8_9 rfl dX8_fewestAstray_11 ?_
  refine pm_iconst (pc := 14) (v := nI 0) dX8_fewestAstray_14 (by decide) ?_
  refine pm_iconst (pc := 15) (v := nI 0) dX8_fewestAstray_15 (by decide) ?_
  refine pm_iast (pc := 16) rfl (by omega) (by decide) dX8_fewestAstray_16 ?_
  refine pm_iconst (pc := 17) (v := nI 0) dX8_fewestAstray_17 (by decide) ?_
  refine pm_istore_n (pc := 18) dX8_fewestAstray_18 (by decide) rfl ?_
  refine l_fa19 hG hI 6 0 (by omega) _ _ (w_T_0 s) (fun a ha hb => ?_) (fun x hx => ?_)
  · rw [pm_un ha, pm_un ha]
  · rw [pm_us]
    unfold upd
    by_cases e : x = 0
    · rw [if_pos e, if_pos e]
    · rw [if_neg e, if_neg e, pm_us]; exact fa_fill_in hx
set_option maxRecDepth 100000 in
set_option maxHeartbeats 1000000 in
theorem x_own {I : pm_I} {L : pm_L} {X : xS} (hR : XR I L X) (hX : xInv X) : PC 5 0 0 yX9_own cX9_own 1 (some (.int)) [.ref 0] GG I L (XQ I L (sp_own X).1 (sp_own X).2) := by
  refine PC.of [some (.ref 0)] (by decide) (Nat.le_of_ble_eq_true rfl) rfl (fun l P => ?_)
  refine pm_aload_n (pc := 0) dX9_own_0 rfl ?_
  refine pm_getr (pc := 1) (ci := 7) (C0 := RX9) (T := TX9) (N := 9) (j := 4) rfl rfl in_X9 (by decide) wf_X9_29 rfl dX9_own_1 ?_
  refine pm_aload_n (pc := 4) dX9_own_4 rfl ?_
  refine pm_getr (pc := 5) (ci := 7) (C0 := RX9) (T := TX9) (N := 9) (j := 0) rfl rfl in_X9 (by decide) wf_X9_10 rfl dX9_own_5 ?_
  refine pm_cVI (pc := 8) dX9_own_8 (c_fewestAstray hR.1 hX.s) wq_X8_fewestAstray wm_X9_167 wi_X8_fewestAstray ws_X8_fewestAstray rfl rfl ⟨Nat.le_of_ble_eq_true rfl, Nat.le_of_ble_eq_true rfl⟩ ⟨Nat.le_of_ble_eq_true rfl, Nat.le_of_ble_eq_true rfl⟩ rfl (Nat.le_of_ble_eq_true rfl) (fun r I2 L2 q => ?_)
  obtain ⟨er, eg, el⟩ := q
  subst er el
  refine pm_iret (pc := 11) rfl (Nat.le_refl _) (Nat.le_refl _) dX9_own_11 ?_
  exact XQ.r rfl (hR.e (fun a ha => eg a (by omega) (by omega))) (fun a ha => ⟨eg a (by omega) (by omega), rfl⟩)
