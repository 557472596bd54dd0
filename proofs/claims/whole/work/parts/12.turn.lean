def tl (s : gS) (k p : Nat) : List Nat := if p < k ∨ 5 - p < k then (g_st s (5 - p)).reverse else g_st s p
def TI (s : gS) (I0 : pm_I) (k : Nat) (I : pm_I) : Prop := (∀ p, p < 6 → gCh (I 6) (tl s k p) (I 7 p)) ∧ ∀ a, a ≠ 6 → a ≠ 7 → I a = I0 a
theorem tl_mem {s : gS} (h : gInv s) {k p x : Nat} (hp : p < 6) (hx : x ∈ tl s k p) : g_wh s x = p ∨ g_wh s x = 5 - p := by
  unfold tl at hx
  split at hx
  · exact Or.inr ((h.mem (by omega)).mp (List.mem_reverse.mp hx)).2
  · exact Or.inl ((h.mem hp).mp hx).2
theorem TI_step {s : gS} {I0 I I1 I2 : pm_I} {i : Nat} {r1 r2 : Int32} (hI : gInv s) (hi : i < 3) (h : TI s I0 i I)
    (g1 : gCh (I1 6) (g_st s i).reverse r1) (g2 : ∀ x, x ∉ g_st s i → I1 6 x = I 6 x) (g3 : ∀ a, a ≠ 6 → I1 a = I a)
    (f1 : gCh (I2 6) (g_st s (5 - i)).reverse r2) (f2 : ∀ x, x ∉ g_st s (5 - i) → I2 6 x = I1 6 x) (f3 : ∀ a, a ≠ 6 → I2 a = I1 a) :
    TI s I0 (i + 1) (pm_u (pm_u I2 7 (upd (I2 7) i r2)) 7 (upd (upd (I2 7) i r2) (5 - i) r1)) := by
  refine ⟨fun p hp => ?_, fun a h6 h7 => ?_⟩
  · show gCh (I2 6) (tl s (i + 1) p) (if p = 5 - i then r1 else if p = i then r2 else I2 7 p)
    by_cases e1 : p = 5 - i
    · rw [if_pos e1]
      have : tl s (i + 1) p = (g_st s i).reverse := by
        unfold tl; rw [if_pos (by omega), e1, show 5 - (5 - i) = i by omega]
      rw [this]
      refine gCh_congr (fun x hx => f2 x (fun z => ?_)) g1
      have a1 := ((hI.mem (by omega)).mp (List.mem_reverse.mp hx)).2
      have a2 := ((hI.mem (by omega)).mp z).2
      omega
    · rw [if_neg e1]
      by_cases e2 : p = i
      · rw [if_pos e2]
        have : tl s (i + 1) p = (g_st s (5 - i)).reverse := by unfold tl; rw [if_pos (by omega), e2]
        rw [this]; exact f1
      · rw [if_neg e2, f3 7 (by decide), g3 7 (by decide)]
        have : tl s (i + 1) p = tl s i p := by
          unfold tl
          by_cases e3 : p < i ∨ 5 - p < i
          · rw [if_pos e3, if_pos (by omega)]
          · rw [if_neg e3, if_neg (by omega)]
        rw [this]
        refine gCh_congr (fun x hx => ?_) (h.1 p hp)
        have a1 := tl_mem hI hp hx
        rw [f2 x (fun z => by have := ((hI.mem (by omega)).mp z).2; omega), g2 x (fun z => by have := ((hI.mem (by omega)).mp z).2; omega)]
  · rw [pm_un h7, pm_un h7, f3 a h6, g3 a h6, h.2 a h6 h7]
set_option maxRecDepth 100000 in
theorem l_turn2 {s : gS} {I0 : pm_I} {L : pm_L} (hG : GR I0 1 s) (hI : gInv s) {l : Launch} {P : pm_E} : ∀ (m i : Nat) (J : pm_I), i + m = g_n s → TI s I0 3 (pm_u J 5 (I0 5)) → (∀ j, j < i → J 5 j = nI (g_wh (s_turn s) j)) → (∀ j, i ≤ j → J 5 j = I0 5 j) → PW l P yX2_turnOver cX2_turnOver 4 none (pm_rm 3 0 0) (pm_Tg P (QV GG (fun I' L' => gX I0 (s_turn s) I' ∧ L' = L)) 0 0) 0 0 43 [some (.ref 1), some (.int (nI i)), none, none] [] GG J L
  | 0, i, J, hm, hT, h1, h2 => by
    have h12 := hI.n12
    have hn : J 1 7 = nI (g_n s) := by have := hT.2 1 (by decide) (by decide); rw [pm_un (by decide)] at this; rw [this]; exact hG.n
    refine pm_iload_n (pc := 43) dX2_turnOver_43 rfl ?_
    refine pm_aload_n (pc := 44) dX2_turnOver_44 rfl ?_
    refine pm_get (pc := 45) (ci := 0) (C0 := RX2) (T := TX2) (N := 9) (j := 7) rfl rfl in_X2 (by decide) wf_X2_39 rfl dX2_turnOver_45 ?_
    refine pm_icmp_ge (pc := 48) (tgt := 89) dX2_turnOver_48 rfl (fun h48 => ?_) (fun h48 => (by simp (disch := omega) only [hn, pm_eqI, pm_ltI, pm_leI, nI_toInt, pm_t0, pm_t1, pm_tm1] at h48; omega))
    refine pm_vret (pc := 89) rfl (Nat.le_refl _) (Nat.le_refl _) dX2_turnOver_89 ?_
    have e : i = g_n s := by omega
    subst e
    have oth : ∀ a, a ≠ 5 → a ≠ 6 → a ≠ 7 → J a = I0 a := fun a a5 a6 a7 => by have := hT.2 a a6 a7; rw [pm_un a5] at this; exact this
    refine QV.r ⟨⟨⟨hn, by rw [oth 1 (by decide) (by decide) (by decide)]; exact hG.aw, fun j hj => ⟨?_, ?_, ?_, h1 j hj⟩, fun p hp => ⟨?_, ?_⟩⟩, fun a ha => oth a (by omega) (by omega) (by omega)⟩, rfl⟩
    · show J 2 j = _
      rw [oth 2 (by decide) (by decide) (by decide)]; exact hG.kd hj
    · show J 3 j = _
      rw [oth 3 (by decide) (by decide) (by decide)]; exact hG.wt hj
    · show J 4 j = _
      rw [oth 4 (by decide) (by decide) (by decide)]; exact hG.tw hj
    · have h9 := hT.1 p hp
      have e : tl s 3 p = (g_st s (5 - p)).reverse := by unfold tl; rw [if_pos (by omega)]
      rw [e] at h9
      exact h9
    · show J 8 p = _
      rw [oth 8 (by decide) (by decide) (by decide)]; exact hG.sn hp
  | m + 1, i, J, hm, hT, h1, h2 => by
    have h12 := hI.n12
    have hi : i < g_n s := by omega
    have hn : J 1 7 = nI (g_n s) := by have := hT.2 1 (by decide) (by decide); rw [pm_un (by decide)] at this; rw [this]; exact hG.n
    have ei : J 5 i = nI (g_wh s i) := (h2 i (Nat.le_refl i)).trans (hG.wh hi)
    have h7 := (hI.2.1 i hi).2.2.2.2
    have wt : g_wh (s_turn s) i = if g_wh s i < 6 then 5 - g_wh s i else g_wh s i := rfl
    by_cases hp : g_wh s i < 6
    · refine pm_iload_n (pc := 43) dX2_turnOver_43 rfl ?_
      refine pm_aload_n (pc := 44) dX2_turnOver_44 rfl ?_
      refine pm_get (pc := 45) (ci := 0) (C0 := RX2) (T := TX2) (N := 9) (j := 7) rfl rfl in_X2 (by decide) wf_X2_39 rfl dX2_turnOver_45 ?_
      refine pm_icmp_ge (pc := 48) (tgt := 89) dX2_turnOver_48 rfl (fun h48 => (by simp (disch := omega) only [hn, pm_eqI, pm_ltI, pm_leI, nI_toInt, pm_t0, pm_t1, pm_tm1] at h48; omega)) (fun h48 => ?_)
      refine pm_iload_n (pc := 51) dX2_turnOver_51 rfl ?_
      refine pm_bipush (pc := 52) (v := nI 12) dX2_turnOver_52 (by decide) ?_
      refine pm_icmp_ge (pc := 54) (tgt := 89) dX2_turnOver_54 rfl (fun h54 => (by simp (disch := omega) only [pm_eqI, pm_ltI, pm_leI, nI_toInt, pm_t0, pm_t1, pm_tm1] at h54; omega)) (fun h54 => ?_)
      refine pm_aload_n (pc := 57) dX2_turnOver_57 rfl ?_
      refine pm_getr (pc := 58) (ci := 0) (C0 := RX2) (T := TX2) (N := 9) (j := 3) rfl rfl in_X2 (by decide) wf_X2_21 rfl dX2_turnOver_58 ?_
      refine pm_iload_n (pc := 61) dX2_turnOver_61 rfl ?_
      refine pm_iald (pc := 62) rfl (by omega) (by decide) dX2_turnOver_62 ?_
      rw [ei]
      refine pm_cSNR (hst := RX9) (pc := 63) dX2_turnOver_63 (c_isPlace) wq_X9_isPlace (by decide +kernel) wt_X9_isPlace ⟨Nat.le_of_ble_eq_true rfl, Nat.le_of_ble_eq_true rfl⟩ ⟨Nat.le_of_ble_eq_true rfl, Nat.le_of_ble_eq_true rfl⟩ rfl (Nat.le_of_ble_eq_true rfl) ?_
      refine pm_if_eq (pc := 66) (tgt := 83) dX2_turnOver_66 rfl (fun h66 => (b1_0.mp h66 ⟨by simp (disch := omega) only [pm_leI, nI_toInt, pm_t0]; omega, by simp (disch := omega) only [pm_ltI, nI_toInt]; omega⟩).elim) (fun h66 => ?_)
      refine pm_aload_n (pc := 69) dX2_turnOver_69 rfl ?_
      refine pm_getr (pc := 70) (ci := 0) (C0 := RX2) (T := TX2) (N := 9) (j := 3) rfl rfl in_X2 (by decide) wf_X2_21 rfl dX2_turnOver_70 ?_
      refine pm_iload_n (pc := 73) dX2_turnOver_73 rfl ?_
      refine pm_iconst (pc := 74) (v := nI 5) dX2_turnOver_74 (by decide) ?_
      refine pm_aload_n (pc := 75) dX2_turnOver_75 rfl ?_
      refine pm_getr (pc := 76) (ci := 0) (C0 := RX2) (T := TX2) (N := 9) (j := 3) rfl rfl in_X2 (by decide) wf_X2_21 rfl dX2_turnOver_76 ?_
      refine pm_iload_n (pc := 79) dX2_turnOver_79 rfl ?_
      refine pm_iald (pc := 80) rfl (by omega) (by decide) dX2_turnOver_80 ?_
      rw [ei]
      refine pm_isub (pc := 81) dX2_turnOver_81 ?_
      refine pm_top (pk_sub (by omega)) ?_
      refine pm_iast (pc := 82) rfl (by omega) (by decide) dX2_turnOver_82 ?_
      refine pm_iinc (pc := 83) dX2_turnOver_83 rfl (pm_inc1 _) (by decide) rfl ?_
      refine pm_goto (pc := 86) (tgt := 43) dX2_turnOver_86 rfl ?_
      refine l_turn2 hG hI m (i + 1) (pm_u J 5 (upd (J 5) i (nI (5 - g_wh s i)))) (by omega) (by rw [pm_u2]; exact hT) (fun j hj => ?_) (fun j hj => (pk_un (by omega)).trans (h2 j (by omega)))
      show (if j = i then nI (5 - g_wh s i) else J 5 j) = _
      by_cases e : j = i
      · rw [if_pos e, e, wt, if_pos hp]
      · rw [if_neg e]; exact h1 j (by omega)
    · refine pm_iload_n (pc := 43) dX2_turnOver_43 rfl ?_
      refine pm_aload_n (pc := 44) dX2_turnOver_44 rfl ?_
      refine pm_get (pc := 45) (ci := 0) (C0 := RX2) (T := TX2) (N := 9) (j := 7) rfl rfl in_X2 (by decide) wf_X2_39 rfl dX2_turnOver_45 ?_
      refine pm_icmp_ge (pc := 48) (tgt := 89) dX2_turnOver_48 rfl (fun h48 => (by simp (disch := omega) only [hn, pm_eqI, pm_ltI, pm_leI, nI_toInt, pm_t0, pm_t1, pm_tm1] at h48; omega)) (fun h48 => ?_)
      refine pm_iload_n (pc := 51) dX2_turnOver_51 rfl ?_
      refine pm_bipush (pc := 52) (v := nI 12) dX2_turnOver_52 (by decide) ?_
      refine pm_icmp_ge (pc := 54) (tgt := 89) dX2_turnOver_54 rfl (fun h54 => (by simp (disch := omega) only [pm_eqI, pm_ltI, pm_leI, nI_toInt, pm_t0, pm_t1, pm_tm1] at h54; omega)) (fun h54 => ?_)
      refine pm_aload_n (pc := 57) dX2_turnOver_57 rfl ?_
      refine pm_getr (pc := 58) (ci := 0) (C0 := RX2) (T := TX2) (N := 9) (j := 3) rfl rfl in_X2 (by decide) wf_X2_21 rfl dX2_turnOver_58 ?_
      refine pm_iload_n (pc := 61) dX2_turnOver_61 rfl ?_
      refine pm_iald (pc := 62) rfl (by omega) (by decide) dX2_turnOver_62 ?_
      rw [ei]
      refine pm_cSNR (hst := RX9) (pc := 63) dX2_turnOver_63 (c_isPlace) wq_X9_isPlace (by decide +kernel) wt_X9_isPlace ⟨Nat.le_of_ble_eq_true rfl, Nat.le_of_ble_eq_true rfl⟩ ⟨Nat.le_of_ble_eq_true rfl, Nat.le_of_ble_eq_true rfl⟩ rfl (Nat.le_of_ble_eq_true rfl) ?_
      refine pm_if_eq (pc := 66) (tgt := 83) dX2_turnOver_66 rfl (fun h66 => ?_) (fun h66 => absurd (b1_0.mpr (fun z => hp (by have := z.2; simp (disch := omega) only [pm_ltI, nI_toInt] at this; omega))) h66)
      refine pm_iinc (pc := 83) dX2_turnOver_83 rfl (pm_inc1 _) (by decide) rfl ?_
      refine pm_goto (pc := 86) (tgt := 43) dX2_turnOver_86 rfl ?_
      refine l_turn2 hG hI m (i + 1) J (by omega) hT (fun j hj => ?_) (fun j hj => h2 j (by omega))
      by_cases e : j = i
      · rw [e, ei, wt, if_neg hp]
      · exact h1 j (by omega)
set_option maxRecDepth 100000 in
theorem l_turn1 {s : gS} {I0 : pm_I} {L : pm_L} (hG : GR I0 1 s) (hI : gInv s) {l : Launch} {P : pm_E} : ∀ (m i : Nat) (I : pm_I), i + m = 3 → TI s I0 i I → PW l P yX2_turnOver cX2_turnOver 4 none (pm_rm 3 0 0) (pm_Tg P (QV GG (fun I' L' => gX I0 (s_turn s) I' ∧ L' = L)) 0 0) 0 0 2 [some (.ref 1), some (.int (nI i)), none, none] [] GG I L
  | 0, i, I, hm, hT => by
    have e : i = 3 := by omega
    subst e
    refine pm_iload_n (pc := 2) dX2_turnOver_2 rfl ?_
    refine pm_iconst (pc := 3) (v := nI 3) dX2_turnOver_3 (by decide) ?_
    refine pm_icmp_ge (pc := 4) (tgt := 41) dX2_turnOver_4 rfl (fun h4 => ?_) (fun h4 => (by simp (disch := omega) only [pm_eqI, pm_ltI, pm_leI, nI_toInt, pm_t0, pm_t1, pm_tm1] at h4; omega))
    refine pm_iconst (pc := 41) (v := nI 0) dX2_turnOver_41 (by decide) ?_
    refine pm_istore_n (pc := 42) dX2_turnOver_42 (by decide) rfl ?_
    refine l_turn2 hG hI (g_n s) 0 I (by omega) ?_ (fun j hj => absurd hj (Nat.not_lt_zero j)) (fun j _ => by rw [hT.2 5 (by decide) (by decide)])
    have e : pm_u I 5 (I0 5) = I := by rw [← hT.2 5 (by decide) (by decide), pm_uu]
    rw [e]; exact hT
  | m + 1, i, I, hm, hT => by
    have h12 := hI.n12
    have hi : i < 3 := by omega
    have hn : I 1 7 = nI (g_n s) := by rw [hT.2 1 (by decide) (by decide)]; exact hG.n
    have c1 : gCh (I 6) (g_st s i) (I 7 i) := by have := hT.1 i (by omega); unfold tl at this; rw [if_neg (by omega)] at this; exact this
    have c2 : gCh (I 6) (g_st s (5 - i)) (I 7 (5 - i)) := by have := hT.1 (5 - i) (by omega); unfold tl at this; rw [if_neg (by omega)] at this; exact this
    refine pm_iload_n (pc := 2) dX2_turnOver_2 rfl ?_
    refine pm_iconst (pc := 3) (v := nI 3) dX2_turnOver_3 (by decide) ?_
    refine pm_icmp_ge (pc := 4) (tgt := 41) dX2_turnOver_4 rfl (fun h4 => (by simp (disch := omega) only [pm_eqI, pm_ltI, pm_leI, nI_toInt, pm_t0, pm_t1, pm_tm1] at h4; omega)) (fun h4 => ?_)
    refine pm_iconst (pc := 7) (v := nI 5) dX2_turnOver_7 (by decide) ?_
    refine pm_iload_n (pc := 8) dX2_turnOver_8 rfl ?_
    refine pm_isub (pc := 9) dX2_turnOver_9 ?_
    refine pm_top (pk_sub (by omega)) ?_
    refine pm_istore_n (pc := 10) dX2_turnOver_10 (by decide) rfl ?_
    refine pm_aload_n (pc := 11) dX2_turnOver_11 rfl ?_
    refine pm_iload_n (pc := 12) dX2_turnOver_12 rfl ?_
    refine pm_cVI (pc := 13) dX2_turnOver_13 (c_turned hn h12 (by omega) c1 (hI.2.2 i (by omega)).2.1 (fun x hx => ((hI.mem (by omega)).mp hx).1) (by have := hI.len (show i < 6 by omega); omega)) wq_X2_turned wm_X2_94 wi_X2_turned ws_X2_turned rfl rfl ⟨Nat.le_of_ble_eq_true rfl, Nat.le_of_ble_eq_true rfl⟩ ⟨Nat.le_of_ble_eq_true rfl, Nat.le_of_ble_eq_true rfl⟩ rfl (Nat.le_of_ble_eq_true rfl) (fun r13 I13 L13 q13 => ?_)
    obtain ⟨⟨g1, g2, g3⟩, ql⟩ := q13
    subst ql
    have c3 : gCh (I13 6) (g_st s (5 - i)) (I13 7 (5 - i)) := by
      rw [g3 7 (by decide)]
      exact gCh_congr (fun x hx => g2 x (fun z => by have a1 := ((hI.mem (by omega)).mp hx).2; have a2 := ((hI.mem (by omega)).mp z).2; omega)) c2
    refine pm_istore_n (pc := 16) dX2_turnOver_16 (by decide) rfl ?_
    refine pm_aload_n (pc := 17) dX2_turnOver_17 rfl ?_
    refine pm_getr (pc := 18) (ci := 0) (C0 := RX2) (T := TX2) (N := 9) (j := 5) rfl rfl in_X2 (by decide) wf_X2_27 rfl dX2_turnOver_18 ?_
    refine pm_iload_n (pc := 21) dX2_turnOver_21 rfl ?_
    refine pm_aload_n (pc := 22) dX2_turnOver_22 rfl ?_
    refine pm_iload_n (pc := 23) dX2_turnOver_23 rfl ?_
    refine pm_cVI (pc := 24) dX2_turnOver_24 (c_turned (by rw [g3 1 (by decide)]; exact hn) h12 (show 5 - i < 6 by omega) c3 (hI.2.2 (5 - i) (by omega)).2.1 (fun x hx => ((hI.mem (by omega)).mp hx).1) (by have := hI.len (show 5 - i < 6 by omega); omega)) wq_X2_turned wm_X2_94 wi_X2_turned ws_X2_turned rfl rfl ⟨Nat.le_of_ble_eq_true rfl, Nat.le_of_ble_eq_true rfl⟩ ⟨Nat.le_of_ble_eq_true rfl, Nat.le_of_ble_eq_true rfl⟩ rfl (Nat.le_of_ble_eq_true rfl) (fun r24 I24 L24 q24 => ?_)
    obtain ⟨⟨f1, f2, f3⟩, ql⟩ := q24
    subst ql
    refine pm_iast (pc := 27) rfl (by omega) (by decide) dX2_turnOver_27 ?_
    refine pm_aload_n (pc := 28) dX2_turnOver_28 rfl ?_
    refine pm_getr (pc := 29) (ci := 0) (C0 := RX2) (T := TX2) (N := 9) (j := 5) rfl rfl in_X2 (by decide) wf_X2_27 rfl dX2_turnOver_29 ?_
    refine pm_iload_n (pc := 32) dX2_turnOver_32 rfl ?_
    refine pm_iload_n (pc := 33) dX2_turnOver_33 rfl ?_
    refine pm_iast (pc := 34) rfl (by omega) (by decide) dX2_turnOver_34 ?_
    refine pm_iinc (pc := 35) dX2_turnOver_35 rfl (pm_inc1 _) (by decide) rfl ?_
    refine pm_goto (pc := 38) (tgt := 2) dX2_turnOver_38 rfl ?_
    refine pm_kill 2 ?_
    refine pm_kill 3 ?_
    exact l_turn1 hG hI m (i + 1) _ (by omega) (TI_step hI hi hT g1 g2 g3 f1 f2 f3)
set_option maxRecDepth 100000 in
set_option maxHeartbeats 4000000 in
theorem c_turnOver {I : pm_I} {L : pm_L} {s : gS} (hG : GR I 1 s) (hI : gInv s) : PC 3 0 0 yX2_turnOver cX2_turnOver 4 none [.ref 1] GG I L (QV GG (fun I' L' => gX I (s_turn s) I' ∧ L' = L)) := by
  refine PC.of [some (.ref 1), none, none, none] (by decide) (Nat.le_of_ble_eq_true rfl) rfl (fun l P => ?_)
  refine pm_iconst (pc := 0) (v := nI 0) dX2_turnOver_0 (by decide) ?_
  refine pm_istore_n (pc := 1) dX2_turnOver_1 (by decide) rfl ?_
  exact l_turn1 hG hI 3 0 I rfl ⟨fun p hp => by unfold tl; rw [if_neg (by omega)]; exact hG.ch hp, fun _ _ _ => rfl⟩
