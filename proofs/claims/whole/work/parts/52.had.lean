theorem h_same2 (s : gS) (c : Nat) : g_tw (s_do s c) = g_tw s ∧ g_aw (s_do s c) = g_aw s := by
  unfold s_do
  split
  · exact ⟨rfl, rfl⟩
  · split
    · exact ⟨rfl, rfl⟩
    · split <;> exact ⟨rfl, rfl⟩
/-- the slot d holds the places of s -/
def h_Y (s : gS) (d : Nat) (J : pm_I) : Prop := (∀ j, j < g_n s → J 56 (12 * d + j) = nI (g_wh s j)) ∧ ∀ p, p < 6 → J 57 (6 * d + p) = nI (g_st s p).length ∧ ∀ k, k < (g_st s p).length → J 58 (72 * d + (12 * p + k)) = nI (m_pl s p k)
theorem h_Y.e {s : gS} {d : Nat} {I J : pm_I} (h : h_Y s d I) (e : ∀ a : Nat, a = 56 ∨ a = 57 ∨ a = 58 → J a = I a) : h_Y s d J := by
  unfold h_Y at h ⊢
  rw [e 56 (by omega), e 57 (by omega), e 58 (by omega)]; exact h
set_option maxRecDepth 100000 in
set_option maxHeartbeats 1000000 in
theorem l_sv1 {I : pm_I} {L : pm_L} {d : Nat} (hd : d < 3) {Q : pm_QT} {la : Launch} {P : pm_E} (kx : ∀ J : pm_I, (∀ a : Nat, a ≠ 56 → J a = I a) → (∀ k, k < 12 → J 56 (12 * d + k) = I 44 k) → (∀ k, k < 12 * d → J 56 k = I 56 k) → PW la P yX10_save cX10_save 3 none (pm_rm 0 0 0) (pm_Tg P Q 0 0) 0 0 31 [some (.ref 40), some (.int (nI d)), none] [] GG J L) : ∀ (m i : Nat), i + m = 12 → ∀ J : pm_I, (∀ a : Nat, a ≠ 56 → J a = I a) → (∀ k, k < i → J 56 (12 * d + k) = I 44 k) → (∀ k, k < 12 * d → J 56 k = I 56 k) → PW la P yX10_save cX10_save 3 none (pm_rm 0 0 0) (pm_Tg P Q 0 0) 0 0 2 [some (.ref 40), some (.int (nI d)), some (.int (nI i))] [] GG J L
  | 0, i, hm, J, hF, hC, hL => by
    have e : i = 12 := by omega
    subst e
    refine pm_iload_n (pc := 2) dX10_save_2 rfl ?_
    refine pm_bipush (pc := 3) (v := nI 12) dX10_save_3 (by decide) ?_
    refine pm_icmp_ge (pc := 5) (tgt := 31) dX10_save_5 rfl (fun h5 => ?_) (fun h5 => (by simp (disch := omega) only [pm_eqI, pm_ltI, pm_leI, nI_toInt, pm_t0, pm_t1, pm_tm1] at h5; omega))
    refine pm_kill 2 ?_
    exact kx J hF hC hL
  | m + 1, i, hm, J, hF, hC, hL => by
    have hi : i < 12 := by omega
    refine pm_iload_n (pc := 2) dX10_save_2 rfl ?_
    refine pm_bipush (pc := 3) (v := nI 12) dX10_save_3 (by decide) ?_
    refine pm_icmp_ge (pc := 5) (tgt := 31) dX10_save_5 rfl (fun h5 => (by simp (disch := omega) only [pm_eqI, pm_ltI, pm_leI, nI_toInt, pm_t0, pm_t1, pm_tm1] at h5; omega)) (fun h5 => ?_)
    refine pm_aload_n (pc := 8) dX10_save_8 rfl ?_
    refine pm_getr (pc := 9) (ci := 8) (C0 := RX10) (T := TX10) (N := 34) (j := 22) rfl rfl in_X10 (by decide) wf_X10_55 rfl dX10_save_9 ?_
    refine pm_bipush (pc := 12) (v := nI 12) dX10_save_12 (by decide) ?_
    refine pm_iload_n (pc := 14) dX10_save_14 rfl ?_
    refine pm_imul (pc := 15) dX10_save_15 ?_
    refine pm_iload_n (pc := 16) dX10_save_16 rfl ?_
    refine pm_iadd (pc := 17) dX10_save_17 ?_
    refine pm_top (x' := nI (12 * d + i)) (by rw [pk_mul, nI_add]) ?_
    refine pm_aload_n (pc := 18) dX10_save_18 rfl ?_
    refine pm_getr (pc := 19) (ci := 8) (C0 := RX10) (T := TX10) (N := 34) (j := 4) rfl rfl in_X10 (by decide) wf_X10_19 rfl dX10_save_19 ?_
    refine pm_iload_n (pc := 22) dX10_save_22 rfl ?_
    refine pm_iald (pc := 23) rfl (by omega) (by decide) dX10_save_23 ?_
    rw [hF 44 (by decide)]
    refine pm_iast (pc := 24) rfl (by omega) (by decide) dX10_save_24 ?_
    refine pm_iinc (pc := 25) dX10_save_25 rfl (pm_inc1 _) (by decide) rfl ?_
    refine pm_goto (pc := 28) (tgt := 2) dX10_save_28 rfl ?_
    refine l_sv1 hd kx m (i + 1) (by omega) _ (fun a ha => (pm_un ha).trans (hF a ha)) (fun k hk => ?_) (fun k hk => ?_)
    · rw [pm_us]
      show (if 12 * d + k = 12 * d + i then _ else J 56 (12 * d + k)) = _
      by_cases e : k = i
      · rw [if_pos (by omega), e]
      · rw [if_neg (by omega)]; exact hC k (by omega)
    · rw [pm_us]
      show (if k = 12 * d + i then _ else J 56 k) = _
      rw [if_neg (by omega)]; exact hL k hk
set_option maxRecDepth 100000 in
set_option maxHeartbeats 1000000 in
theorem l_sv2 {I : pm_I} {L : pm_L} {d : Nat} (hd : d < 3) {Q : pm_QT} {la : Launch} {P : pm_E} (kx : ∀ J : pm_I, (∀ a : Nat, a ≠ 57 → J a = I a) → (∀ k, k < 6 → J 57 (6 * d + k) = I 45 k) → (∀ k, k < 6 * d → J 57 k = I 57 k) → PW la P yX10_save cX10_save 3 none (pm_rm 0 0 0) (pm_Tg P Q 0 0) 0 0 62 [some (.ref 40), some (.int (nI d)), none] [] GG J L) : ∀ (m i : Nat), i + m = 6 → ∀ J : pm_I, (∀ a : Nat, a ≠ 57 → J a = I a) → (∀ k, k < i → J 57 (6 * d + k) = I 45 k) → (∀ k, k < 6 * d → J 57 k = I 57 k) → PW la P yX10_save cX10_save 3 none (pm_rm 0 0 0) (pm_Tg P Q 0 0) 0 0 33 [some (.ref 40), some (.int (nI d)), some (.int (nI i))] [] GG J L
  | 0, i, hm, J, hF, hC, hL => by
    have e : i = 6 := by omega
    subst e
    refine pm_iload_n (pc := 33) dX10_save_33 rfl ?_
    refine pm_bipush (pc := 34) (v := nI 6) dX10_save_34 (by decide) ?_
    refine pm_icmp_ge (pc := 36) (tgt := 62) dX10_save_36 rfl (fun h36 => ?_) (fun h36 => (by simp (disch := omega) only [pm_eqI, pm_ltI, pm_leI, nI_toInt, pm_t0, pm_t1, pm_tm1] at h36; omega))
    refine pm_kill 2 ?_
    exact kx J hF hC hL
  | m + 1, i, hm, J, hF, hC, hL => by
    have hi : i < 6 := by omega
    refine pm_iload_n (pc := 33) dX10_save_33 rfl ?_
    refine pm_bipush (pc := 34) (v := nI 6) dX10_save_34 (by decide) ?_
    refine pm_icmp_ge (pc := 36) (tgt := 62) dX10_save_36 rfl (fun h36 => (by simp (disch := omega) only [pm_eqI, pm_ltI, pm_leI, nI_toInt, pm_t0, pm_t1, pm_tm1] at h36; omega)) (fun h36 => ?_)
    refine pm_aload_n (pc := 39) dX10_save_39 rfl ?_
    refine pm_getr (pc := 40) (ci := 8) (C0 := RX10) (T := TX10) (N := 34) (j := 23) rfl rfl in_X10 (by decide) wf_X10_58 rfl dX10_save_40 ?_
    refine pm_bipush (pc := 43) (v := nI 6) dX10_save_43 (by decide) ?_
    refine pm_iload_n (pc := 45) dX10_save_45 rfl ?_
    refine pm_imul (pc := 46) dX10_save_46 ?_
    refine pm_iload_n (pc := 47) dX10_save_47 rfl ?_
    refine pm_iadd (pc := 48) dX10_save_48 ?_
    refine pm_top (x' := nI (6 * d + i)) (by rw [pk_mul, nI_add]) ?_
    refine pm_aload_n (pc := 49) dX10_save_49 rfl ?_
    refine pm_getr (pc := 50) (ci := 8) (C0 := RX10) (T := TX10) (N := 34) (j := 5) rfl rfl in_X10 (by decide) wf_X10_22 rfl dX10_save_50 ?_
    refine pm_iload_n (pc := 53) dX10_save_53 rfl ?_
    refine pm_iald (pc := 54) rfl (by omega) (by decide) dX10_save_54 ?_
    rw [hF 45 (by decide)]
    refine pm_iast (pc := 55) rfl (by omega) (by decide) dX10_save_55 ?_
    refine pm_iinc (pc := 56) dX10_save_56 rfl (pm_inc1 _) (by decide) rfl ?_
    refine pm_goto (pc := 59) (tgt := 33) dX10_save_59 rfl ?_
    refine l_sv2 hd kx m (i + 1) (by omega) _ (fun a ha => (pm_un ha).trans (hF a ha)) (fun k hk => ?_) (fun k hk => ?_)
    · rw [pm_us]
      show (if 6 * d + k = 6 * d + i then _ else J 57 (6 * d + k)) = _
      by_cases e : k = i
      · rw [if_pos (by omega), e]
      · rw [if_neg (by omega)]; exact hC k (by omega)
    · rw [pm_us]
      show (if k = 6 * d + i then _ else J 57 k) = _
      rw [if_neg (by omega)]; exact hL k hk
set_option maxRecDepth 100000 in
set_option maxHeartbeats 1000000 in
theorem l_sv3 {I : pm_I} {L : pm_L} {d : Nat} (hd : d < 3) {Q : pm_QT} {la : Launch} {P : pm_E} (kx : ∀ J : pm_I, (∀ a : Nat, a ≠ 58 → J a = I a) → (∀ k, k < 72 → J 58 (72 * d + k) = I 46 k) → (∀ k, k < 72 * d → J 58 k = I 58 k) → PW la P yX10_save cX10_save 3 none (pm_rm 0 0 0) (pm_Tg P Q 0 0) 0 0 93 [some (.ref 40), some (.int (nI d)), none] [] GG J L) : ∀ (m i : Nat), i + m = 72 → ∀ J : pm_I, (∀ a : Nat, a ≠ 58 → J a = I a) → (∀ k, k < i → J 58 (72 * d + k) = I 46 k) → (∀ k, k < 72 * d → J 58 k = I 58 k) → PW la P yX10_save cX10_save 3 none (pm_rm 0 0 0) (pm_Tg P Q 0 0) 0 0 64 [some (.ref 40), some (.int (nI d)), some (.int (nI i))] [] GG J L
  | 0, i, hm, J, hF, hC, hL => by
    have e : i = 72 := by omega
    subst e
    refine pm_iload_n (pc := 64) dX10_save_64 rfl ?_
    refine pm_bipush (pc := 65) (v := nI 72) dX10_save_65 (by decide) ?_
    refine pm_icmp_ge (pc := 67) (tgt := 93) dX10_save_67 rfl (fun h67 => ?_) (fun h67 => (by simp (disch := omega) only [pm_eqI, pm_ltI, pm_leI, nI_toInt, pm_t0, pm_t1, pm_tm1] at h67; omega))
    refine pm_kill 2 ?_
    exact kx J hF hC hL
  | m + 1, i, hm, J, hF, hC, hL => by
    have hi : i < 72 := by omega
    refine pm_iload_n (pc := 64) dX10_save_64 rfl ?_
    refine pm_bipush (pc := 65) (v := nI 72) dX10_save_65 (by decide) ?_
    refine pm_icmp_ge (pc := 67) (tgt := 93) dX10_save_67 rfl (fun h67 => (by simp (disch := omega) only [pm_eqI, pm_ltI, pm_leI, nI_toInt, pm_t0, pm_t1, pm_tm1] at h67; omega)) (fun h67 => ?_)
    refine pm_aload_n (pc := 70) dX10_save_70 rfl ?_
    refine pm_getr (pc := 71) (ci := 8) (C0 := RX10) (T := TX10) (N := 34) (j := 24) rfl rfl in_X10 (by decide) wf_X10_61 rfl dX10_save_71 ?_
    refine pm_bipush (pc := 74) (v := nI 72) dX10_save_74 (by decide) ?_
    refine pm_iload_n (pc := 76) dX10_save_76 rfl ?_
    refine pm_imul (pc := 77) dX10_save_77 ?_
    refine pm_iload_n (pc := 78) dX10_save_78 rfl ?_
    refine pm_iadd (pc := 79) dX10_save_79 ?_
    refine pm_top (x' := nI (72 * d + i)) (by rw [pk_mul, nI_add]) ?_
    refine pm_aload_n (pc := 80) dX10_save_80 rfl ?_
    refine pm_getr (pc := 81) (ci := 8) (C0 := RX10) (T := TX10) (N := 34) (j := 6) rfl rfl in_X10 (by decide) wf_X10_25 rfl dX10_save_81 ?_
    refine pm_iload_n (pc := 84) dX10_save_84 rfl ?_
    refine pm_iald (pc := 85) rfl (by omega) (by decide) dX10_save_85 ?_
    rw [hF 46 (by decide)]
    refine pm_iast (pc := 86) rfl (by omega) (by decide) dX10_save_86 ?_
    refine pm_iinc (pc := 87) dX10_save_87 rfl (pm_inc1 _) (by decide) rfl ?_
    refine pm_goto (pc := 90) (tgt := 64) dX10_save_90 rfl ?_
    refine l_sv3 hd kx m (i + 1) (by omega) _ (fun a ha => (pm_un ha).trans (hF a ha)) (fun k hk => ?_) (fun k hk => ?_)
    · rw [pm_us]
      show (if 72 * d + k = 72 * d + i then _ else J 58 (72 * d + k)) = _
      by_cases e : k = i
      · rw [if_pos (by omega), e]
      · rw [if_neg (by omega)]; exact hC k (by omega)
    · rw [pm_us]
      show (if k = 72 * d + i then _ else J 58 k) = _
      rw [if_neg (by omega)]; exact hL k hk
set_option maxRecDepth 100000 in
set_option maxHeartbeats 1000000 in
theorem l_ld1 {I : pm_I} {L : pm_L} {d : Nat} (hd : d < 3) {Q : pm_QT} {la : Launch} {P : pm_E} (kx : ∀ J : pm_I, (∀ a : Nat, a ≠ 44 → J a = I a) → (∀ k, k < 12 → J 44 k = I 56 (12 * d + k)) → PW la P yX10_load cX10_load 3 none (pm_rm 0 0 0) (pm_Tg P Q 0 0) 0 0 31 [some (.ref 40), some (.int (nI d)), none] [] GG J L) : ∀ (m i : Nat), i + m = 12 → ∀ J : pm_I, (∀ a : Nat, a ≠ 44 → J a = I a) → (∀ k, k < i → J 44 k = I 56 (12 * d + k)) → PW la P yX10_load cX10_load 3 none (pm_rm 0 0 0) (pm_Tg P Q 0 0) 0 0 2 [some (.ref 40), some (.int (nI d)), some (.int (nI i))] [] GG J L
  | 0, i, hm, J, hF, hC => by
    have e : i = 12 := by omega
    subst e
    refine pm_iload_n (pc := 2) dX10_load_2 rfl ?_
    refine pm_bipush (pc := 3) (v := nI 12) dX10_load_3 (by decide) ?_
    refine pm_icmp_ge (pc := 5) (tgt := 31) dX10_load_5 rfl (fun h5 => ?_) (fun h5 => (by simp (disch := omega) only [pm_eqI, pm_ltI, pm_leI, nI_toInt, pm_t0, pm_t1, pm_tm1] at h5; omega))
    refine pm_kill 2 ?_
    exact kx J hF hC
  | m + 1, i, hm, J, hF, hC => by
    have hi : i < 12 := by omega
    refine pm_iload_n (pc := 2) dX10_load_2 rfl ?_
    refine pm_bipush (pc := 3) (v := nI 12) dX10_load_3 (by decide) ?_
    refine pm_icmp_ge (pc := 5) (tgt := 31) dX10_load_5 rfl (fun h5 => (by simp (disch := omega) only [pm_eqI, pm_ltI, pm_leI, nI_toInt, pm_t0, pm_t1, pm_tm1] at h5; omega)) (fun h5 => ?_)
    refine pm_aload_n (pc := 8) dX10_load_8 rfl ?_
    refine pm_getr (pc := 9) (ci := 8) (C0 := RX10) (T := TX10) (N := 34) (j := 4) rfl rfl in_X10 (by decide) wf_X10_19 rfl dX10_load_9 ?_
    refine pm_iload_n (pc := 12) dX10_load_12 rfl ?_
    refine pm_aload_n (pc := 13) dX10_load_13 rfl ?_
    refine pm_getr (pc := 14) (ci := 8) (C0 := RX10) (T := TX10) (N := 34) (j := 22) rfl rfl in_X10 (by decide) wf_X10_55 rfl dX10_load_14 ?_
    refine pm_bipush (pc := 17) (v := nI 12) dX10_load_17 (by decide) ?_
    refine pm_iload_n (pc := 19) dX10_load_19 rfl ?_
    refine pm_imul (pc := 20) dX10_load_20 ?_
    refine pm_iload_n (pc := 21) dX10_load_21 rfl ?_
    refine pm_iadd (pc := 22) dX10_load_22 ?_
    refine pm_top (x' := nI (12 * d + i)) (by rw [pk_mul, nI_add]) ?_
    refine pm_iald (pc := 23) rfl (by omega) (by decide) dX10_load_23 ?_
    rw [hF 56 (by decide)]
    refine pm_iast (pc := 24) rfl (by omega) (by decide) dX10_load_24 ?_
    refine pm_iinc (pc := 25) dX10_load_25 rfl (pm_inc1 _) (by decide) rfl ?_
    refine pm_goto (pc := 28) (tgt := 2) dX10_load_28 rfl ?_
    refine l_ld1 hd kx m (i + 1) (by omega) _ (fun a ha => (pm_un ha).trans (hF a ha)) (fun k hk => ?_)
    · rw [pm_us]
      show (if k = i then _ else J 44 (k)) = _
      by_cases e : k = i
      · rw [if_pos (by omega), e]
      · rw [if_neg (by omega)]; exact hC k (by omega)
set_option maxRecDepth 100000 in
set_option maxHeartbeats 1000000 in
theorem l_ld2 {I : pm_I} {L : pm_L} {d : Nat} (hd : d < 3) {Q : pm_QT} {la : Launch} {P : pm_E} (kx : ∀ J : pm_I, (∀ a : Nat, a ≠ 45 → J a = I a) → (∀ k, k < 6 → J 45 k = I 57 (6 * d + k)) → PW la P yX10_load cX10_load 3 none (pm_rm 0 0 0) (pm_Tg P Q 0 0) 0 0 62 [some (.ref 40), some (.int (nI d)), none] [] GG J L) : ∀ (m i : Nat), i + m = 6 → ∀ J : pm_I, (∀ a : Nat, a ≠ 45 → J a = I a) → (∀ k, k < i → J 45 k = I 57 (6 * d + k)) → PW la P yX10_load cX10_load 3 none (pm_rm 0 0 0) (pm_Tg P Q 0 0) 0 0 33 [some (.ref 40), some (.int (nI d)), some (.int (nI i))] [] GG J L
  | 0, i, hm, J, hF, hC => by
    have e : i = 6 := by omega
    subst e
    refine pm_iload_n (pc := 33) dX10_load_33 rfl ?_
    refine pm_bipush (pc := 34) (v := nI 6) dX10_load_34 (by decide) ?_
    refine pm_icmp_ge (pc := 36) (tgt := 62) dX10_load_36 rfl (fun h36 => ?_) (fun h36 => (by simp (disch := omega) only [pm_eqI, pm_ltI, pm_leI, nI_toInt, pm_t0, pm_t1, pm_tm1] at h36; omega))
    refine pm_kill 2 ?_
    exact kx J hF hC
  | m + 1, i, hm, J, hF, hC => by
    have hi : i < 6 := by omega
    refine pm_iload_n (pc := 33) dX10_load_33 rfl ?_
    refine pm_bipush (pc := 34) (v := nI 6) dX10_load_34 (by decide) ?_
    refine pm_icmp_ge (pc := 36) (tgt := 62) dX10_load_36 rfl (fun h36 => (by simp (disch := omega) only [pm_eqI, pm_ltI, pm_leI, nI_toInt, pm_t0, pm_t1, pm_tm1] at h36; omega)) (fun h36 => ?_)
    refine pm_aload_n (pc := 39) dX10_load_39 rfl ?_
    refine pm_getr (pc := 40) (ci := 8) (C0 := RX10) (T := TX10) (N := 34) (j := 5) rfl rfl in_X10 (by decide) wf_X10_22 rfl dX10_load_40 ?_
    refine pm_iload_n (pc := 43) dX10_load_43 rfl ?_
    refine pm_aload_n (pc := 44) dX10_load_44 rfl ?_
    refine pm_getr (pc := 45) (ci := 8) (C0 := RX10) (T := TX10) (N := 34) (j := 23) rfl rfl in_X10 (by decide) wf_X10_58 rfl dX10_load_45 ?_
    refine pm_bipush (pc := 48) (v := nI 6) dX10_load_48 (by decide) ?_
    refine pm_iload_n (pc := 50) dX10_load_50 rfl ?_
    refine pm_imul (pc := 51) dX10_load_51 ?_
    refine pm_iload_n (pc := 52) dX10_load_52 rfl ?_
    refine pm_iadd (pc := 53) dX10_load_53 ?_
    refine pm_top (x' := nI (6 * d + i)) (by rw [pk_mul, nI_add]) ?_
    refine pm_iald (pc := 54) rfl (by omega) (by decide) dX10_load_54 ?_
    rw [hF 57 (by decide)]
    refine pm_iast (pc := 55) rfl (by omega) (by decide) dX10_load_55 ?_
    refine pm_iinc (pc := 56) dX10_load_56 rfl (pm_inc1 _) (by decide) rfl ?_
    refine pm_goto (pc := 59) (tgt := 33) dX10_load_59 rfl ?_
    refine l_ld2 hd kx m (i + 1) (by omega) _ (fun a ha => (pm_un ha).trans (hF a ha)) (fun k hk => ?_)
    · rw [pm_us]
      show (if k = i then _ else J 45 (k)) = _
      by_cases e : k = i
      · rw [if_pos (by omega), e]
      · rw [if_neg (by omega)]; exact hC k (by omega)
set_option maxRecDepth 100000 in
set_option maxHeartbeats 1000000 in
theorem l_ld3 {I : pm_I} {L : pm_L} {d : Nat} (hd : d < 3) {Q : pm_QT} {la : Launch} {P : pm_E} (kx : ∀ J : pm_I, (∀ a : Nat, a ≠ 46 → J a = I a) → (∀ k, k < 72 → J 46 k = I 58 (72 * d + k)) → PW la P yX10_load cX10_load 3 none (pm_rm 0 0 0) (pm_Tg P Q 0 0) 0 0 93 [some (.ref 40), some (.int (nI d)), none] [] GG J L) : ∀ (m i : Nat), i + m = 72 → ∀ J : pm_I, (∀ a : Nat, a ≠ 46 → J a = I a) → (∀ k, k < i → J 46 k = I 58 (72 * d + k)) → PW la P yX10_load cX10_load 3 none (pm_rm 0 0 0) (pm_Tg P Q 0 0) 0 0 64 [some (.ref 40), some (.int (nI d)), some (.int (nI i))] [] GG J L
  | 0, i, hm, J, hF, hC => by
    have e : i = 72 := by omega
    subst e
    refine pm_iload_n (pc := 64) dX10_load_64 rfl ?_
    refine pm_bipush (pc := 65) (v := nI 72) dX10_load_65 (by decide) ?_
    refine pm_icmp_ge (pc := 67) (tgt := 93) dX10_load_67 rfl (fun h67 => ?_) (fun h67 => (by simp (disch := omega) only [pm_eqI, pm_ltI, pm_leI, nI_toInt, pm_t0, pm_t1, pm_tm1] at h67; omega))
    refine pm_kill 2 ?_
    exact kx J hF hC
  | m + 1, i, hm, J, hF, hC => by
    have hi : i < 72 := by omega
    refine pm_iload_n (pc := 64) dX10_load_64 rfl ?_
    refine pm_bipush (pc := 65) (v := nI 72) dX10_load_65 (by decide) ?_
    refine pm_icmp_ge (pc := 67) (tgt := 93) dX10_load_67 rfl (fun h67 => (by simp (disch := omega) only [pm_eqI, pm_ltI, pm_leI, nI_toInt, pm_t0, pm_t1, pm_tm1] at h67; omega)) (fun h67 => ?_)
    refine pm_aload_n (pc := 70) dX10_load_70 rfl ?_
    refine pm_getr (pc := 71) (ci := 8) (C0 := RX10) (T := TX10) (N := 34) (j := 6) rfl rfl in_X10 (by decide) wf_X10_25 rfl dX10_load_71 ?_
    refine pm_iload_n (pc := 74) dX10_load_74 rfl ?_
    refine pm_aload_n (pc := 75) dX10_load_75 rfl ?_
    refine pm_getr (pc := 76) (ci := 8) (C0 := RX10) (T := TX10) (N := 34) (j := 24) rfl rfl in_X10 (by decide) wf_X10_61 rfl dX10_load_76 ?_
    refine pm_bipush (pc := 79) (v := nI 72) dX10_load_79 (by decide) ?_
    refine pm_iload_n (pc := 81) dX10_load_81 rfl ?_
    refine pm_imul (pc := 82) dX10_load_82 ?_
    refine pm_iload_n (pc := 83) dX10_load_83 rfl ?_
    refine pm_iadd (pc := 84) dX10_load_84 ?_
    refine pm_top (x' := nI (72 * d + i)) (by rw [pk_mul, nI_add]) ?_
    refine pm_iald (pc := 85) rfl (by omega) (by decide) dX10_load_85 ?_
    rw [hF 58 (by decide)]
    refine pm_iast (pc := 86) rfl (by omega) (by decide) dX10_load_86 ?_
    refine pm_iinc (pc := 87) dX10_load_87 rfl (pm_inc1 _) (by decide) rfl ?_
    refine pm_goto (pc := 90) (tgt := 64) dX10_load_90 rfl ?_
    refine l_ld3 hd kx m (i + 1) (by omega) _ (fun a ha => (pm_un ha).trans (hF a ha)) (fun k hk => ?_)
    · rw [pm_us]
      show (if k = i then _ else J 46 (k)) = _
      by_cases e : k = i
      · rw [if_pos (by omega), e]
      · rw [if_neg (by omega)]; exact hC k (by omega)
set_option maxRecDepth 100000 in
set_option maxHeartbeats 1000000 in
theorem c_mSave {I : pm_I} {L : pm_L} {s : gS} (hG : MG I s) (hI : gInv s) {d : Nat} (hd : d < 3) : PC 0 0 0 yX10_save cX10_save 3 none [.ref 40, .int (nI d)] GG I L (QV GG (fun I' L' => (h_Y s d I' ∧ (∀ a : Nat, a ≠ 56 → a ≠ 57 → a ≠ 58 → I' a = I a) ∧ ∀ k e, e < d → (k < 12 → I' 56 (12 * e + k) = I 56 (12 * e + k)) ∧ (k < 6 → I' 57 (6 * e + k) = I 57 (6 * e + k)) ∧ (k < 72 → I' 58 (72 * e + k) = I 58 (72 * e + k))) ∧ L' = L)) := by
  have h12 := hI.n12
  refine PC.of [some (.ref 40), some (.int (nI d)), none] (by decide) (Nat.le_of_ble_eq_true rfl) rfl (fun l P => ?_)
  refine pm_iconst (pc := 0) (v := nI 0) dX10_save_0 (by decide) ?_
  refine pm_istore_n (pc := 1) dX10_save_1 (by decide) rfl ?_
  refine l_sv1 hd (fun J1 F1 C1 L1 => ?_) 12 0 (by omega) I (fun _ _ => rfl) (fun k hk => absurd hk (Nat.not_lt_zero k)) (fun _ _ => rfl)
  refine pm_iconst (pc := 31) (v := nI 0) dX10_save_31 (by decide) ?_
  refine pm_istore_n (pc := 32) dX10_save_32 (by decide) rfl ?_
  refine l_sv2 hd (fun J2 F2 C2 L2 => ?_) 6 0 (by omega) J1 (fun _ _ => rfl) (fun k hk => absurd hk (Nat.not_lt_zero k)) (fun _ _ => rfl)
  refine pm_iconst (pc := 62) (v := nI 0) dX10_save_62 (by decide) ?_
  refine pm_istore_n (pc := 63) dX10_save_63 (by decide) rfl ?_
  refine l_sv3 hd (fun J3 F3 C3 L3 => ?_) 72 0 (by omega) J2 (fun _ _ => rfl) (fun k hk => absurd hk (Nat.not_lt_zero k)) (fun _ _ => rfl)
  refine pm_vret (pc := 93) rfl (Nat.le_refl _) (Nat.le_refl _) dX10_save_93 ?_
  refine QV.r ⟨⟨⟨fun j hj => ?_, fun p hp => ⟨?_, fun k hk => ?_⟩⟩, fun a h1 h2 h3 => ?_, fun k e he => ⟨fun hk => ?_, fun hk => ?_, fun hk => ?_⟩⟩, rfl⟩
  · rw [F3 56 (by decide), F2 56 (by decide), C1 j (by omega)]; exact hG.wh hj
  · rw [F3 57 (by decide), C2 p hp, F1 45 (by decide)]; exact hG.mn hp
  · have := hI.len hp
    rw [C3 (12 * p + k) (by omega), F2 46 (by decide), F1 46 (by decide)]; exact hG.pl hp hk
  · rw [F3 a h3, F2 a h2, F1 a h1]
  · rw [F3 56 (by decide), F2 56 (by decide)]; exact L1 _ (by omega)
  · rw [F3 57 (by decide), L2 _ (by omega), F1 57 (by decide)]
  · rw [L3 _ (by omega), F2 58 (by decide), F1 58 (by decide)]
set_option maxRecDepth 100000 in
set_option maxHeartbeats 1000000 in
theorem c_mLoad {I : pm_I} {L : pm_L} {s t : gS} (hG : MG I t) (hI : gInv s) (hst : g_n t = g_n s ∧ g_kd t = g_kd s ∧ g_wt t = g_wt s ∧ g_sn t = g_sn s ∧ g_tw t = g_tw s ∧ g_aw t = g_aw s) {d : Nat} (hd : d < 3) (hY : h_Y s d I) : PC 0 0 0 yX10_load cX10_load 3 none [.ref 40, .int (nI d)] GG I L (QV GG (fun I' L' => (MG I' s ∧ ∀ a : Nat, a ≠ 44 → a ≠ 45 → a ≠ 46 → I' a = I a) ∧ L' = L)) := by
  have h12 := hI.n12
  refine PC.of [some (.ref 40), some (.int (nI d)), none] (by decide) (Nat.le_of_ble_eq_true rfl) rfl (fun l P => ?_)
  refine pm_iconst (pc := 0) (v := nI 0) dX10_load_0 (by decide) ?_
  refine pm_istore_n (pc := 1) dX10_load_1 (by decide) rfl ?_
  refine l_ld1 hd (fun J1 F1 C1 => ?_) 12 0 (by omega) I (fun _ _ => rfl) (fun k hk => absurd hk (Nat.not_lt_zero k))
  refine pm_iconst (pc := 31) (v := nI 0) dX10_load_31 (by decide) ?_
  refine pm_istore_n (pc := 32) dX10_load_32 (by decide) rfl ?_
  refine l_ld2 hd (fun J2 F2 C2 => ?_) 6 0 (by omega) J1 (fun _ _ => rfl) (fun k hk => absurd hk (Nat.not_lt_zero k))
  refine pm_iconst (pc := 62) (v := nI 0) dX10_load_62 (by decide) ?_
  refine pm_istore_n (pc := 63) dX10_load_63 (by decide) rfl ?_
  refine l_ld3 hd (fun J3 F3 C3 => ?_) 72 0 (by omega) J2 (fun _ _ => rfl) (fun k hk => absurd hk (Nat.not_lt_zero k))
  refine pm_vret (pc := 93) rfl (Nat.le_refl _) (Nat.le_refl _) dX10_load_93 ?_
  have hm : g_n t = g_n s := hst.1
  refine QV.r ⟨⟨⟨?_, ?_, fun j hj => ⟨?_, ?_, ?_, ?_⟩, fun p hp => ⟨?_, ?_, fun k hk => ?_⟩⟩, fun a h1 h2 h3 => ?_⟩, rfl⟩
  · rw [F3 40 (by decide), F2 40 (by decide), F1 40 (by decide), hG.n, hm]
  · rw [F3 40 (by decide), F2 40 (by decide), F1 40 (by decide), hG.aw, hst.2.2.2.2.2]
  · rw [F3 41 (by decide), F2 41 (by decide), F1 41 (by decide), hG.kd (by omega), hst.2.1]
  · rw [F3 42 (by decide), F2 42 (by decide), F1 42 (by decide), hG.wt (by omega), hst.2.2.1]
  · rw [F3 43 (by decide), F2 43 (by decide), F1 43 (by decide), hG.tw (by omega), hst.2.2.2.2.1]
  · rw [F3 44 (by decide), F2 44 (by decide), C1 j (by omega)]; exact hY.1 j hj
  · rw [F3 45 (by decide), C2 p hp, F1 57 (by decide)]; exact (hY.2 p hp).1
  · rw [F3 47 (by decide), F2 47 (by decide), F1 47 (by decide), hG.sn hp, hst.2.2.2.1]
  · have := hI.len hp
    rw [C3 (12 * p + k) (by omega), F2 58 (by decide), F1 58 (by decide)]; exact (hY.2 p hp).2 k hk
  · rw [F3 a h3, F2 a h2, F1 a h1]
