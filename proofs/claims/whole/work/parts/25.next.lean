/-- the best change so far, and what is left at worst by it, before change i -/
def nx_n (l v i : Nat) : Nat := if i ≤ l + 1 then 0 else min (i - 1) (l + (v - l) / 2)
def nx_b (l v i : Nat) : Int32 := if i = 0 then -1 else nI (nx_n l v i)
def nx_m (l v i : Nat) : Int32 := if i = 0 then nI 0 else nI ((v - l) - (nx_n l v i - l))
theorem nx_s {l v i : Nat} (hv : l + 2 ≤ v) (h : i = 0 ∨ max (min (i - l) (v - l)) ((v - l) - min (i - l) (v - l)) < (v - l) - (nx_n l v i - l)) : nx_b l v (i + 1) = nI i ∧ nx_m l v (i + 1) = nI (max (min (i - l) (v - l)) ((v - l) - min (i - l) (v - l))) := by
  have e : nx_n l v (i + 1) = i := by
    unfold nx_n at h ⊢
    by_cases e1 : i + 1 ≤ l + 1
    · rw [if_pos e1]
      rw [if_pos (by omega)] at h; omega
    · rw [if_neg e1]
      by_cases e2 : i ≤ l + 1
      · rw [if_pos e2] at h; omega
      · rw [if_neg e2] at h; omega
  unfold nx_b nx_m
  rw [if_neg (by omega), if_neg (by omega), e]
  refine ⟨rfl, congrArg nI ?_⟩
  unfold nx_n at e
  by_cases e1 : i + 1 ≤ l + 1
  · rw [if_pos e1] at e; omega
  · rw [if_neg e1] at e; omega
theorem nx_k {l v i : Nat} (hv : l + 2 ≤ v) (h0 : i ≠ 0) (h : ¬ max (min (i - l) (v - l)) ((v - l) - min (i - l) (v - l)) < (v - l) - (nx_n l v i - l)) : nx_b l v (i + 1) = nx_b l v i ∧ nx_m l v (i + 1) = nx_m l v i := by
  have e : nx_n l v (i + 1) = nx_n l v i := by
    unfold nx_n at h ⊢
    by_cases e1 : i + 1 ≤ l + 1
    · rw [if_pos e1, if_pos (by omega)]
    · rw [if_neg e1]
      by_cases e2 : i ≤ l + 1
      · rw [if_pos e2] at h ⊢; omega
      · rw [if_neg e2] at h ⊢; omega
  unfold nx_b nx_m
  rw [if_neg (show ¬ i + 1 = 0 by omega), if_neg (show ¬ i + 1 = 0 by omega), if_neg h0, if_neg h0, e]
  exact ⟨rfl, rfl⟩
theorem nx_le {l v i : Nat} : nx_n l v i ≤ l + v := by unfold nx_n; split <;> omega
set_option maxRecDepth 100000 in
set_option maxHeartbeats 1000000 in
theorem n_85t {I : pm_I} {L : pm_L} {l v : Nat} (hv : l + 2 ≤ v) (hv2 : v ≤ 100) {la : Launch} {P : pm_E} {i : Nat} (hi : i < 100)  (h : nx_b l v (i + 1) = nI i ∧ nx_m l v (i + 1) = nI (max (min (i - l) (v - l)) ((v - l) - min (i - l) (v - l)))) (k9 : PW la P yX10_nextOf cX10_nextOf 9 (some (.int)) (pm_rm 0 0 0) (pm_Tg P (QR GG I L (nI (l + (v - l) / 2))) 0 0) 0 0 7 [some (.int (nI l)), some (.int (nI v - nI 1)), some (.int (nx_b l v (i + 1))), some (.int (nx_m l v (i + 1))), some (.int (nI (i + 1))), none, none, none, none] [] GG I L) : PW la P yX10_nextOf cX10_nextOf 9 (some (.int)) (pm_rm 0 0 0) (pm_Tg P (QR GG I L (nI (l + (v - l) / 2))) 0 0) 0 0 85 [some (.int (nI l)), some (.int (nI v - nI 1)), some (.int (nx_b l v i)), some (.int (nx_m l v i)), some (.int (nI i)), some (.int (nI (min (i - l) (v - l)))), some (.int (nI ((v - l) - min (i - l) (v - l)))), some (.int (nI (max (min (i - l) (v - l)) ((v - l) - min (i - l) (v - l))))), none] [.int (nI 1)] GG I L := by
  refine pm_istore (pc := 85) dX10_nextOf_85 (by decide) rfl ?_
  refine pm_iload (pc := 87) dX10_nextOf_87 rfl ?_
  refine pm_if_eq (pc := 89) (tgt := 97) dX10_nextOf_89 rfl (fun h89 => absurd h89 (by decide)) (fun h89 => ?_)
  refine pm_iload (pc := 92) dX10_nextOf_92 rfl ?_
  refine pm_goto (pc := 94) (tgt := 98) dX10_nextOf_94 rfl ?_
  refine pm_istore_n (pc := 98) dX10_nextOf_98 (by decide) rfl ?_
  refine pm_iload (pc := 99) dX10_nextOf_99 rfl ?_
  refine pm_if_eq (pc := 101) (tgt := 109) dX10_nextOf_101 rfl (fun h101 => absurd h101 (by decide)) (fun h101 => ?_)
  refine pm_iload (pc := 104) dX10_nextOf_104 rfl ?_
  refine pm_goto (pc := 106) (tgt := 110) dX10_nextOf_106 rfl ?_
  refine pm_istore_n (pc := 110) dX10_nextOf_110 (by decide) rfl ?_
  refine pm_iinc (pc := 111) dX10_nextOf_111 rfl (pm_inc1 _) (by decide) rfl ?_
  refine pm_goto (pc := 114) (tgt := 7) dX10_nextOf_114 rfl ?_
  refine pm_kill 5 ?_
  refine pm_kill 6 ?_
  refine pm_kill 7 ?_
  refine pm_kill 8 ?_
  rw [h.1, h.2] at k9
  exact k9
set_option maxRecDepth 100000 in
set_option maxHeartbeats 1000000 in
theorem n_85f {I : pm_I} {L : pm_L} {l v : Nat} (hv : l + 2 ≤ v) (hv2 : v ≤ 100) {la : Launch} {P : pm_E} {i : Nat} (hi : i < 100)  (h : nx_b l v (i + 1) = nx_b l v i ∧ nx_m l v (i + 1) = nx_m l v i) (k9 : PW la P yX10_nextOf cX10_nextOf 9 (some (.int)) (pm_rm 0 0 0) (pm_Tg P (QR GG I L (nI (l + (v - l) / 2))) 0 0) 0 0 7 [some (.int (nI l)), some (.int (nI v - nI 1)), some (.int (nx_b l v (i + 1))), some (.int (nx_m l v (i + 1))), some (.int (nI (i + 1))), none, none, none, none] [] GG I L) : PW la P yX10_nextOf cX10_nextOf 9 (some (.int)) (pm_rm 0 0 0) (pm_Tg P (QR GG I L (nI (l + (v - l) / 2))) 0 0) 0 0 85 [some (.int (nI l)), some (.int (nI v - nI 1)), some (.int (nx_b l v i)), some (.int (nx_m l v i)), some (.int (nI i)), some (.int (nI (min (i - l) (v - l)))), some (.int (nI ((v - l) - min (i - l) (v - l)))), some (.int (nI (max (min (i - l) (v - l)) ((v - l) - min (i - l) (v - l))))), none] [.int (nI 0)] GG I L := by
  refine pm_istore (pc := 85) dX10_nextOf_85 (by decide) rfl ?_
  refine pm_iload (pc := 87) dX10_nextOf_87 rfl ?_
  refine pm_if_eq (pc := 89) (tgt := 97) dX10_nextOf_89 rfl (fun h89 => ?_) (fun h89 => absurd (show nI 0 = 0 by decide) h89)
  refine pm_iload_n (pc := 97) dX10_nextOf_97 rfl ?_
  refine pm_istore_n (pc := 98) dX10_nextOf_98 (by decide) rfl ?_
  refine pm_iload (pc := 99) dX10_nextOf_99 rfl ?_
  refine pm_if_eq (pc := 101) (tgt := 109) dX10_nextOf_101 rfl (fun h101 => ?_) (fun h101 => absurd (show nI 0 = 0 by decide) h101)
  refine pm_iload_n (pc := 109) dX10_nextOf_109 rfl ?_
  refine pm_istore_n (pc := 110) dX10_nextOf_110 (by decide) rfl ?_
  refine pm_iinc (pc := 111) dX10_nextOf_111 rfl (pm_inc1 _) (by decide) rfl ?_
  refine pm_goto (pc := 114) (tgt := 7) dX10_nextOf_114 rfl ?_
  refine pm_kill 5 ?_
  refine pm_kill 6 ?_
  refine pm_kill 7 ?_
  refine pm_kill 8 ?_
  rw [h.1, h.2] at k9
  exact k9
set_option maxRecDepth 100000 in
set_option maxHeartbeats 1000000 in
theorem n_68 {I : pm_I} {L : pm_L} {l v : Nat} (hv : l + 2 ≤ v) (hv2 : v ≤ 100) {la : Launch} {P : pm_E} {i : Nat} (hi : i < 100)  (k9 : PW la P yX10_nextOf cX10_nextOf 9 (some (.int)) (pm_rm 0 0 0) (pm_Tg P (QR GG I L (nI (l + (v - l) / 2))) 0 0) 0 0 7 [some (.int (nI l)), some (.int (nI v - nI 1)), some (.int (nx_b l v (i + 1))), some (.int (nx_m l v (i + 1))), some (.int (nI (i + 1))), none, none, none, none] [] GG I L) : PW la P yX10_nextOf cX10_nextOf 9 (some (.int)) (pm_rm 0 0 0) (pm_Tg P (QR GG I L (nI (l + (v - l) / 2))) 0 0) 0 0 68 [some (.int (nI l)), some (.int (nI v - nI 1)), some (.int (nx_b l v i)), some (.int (nx_m l v i)), some (.int (nI i)), some (.int (nI (min (i - l) (v - l)))), some (.int (nI ((v - l) - min (i - l) (v - l)))), none, none] [.int (nI (max (min (i - l) (v - l)) ((v - l) - min (i - l) (v - l))))] GG I L := by
  have hle := nx_le (l := l) (v := v) (i := i)
  have b0 : nx_b l v i < 0 ↔ i = 0 := by
    unfold nx_b
    by_cases e : i = 0
    · rw [if_pos e]; exact ⟨fun _ => e, fun _ => by decide⟩
    · rw [if_neg e, pm_ltI, pm_t0, nI_toInt (by omega)]; exact ⟨fun z => by omega, fun z => absurd z e⟩
  have m0 : i ≠ 0 → (nx_m l v i ≤ nI (max (min (i - l) (v - l)) ((v - l) - min (i - l) (v - l))) ↔ ¬ (max (min (i - l) (v - l)) ((v - l) - min (i - l) (v - l))) < (v - l) - (nx_n l v i - l)) := fun e => by
    unfold nx_m
    rw [if_neg e, pm_leI, nI_toInt (by omega), nI_toInt (by omega)]; omega
  refine pm_istore (pc := 68) dX10_nextOf_68 (by decide) rfl ?_
  refine pm_iload_n (pc := 70) dX10_nextOf_70 rfl ?_
  refine pm_if_lt (pc := 71) (tgt := 80) dX10_nextOf_71 rfl (fun h71 => ?_) (fun h71 => ?_)
  · refine pm_iconst (pc := 80) (v := nI 1) dX10_nextOf_80 (by decide) ?_
    refine pm_goto (pc := 81) (tgt := 85) dX10_nextOf_81 rfl ?_
    first
      | exact n_85f hv hv2 hi (nx_k hv (fun z => h71 (b0.mpr z)) ((m0 (fun z => h71 (b0.mpr z))).mp h77)) k9
      | exact n_85t hv hv2 hi (nx_s hv (Or.inl (b0.mp h71))) k9
      | exact n_85t hv hv2 hi (nx_s hv (Or.inr (Decidable.not_not.mp (fun z => h77 ((m0 (fun z => h71 (b0.mpr z))).mpr z))))) k9
  · refine pm_iload (pc := 74) dX10_nextOf_74 rfl ?_
    refine pm_iload_n (pc := 76) dX10_nextOf_76 rfl ?_
    refine pm_icmp_ge (pc := 77) (tgt := 84) dX10_nextOf_77 rfl (fun h77 => ?_) (fun h77 => ?_)
    · refine pm_iconst (pc := 84) (v := nI 0) dX10_nextOf_84 (by decide) ?_
      first
        | exact n_85f hv hv2 hi (nx_k hv (fun z => h71 (b0.mpr z)) ((m0 (fun z => h71 (b0.mpr z))).mp h77)) k9
        | exact n_85t hv hv2 hi (nx_s hv (Or.inl (b0.mp h71))) k9
        | exact n_85t hv hv2 hi (nx_s hv (Or.inr (Decidable.not_not.mp (fun z => h77 ((m0 (fun z => h71 (b0.mpr z))).mpr z))))) k9
    · refine pm_iconst (pc := 80) (v := nI 1) dX10_nextOf_80 (by decide) ?_
      refine pm_goto (pc := 81) (tgt := 85) dX10_nextOf_81 rfl ?_
      first
        | exact n_85f hv hv2 hi (nx_k hv (fun z => h71 (b0.mpr z)) ((m0 (fun z => h71 (b0.mpr z))).mp h77)) k9
        | exact n_85t hv hv2 hi (nx_s hv (Or.inl (b0.mp h71))) k9
        | exact n_85t hv hv2 hi (nx_s hv (Or.inr (Decidable.not_not.mp (fun z => h77 ((m0 (fun z => h71 (b0.mpr z))).mpr z))))) k9
set_option maxRecDepth 100000 in
set_option maxHeartbeats 1000000 in
theorem n_42 {I : pm_I} {L : pm_L} {l v : Nat} (hv : l + 2 ≤ v) (hv2 : v ≤ 100) {la : Launch} {P : pm_E} {i : Nat} (hi : i < 100)  (k9 : PW la P yX10_nextOf cX10_nextOf 9 (some (.int)) (pm_rm 0 0 0) (pm_Tg P (QR GG I L (nI (l + (v - l) / 2))) 0 0) 0 0 7 [some (.int (nI l)), some (.int (nI v - nI 1)), some (.int (nx_b l v (i + 1))), some (.int (nx_m l v (i + 1))), some (.int (nI (i + 1))), none, none, none, none] [] GG I L) : PW la P yX10_nextOf cX10_nextOf 9 (some (.int)) (pm_rm 0 0 0) (pm_Tg P (QR GG I L (nI (l + (v - l) / 2))) 0 0) 0 0 42 [some (.int (nI l)), some (.int (nI v - nI 1)), some (.int (nx_b l v i)), some (.int (nx_m l v i)), some (.int (nI i)), none, none, none, none] [.int (nI (min (i - l) (v - l)))] GG I L := by
  have k1 := nIm1 (v := v) (by omega)
  have kl := nI_toInt (n := l) (by omega)
  have k01 := nI_toInt (n := 1) (by decide)
  have k2 : (nI v - nI 1 - nI l).toInt = (v : Int) - 1 - l := by rw [fb_subI (by omega) (by omega)]; omega
  have eS : nI v - nI 1 - nI l + nI 1 = nI (v - l) := by rw [pm_eqI, fb_addI (by omega) (by omega), nI_toInt (n := v - l) (by omega)]; omega
  refine pm_istore (pc := 42) dX10_nextOf_42 (by decide) rfl ?_
  refine pm_iload_n (pc := 44) dX10_nextOf_44 rfl ?_
  refine pm_iload_n (pc := 45) dX10_nextOf_45 rfl ?_
  refine pm_isub (pc := 46) dX10_nextOf_46 ?_
  refine pm_iconst (pc := 47) (v := nI 1) dX10_nextOf_47 (by decide) ?_
  refine pm_iadd (pc := 48) dX10_nextOf_48 ?_
  refine pm_top eS ?_
  refine pm_iload (pc := 49) dX10_nextOf_49 rfl ?_
  refine pm_isub (pc := 51) dX10_nextOf_51 ?_
  refine pm_top (pk_sub (Nat.min_le_right _ _)) ?_
  refine pm_istore (pc := 52) dX10_nextOf_52 (by decide) rfl ?_
  refine pm_iload (pc := 54) dX10_nextOf_54 rfl ?_
  refine pm_iload (pc := 56) dX10_nextOf_56 rfl ?_
  refine pm_icmp_le (pc := 58) (tgt := 66) dX10_nextOf_58 rfl (fun h58 => ?_) (fun h58 => ?_)
  · rw [pm_leI, nI_toInt (by omega), nI_toInt (by omega)] at h58
    refine pm_iload (pc := 66) dX10_nextOf_66 rfl ?_
    have e := n_68 hv hv2 hi k9 (I := I) (L := L) (la := la) (P := P)
    first
      | (rw [show (max (min (i - l) (v - l)) ((v - l) - min (i - l) (v - l))) = ((v - l) - min (i - l) (v - l)) by omega] at e; exact e)
      | (rw [show (max (min (i - l) (v - l)) ((v - l) - min (i - l) (v - l))) = (min (i - l) (v - l)) by omega] at e; exact e)
  · rw [pm_leI, nI_toInt (by omega), nI_toInt (by omega)] at h58
    refine pm_iload (pc := 61) dX10_nextOf_61 rfl ?_
    refine pm_goto (pc := 63) (tgt := 68) dX10_nextOf_63 rfl ?_
    have e := n_68 hv hv2 hi k9 (I := I) (L := L) (la := la) (P := P)
    first
      | (rw [show (max (min (i - l) (v - l)) ((v - l) - min (i - l) (v - l))) = ((v - l) - min (i - l) (v - l)) by omega] at e; exact e)
      | (rw [show (max (min (i - l) (v - l)) ((v - l) - min (i - l) (v - l))) = (min (i - l) (v - l)) by omega] at e; exact e)
set_option maxRecDepth 100000 in
set_option maxHeartbeats 1000000 in
theorem n_7 {I : pm_I} {L : pm_L} {l v : Nat} (hv : l + 2 ≤ v) (hv2 : v ≤ 100) {la : Launch} {P : pm_E} : ∀ (m i : Nat), i + m = 100 → PW la P yX10_nextOf cX10_nextOf 9 (some (.int)) (pm_rm 0 0 0) (pm_Tg P (QR GG I L (nI (l + (v - l) / 2))) 0 0) 0 0 7 [some (.int (nI l)), some (.int (nI v - nI 1)), some (.int (nx_b l v i)), some (.int (nx_m l v i)), some (.int (nI i)), none, none, none, none] [] GG I L
  | 0, i, hm => by
    have e : i = 100 := by omega
    subst e
    refine pm_iload (pc := 7) dX10_nextOf_7 rfl ?_
    refine pm_bipush (pc := 9) (v := nI 100) dX10_nextOf_9 (by decide) ?_
    refine pm_icmp_ge (pc := 11) (tgt := 117) dX10_nextOf_11 rfl (fun h11 => ?_) (fun h11 => (by simp (disch := omega) only [pm_eqI, pm_ltI, pm_leI, nI_toInt, pm_t0, pm_t1, pm_tm1] at h11; omega))
    refine pm_iload_n (pc := 117) dX10_nextOf_117 rfl ?_
    refine pm_iret (pc := 118) rfl (Nat.le_refl _) (Nat.le_refl _) dX10_nextOf_118 ?_
    refine QR.r ?_
    unfold nx_b nx_n
    rw [if_neg (by decide)]
    congr 1
    by_cases e : 100 ≤ l + 1
    · omega
    · rw [if_neg e]; omega
  | m + 1, i, hm => by
    have hi : i < 100 := by omega
    have k9 := n_7 hv hv2 m (i + 1) (by omega) (I := I) (L := L) (la := la) (P := P)
    have k42 := n_42 hv hv2 hi k9
    have k1 := nIm1 (v := v) (by omega)
    have kl := nI_toInt (n := l) (by omega)
    have ki := nI_toInt (n := i) (by omega)
    have k01 := nI_toInt (n := 1) (by decide)
    have k2 : (nI v - nI 1 - nI l).toInt = (v : Int) - 1 - l := by rw [fb_subI (by omega) (by omega)]; omega
    have eS : nI v - nI 1 - nI l + nI 1 = nI (v - l) := by rw [pm_eqI, fb_addI (by omega) (by omega), nI_toInt (n := v - l) (by omega)]; omega
    refine pm_iload (pc := 7) dX10_nextOf_7 rfl ?_
    refine pm_bipush (pc := 9) (v := nI 100) dX10_nextOf_9 (by decide) ?_
    refine pm_icmp_ge (pc := 11) (tgt := 117) dX10_nextOf_11 rfl (fun h11 => (by simp (disch := omega) only [pm_eqI, pm_ltI, pm_leI, nI_toInt, pm_t0, pm_t1, pm_tm1] at h11; omega)) (fun h11 => ?_)
    refine pm_iload (pc := 14) dX10_nextOf_14 rfl ?_
    refine pm_iload_n (pc := 16) dX10_nextOf_16 rfl ?_
    refine pm_icmp_gt (pc := 17) (tgt := 24) dX10_nextOf_17 rfl (fun h17 => ?_) (fun h17 => ?_)
    · rw [pm_ltI, kl, ki] at h17
      refine pm_iload (pc := 24) dX10_nextOf_24 rfl ?_
      refine pm_iload_n (pc := 26) dX10_nextOf_26 rfl ?_
      refine pm_icmp_le (pc := 27) (tgt := 38) dX10_nextOf_27 rfl (fun h27 => ?_) (fun h27 => ?_)
      · rw [pm_leI, ki, k1] at h27
        refine pm_iload (pc := 38) dX10_nextOf_38 rfl ?_
        refine pm_iload_n (pc := 40) dX10_nextOf_40 rfl ?_
        refine pm_isub (pc := 41) dX10_nextOf_41 ?_
        first
          | (rw [show (min (i - l) (v - l)) = 0 by omega] at k42; exact k42)
          | (rw [eS]; rw [show (min (i - l) (v - l)) = v - l by omega] at k42; exact k42)
          | (refine pm_top (pk_sub (by omega)) ?_; rw [show (min (i - l) (v - l)) = i - l by omega] at k42; exact k42)
      · rw [pm_leI, ki, k1] at h27
        refine pm_iload_n (pc := 30) dX10_nextOf_30 rfl ?_
        refine pm_iload_n (pc := 31) dX10_nextOf_31 rfl ?_
        refine pm_isub (pc := 32) dX10_nextOf_32 ?_
        refine pm_iconst (pc := 33) (v := nI 1) dX10_nextOf_33 (by decide) ?_
        refine pm_iadd (pc := 34) dX10_nextOf_34 ?_
        refine pm_goto (pc := 35) (tgt := 42) dX10_nextOf_35 rfl ?_
        first
          | (rw [show (min (i - l) (v - l)) = 0 by omega] at k42; exact k42)
          | (rw [eS]; rw [show (min (i - l) (v - l)) = v - l by omega] at k42; exact k42)
          | (refine pm_top (pk_sub (by omega)) ?_; rw [show (min (i - l) (v - l)) = i - l by omega] at k42; exact k42)
    · rw [pm_ltI, kl, ki] at h17
      refine pm_iconst (pc := 20) (v := nI 0) dX10_nextOf_20 (by decide) ?_
      refine pm_goto (pc := 21) (tgt := 42) dX10_nextOf_21 rfl ?_
      first
        | (rw [show (min (i - l) (v - l)) = 0 by omega] at k42; exact k42)
        | (rw [eS]; rw [show (min (i - l) (v - l)) = v - l by omega] at k42; exact k42)
        | (refine pm_top (pk_sub (by omega)) ?_; rw [show (min (i - l) (v - l)) = i - l by omega] at k42; exact k42)
set_option maxRecDepth 100000 in
set_option maxHeartbeats 1000000 in
theorem c_nextOf {I : pm_I} {L : pm_L} {l v : Nat} (hv : l + 2 ≤ v) (hv2 : v ≤ 100) : PC 0 0 0 yX10_nextOf cX10_nextOf 9 (some (.int)) [.int (nI l), .int (nI v - nI 1)] GG I L (QR GG I L (nI (l + (v - l) / 2))) := by
  refine PC.of [some (.int (nI l)), some (.int (nI v - nI 1)), none, none, none, none, none, none, none] (by decide) (Nat.le_of_ble_eq_true rfl) rfl (fun la P => ?_)
  refine pm_iconst (pc := 0) (v := (-1)) dX10_nextOf_0 (by decide) ?_
  refine pm_istore_n (pc := 1) dX10_nextOf_1 (by decide) rfl ?_
  refine pm_iconst (pc := 2) (v := nI 0) dX10_nextOf_2 (by decide) ?_
  refine pm_istore_n (pc := 3) dX10_nextOf_3 (by decide) rfl ?_
  refine pm_iconst (pc := 4) (v := nI 0) dX10_nextOf_4 (by decide) ?_
  refine pm_istore (pc := 5) dX10_nextOf_5 (by decide) rfl ?_
  exact n_7 hv hv2 100 0 (by omega)
