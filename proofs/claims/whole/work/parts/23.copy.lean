theorem mset0_s {f g : Nat → Int64} {i : Nat} {v : Int64} (h : v = g i) : vp_updL (mset f 0 g i) i v = mset f 0 g (i + 1) := by
  have k := mset_s (f := f) (base := 0) h
  rwa [Nat.zero_add] at k
set_option maxRecDepth 100000 in
set_option maxHeartbeats 1000000 in
theorem l_ycopy2 {I : pm_I} {L : pm_L} {s t a c m0 : Nat} (hs : s < 4) (ht : t < 4) (ha : a + m0 ≤ 24) (hc : c + m0 ≤ 24) {Q : pm_QT} (hend : Q (some (.int (nI m0))) GG I (pm_u (pm_u L 64 (mset (L 64) 0 (fun k => L 63 (24 * s + a + k)) m0)) 63 (mset (L 63) (24 * t + c) (mset (L 64) 0 (fun k => L 63 (24 * s + a + k)) m0) m0))) {l : Launch} {P : pm_E} : ∀ (m i : Nat), i + m = m0 → PW l P yX10_copy cX10_copy 7 (some (.int)) (pm_rm 2 0 0) (pm_Tg P Q 0 0) 0 0 146 [some (.ref 40), some (.int (nI s)), some (.int (nI a)), some (.int (nI t)), some (.int (nI c)), some (.int (nI m0)), some (.int (nI i))] [] GG I (pm_u (pm_u L 64 (mset (L 64) 0 (fun k => L 63 (24 * s + a + k)) m0)) 63 (mset (L 63) (24 * t + c) (mset (L 64) 0 (fun k => L 63 (24 * s + a + k)) m0) i))
  | 0, i, hm => by
    have e : i = m0 := by omega
    subst e
    refine pm_iload (pc := 146) dX10_copy_146 rfl ?_
    refine pm_iload (pc := 148) dX10_copy_148 rfl ?_
    refine pm_icmp_ge (pc := 150) (tgt := 181) dX10_copy_150 rfl (fun h150 => ?_) (fun h150 => (by simp (disch := omega) only [pm_eqI, pm_ltI, pm_leI, nI_toInt, pm_t0, pm_t1, pm_tm1] at h150; omega))
    refine pm_iload (pc := 181) dX10_copy_181 rfl ?_
    refine pm_iret (pc := 183) rfl (Nat.le_refl _) (Nat.le_refl _) dX10_copy_183 ?_
    exact hend
  | m + 1, i, hm => by
    refine pm_iload (pc := 146) dX10_copy_146 rfl ?_
    refine pm_iload (pc := 148) dX10_copy_148 rfl ?_
    refine pm_icmp_ge (pc := 150) (tgt := 181) dX10_copy_150 rfl (fun h150 => (by simp (disch := omega) only [pm_eqI, pm_ltI, pm_leI, nI_toInt, pm_t0, pm_t1, pm_tm1] at h150; omega)) (fun h150 => ?_)
    refine pm_aload_n (pc := 153) dX10_copy_153 rfl ?_
    refine pm_getr (pc := 154) (ci := 8) (C0 := RX10) (T := TX10) (N := 34) (j := 32) rfl rfl in_X10 (by decide) wf_X10_76 rfl dX10_copy_154 ?_
    refine pm_bipush (pc := 157) (v := nI 24) dX10_copy_157 (by decide) ?_
    refine pm_iload_n (pc := 159) dX10_copy_159 rfl ?_
    refine pm_imul (pc := 160) dX10_copy_160 ?_
    refine pm_iload (pc := 161) dX10_copy_161 rfl ?_
    refine pm_iadd (pc := 163) dX10_copy_163 ?_
    refine pm_iload (pc := 164) dX10_copy_164 rfl ?_
    refine pm_iadd (pc := 166) dX10_copy_166 ?_
    refine pm_top (x' := nI (24 * t + c + i)) (by rw [pk_mul, nI_add, nI_add]) ?_
    refine pm_aload_n (pc := 167) dX10_copy_167 rfl ?_
    refine pm_getr (pc := 168) (ci := 8) (C0 := RX10) (T := TX10) (N := 34) (j := 33) rfl rfl in_X10 (by decide) wf_X10_80 rfl dX10_copy_168 ?_
    refine pm_iload (pc := 171) dX10_copy_171 rfl ?_
    refine pm_lald (pc := 173) rfl (by omega) (by decide) dX10_copy_173 ?_
    refine pm_last (pc := 174) rfl (by omega) (by decide) dX10_copy_174 ?_
    refine pm_iinc (pc := 175) dX10_copy_175 rfl (pm_inc1 _) (by decide) rfl ?_
    refine pm_goto (pc := 178) (tgt := 146) dX10_copy_178 rfl ?_
    have k9 := l_ycopy2 hs ht ha hc hend m (i + 1) (by omega) (l := l) (P := P)
    refine pm_eq rfl rfl rfl rfl ?_ k9
    rw [pm_us, pm_u2]
    exact congrArg (pm_u (pm_u L 64 (mset (L 64) 0 (fun k => L 63 (24 * s + a + k)) m0)) 63) (mset_s (by rw [pm_un (by decide), pm_us]))
set_option maxRecDepth 100000 in
set_option maxHeartbeats 1000000 in
theorem l_ycopy1 {I : pm_I} {L : pm_L} {s t a c m0 : Nat} (hs : s < 4) (ht : t < 4) (ha : a + m0 ≤ 24) (hc : c + m0 ≤ 24) {Q : pm_QT} (hend : Q (some (.int (nI m0))) GG I (pm_u (pm_u L 64 (mset (L 64) 0 (fun k => L 63 (24 * s + a + k)) m0)) 63 (mset (L 63) (24 * t + c) (mset (L 64) 0 (fun k => L 63 (24 * s + a + k)) m0) m0))) {l : Launch} {P : pm_E} : ∀ (m i : Nat), i + m = m0 → PW l P yX10_copy cX10_copy 7 (some (.int)) (pm_rm 2 0 0) (pm_Tg P Q 0 0) 0 0 109 [some (.ref 40), some (.int (nI s)), some (.int (nI a)), some (.int (nI t)), some (.int (nI c)), some (.int (nI m0)), some (.int (nI i))] [] GG I (pm_u L 64 (mset (L 64) 0 (fun k => L 63 (24 * s + a + k)) i))
  | 0, i, hm => by
    have e : i = m0 := by omega
    subst e
    refine pm_iload (pc := 109) dX10_copy_109 rfl ?_
    refine pm_iload (pc := 111) dX10_copy_111 rfl ?_
    refine pm_icmp_ge (pc := 113) (tgt := 143) dX10_copy_113 rfl (fun h113 => ?_) (fun h113 => (by simp (disch := omega) only [pm_eqI, pm_ltI, pm_leI, nI_toInt, pm_t0, pm_t1, pm_tm1] at h113; omega))
    refine pm_iconst (pc := 143) (v := nI 0) dX10_copy_143 (by decide) ?_
    refine pm_istore (pc := 144) dX10_copy_144 (by decide) rfl ?_
    have k9 := l_ycopy2 hs ht ha hc hend i 0 (by omega) (l := l) (P := P)
    refine pm_eq rfl rfl rfl rfl ?_ k9
    rw [mset_0]; exact (pm_uu (pm_u L 64 (mset (L 64) 0 (fun k => L 63 (24 * s + a + k)) i)) 63).symm
  | m + 1, i, hm => by
    refine pm_iload (pc := 109) dX10_copy_109 rfl ?_
    refine pm_iload (pc := 111) dX10_copy_111 rfl ?_
    refine pm_icmp_ge (pc := 113) (tgt := 143) dX10_copy_113 rfl (fun h113 => (by simp (disch := omega) only [pm_eqI, pm_ltI, pm_leI, nI_toInt, pm_t0, pm_t1, pm_tm1] at h113; omega)) (fun h113 => ?_)
    refine pm_aload_n (pc := 116) dX10_copy_116 rfl ?_
    refine pm_getr (pc := 117) (ci := 8) (C0 := RX10) (T := TX10) (N := 34) (j := 33) rfl rfl in_X10 (by decide) wf_X10_80 rfl dX10_copy_117 ?_
    refine pm_iload (pc := 120) dX10_copy_120 rfl ?_
    refine pm_aload_n (pc := 122) dX10_copy_122 rfl ?_
    refine pm_getr (pc := 123) (ci := 8) (C0 := RX10) (T := TX10) (N := 34) (j := 32) rfl rfl in_X10 (by decide) wf_X10_76 rfl dX10_copy_123 ?_
    refine pm_bipush (pc := 126) (v := nI 24) dX10_copy_126 (by decide) ?_
    refine pm_iload_n (pc := 128) dX10_copy_128 rfl ?_
    refine pm_imul (pc := 129) dX10_copy_129 ?_
    refine pm_iload_n (pc := 130) dX10_copy_130 rfl ?_
    refine pm_iadd (pc := 131) dX10_copy_131 ?_
    refine pm_iload (pc := 132) dX10_copy_132 rfl ?_
    refine pm_iadd (pc := 134) dX10_copy_134 ?_
    refine pm_top (x' := nI (24 * s + a + i)) (by rw [pk_mul, nI_add, nI_add]) ?_
    refine pm_lald (pc := 135) rfl (by omega) (by decide) dX10_copy_135 ?_
    refine pm_last (pc := 136) rfl (by omega) (by decide) dX10_copy_136 ?_
    refine pm_iinc (pc := 137) dX10_copy_137 rfl (pm_inc1 _) (by decide) rfl ?_
    refine pm_goto (pc := 140) (tgt := 109) dX10_copy_140 rfl ?_
    have k9 := l_ycopy1 hs ht ha hc hend m (i + 1) (by omega) (l := l) (P := P)
    refine pm_eq rfl rfl rfl rfl ?_ k9
    rw [pm_us, pm_u2]
    exact congrArg (pm_u L 64) (mset0_s (by rw [pm_un (by decide)]))
set_option maxRecDepth 100000 in
set_option maxHeartbeats 1000000 in
theorem y_copyB1 {I : pm_I} {L : pm_L} {X : xS} (hR : MR I L X) (hX : xInv X) {q p i j n : Int32} (hq : ¬ iR q 0 3) : PC 2 0 0 yX10_copy cX10_copy 7 (some (.int)) [.ref 40, .int q, .int i, .int p, .int j, .int n] GG I L (YQ I L (sp_copy X q i p j n).1 (sp_copy X q i p j n).2) := by
  refine PC.of [some (.ref 40), some (.int q), some (.int i), some (.int p), some (.int j), some (.int n), none] (by decide) (Nat.le_of_ble_eq_true rfl) rfl (fun l P => ?_)
  refine pm_iload_n (pc := 0) dX10_copy_0 rfl ?_
  refine pm_cSR (pc := 1) dX10_copy_1 (c_mIsSheet) wq_X10_isSheet wm_X10_277 wt_X10_isSheet ⟨Nat.le_of_ble_eq_true rfl, Nat.le_of_ble_eq_true rfl⟩ ⟨Nat.le_of_ble_eq_true rfl, Nat.le_of_ble_eq_true rfl⟩ rfl (Nat.le_of_ble_eq_true rfl) ?_
  refine pm_if_eq (pc := 4) (tgt := 14) dX10_copy_4 rfl (fun h4 => ?_) (fun h4 => absurd (b1_nt h4) hq)
  refine pm_iconst (pc := 14) (v := (-1)) dX10_copy_14 (by decide) ?_
  refine pm_iret (pc := 15) rfl (Nat.le_refl _) (Nat.le_refl _) dX10_copy_15 ?_
  rw [show sp_copy X q i p j n = (-1, X) from if_pos (fun z => hq z.1)]
  exact YQ.r rfl hR yF.rf
set_option maxRecDepth 100000 in
set_option maxHeartbeats 1000000 in
theorem y_copyB2 {I : pm_I} {L : pm_L} {X : xS} (hR : MR I L X) (hX : xInv X) {p i j n : Int32} {s : Nat} (hs : s < 4) (hp : ¬ iR p 0 3) : PC 2 0 0 yX10_copy cX10_copy 7 (some (.int)) [.ref 40, .int (nI s), .int i, .int p, .int j, .int n] GG I L (YQ I L (sp_copy X (nI s) i p j n).1 (sp_copy X (nI s) i p j n).2) := by
  refine PC.of [some (.ref 40), some (.int (nI s)), some (.int i), some (.int p), some (.int j), some (.int n), none] (by decide) (Nat.le_of_ble_eq_true rfl) rfl (fun l P => ?_)
  refine pm_iload_n (pc := 0) dX10_copy_0 rfl ?_
  refine pm_cSR (pc := 1) dX10_copy_1 (c_mIsSheet) wq_X10_isSheet wm_X10_277 wt_X10_isSheet ⟨Nat.le_of_ble_eq_true rfl, Nat.le_of_ble_eq_true rfl⟩ ⟨Nat.le_of_ble_eq_true rfl, Nat.le_of_ble_eq_true rfl⟩ rfl (Nat.le_of_ble_eq_true rfl) ?_
  refine pm_if_eq (pc := 4) (tgt := 14) dX10_copy_4 rfl (fun h4 => absurd (sh_nI hs) (b1_nf h4)) (fun h4 => ?_)
  refine pm_iload_n (pc := 7) dX10_copy_7 rfl ?_
  refine pm_cSR (pc := 8) dX10_copy_8 (c_mIsSheet) wq_X10_isSheet wm_X10_277 wt_X10_isSheet ⟨Nat.le_of_ble_eq_true rfl, Nat.le_of_ble_eq_true rfl⟩ ⟨Nat.le_of_ble_eq_true rfl, Nat.le_of_ble_eq_true rfl⟩ rfl (Nat.le_of_ble_eq_true rfl) ?_
  refine pm_if_ne (pc := 11) (tgt := 16) dX10_copy_11 rfl (fun h11 => absurd (b1_nt h11) hp) (fun h11 => ?_)
  refine pm_iconst (pc := 14) (v := (-1)) dX10_copy_14 (by decide) ?_
  refine pm_iret (pc := 15) rfl (Nat.le_refl _) (Nat.le_refl _) dX10_copy_15 ?_
  rw [show sp_copy X (nI s) i p j n = (-1, X) from if_pos (fun z => hp z.2)]
  exact YQ.r rfl hR yF.rf
set_option maxRecDepth 100000 in
set_option maxHeartbeats 1000000 in
theorem y_copyN1 {I : pm_I} {L : pm_L} {X : xS} (hR : MR I L X) (hX : xInv X) {i j n : Int32} {s t : Nat} (hs : s < 4) (ht : t < 4) (he : x_s X s = none) : PC 2 0 0 yX10_copy cX10_copy 7 (some (.int)) [.ref 40, .int (nI s), .int i, .int (nI t), .int j, .int n] GG I L (YQ I L (sp_copy X (nI s) i (nI t) j n).1 (sp_copy X (nI s) i (nI t) j n).2) := by
  have hS := (hR.2.2.2 s hs).1
  rw [he] at hS
  refine PC.of [some (.ref 40), some (.int (nI s)), some (.int i), some (.int (nI t)), some (.int j), some (.int n), none] (by decide) (Nat.le_of_ble_eq_true rfl) rfl (fun l P => ?_)
  refine pm_iload_n (pc := 0) dX10_copy_0 rfl ?_
  refine pm_cSR (pc := 1) dX10_copy_1 (c_mIsSheet) wq_X10_isSheet wm_X10_277 wt_X10_isSheet ⟨Nat.le_of_ble_eq_true rfl, Nat.le_of_ble_eq_true rfl⟩ ⟨Nat.le_of_ble_eq_true rfl, Nat.le_of_ble_eq_true rfl⟩ rfl (Nat.le_of_ble_eq_true rfl) ?_
  refine pm_if_eq (pc := 4) (tgt := 14) dX10_copy_4 rfl (fun h4 => absurd (sh_nI hs) (b1_nf h4)) (fun h4 => ?_)
  refine pm_iload_n (pc := 7) dX10_copy_7 rfl ?_
  refine pm_cSR (pc := 8) dX10_copy_8 (c_mIsSheet) wq_X10_isSheet wm_X10_277 wt_X10_isSheet ⟨Nat.le_of_ble_eq_true rfl, Nat.le_of_ble_eq_true rfl⟩ ⟨Nat.le_of_ble_eq_true rfl, Nat.le_of_ble_eq_true rfl⟩ rfl (Nat.le_of_ble_eq_true rfl) ?_
  refine pm_if_ne (pc := 11) (tgt := 16) dX10_copy_11 rfl (fun h11 => ?_) (fun h11 => absurd (sh_nI ht) (b1_nf h11))
  refine pm_aload_n (pc := 16) dX10_copy_16 rfl ?_
  refine pm_getr (pc := 17) (ci := 8) (C0 := RX10) (T := TX10) (N := 34) (j := 30) rfl rfl in_X10 (by decide) wf_X10_70 rfl dX10_copy_17 ?_
  refine pm_iload_n (pc := 20) dX10_copy_20 rfl ?_
  refine pm_iald (pc := 21) rfl (by omega) (by decide) dX10_copy_21 ?_
  refine pm_if_lt (pc := 22) (tgt := 34) dX10_copy_22 rfl (fun h22 => ?_) (fun h22 => absurd (show I 61 s < 0 by rw [show I 61 s = -1 from hS]; decide) h22)
  refine pm_bipush (pc := 34) (v := (-11)) dX10_copy_34 (by decide) ?_
  refine pm_iret (pc := 36) rfl (Nat.le_refl _) (Nat.le_refl _) dX10_copy_36 ?_
  rw [sp_copy_n hs ht (Or.inl he)]
  exact YQ.r rfl hR yF.rf
set_option maxRecDepth 100000 in
set_option maxHeartbeats 1000000 in
theorem y_copyN2 {I : pm_I} {L : pm_L} {X : xS} (hR : MR I L X) (hX : xInv X) {i j n : Int32} {s t : Nat} (hs : s < 4) (ht : t < 4) {e : Nat × Nat} (he : x_s X s = some e) (hf : x_s X t = none) : PC 2 0 0 yX10_copy cX10_copy 7 (some (.int)) [.ref 40, .int (nI s), .int i, .int (nI t), .int j, .int n] GG I L (YQ I L (sp_copy X (nI s) i (nI t) j n).1 (sp_copy X (nI s) i (nI t) j n).2) := by
  have hS := (hR.2.2.2 s hs).1
  rw [he] at hS
  have he2 := hX.2.2.2 s hs e.1 e.2 he
  have hS1 : I 61 s = nI e.1 := hS.1
  have hS2 : I 62 s = nI e.2 := hS.2
  have hT := (hR.2.2.2 t ht).1
  rw [hf] at hT
  refine PC.of [some (.ref 40), some (.int (nI s)), some (.int i), some (.int (nI t)), some (.int j), some (.int n), none] (by decide) (Nat.le_of_ble_eq_true rfl) rfl (fun l P => ?_)
  refine pm_iload_n (pc := 0) dX10_copy_0 rfl ?_
  refine pm_cSR (pc := 1) dX10_copy_1 (c_mIsSheet) wq_X10_isSheet wm_X10_277 wt_X10_isSheet ⟨Nat.le_of_ble_eq_true rfl, Nat.le_of_ble_eq_true rfl⟩ ⟨Nat.le_of_ble_eq_true rfl, Nat.le_of_ble_eq_true rfl⟩ rfl (Nat.le_of_ble_eq_true rfl) ?_
  refine pm_if_eq (pc := 4) (tgt := 14) dX10_copy_4 rfl (fun h4 => absurd (sh_nI hs) (b1_nf h4)) (fun h4 => ?_)
  refine pm_iload_n (pc := 7) dX10_copy_7 rfl ?_
  refine pm_cSR (pc := 8) dX10_copy_8 (c_mIsSheet) wq_X10_isSheet wm_X10_277 wt_X10_isSheet ⟨Nat.le_of_ble_eq_true rfl, Nat.le_of_ble_eq_true rfl⟩ ⟨Nat.le_of_ble_eq_true rfl, Nat.le_of_ble_eq_true rfl⟩ rfl (Nat.le_of_ble_eq_true rfl) ?_
  refine pm_if_ne (pc := 11) (tgt := 16) dX10_copy_11 rfl (fun h11 => ?_) (fun h11 => absurd (sh_nI ht) (b1_nf h11))
  refine pm_aload_n (pc := 16) dX10_copy_16 rfl ?_
  refine pm_getr (pc := 17) (ci := 8) (C0 := RX10) (T := TX10) (N := 34) (j := 30) rfl rfl in_X10 (by decide) wf_X10_70 rfl dX10_copy_17 ?_
  refine pm_iload_n (pc := 20) dX10_copy_20 rfl ?_
  refine pm_iald (pc := 21) rfl (by omega) (by decide) dX10_copy_21 ?_
  refine pm_if_lt (pc := 22) (tgt := 34) dX10_copy_22 rfl (fun h22 => absurd h22 (by rw [hS1, pm_ltI, pm_t0, nI_toInt (by omega)]; omega)) (fun h22 => ?_)
  refine pm_aload_n (pc := 25) dX10_copy_25 rfl ?_
  refine pm_getr (pc := 26) (ci := 8) (C0 := RX10) (T := TX10) (N := 34) (j := 30) rfl rfl in_X10 (by decide) wf_X10_70 rfl dX10_copy_26 ?_
  refine pm_iload_n (pc := 29) dX10_copy_29 rfl ?_
  refine pm_iald (pc := 30) rfl (by omega) (by decide) dX10_copy_30 ?_
  refine pm_if_ge (pc := 31) (tgt := 37) dX10_copy_31 rfl (fun h31 => absurd h31 (by rw [show I 61 t = -1 from hT]; decide)) (fun h31 => ?_)
  refine pm_bipush (pc := 34) (v := (-11)) dX10_copy_34 (by decide) ?_
  refine pm_iret (pc := 36) rfl (Nat.le_refl _) (Nat.le_refl _) dX10_copy_36 ?_
  rw [sp_copy_n hs ht (Or.inr hf)]
  exact YQ.r rfl hR yF.rf
set_option maxRecDepth 100000 in
set_option maxHeartbeats 1000000 in
theorem y_copyS {I : pm_I} {L : pm_L} {X : xS} (hR : MR I L X) (hX : xInv X) {i j n : Int32} {s t : Nat} (hs : s < 4) (ht : t < 4) {e f : Nat × Nat} (he : x_s X s = some e) (hf : x_s X t = some f) : PC 2 0 0 yX10_copy cX10_copy 7 (some (.int)) [.ref 40, .int (nI s), .int i, .int (nI t), .int j, .int n] GG I L (YQ I L (sp_copy X (nI s) i (nI t) j n).1 (sp_copy X (nI s) i (nI t) j n).2) := by
  have hS := (hR.2.2.2 s hs).1
  rw [he] at hS
  have he2 := hX.2.2.2 s hs e.1 e.2 he
  have hS1 : I 61 s = nI e.1 := hS.1
  have hS2 : I 62 s = nI e.2 := hS.2
  have hT := (hR.2.2.2 t ht).1
  rw [hf] at hT
  have hf2 := hX.2.2.2 t ht f.1 f.2 hf
  have hT1 : I 61 t = nI f.1 := hT.1
  have hT2 : I 62 t = nI f.2 := hT.2
  have heq : nI e.1 = nI f.1 ↔ e.1 = f.1 := nI_eq (by omega) (by omega)
  have te := nI_toInt (n := e.2) (by omega)
  have tf := nI_toInt (n := f.2) (by omega)
  have t24 := nI_toInt (n := 24) (by decide)
  rw [sp_copy_s hs ht he hf]
  refine PC.of [some (.ref 40), some (.int (nI s)), some (.int i), some (.int (nI t)), some (.int j), some (.int n), none] (by decide) (Nat.le_of_ble_eq_true rfl) rfl (fun l P => ?_)
  refine pm_iload_n (pc := 0) dX10_copy_0 rfl ?_
  refine pm_cSR (pc := 1) dX10_copy_1 (c_mIsSheet) wq_X10_isSheet wm_X10_277 wt_X10_isSheet ⟨Nat.le_of_ble_eq_true rfl, Nat.le_of_ble_eq_true rfl⟩ ⟨Nat.le_of_ble_eq_true rfl, Nat.le_of_ble_eq_true rfl⟩ rfl (Nat.le_of_ble_eq_true rfl) ?_
  refine pm_if_eq (pc := 4) (tgt := 14) dX10_copy_4 rfl (fun h4 => absurd (sh_nI hs) (b1_nf h4)) (fun h4 => ?_)
  refine pm_iload_n (pc := 7) dX10_copy_7 rfl ?_
  refine pm_cSR (pc := 8) dX10_copy_8 (c_mIsSheet) wq_X10_isSheet wm_X10_277 wt_X10_isSheet ⟨Nat.le_of_ble_eq_true rfl, Nat.le_of_ble_eq_true rfl⟩ ⟨Nat.le_of_ble_eq_true rfl, Nat.le_of_ble_eq_true rfl⟩ rfl (Nat.le_of_ble_eq_true rfl) ?_
  refine pm_if_ne (pc := 11) (tgt := 16) dX10_copy_11 rfl (fun h11 => ?_) (fun h11 => absurd (sh_nI ht) (b1_nf h11))
  refine pm_aload_n (pc := 16) dX10_copy_16 rfl ?_
  refine pm_getr (pc := 17) (ci := 8) (C0 := RX10) (T := TX10) (N := 34) (j := 30) rfl rfl in_X10 (by decide) wf_X10_70 rfl dX10_copy_17 ?_
  refine pm_iload_n (pc := 20) dX10_copy_20 rfl ?_
  refine pm_iald (pc := 21) rfl (by omega) (by decide) dX10_copy_21 ?_
  refine pm_if_lt (pc := 22) (tgt := 34) dX10_copy_22 rfl (fun h22 => absurd h22 (by rw [hS1, pm_ltI, pm_t0, nI_toInt (by omega)]; omega)) (fun h22 => ?_)
  refine pm_aload_n (pc := 25) dX10_copy_25 rfl ?_
  refine pm_getr (pc := 26) (ci := 8) (C0 := RX10) (T := TX10) (N := 34) (j := 30) rfl rfl in_X10 (by decide) wf_X10_70 rfl dX10_copy_26 ?_
  refine pm_iload_n (pc := 29) dX10_copy_29 rfl ?_
  refine pm_iald (pc := 30) rfl (by omega) (by decide) dX10_copy_30 ?_
  refine pm_if_ge (pc := 31) (tgt := 37) dX10_copy_31 rfl (fun h31 => ?_) (fun h31 => absurd (show 0 ≤ I 61 t by rw [hT1, pm_leI, pm_t0, nI_toInt (by omega)]; omega) h31)
  refine pm_aload_n (pc := 37) dX10_copy_37 rfl ?_
  refine pm_getr (pc := 38) (ci := 8) (C0 := RX10) (T := TX10) (N := 34) (j := 30) rfl rfl in_X10 (by decide) wf_X10_70 rfl dX10_copy_38 ?_
  refine pm_iload_n (pc := 41) dX10_copy_41 rfl ?_
  refine pm_iald (pc := 42) rfl (by omega) (by decide) dX10_copy_42 ?_
  refine pm_aload_n (pc := 43) dX10_copy_43 rfl ?_
  refine pm_getr (pc := 44) (ci := 8) (C0 := RX10) (T := TX10) (N := 34) (j := 30) rfl rfl in_X10 (by decide) wf_X10_70 rfl dX10_copy_44 ?_
  refine pm_iload_n (pc := 47) dX10_copy_47 rfl ?_
  refine pm_iald (pc := 48) rfl (by omega) (by decide) dX10_copy_48 ?_
  refine pm_icmp_eq (pc := 49) (tgt := 55) dX10_copy_49 rfl (fun h49 => ?_) (fun h49 => ?_)
  · refine pm_iload (pc := 55) dX10_copy_55 rfl ?_
    refine pm_if_lt (pc := 57) (tgt := 103) dX10_copy_57 rfl (fun h57 => ?_) (fun h57 => ?_)
    · refine pm_bipush (pc := 103) (v := (-13)) dX10_copy_103 (by decide) ?_
      refine pm_iret (pc := 105) rfl (Nat.le_refl _) (Nat.le_refl _) dX10_copy_105 ?_
      rw [if_neg (not_not_intro (heq.mp (by rw [← hS1, ← hT1]; exact h49)))]
      rw [if_neg (fun z => by
        obtain ⟨⟨z1, z2, z3⟩, z4, z5, z6⟩ := z
        simp only [pm_ltI, pm_leI, pm_t0] at *
        first
          | omega
          | (rw [hS2, fb_subI (by omega) (by omega)] at h86; omega)
          | (rw [hT2, fb_subI (by omega) (by omega)] at h100; omega))]
      exact YQ.r rfl hR yF.rf
    · refine pm_iload (pc := 60) dX10_copy_60 rfl ?_
      refine pm_bipush (pc := 62) (v := nI 24) dX10_copy_62 (by decide) ?_
      refine pm_icmp_gt (pc := 64) (tgt := 103) dX10_copy_64 rfl (fun h64 => ?_) (fun h64 => ?_)
      · refine pm_bipush (pc := 103) (v := (-13)) dX10_copy_103 (by decide) ?_
        refine pm_iret (pc := 105) rfl (Nat.le_refl _) (Nat.le_refl _) dX10_copy_105 ?_
        rw [if_neg (not_not_intro (heq.mp (by rw [← hS1, ← hT1]; exact h49)))]
        rw [if_neg (fun z => by
          obtain ⟨⟨z1, z2, z3⟩, z4, z5, z6⟩ := z
          simp only [pm_ltI, pm_leI, pm_t0] at *
          first
            | omega
            | (rw [hS2, fb_subI (by omega) (by omega)] at h86; omega)
            | (rw [hT2, fb_subI (by omega) (by omega)] at h100; omega))]
        exact YQ.r rfl hR yF.rf
      · refine pm_iload_n (pc := 67) dX10_copy_67 rfl ?_
        refine pm_if_lt (pc := 68) (tgt := 103) dX10_copy_68 rfl (fun h68 => ?_) (fun h68 => ?_)
        · refine pm_bipush (pc := 103) (v := (-13)) dX10_copy_103 (by decide) ?_
          refine pm_iret (pc := 105) rfl (Nat.le_refl _) (Nat.le_refl _) dX10_copy_105 ?_
          rw [if_neg (not_not_intro (heq.mp (by rw [← hS1, ← hT1]; exact h49)))]
          rw [if_neg (fun z => by
            obtain ⟨⟨z1, z2, z3⟩, z4, z5, z6⟩ := z
            simp only [pm_ltI, pm_leI, pm_t0] at *
            first
              | omega
              | (rw [hS2, fb_subI (by omega) (by omega)] at h86; omega)
              | (rw [hT2, fb_subI (by omega) (by omega)] at h100; omega))]
          exact YQ.r rfl hR yF.rf
        · refine pm_iload (pc := 71) dX10_copy_71 rfl ?_
          refine pm_if_lt (pc := 73) (tgt := 103) dX10_copy_73 rfl (fun h73 => ?_) (fun h73 => ?_)
          · refine pm_bipush (pc := 103) (v := (-13)) dX10_copy_103 (by decide) ?_
            refine pm_iret (pc := 105) rfl (Nat.le_refl _) (Nat.le_refl _) dX10_copy_105 ?_
            rw [if_neg (not_not_intro (heq.mp (by rw [← hS1, ← hT1]; exact h49)))]
            rw [if_neg (fun z => by
              obtain ⟨⟨z1, z2, z3⟩, z4, z5, z6⟩ := z
              simp only [pm_ltI, pm_leI, pm_t0] at *
              first
                | omega
                | (rw [hS2, fb_subI (by omega) (by omega)] at h86; omega)
                | (rw [hT2, fb_subI (by omega) (by omega)] at h100; omega))]
            exact YQ.r rfl hR yF.rf
          · refine pm_iload_n (pc := 76) dX10_copy_76 rfl ?_
            refine pm_aload_n (pc := 77) dX10_copy_77 rfl ?_
            refine pm_getr (pc := 78) (ci := 8) (C0 := RX10) (T := TX10) (N := 34) (j := 31) rfl rfl in_X10 (by decide) wf_X10_73 rfl dX10_copy_78 ?_
            refine pm_iload_n (pc := 81) dX10_copy_81 rfl ?_
            refine pm_iald (pc := 82) rfl (by omega) (by decide) dX10_copy_82 ?_
            refine pm_iload (pc := 83) dX10_copy_83 rfl ?_
            refine pm_isub (pc := 85) dX10_copy_85 ?_
            refine pm_icmp_gt (pc := 86) (tgt := 103) dX10_copy_86 rfl (fun h86 => ?_) (fun h86 => ?_)
            · refine pm_bipush (pc := 103) (v := (-13)) dX10_copy_103 (by decide) ?_
              refine pm_iret (pc := 105) rfl (Nat.le_refl _) (Nat.le_refl _) dX10_copy_105 ?_
              rw [if_neg (not_not_intro (heq.mp (by rw [← hS1, ← hT1]; exact h49)))]
              rw [if_neg (fun z => by
                obtain ⟨⟨z1, z2, z3⟩, z4, z5, z6⟩ := z
                simp only [pm_ltI, pm_leI, pm_t0] at *
                first
                  | omega
                  | (rw [hS2, fb_subI (by omega) (by omega)] at h86; omega)
                  | (rw [hT2, fb_subI (by omega) (by omega)] at h100; omega))]
              exact YQ.r rfl hR yF.rf
            · refine pm_iload (pc := 89) dX10_copy_89 rfl ?_
              refine pm_aload_n (pc := 91) dX10_copy_91 rfl ?_
              refine pm_getr (pc := 92) (ci := 8) (C0 := RX10) (T := TX10) (N := 34) (j := 31) rfl rfl in_X10 (by decide) wf_X10_73 rfl dX10_copy_92 ?_
              refine pm_iload_n (pc := 95) dX10_copy_95 rfl ?_
              refine pm_iald (pc := 96) rfl (by omega) (by decide) dX10_copy_96 ?_
              refine pm_iload (pc := 97) dX10_copy_97 rfl ?_
              refine pm_isub (pc := 99) dX10_copy_99 ?_
              refine pm_icmp_le (pc := 100) (tgt := 106) dX10_copy_100 rfl (fun h100 => ?_) (fun h100 => ?_)
              · have hin : inRow e.2 i n ∧ inRow f.2 j n := by
                  simp only [pm_ltI, pm_leI, pm_t0] at *
                  rw [hS2, fb_subI (by omega) (by omega)] at h86
                  rw [hT2, fb_subI (by omega) (by omega)] at h100
                  exact ⟨⟨by omega, by omega, by omega⟩, by omega, by omega, by omega⟩
                rw [if_neg (not_not_intro (heq.mp (by rw [← hS1, ← hT1]; exact h49))), if_pos hin]
                obtain ⟨m, hm, rfl⟩ := iR_of (x := n) (b := 24) (by decide) ⟨hin.1.1, by have := hin.1.2.1; have := hin.1.2.2; omega⟩
                obtain ⟨a, ha, rfl⟩ := row_of he2.2 (by omega) hin.1
                obtain ⟨c, hc, rfl⟩ := row_of hf2.2 (by omega) hin.2
                rw [nt_nI (by omega), nt_nI (by omega), nt_nI (by omega)]
                
                refine pm_iconst (pc := 106) (v := nI 0) dX10_copy_106 (by decide) ?_
                refine pm_istore (pc := 107) dX10_copy_107 (by decide) rfl ?_
                have k9 := l_ycopy1 (I := I) (L := L) hs ht (a := a) (c := c) (m0 := m) (by omega) (by omega) (Q := YQ I L (nI m) (xu X t (some f) (va_cpy (x_r X s) (x_r X t) a c m))) ?_ m 0 (by omega) (l := l) (P := P)
                · refine pm_eq rfl rfl rfl rfl ?_ k9
                  rw [mset_0, pm_uu]
                have k := hR.l ht (L' := pm_u (pm_u L 64 (mset (L 64) 0 (fun k => L 63 (24 * s + a + k)) m)) 63 (mset (L 63) (24 * t + c) (mset (L 64) 0 (fun k => L 63 (24 * s + a + k)) m) m)) (f := va_cpy (x_r X s) (x_r X t) a c m) (fun a h1 h2 => (pm_un h1).trans (pm_un h2)) (fun p hp k hk => by rw [pm_us, mset_out (by omega)]) (fun k hk => by
                  rw [pm_us]
                  unfold va_cpy
                  by_cases e : c ≤ k ∧ k < c + m
                  · rw [if_pos e, show 24 * t + k = 24 * t + c + (k - c) by omega, mset_in (by omega), show k - c = 0 + (k - c) by omega, mset_in (by omega), Nat.zero_add, Nat.add_assoc]
                    exact (hR.2.2.2 s hs).2 _ (by omega)
                  · rw [if_neg e, mset_out (by omega)]
                    exact (hR.2.2.2 t ht).2 _ hk)
                rw [hf] at k
                exact YQ.r rfl k.1 k.2
              · refine pm_bipush (pc := 103) (v := (-13)) dX10_copy_103 (by decide) ?_
                refine pm_iret (pc := 105) rfl (Nat.le_refl _) (Nat.le_refl _) dX10_copy_105 ?_
                rw [if_neg (not_not_intro (heq.mp (by rw [← hS1, ← hT1]; exact h49)))]
                rw [if_neg (fun z => by
                  obtain ⟨⟨z1, z2, z3⟩, z4, z5, z6⟩ := z
                  simp only [pm_ltI, pm_leI, pm_t0] at *
                  first
                    | omega
                    | (rw [hS2, fb_subI (by omega) (by omega)] at h86; omega)
                    | (rw [hT2, fb_subI (by omega) (by omega)] at h100; omega))]
                exact YQ.r rfl hR yF.rf
  · refine pm_bipush (pc := 52) (v := (-12)) dX10_copy_52 (by decide) ?_
    refine pm_iret (pc := 54) rfl (Nat.le_refl _) (Nat.le_refl _) dX10_copy_54 ?_
    rw [if_pos (fun z => h49 (by rw [hS1, hT1]; exact heq.mpr z))]
    exact YQ.r rfl hR yF.rf
set_option maxRecDepth 100000 in
set_option maxHeartbeats 1000000 in
theorem y_copy {I : pm_I} {L : pm_L} {X : xS} (hR : MR I L X) (hX : xInv X) {q i p j n : Int32} : PC 2 0 0 yX10_copy cX10_copy 7 (some (.int)) [.ref 40, .int q, .int i, .int p, .int j, .int n] GG I L (YQ I L (sp_copy X q i p j n).1 (sp_copy X q i p j n).2) := by
  by_cases hq : iR q 0 3
  · obtain ⟨s, hs, rfl⟩ := sh_of hq
    by_cases hp : iR p 0 3
    · obtain ⟨t, ht, rfl⟩ := sh_of hp
      cases he : x_s X s with
      | none => exact y_copyN1 hR hX hs ht he
      | some e =>
        cases hf : x_s X t with
        | none => exact y_copyN2 hR hX hs ht he hf
        | some f => exact y_copyS hR hX hs ht he hf
    · exact y_copyB2 hR hX hs hp
  · exact y_copyB1 hR hX hq
