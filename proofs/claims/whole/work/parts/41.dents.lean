theorem m_ss_le {s : gS} (h : gInv s) (p x : Nat) : m_ss s p x (g_n s) ≤ 1212 := by
  have h1 : m_ss s p x (g_n s) ≤ g_n s * 101 := by
    unfold m_ss
    refine fb_sm_bound (fun k hk => ?_)
    have := h.w hk
    split <;> omega
  have := h.1
  omega
set_option maxRecDepth 100000 in
set_option maxHeartbeats 1000000 in
theorem l_yd130 {I : pm_I} {L : pm_L} {X : xS} (hR : MR I L X) (hX : xInv X) {s j w : Nat} {z2 z5 : Int32} (hs : s < 4) (hj : j + 6 ≤ 24) (hw : w ≤ 1) {Q : pm_QT} {la : Launch} {P : pm_E} {x c : Nat} (hx : x < 4096) (kt : (m_ok (x_g X) (fun p => (x_r X s (j + p)).toInt) (g_n (x_g X)) x) → PW la P yX10_dents cX10_dents 11 (some (.int)) (pm_rm 2 0 0) (pm_Tg P Q 0 0) 0 0 182 [some (.ref 40), some (.int (nI s)), some (.int z2), some (.int (nI j)), some (.int (nI w)), some (.int z5), some (.int (nI (a_all (x_g X) (g_n (x_g X))))), some (.int (nI c)), some (.int (nI x)), some (.int (nI 1)), none] [] GG I L) (kf : ¬ (m_ok (x_g X) (fun p => (x_r X s (j + p)).toInt) (g_n (x_g X)) x) → PW la P yX10_dents cX10_dents 11 (some (.int)) (pm_rm 2 0 0) (pm_Tg P Q 0 0) 0 0 182 [some (.ref 40), some (.int (nI s)), some (.int z2), some (.int (nI j)), some (.int (nI w)), some (.int z5), some (.int (nI (a_all (x_g X) (g_n (x_g X))))), some (.int (nI c)), some (.int (nI x)), some (.int (nI 0)), none] [] GG I L) : ∀ (m i : Nat) (z : Int32), i + m = 6 → (z = nI 1 ∧ (∀ k, k < g_n (x_g X) → x.testBit k = true → g_wh (x_g X) k < 6) ∧ (∀ p, p < i → (m_ss (x_g X) p x (g_n (x_g X)) : Int) = (fun p => (x_r X s (j + p)).toInt) p)) ∨ (z = nI 0 ∧ ¬ (m_ok (x_g X) (fun p => (x_r X s (j + p)).toInt) (g_n (x_g X)) x)) → PW la P yX10_dents cX10_dents 11 (some (.int)) (pm_rm 2 0 0) (pm_Tg P Q 0 0) 0 0 130 [some (.ref 40), some (.int (nI s)), some (.int z2), some (.int (nI j)), some (.int (nI w)), some (.int z5), some (.int (nI (a_all (x_g X) (g_n (x_g X))))), some (.int (nI c)), some (.int (nI x)), some (.int z), some (.int (nI i))] [] GG I L
  | 0, i, z, hm, hz => by
    have hG := hR.1
    have hI := hX.s
    have h12 := hI.n12
    have hal := a_all_lt (x_g X) (g_n (x_g X))
    have h2p : 2 ^ g_n (x_g X) ≤ 2 ^ 12 := Nat.pow_le_pow_right (by decide) hI.1
    have e : i = 6 := by omega
    subst e
    refine pm_iload (pc := 130) dX10_dents_130 rfl ?_
    refine pm_bipush (pc := 132) (v := nI 6) dX10_dents_132 (by decide) ?_
    refine pm_icmp_ge (pc := 134) (tgt := 182) dX10_dents_134 rfl (fun h134 => ?_) (fun h134 => (by simp (disch := omega) only [pm_eqI, pm_ltI, pm_leI, nI_toInt, pm_t0, pm_t1, pm_tm1] at h134; omega))
    refine pm_kill 10 ?_
    rcases hz with ⟨e, q1, q2⟩ | ⟨e, q⟩
    · subst e; exact kt ⟨q1, q2⟩
    · subst e; exact kf q
  | m + 1, i, z, hm, hz => by
    have hG := hR.1
    have hI := hX.s
    have h12 := hI.n12
    have hal := a_all_lt (x_g X) (g_n (x_g X))
    have h2p : 2 ^ g_n (x_g X) ≤ 2 ^ 12 := Nat.pow_le_pow_right (by decide) hI.1
    have hi : i < 6 := by omega
    have hml := m_ss_le hI i x
    refine pm_iload (pc := 130) dX10_dents_130 rfl ?_
    refine pm_bipush (pc := 132) (v := nI 6) dX10_dents_132 (by decide) ?_
    refine pm_icmp_ge (pc := 134) (tgt := 182) dX10_dents_134 rfl (fun h134 => (by simp (disch := omega) only [pm_eqI, pm_ltI, pm_leI, nI_toInt, pm_t0, pm_t1, pm_tm1] at h134; omega)) (fun h134 => ?_)
    refine pm_iload (pc := 137) dX10_dents_137 rfl ?_
    refine pm_if_eq (pc := 139) (tgt := 182) dX10_dents_139 rfl (fun h139 => ?_) (fun h139 => ?_)
    · rcases hz with ⟨e, q1, q2⟩ | ⟨e, q⟩
      · rw [e] at h139; exact absurd h139 (by decide)
      subst e
      refine pm_kill 10 ?_
      exact kf q
    · obtain ⟨e, q1, q2⟩ := hz.resolve_right (fun y => h139 (by rw [y.1]; decide))
      subst e
      refine pm_aload_n (pc := 142) dX10_dents_142 rfl ?_
      refine pm_iload (pc := 143) dX10_dents_143 rfl ?_
      refine pm_iload (pc := 145) dX10_dents_145 rfl ?_
      refine pm_cVR (pc := 147) dX10_dents_147 (c_sumIn hG hI hi (x := x) (by omega)) wq_X10_sumIn wm_X10_284 wi_X10_sumIn ws_X10_sumIn rfl rfl ⟨Nat.le_of_ble_eq_true rfl, Nat.le_of_ble_eq_true rfl⟩ ⟨Nat.le_of_ble_eq_true rfl, Nat.le_of_ble_eq_true rfl⟩ rfl (Nat.le_of_ble_eq_true rfl) ?_
      refine pm_i2l (pc := 150) dX10_dents_150 ?_
      refine pm_aload_n (pc := 151) dX10_dents_151 rfl ?_
      refine pm_getr (pc := 152) (ci := 8) (C0 := RX10) (T := TX10) (N := 34) (j := 32) rfl rfl in_X10 (by decide) wf_X10_76 rfl dX10_dents_152 ?_
      refine pm_bipush (pc := 155) (v := nI 24) dX10_dents_155 (by decide) ?_
      refine pm_iload_n (pc := 157) dX10_dents_157 rfl ?_
      refine pm_imul (pc := 158) dX10_dents_158 ?_
      refine pm_iload_n (pc := 159) dX10_dents_159 rfl ?_
      refine pm_iadd (pc := 160) dX10_dents_160 ?_
      refine pm_iload (pc := 161) dX10_dents_161 rfl ?_
      refine pm_iadd (pc := 163) dX10_dents_163 ?_
      refine pm_top (x' := nI (24 * s + (j + i))) (by rw [pk_mul, nI_add, nI_add, Nat.add_assoc]) ?_
      refine pm_lald (pc := 164) rfl (by omega) (by decide) dX10_dents_164 ?_
      rw [(hR.2.2.2 s hs).2 (j + i) (by omega)]
      refine pm_lcmp (pc := 165) dX10_dents_165 ?_
      refine pm_if_ne (pc := 166) (tgt := 173) dX10_dents_166 rfl (fun h166 => ?_) (fun h166 => ?_)
      · rw [e_cmp (by omega)] at h166
        refine pm_iconst (pc := 173) (v := nI 0) dX10_dents_173 (by decide) ?_
        refine pm_istore (pc := 174) dX10_dents_174 (by decide) rfl ?_
        refine pm_iinc (pc := 176) dX10_dents_176 rfl (pm_inc1 _) (by decide) rfl ?_
        refine pm_goto (pc := 179) (tgt := 130) dX10_dents_179 rfl ?_
        first
          | exact l_yd130 hR hX hs hj hw hx kt kf m (i + 1) _ (by omega) (Or.inr ⟨rfl, fun y => h166 (y.2 i hi)⟩)
          | exact l_yd130 hR hX hs hj hw hx kt kf m (i + 1) _ (by omega) (Or.inl ⟨rfl, q1, fun p hp => by
              rcases (show p < i ∨ p = i by omega) with y | y
              · exact q2 p y
              · rw [y]; exact h166⟩)
      · rw [e_cmp (by omega)] at h166
        refine pm_iconst (pc := 169) (v := nI 1) dX10_dents_169 (by decide) ?_
        refine pm_goto (pc := 170) (tgt := 174) dX10_dents_170 rfl ?_
        refine pm_istore (pc := 174) dX10_dents_174 (by decide) rfl ?_
        refine pm_iinc (pc := 176) dX10_dents_176 rfl (pm_inc1 _) (by decide) rfl ?_
        refine pm_goto (pc := 179) (tgt := 130) dX10_dents_179 rfl ?_
        first
          | exact l_yd130 hR hX hs hj hw hx kt kf m (i + 1) _ (by omega) (Or.inr ⟨rfl, fun y => h166 (y.2 i hi)⟩)
          | exact l_yd130 hR hX hs hj hw hx kt kf m (i + 1) _ (by omega) (Or.inl ⟨rfl, q1, fun p hp => by
              rcases (show p < i ∨ p = i by omega) with y | y
              · exact q2 p y
              · rw [y]; exact h166⟩)
