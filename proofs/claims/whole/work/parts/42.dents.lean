set_option maxRecDepth 100000 in
set_option maxHeartbeats 1000000 in
theorem l_yd103 {I : pm_I} {L : pm_L} {X : xS} (hR : MR I L X) (hX : xInv X) {s j w : Nat} {z2 z5 : Int32} (hs : s < 4) (hj : j + 6 ≤ 24) (hw : w ≤ 1) {Q : pm_QT} {la : Launch} {P : pm_E} {f : Nat → Nat} (hf : ∀ x, ((m_ok (x_g X) (fun p => (x_r X s (j + p)).toInt) (g_n (x_g X)) x) → f x = 1) ∧ (¬ (m_ok (x_g X) (fun p => (x_r X s (j + p)).toInt) (g_n (x_g X)) x) → f x = 0)) (hend : Q (some (.int (d_dents (x_g X) (fun p => (x_r X s (j + p)).toInt) w))) GG I L) : ∀ (m x : Nat), x + m = (a_all (x_g X) (g_n (x_g X))) + 1 → (w = 1 → ∀ y, y < x → ¬ (m_ok (x_g X) (fun p => (x_r X s (j + p)).toInt) (g_n (x_g X)) y)) → PW la P yX10_dents cX10_dents 11 (some (.int)) (pm_rm 2 0 0) (pm_Tg P Q 0 0) 0 0 103 [some (.ref 40), some (.int (nI s)), some (.int z2), some (.int (nI j)), some (.int (nI w)), some (.int z5), some (.int (nI (a_all (x_g X) (g_n (x_g X))))), some (.int (nI (fb_sm f x))), some (.int (nI x)), none, none] [] GG I L
  | 0, x, hm, hno => by
    have hG := hR.1
    have hI := hX.s
    have h12 := hI.n12
    have hal := a_all_lt (x_g X) (g_n (x_g X))
    have h2p : 2 ^ g_n (x_g X) ≤ 2 ^ 12 := Nat.pow_le_pow_right (by decide) hI.1
    have kw0 : nI w = 0 ↔ w = 0 := by rw [pm_eqI, nI_toInt (by omega), pm_t0]; omega
    have kw1 : nI w = nI 1 ↔ w = 1 := nI_eq (by omega) (by decide)
    have hx : x = (a_all (x_g X) (g_n (x_g X))) + 1 := by omega
    subst hx
    have hcnt : fb_sm f ((a_all (x_g X) (g_n (x_g X))) + 1) = n_all (x_g X) (g_n (x_g X)) (fun p => (x_r X s (j + p)).toInt) := by
      have e := m_count (x_g X) (g_n (x_g X)) (fun p => (x_r X s (j + p)).toInt) f (fun y _ => hf y)
      have e2 : 2 ^ g_n (x_g X) = ((a_all (x_g X) (g_n (x_g X))) + 1) + (2 ^ g_n (x_g X) - ((a_all (x_g X) (g_n (x_g X))) + 1)) := by omega
      rw [e2, fb_sm_split, fb_sm_cong (f := fun k => f ((a_all (x_g X) (g_n (x_g X))) + 1 + k)) (g := fun _ => 0) (fun k hk => (hf _).2 (a_end (by omega) (by omega))), fb_sm_const, Nat.mul_zero, Nat.add_zero] at e
      exact e
    refine pm_iload (pc := 103) dX10_dents_103 rfl ?_
    refine pm_iload (pc := 105) dX10_dents_105 rfl ?_
    refine pm_icmp_gt (pc := 107) (tgt := 222) dX10_dents_107 rfl (fun h107 => ?_) (fun h107 => (by simp (disch := omega) only [pm_eqI, pm_ltI, pm_leI, nI_toInt, pm_t0, pm_t1, pm_tm1] at h107; omega))
    refine pm_iload (pc := 222) dX10_dents_222 rfl ?_
    refine pm_if_ne (pc := 224) (tgt := 232) dX10_dents_224 rfl (fun h224 => ?_) (fun h224 => ?_)
    · refine pm_bipush (pc := 232) (v := (-4)) dX10_dents_232 (by decide) ?_
      refine pm_iret (pc := 234) rfl (Nat.le_refl _) (Nat.le_refl _) dX10_dents_234 ?_
      first
        | (have e : (d_dents (x_g X) (fun p => (x_r X s (j + p)).toInt) w) = nI (fb_sm f ((a_all (x_g X) (g_n (x_g X))) + 1)) := by unfold d_dents; rw [if_pos (kw0.mp h224), hcnt]
           rw [← e]; exact hend)
        | (have e : (d_dents (x_g X) (fun p => (x_r X s (j + p)).toInt) w) = -4 := by
             have w1 : w = 1 := by have : ¬ w = 0 := fun z => h224 (kw0.mpr z); omega
             unfold d_dents
             rw [if_neg (by omega)]
             cases z : l_all (x_g X) (g_n (x_g X)) (fun p => (x_r X s (j + p)).toInt) with
             | none => rfl
             | some y =>
               have q := (m_least (x_g X) (g_n (x_g X)) (fun p => (x_r X s (j + p)).toInt)).1 y z
               by_cases u : y < (a_all (x_g X) (g_n (x_g X))) + 1
               · exact absurd q.2.1 (hno w1 y u)
               · exact absurd q.2.1 (a_end (by omega) q.1)
           rw [← e]; exact hend)
    · refine pm_iload (pc := 227) dX10_dents_227 rfl ?_
      refine pm_goto (pc := 229) (tgt := 234) dX10_dents_229 rfl ?_
      refine pm_iret (pc := 234) rfl (Nat.le_refl _) (Nat.le_refl _) dX10_dents_234 ?_
      first
        | (have e : (d_dents (x_g X) (fun p => (x_r X s (j + p)).toInt) w) = nI (fb_sm f ((a_all (x_g X) (g_n (x_g X))) + 1)) := by unfold d_dents; rw [if_pos (kw0.mp h224), hcnt]
           rw [← e]; exact hend)
        | (have e : (d_dents (x_g X) (fun p => (x_r X s (j + p)).toInt) w) = -4 := by
             have w1 : w = 1 := by have : ¬ w = 0 := fun z => h224 (kw0.mpr z); omega
             unfold d_dents
             rw [if_neg (by omega)]
             cases z : l_all (x_g X) (g_n (x_g X)) (fun p => (x_r X s (j + p)).toInt) with
             | none => rfl
             | some y =>
               have q := (m_least (x_g X) (g_n (x_g X)) (fun p => (x_r X s (j + p)).toInt)).1 y z
               by_cases u : y < (a_all (x_g X) (g_n (x_g X))) + 1
               · exact absurd q.2.1 (hno w1 y u)
               · exact absurd q.2.1 (a_end (by omega) q.1)
           rw [← e]; exact hend)
  | m + 1, x, hm, hno => by
    have hG := hR.1
    have hI := hX.s
    have h12 := hI.n12
    have hal := a_all_lt (x_g X) (g_n (x_g X))
    have h2p : 2 ^ g_n (x_g X) ≤ 2 ^ 12 := Nat.pow_le_pow_right (by decide) hI.1
    have kw0 : nI w = 0 ↔ w = 0 := by rw [pm_eqI, nI_toInt (by omega), pm_t0]; omega
    have kw1 : nI w = nI 1 ↔ w = 1 := nI_eq (by omega) (by decide)
    have hx : x ≤ (a_all (x_g X) (g_n (x_g X))) := by omega
    have hsub := a_sub hI hx
    have hc0 : w = 1 → fb_sm f x = 0 := fun z => by
      rw [fb_sm_cong (g := fun _ => 0) (fun k hk => (hf k).2 (hno z k hk)), fb_sm_const, Nat.mul_zero]
    have k9 := l_yd103 hR hX hs hj hw hf hend m (x + 1) (by omega) (la := la) (P := P) (z2 := z2) (z5 := z5)
    rw [fb_sm_succ] at k9
    have kf : ¬ (m_ok (x_g X) (fun p => (x_r X s (j + p)).toInt) (g_n (x_g X)) x) → PW la P yX10_dents cX10_dents 11 (some (.int)) (pm_rm 2 0 0) (pm_Tg P Q 0 0) 0 0 182 [some (.ref 40), some (.int (nI s)), some (.int z2), some (.int (nI j)), some (.int (nI w)), some (.int z5), some (.int (nI (a_all (x_g X) (g_n (x_g X))))), some (.int (nI (fb_sm f x))), some (.int (nI x)), some (.int (nI 0)), none] [] GG I L := fun hn => by
      have k9 := k9 (fun z y hy => by
        rcases (show y < x ∨ y = x by omega) with u | u
        · exact hno z y u
        · rw [u]; exact hn)
      rw [(hf x).2 hn] at k9
      refine pm_iload (pc := 182) dX10_dents_182 rfl ?_
      refine pm_if_eq (pc := 184) (tgt := 201) dX10_dents_184 rfl (fun h184 => ?_) (fun h184 => absurd (show nI 0 = 0 by decide) h184)
      refine pm_iload (pc := 201) dX10_dents_201 rfl ?_
      refine pm_iload (pc := 203) dX10_dents_203 rfl ?_
      refine pm_if_eq (pc := 205) (tgt := 212) dX10_dents_205 rfl (fun h205 => ?_) (fun h205 => absurd (show nI 0 = 0 by decide) h205)
      refine pm_iconst (pc := 212) (v := nI 0) dX10_dents_212 (by decide) ?_
      refine pm_iadd (pc := 213) dX10_dents_213 ?_
      refine pm_top (nI_add _ _) ?_
      refine pm_istore (pc := 214) dX10_dents_214 (by decide) rfl ?_
      refine pm_iinc (pc := 216) dX10_dents_216 rfl (pm_inc1 _) (by decide) rfl ?_
      refine pm_goto (pc := 219) (tgt := 103) dX10_dents_219 rfl ?_
      refine pm_kill 9 ?_
      exact k9
    have kt : (m_ok (x_g X) (fun p => (x_r X s (j + p)).toInt) (g_n (x_g X)) x) → PW la P yX10_dents cX10_dents 11 (some (.int)) (pm_rm 2 0 0) (pm_Tg P Q 0 0) 0 0 182 [some (.ref 40), some (.int (nI s)), some (.int z2), some (.int (nI j)), some (.int (nI w)), some (.int z5), some (.int (nI (a_all (x_g X) (g_n (x_g X))))), some (.int (nI (fb_sm f x))), some (.int (nI x)), some (.int (nI 1)), none] [] GG I L := fun hn => by
      have hT : ¬ w = 1 → PW la P yX10_dents cX10_dents 11 (some (.int)) (pm_rm 2 0 0) (pm_Tg P Q 0 0) 0 0 103 [some (.ref 40), some (.int (nI s)), some (.int z2), some (.int (nI j)), some (.int (nI w)), some (.int z5), some (.int (nI (a_all (x_g X) (g_n (x_g X))))), some (.int (nI (fb_sm f x + 1))), some (.int (nI (x + 1))), none, none] [] GG I L := fun hw1 => by
        have k9 := k9 (fun z => absurd z hw1)
        rw [(hf x).1 hn] at k9
        exact k9
      refine pm_iload (pc := 182) dX10_dents_182 rfl ?_
      refine pm_if_eq (pc := 184) (tgt := 201) dX10_dents_184 rfl (fun h184 => absurd h184 (by decide)) (fun h184 => ?_)
      refine pm_iload (pc := 187) dX10_dents_187 rfl ?_
      refine pm_if_ne (pc := 189) (tgt := 201) dX10_dents_189 rfl (fun h189 => ?_) (fun h189 => ?_)
      · refine pm_iload (pc := 201) dX10_dents_201 rfl ?_
        refine pm_iload (pc := 203) dX10_dents_203 rfl ?_
        refine pm_if_eq (pc := 205) (tgt := 212) dX10_dents_205 rfl (fun h205 => absurd h205 (by decide)) (fun h205 => ?_)
        refine pm_iconst (pc := 208) (v := nI 1) dX10_dents_208 (by decide) ?_
        refine pm_goto (pc := 209) (tgt := 213) dX10_dents_209 rfl ?_
        refine pm_iadd (pc := 213) dX10_dents_213 ?_
        refine pm_top (nI_add _ _) ?_
        refine pm_istore (pc := 214) dX10_dents_214 (by decide) rfl ?_
        refine pm_iinc (pc := 216) dX10_dents_216 rfl (pm_inc1 _) (by decide) rfl ?_
        refine pm_goto (pc := 219) (tgt := 103) dX10_dents_219 rfl ?_
        refine pm_kill 9 ?_
        first
          | exact hT (fun z => h195 (kw1.mpr z))
          | exact hT (fun z => h189 (by rw [hc0 z]; decide))
      · refine pm_iload (pc := 192) dX10_dents_192 rfl ?_
        refine pm_iconst (pc := 194) (v := nI 1) dX10_dents_194 (by decide) ?_
        refine pm_icmp_ne (pc := 195) (tgt := 201) dX10_dents_195 rfl (fun h195 => ?_) (fun h195 => ?_)
        · refine pm_iload (pc := 201) dX10_dents_201 rfl ?_
          refine pm_iload (pc := 203) dX10_dents_203 rfl ?_
          refine pm_if_eq (pc := 205) (tgt := 212) dX10_dents_205 rfl (fun h205 => absurd h205 (by decide)) (fun h205 => ?_)
          refine pm_iconst (pc := 208) (v := nI 1) dX10_dents_208 (by decide) ?_
          refine pm_goto (pc := 209) (tgt := 213) dX10_dents_209 rfl ?_
          refine pm_iadd (pc := 213) dX10_dents_213 ?_
          refine pm_top (nI_add _ _) ?_
          refine pm_istore (pc := 214) dX10_dents_214 (by decide) rfl ?_
          refine pm_iinc (pc := 216) dX10_dents_216 rfl (pm_inc1 _) (by decide) rfl ?_
          refine pm_goto (pc := 219) (tgt := 103) dX10_dents_219 rfl ?_
          refine pm_kill 9 ?_
          first
            | exact hT (fun z => h195 (kw1.mpr z))
            | exact hT (fun z => h189 (by rw [hc0 z]; decide))
        · refine pm_iload (pc := 198) dX10_dents_198 rfl ?_
          refine pm_iret (pc := 200) rfl (Nat.le_refl _) (Nat.le_refl _) dX10_dents_200 ?_
          have w1 : w = 1 := kw1.mp h195
          have e : (d_dents (x_g X) (fun p => (x_r X s (j + p)).toInt) w) = nI x := by
            unfold d_dents
            rw [if_neg (by omega)]
            have ml := m_least (x_g X) (g_n (x_g X)) (fun p => (x_r X s (j + p)).toInt)
            cases z : l_all (x_g X) (g_n (x_g X)) (fun p => (x_r X s (j + p)).toInt) with
            | none => exact absurd hn (ml.2 z x (by omega))
            | some y =>
              have q := ml.1 y z
              rcases Nat.lt_trichotomy y x with u | u | u
              · exact absurd q.2.1 (hno w1 y u)
              · rw [u]
              · exact absurd hn (q.2.2 x u)
          rw [← e]; exact hend
    refine pm_iload (pc := 103) dX10_dents_103 rfl ?_
    refine pm_iload (pc := 105) dX10_dents_105 rfl ?_
    refine pm_icmp_gt (pc := 107) (tgt := 222) dX10_dents_107 rfl (fun h107 => (by simp (disch := omega) only [pm_eqI, pm_ltI, pm_leI, nI_toInt, pm_t0, pm_t1, pm_tm1] at h107; omega)) (fun h107 => ?_)
    refine pm_iload (pc := 110) dX10_dents_110 rfl ?_
    refine pm_iload (pc := 112) dX10_dents_112 rfl ?_
    refine pm_iconst (pc := 114) (v := (-1)) dX10_dents_114 (by decide) ?_
    refine pm_ixor (pc := 115) dX10_dents_115 ?_
    refine pm_iand (pc := 116) dX10_dents_116 ?_
    refine pm_if_ne (pc := 117) (tgt := 124) dX10_dents_117 rfl (fun h117 => ?_) (fun h117 => ?_)
    · refine pm_iconst (pc := 124) (v := nI 0) dX10_dents_124 (by decide) ?_
      refine pm_istore (pc := 125) dX10_dents_125 (by decide) rfl ?_
      refine pm_iconst (pc := 127) (v := nI 0) dX10_dents_127 (by decide) ?_
      refine pm_istore (pc := 128) dX10_dents_128 (by decide) rfl ?_
      first
        | exact l_yd130 hR hX hs hj hw (by omega) kt kf 6 0 _ (by omega) (Or.inl ⟨rfl, hsub.mp h117, fun p hp => absurd hp (Nat.not_lt_zero p)⟩)
        | exact l_yd130 hR hX hs hj hw (by omega) kt kf 6 0 _ (by omega) (Or.inr ⟨rfl, fun y => h117 (hsub.mpr y.1)⟩)
    · refine pm_iconst (pc := 120) (v := nI 1) dX10_dents_120 (by decide) ?_
      refine pm_goto (pc := 121) (tgt := 125) dX10_dents_121 rfl ?_
      refine pm_istore (pc := 125) dX10_dents_125 (by decide) rfl ?_
      refine pm_iconst (pc := 127) (v := nI 0) dX10_dents_127 (by decide) ?_
      refine pm_istore (pc := 128) dX10_dents_128 (by decide) rfl ?_
      first
        | exact l_yd130 hR hX hs hj hw (by omega) kt kf 6 0 _ (by omega) (Or.inl ⟨rfl, hsub.mp h117, fun p hp => absurd hp (Nat.not_lt_zero p)⟩)
        | exact l_yd130 hR hX hs hj hw (by omega) kt kf 6 0 _ (by omega) (Or.inr ⟨rfl, fun y => h117 (hsub.mpr y.1)⟩)
