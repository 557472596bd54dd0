theorem l_sub1 {c : Int64} (h : 0 ≤ c.toInt ∧ c.toInt ≤ 99) : (c - 1).toInt = c.toInt - 1 := by
  rw [Int64.toInt_sub, show (1 : Int64).toInt = 1 by decide, Int.bmod_eq_of_le_mul_two (by omega) (by omega)]
set_option maxRecDepth 100000 in
set_option maxHeartbeats 1000000 in
theorem l_ytried {I : pm_I} {L : pm_L} {s j n w : Nat} {z2 z6 : Int32} (hs : s < 4) (hn : n ≤ 8) (hj : j + 2 * n ≤ 24) (hw : w ≤ 2) {R0 : Option (Nat × Nat)} {Q : pm_QT} (hend : Q (some (.int (t_ans R0 w))) GG I L) {la : Launch} {P : pm_E} : ∀ (m i l v : Nat), i + m = n → l ≤ 99 → v ≤ 100 → t_run (fun k => L 63 (24 * s + (j + k))) m i l v = R0 → PW la P yX10_tried cX10_tried 14 (some (.int)) (pm_rm 2 0 0) (pm_Tg P Q 0 0) 0 0 78 [some (.ref 40), some (.int (nI s)), some (.int z2), some (.int (nI j)), some (.int (nI n)), some (.int (nI w)), some (.int z6), some (.int (nI l)), some (.int (nI v - nI 1)), some (.int (nI i)), none, none, none, none] [] GG I L
  | 0, i, l, v, hm, hl, hv, hT => by
    have e : i = n := by omega
    subst e
    subst hT
    have hno : l + 2 ≤ v → ¬ (v ≤ l ∨ (w = 2 ∧ v < l + 2)) := fun h z => by omega
    have k1 := nIm1 (v := v) (by omega)
    have kl := nI_toInt (n := l) (by omega)
    have k01 := nI_toInt (n := 1) (by decide)
    have k2 : (nI v - nI 1 - nI l).toInt = (v : Int) - 1 - l := by rw [fb_subI (by omega) (by omega)]; omega
    obtain ⟨S, hS, eS⟩ : ∃ S : Int32, S.toInt = (v : Int) - l ∧ nI v - nI 1 - nI l + nI 1 = S := ⟨_, by rw [fb_addI (by omega) (by omega)]; omega, rfl⟩
    have kw := nI_toInt (n := w) (by omega)
    have kw2 : nI w = nI 2 ↔ w = 2 := nI_eq (by omega) (by decide)
    have kw1 : nI w = nI 1 ↔ w = 1 := nI_eq (by omega) (by decide)
    have t2 := nI_toInt (n := 2) (by decide)
    have kw0 : nI w = 0 ↔ w = 0 := by rw [pm_eqI, kw, pm_t0]; omega
    have hend0 : Q (some (.int (t_end l v w))) GG I L := hend
    refine pm_iload (pc := 78) dX10_tried_78 rfl ?_
    refine pm_iload (pc := 80) dX10_tried_80 rfl ?_
    refine pm_icmp_ge (pc := 82) (tgt := 210) dX10_tried_82 rfl (fun h82 => ?_) (fun h82 => (by simp (disch := omega) only [pm_eqI, pm_ltI, pm_leI, nI_toInt, pm_t0, pm_t1, pm_tm1] at h82; omega))
    refine pm_iload (pc := 210) dX10_tried_210 rfl ?_
    refine pm_iload (pc := 212) dX10_tried_212 rfl ?_
    refine pm_isub (pc := 214) dX10_tried_214 ?_
    refine pm_iconst (pc := 215) (v := nI 1) dX10_tried_215 (by decide) ?_
    refine pm_iadd (pc := 216) dX10_tried_216 ?_
    refine pm_top eS ?_
    refine pm_istore (pc := 217) dX10_tried_217 (by decide) rfl ?_
    refine pm_iload (pc := 219) dX10_tried_219 rfl ?_
    refine pm_iconst (pc := 221) (v := nI 1) dX10_tried_221 (by decide) ?_
    refine pm_icmp_lt (pc := 222) (tgt := 237) dX10_tried_222 rfl (fun h222 => ?_) (fun h222 => ?_)
    · refine pm_bipush (pc := 237) (v := (-4)) dX10_tried_237 (by decide) ?_
      refine pm_iret (pc := 239) rfl (Nat.le_refl _) (Nat.le_refl _) dX10_tried_239 ?_
      have e : t_end l v w = -4 := if_pos (by
        first
          | (simp only [pm_ltI, hS, k01] at h222; exact Or.inl (by omega))
          | (simp only [pm_leI, pm_ltI, hS, t2] at h234; exact Or.inr ⟨kw2.mp h228, by omega⟩))
      rw [← e]; exact hend0
    · refine pm_iload (pc := 225) dX10_tried_225 rfl ?_
      refine pm_iconst (pc := 227) (v := nI 2) dX10_tried_227 (by decide) ?_
      refine pm_icmp_ne (pc := 228) (tgt := 240) dX10_tried_228 rfl (fun h228 => ?_) (fun h228 => ?_)
      · refine pm_iload (pc := 240) dX10_tried_240 rfl ?_
        refine pm_if_ne (pc := 242) (tgt := 250) dX10_tried_242 rfl (fun h242 => ?_) (fun h242 => ?_)
        · refine pm_iload (pc := 250) dX10_tried_250 rfl ?_
          refine pm_iconst (pc := 252) (v := nI 1) dX10_tried_252 (by decide) ?_
          refine pm_icmp_ne (pc := 253) (tgt := 261) dX10_tried_253 rfl (fun h253 => ?_) (fun h253 => ?_)
          · refine pm_iload (pc := 261) dX10_tried_261 rfl ?_
            refine pm_iload (pc := 263) dX10_tried_263 rfl ?_
            refine pm_cSR (pc := 265) dX10_tried_265 (c_nextOf (by first | (simp only [pm_leI, hS, t2] at h234; omega) | exact absurd (by have : w ≠ 0 := fun z => h242 (kw0.mpr z); have : w ≠ 1 := fun z => h253 (kw1.mpr z); omega) (fun z => h228 (kw2.mpr z))) hv) wq_X10_nextOf wm_X10_287 wt_X10_nextOf ⟨Nat.le_of_ble_eq_true rfl, Nat.le_of_ble_eq_true rfl⟩ ⟨Nat.le_of_ble_eq_true rfl, Nat.le_of_ble_eq_true rfl⟩ rfl (Nat.le_of_ble_eq_true rfl) ?_
            refine pm_iret (pc := 268) rfl (Nat.le_refl _) (Nat.le_refl _) dX10_tried_268 ?_
            have hno2 : ¬ (v ≤ l ∨ (w = 2 ∧ v < l + 2)) := by
              simp only [pm_ltI, hS, k01] at h222
              rintro (z | ⟨z, z2⟩)
              · omega
              · first
                  | exact h228 (kw2.mpr z)
                  | (simp only [pm_leI, hS, t2] at h234; omega)
            first
              | (have e : t_end l v w = nI l := by
                   have w0 := kw0.mp h242
                   unfold t_end
                   rw [if_neg hno2, if_neg (by omega), if_pos w0]
                 rw [← e]; exact hend0)
              | (have e : t_end l v w = nI v - nI 1 := by
                   have w1 := kw1.mp h253
                   unfold t_end
                   rw [if_neg hno2, if_neg (by omega), if_neg (by omega)]
                 rw [← e]; exact hend0)
              | (have e : t_end l v w = nI (l + (v - l) / 2) := by
                   have w1 : ¬ w = 1 := fun z => h253 (kw1.mpr z)
                   have w0 : ¬ w = 0 := fun z => h242 (kw0.mpr z)
                   unfold t_end
                   rw [if_neg hno2, if_pos (by omega)]
                 rw [← e]; exact hend0)
          · refine pm_iload (pc := 256) dX10_tried_256 rfl ?_
            refine pm_goto (pc := 258) (tgt := 268) dX10_tried_258 rfl ?_
            refine pm_iret (pc := 268) rfl (Nat.le_refl _) (Nat.le_refl _) dX10_tried_268 ?_
            have hno2 : ¬ (v ≤ l ∨ (w = 2 ∧ v < l + 2)) := by
              simp only [pm_ltI, hS, k01] at h222
              rintro (z | ⟨z, z2⟩)
              · omega
              · first
                  | exact h228 (kw2.mpr z)
                  | (simp only [pm_leI, hS, t2] at h234; omega)
            first
              | (have e : t_end l v w = nI l := by
                   have w0 := kw0.mp h242
                   unfold t_end
                   rw [if_neg hno2, if_neg (by omega), if_pos w0]
                 rw [← e]; exact hend0)
              | (have e : t_end l v w = nI v - nI 1 := by
                   have w1 := kw1.mp h253
                   unfold t_end
                   rw [if_neg hno2, if_neg (by omega), if_neg (by omega)]
                 rw [← e]; exact hend0)
              | (have e : t_end l v w = nI (l + (v - l) / 2) := by
                   have w1 : ¬ w = 1 := fun z => h253 (kw1.mpr z)
                   have w0 : ¬ w = 0 := fun z => h242 (kw0.mpr z)
                   unfold t_end
                   rw [if_neg hno2, if_pos (by omega)]
                 rw [← e]; exact hend0)
        · refine pm_iload (pc := 245) dX10_tried_245 rfl ?_
          refine pm_goto (pc := 247) (tgt := 268) dX10_tried_247 rfl ?_
          refine pm_iret (pc := 268) rfl (Nat.le_refl _) (Nat.le_refl _) dX10_tried_268 ?_
          have hno2 : ¬ (v ≤ l ∨ (w = 2 ∧ v < l + 2)) := by
            simp only [pm_ltI, hS, k01] at h222
            rintro (z | ⟨z, z2⟩)
            · omega
            · first
                | exact h228 (kw2.mpr z)
                | (simp only [pm_leI, hS, t2] at h234; omega)
          first
            | (have e : t_end l v w = nI l := by
                 have w0 := kw0.mp h242
                 unfold t_end
                 rw [if_neg hno2, if_neg (by omega), if_pos w0]
               rw [← e]; exact hend0)
            | (have e : t_end l v w = nI v - nI 1 := by
                 have w1 := kw1.mp h253
                 unfold t_end
                 rw [if_neg hno2, if_neg (by omega), if_neg (by omega)]
               rw [← e]; exact hend0)
            | (have e : t_end l v w = nI (l + (v - l) / 2) := by
                 have w1 : ¬ w = 1 := fun z => h253 (kw1.mpr z)
                 have w0 : ¬ w = 0 := fun z => h242 (kw0.mpr z)
                 unfold t_end
                 rw [if_neg hno2, if_pos (by omega)]
               rw [← e]; exact hend0)
      · refine pm_iload (pc := 231) dX10_tried_231 rfl ?_
        refine pm_iconst (pc := 233) (v := nI 2) dX10_tried_233 (by decide) ?_
        refine pm_icmp_ge (pc := 234) (tgt := 240) dX10_tried_234 rfl (fun h234 => ?_) (fun h234 => ?_)
        · refine pm_iload (pc := 240) dX10_tried_240 rfl ?_
          refine pm_if_ne (pc := 242) (tgt := 250) dX10_tried_242 rfl (fun h242 => ?_) (fun h242 => ?_)
          · refine pm_iload (pc := 250) dX10_tried_250 rfl ?_
            refine pm_iconst (pc := 252) (v := nI 1) dX10_tried_252 (by decide) ?_
            refine pm_icmp_ne (pc := 253) (tgt := 261) dX10_tried_253 rfl (fun h253 => ?_) (fun h253 => ?_)
            · refine pm_iload (pc := 261) dX10_tried_261 rfl ?_
              refine pm_iload (pc := 263) dX10_tried_263 rfl ?_
              refine pm_cSR (pc := 265) dX10_tried_265 (c_nextOf (by first | (simp only [pm_leI, hS, t2] at h234; omega) | exact absurd (by have : w ≠ 0 := fun z => h242 (kw0.mpr z); have : w ≠ 1 := fun z => h253 (kw1.mpr z); omega) (fun z => h228 (kw2.mpr z))) hv) wq_X10_nextOf wm_X10_287 wt_X10_nextOf ⟨Nat.le_of_ble_eq_true rfl, Nat.le_of_ble_eq_true rfl⟩ ⟨Nat.le_of_ble_eq_true rfl, Nat.le_of_ble_eq_true rfl⟩ rfl (Nat.le_of_ble_eq_true rfl) ?_
              refine pm_iret (pc := 268) rfl (Nat.le_refl _) (Nat.le_refl _) dX10_tried_268 ?_
              have hno2 : ¬ (v ≤ l ∨ (w = 2 ∧ v < l + 2)) := by
                simp only [pm_ltI, hS, k01] at h222
                rintro (z | ⟨z, z2⟩)
                · omega
                · first
                    | exact h228 (kw2.mpr z)
                    | (simp only [pm_leI, hS, t2] at h234; omega)
              first
                | (have e : t_end l v w = nI l := by
                     have w0 := kw0.mp h242
                     unfold t_end
                     rw [if_neg hno2, if_neg (by omega), if_pos w0]
                   rw [← e]; exact hend0)
                | (have e : t_end l v w = nI v - nI 1 := by
                     have w1 := kw1.mp h253
                     unfold t_end
                     rw [if_neg hno2, if_neg (by omega), if_neg (by omega)]
                   rw [← e]; exact hend0)
                | (have e : t_end l v w = nI (l + (v - l) / 2) := by
                     have w1 : ¬ w = 1 := fun z => h253 (kw1.mpr z)
                     have w0 : ¬ w = 0 := fun z => h242 (kw0.mpr z)
                     unfold t_end
                     rw [if_neg hno2, if_pos (by omega)]
                   rw [← e]; exact hend0)
            · refine pm_iload (pc := 256) dX10_tried_256 rfl ?_
              refine pm_goto (pc := 258) (tgt := 268) dX10_tried_258 rfl ?_
              refine pm_iret (pc := 268) rfl (Nat.le_refl _) (Nat.le_refl _) dX10_tried_268 ?_
              have hno2 : ¬ (v ≤ l ∨ (w = 2 ∧ v < l + 2)) := by
                simp only [pm_ltI, hS, k01] at h222
                rintro (z | ⟨z, z2⟩)
                · omega
                · first
                    | exact h228 (kw2.mpr z)
                    | (simp only [pm_leI, hS, t2] at h234; omega)
              first
                | (have e : t_end l v w = nI l := by
                     have w0 := kw0.mp h242
                     unfold t_end
                     rw [if_neg hno2, if_neg (by omega), if_pos w0]
                   rw [← e]; exact hend0)
                | (have e : t_end l v w = nI v - nI 1 := by
                     have w1 := kw1.mp h253
                     unfold t_end
                     rw [if_neg hno2, if_neg (by omega), if_neg (by omega)]
                   rw [← e]; exact hend0)
                | (have e : t_end l v w = nI (l + (v - l) / 2) := by
                     have w1 : ¬ w = 1 := fun z => h253 (kw1.mpr z)
                     have w0 : ¬ w = 0 := fun z => h242 (kw0.mpr z)
                     unfold t_end
                     rw [if_neg hno2, if_pos (by omega)]
                   rw [← e]; exact hend0)
          · refine pm_iload (pc := 245) dX10_tried_245 rfl ?_
            refine pm_goto (pc := 247) (tgt := 268) dX10_tried_247 rfl ?_
            refine pm_iret (pc := 268) rfl (Nat.le_refl _) (Nat.le_refl _) dX10_tried_268 ?_
            have hno2 : ¬ (v ≤ l ∨ (w = 2 ∧ v < l + 2)) := by
              simp only [pm_ltI, hS, k01] at h222
              rintro (z | ⟨z, z2⟩)
              · omega
              · first
                  | exact h228 (kw2.mpr z)
                  | (simp only [pm_leI, hS, t2] at h234; omega)
            first
              | (have e : t_end l v w = nI l := by
                   have w0 := kw0.mp h242
                   unfold t_end
                   rw [if_neg hno2, if_neg (by omega), if_pos w0]
                 rw [← e]; exact hend0)
              | (have e : t_end l v w = nI v - nI 1 := by
                   have w1 := kw1.mp h253
                   unfold t_end
                   rw [if_neg hno2, if_neg (by omega), if_neg (by omega)]
                 rw [← e]; exact hend0)
              | (have e : t_end l v w = nI (l + (v - l) / 2) := by
                   have w1 : ¬ w = 1 := fun z => h253 (kw1.mpr z)
                   have w0 : ¬ w = 0 := fun z => h242 (kw0.mpr z)
                   unfold t_end
                   rw [if_neg hno2, if_pos (by omega)]
                 rw [← e]; exact hend0)
        · refine pm_bipush (pc := 237) (v := (-4)) dX10_tried_237 (by decide) ?_
          refine pm_iret (pc := 239) rfl (Nat.le_refl _) (Nat.le_refl _) dX10_tried_239 ?_
          have e : t_end l v w = -4 := if_pos (by
            first
              | (simp only [pm_ltI, hS, k01] at h222; exact Or.inl (by omega))
              | (simp only [pm_leI, pm_ltI, hS, t2] at h234; exact Or.inr ⟨kw2.mp h228, by omega⟩))
          rw [← e]; exact hend0
  | m + 1, i, l, v, hm, hl, hv, hT => by
    obtain ⟨c, hc⟩ : ∃ c, c = L 63 (24 * s + (j + 2 * i)) := ⟨_, rfl⟩
    obtain ⟨d, hd⟩ : ∃ d, d = L 63 (24 * s + (j + (2 * i + 1))) := ⟨_, rfl⟩
    have hstep : t_run (fun k => L 63 (24 * s + (j + k))) (m + 1) i l v = if t_okd c d then (if d = 1 then t_run (fun k => L 63 (24 * s + (j + k))) m (i + 1) l (min v c.toInt.toNat) else t_run (fun k => L 63 (24 * s + (j + k))) m (i + 1) (max l c.toInt.toNat) v) else none := by rw [hc, hd]; rfl
    have c99 : (99 : Int64).toInt = 99 := by decide
    have c0 : (0 : Int64).toInt = 0 := by decide
    have c1 : (1 : Int64).toInt = 1 := by decide
    have d1 : d = 1 ↔ d.toInt = 1 := by rw [← c1, Int64.toInt_inj]
    have d0 : d = 0 ↔ d.toInt = 0 := by rw [← c0, Int64.toInt_inj]
    have kl := nI_toInt (n := l) (by omega)
    have kv := nIm1 (v := v) (by omega)
    refine pm_iload (pc := 78) dX10_tried_78 rfl ?_
    refine pm_iload (pc := 80) dX10_tried_80 rfl ?_
    refine pm_icmp_ge (pc := 82) (tgt := 210) dX10_tried_82 rfl (fun h82 => (by simp (disch := omega) only [pm_eqI, pm_ltI, pm_leI, nI_toInt, pm_t0, pm_t1, pm_tm1] at h82; omega)) (fun h82 => ?_)
    refine pm_aload_n (pc := 85) dX10_tried_85 rfl ?_
    refine pm_getr (pc := 86) (ci := 8) (C0 := RX10) (T := TX10) (N := 34) (j := 32) rfl rfl in_X10 (by decide) wf_X10_76 rfl dX10_tried_86 ?_
    refine pm_bipush (pc := 89) (v := nI 24) dX10_tried_89 (by decide) ?_
    refine pm_iload_n (pc := 91) dX10_tried_91 rfl ?_
    refine pm_imul (pc := 92) dX10_tried_92 ?_
    refine pm_iload_n (pc := 93) dX10_tried_93 rfl ?_
    refine pm_iadd (pc := 94) dX10_tried_94 ?_
    refine pm_iconst (pc := 95) (v := nI 2) dX10_tried_95 (by decide) ?_
    refine pm_iload (pc := 96) dX10_tried_96 rfl ?_
    refine pm_imul (pc := 98) dX10_tried_98 ?_
    refine pm_iadd (pc := 99) dX10_tried_99 ?_
    refine pm_top (x' := nI (24 * s + (j + 2 * i))) (by rw [pk_mul, pk_mul, nI_add, nI_add, Nat.add_assoc]) ?_
    refine pm_lald (pc := 100) rfl (by omega) (by decide) dX10_tried_100 ?_
    rw [← hc]
    refine pm_lstore (pc := 101) dX10_tried_101 (by decide) rfl ?_
    refine pm_aload_n (pc := 103) dX10_tried_103 rfl ?_
    refine pm_getr (pc := 104) (ci := 8) (C0 := RX10) (T := TX10) (N := 34) (j := 32) rfl rfl in_X10 (by decide) wf_X10_76 rfl dX10_tried_104 ?_
    refine pm_bipush (pc := 107) (v := nI 24) dX10_tried_107 (by decide) ?_
    refine pm_iload_n (pc := 109) dX10_tried_109 rfl ?_
    refine pm_imul (pc := 110) dX10_tried_110 ?_
    refine pm_iload_n (pc := 111) dX10_tried_111 rfl ?_
    refine pm_iadd (pc := 112) dX10_tried_112 ?_
    refine pm_iconst (pc := 113) (v := nI 2) dX10_tried_113 (by decide) ?_
    refine pm_iload (pc := 114) dX10_tried_114 rfl ?_
    refine pm_imul (pc := 116) dX10_tried_116 ?_
    refine pm_iadd (pc := 117) dX10_tried_117 ?_
    refine pm_iconst (pc := 118) (v := nI 1) dX10_tried_118 (by decide) ?_
    refine pm_iadd (pc := 119) dX10_tried_119 ?_
    refine pm_top (x' := nI (24 * s + (j + (2 * i + 1)))) (by rw [pk_mul, pk_mul, nI_add, nI_add, nI_add]; congr 1; omega) ?_
    refine pm_lald (pc := 120) rfl (by omega) (by decide) dX10_tried_120 ?_
    rw [← hd]
    refine pm_lstore (pc := 121) dX10_tried_121 (by decide) rfl ?_
    refine pm_lload (pc := 123) dX10_tried_123 rfl ?_
    refine pm_lconst (pc := 125) (v := 0) dX10_tried_125 (by decide) ?_
    refine pm_ldc2 (pc := 126) wk_X10_106 dX10_tried_126 ?_
    refine pm_cSR (pc := 129) dX10_tried_129 (c_mIn) wq_X10_in wm_X10_87 wt_X10_in ⟨Nat.le_of_ble_eq_true rfl, Nat.le_of_ble_eq_true rfl⟩ ⟨Nat.le_of_ble_eq_true rfl, Nat.le_of_ble_eq_true rfl⟩ rfl (Nat.le_of_ble_eq_true rfl) ?_
    refine pm_if_eq (pc := 132) (tgt := 145) dX10_tried_132 rfl (fun h132 => ?_) (fun h132 => ?_)
    · refine pm_bipush (pc := 145) (v := (-2)) dX10_tried_145 (by decide) ?_
      refine pm_iret (pc := 147) rfl (Nat.le_refl _) (Nat.le_refl _) dX10_tried_147 ?_
      have e := hT
      rw [hstep, if_neg (fun z => by first | exact b1_nf h132 (by rw [c0, c99]; exact z.1) | exact b1_nf h142 (by rw [c0, c1]; exact z.2))] at e
      subst e
      exact hend
    · refine pm_lload (pc := 135) dX10_tried_135 rfl ?_
      refine pm_lconst (pc := 137) (v := 0) dX10_tried_137 (by decide) ?_
      refine pm_lconst (pc := 138) (v := 1) dX10_tried_138 (by decide) ?_
      refine pm_cSR (pc := 139) dX10_tried_139 (c_mIn) wq_X10_in wm_X10_87 wt_X10_in ⟨Nat.le_of_ble_eq_true rfl, Nat.le_of_ble_eq_true rfl⟩ ⟨Nat.le_of_ble_eq_true rfl, Nat.le_of_ble_eq_true rfl⟩ rfl (Nat.le_of_ble_eq_true rfl) ?_
      refine pm_if_ne (pc := 142) (tgt := 148) dX10_tried_142 rfl (fun h142 => ?_) (fun h142 => ?_)
      · have h132b := b1_nt h132
        have h142b := b1_nt h142
        rw [c0, c99] at h132b
        rw [c0, c1] at h142b
        have hok : t_okd c d := ⟨h132b, h142b⟩
        have ec := l2i_small hok.1
        have hc1 := l_sub1 hok.1
        refine pm_lload (pc := 148) dX10_tried_148 rfl ?_
        refine pm_lconst (pc := 150) (v := 1) dX10_tried_150 (by decide) ?_
        refine pm_lcmp (pc := 151) dX10_tried_151 ?_
        refine pm_if_ne (pc := 152) (tgt := 174) dX10_tried_152 rfl (fun h152 => ?_) (fun h152 => ?_)
        · rw [pm_cmp_eq, d1] at h152
          refine pm_iload (pc := 174) dX10_tried_174 rfl ?_
          refine pm_istore (pc := 176) dX10_tried_176 (by decide) rfl ?_
          refine pm_lload (pc := 178) dX10_tried_178 rfl ?_
          refine pm_lconst (pc := 180) (v := 0) dX10_tried_180 (by decide) ?_
          refine pm_lcmp (pc := 181) dX10_tried_181 ?_
          refine pm_if_ne (pc := 182) (tgt := 200) dX10_tried_182 rfl (fun h182 => ?_) (fun h182 => ?_)
          · rw [pm_cmp_eq, d0] at h182
            refine pm_iload (pc := 200) dX10_tried_200 rfl ?_
            refine pm_istore (pc := 202) dX10_tried_202 (by decide) rfl ?_
            refine pm_iinc (pc := 204) dX10_tried_204 rfl (pm_inc1 _) (by decide) rfl ?_
            refine pm_goto (pc := 207) (tgt := 78) dX10_tried_207 rfl ?_
            refine pm_kill 10 ?_
            refine pm_kill 12 ?_
            first
              | exact l_ytried hs hn hj hw hend m (i + 1) l v (by omega) (by omega) (by omega) (by
                  rw [← hT, hstep, if_pos hok]
                  by_cases e : d = 1
                  · have e2 := d1.mp e
                    rw [if_pos e, show min v c.toInt.toNat = v by omega]
                  · have e2 : ¬ d.toInt = 1 := fun z => e (d1.mpr z)
                    rw [if_neg e, show max l c.toInt.toNat = l by omega])
              | exact l_ytried hs hn hj hw hend m (i + 1) l (c.toInt.toNat) (by omega) (by omega) (by omega) (by
                  rw [← hT, hstep, if_pos hok]
                  by_cases e : d = 1
                  · have e2 := d1.mp e
                    rw [if_pos e, show min v c.toInt.toNat = c.toInt.toNat by omega]
                  · have e2 : ¬ d.toInt = 1 := fun z => e (d1.mpr z)
                    omega)
              | exact l_ytried hs hn hj hw hend m (i + 1) (c.toInt.toNat) v (by omega) (by omega) (by omega) (by
                  rw [← hT, hstep, if_pos hok]
                  by_cases e : d = 1
                  · have e2 := d1.mp e
                    omega
                  · have e2 : ¬ d.toInt = 1 := fun z => e (d1.mpr z)
                    rw [if_neg e, show max l c.toInt.toNat = c.toInt.toNat by omega])
              | exact l_ytried hs hn hj hw hend m (i + 1) (c.toInt.toNat) (c.toInt.toNat) (by omega) (by omega) (by omega) (by
                  rw [← hT, hstep, if_pos hok]
                  by_cases e : d = 1
                  · have e2 := d1.mp e
                    omega
                  · have e2 : ¬ d.toInt = 1 := fun z => e (d1.mpr z)
                    omega)
          · rw [pm_cmp_eq, d0] at h182
            refine pm_lload (pc := 185) dX10_tried_185 rfl ?_
            refine pm_iload (pc := 187) dX10_tried_187 rfl ?_
            refine pm_i2l (pc := 189) dX10_tried_189 ?_
            refine pm_lcmp (pc := 190) dX10_tried_190 ?_
            refine pm_if_le (pc := 191) (tgt := 200) dX10_tried_191 rfl (fun h191 => ?_) (fun h191 => ?_)
            · rw [pm_cmp_le, Int32.toInt_toInt64, kl] at h191
              refine pm_iload (pc := 200) dX10_tried_200 rfl ?_
              refine pm_istore (pc := 202) dX10_tried_202 (by decide) rfl ?_
              refine pm_iinc (pc := 204) dX10_tried_204 rfl (pm_inc1 _) (by decide) rfl ?_
              refine pm_goto (pc := 207) (tgt := 78) dX10_tried_207 rfl ?_
              refine pm_kill 10 ?_
              refine pm_kill 12 ?_
              first
                | exact l_ytried hs hn hj hw hend m (i + 1) l v (by omega) (by omega) (by omega) (by
                    rw [← hT, hstep, if_pos hok]
                    by_cases e : d = 1
                    · have e2 := d1.mp e
                      rw [if_pos e, show min v c.toInt.toNat = v by omega]
                    · have e2 : ¬ d.toInt = 1 := fun z => e (d1.mpr z)
                      rw [if_neg e, show max l c.toInt.toNat = l by omega])
                | exact l_ytried hs hn hj hw hend m (i + 1) l (c.toInt.toNat) (by omega) (by omega) (by omega) (by
                    rw [← hT, hstep, if_pos hok]
                    by_cases e : d = 1
                    · have e2 := d1.mp e
                      rw [if_pos e, show min v c.toInt.toNat = c.toInt.toNat by omega]
                    · have e2 : ¬ d.toInt = 1 := fun z => e (d1.mpr z)
                      omega)
                | exact l_ytried hs hn hj hw hend m (i + 1) (c.toInt.toNat) v (by omega) (by omega) (by omega) (by
                    rw [← hT, hstep, if_pos hok]
                    by_cases e : d = 1
                    · have e2 := d1.mp e
                      omega
                    · have e2 : ¬ d.toInt = 1 := fun z => e (d1.mpr z)
                      rw [if_neg e, show max l c.toInt.toNat = c.toInt.toNat by omega])
                | exact l_ytried hs hn hj hw hend m (i + 1) (c.toInt.toNat) (c.toInt.toNat) (by omega) (by omega) (by omega) (by
                    rw [← hT, hstep, if_pos hok]
                    by_cases e : d = 1
                    · have e2 := d1.mp e
                      omega
                    · have e2 : ¬ d.toInt = 1 := fun z => e (d1.mpr z)
                      omega)
            · rw [pm_cmp_le, Int32.toInt_toInt64, kl] at h191
              refine pm_lload (pc := 194) dX10_tried_194 rfl ?_
              refine pm_l2i (pc := 196) dX10_tried_196 ?_
              rw [ec]
              refine pm_goto (pc := 197) (tgt := 202) dX10_tried_197 rfl ?_
              refine pm_istore (pc := 202) dX10_tried_202 (by decide) rfl ?_
              refine pm_iinc (pc := 204) dX10_tried_204 rfl (pm_inc1 _) (by decide) rfl ?_
              refine pm_goto (pc := 207) (tgt := 78) dX10_tried_207 rfl ?_
              refine pm_kill 10 ?_
              refine pm_kill 12 ?_
              first
                | exact l_ytried hs hn hj hw hend m (i + 1) l v (by omega) (by omega) (by omega) (by
                    rw [← hT, hstep, if_pos hok]
                    by_cases e : d = 1
                    · have e2 := d1.mp e
                      rw [if_pos e, show min v c.toInt.toNat = v by omega]
                    · have e2 : ¬ d.toInt = 1 := fun z => e (d1.mpr z)
                      rw [if_neg e, show max l c.toInt.toNat = l by omega])
                | exact l_ytried hs hn hj hw hend m (i + 1) l (c.toInt.toNat) (by omega) (by omega) (by omega) (by
                    rw [← hT, hstep, if_pos hok]
                    by_cases e : d = 1
                    · have e2 := d1.mp e
                      rw [if_pos e, show min v c.toInt.toNat = c.toInt.toNat by omega]
                    · have e2 : ¬ d.toInt = 1 := fun z => e (d1.mpr z)
                      omega)
                | exact l_ytried hs hn hj hw hend m (i + 1) (c.toInt.toNat) v (by omega) (by omega) (by omega) (by
                    rw [← hT, hstep, if_pos hok]
                    by_cases e : d = 1
                    · have e2 := d1.mp e
                      omega
                    · have e2 : ¬ d.toInt = 1 := fun z => e (d1.mpr z)
                      rw [if_neg e, show max l c.toInt.toNat = c.toInt.toNat by omega])
                | exact l_ytried hs hn hj hw hend m (i + 1) (c.toInt.toNat) (c.toInt.toNat) (by omega) (by omega) (by omega) (by
                    rw [← hT, hstep, if_pos hok]
                    by_cases e : d = 1
                    · have e2 := d1.mp e
                      omega
                    · have e2 : ¬ d.toInt = 1 := fun z => e (d1.mpr z)
                      omega)
        · rw [pm_cmp_eq, d1] at h152
          refine pm_lload (pc := 155) dX10_tried_155 rfl ?_
          refine pm_lconst (pc := 157) (v := 1) dX10_tried_157 (by decide) ?_
          refine pm_lsub (pc := 158) dX10_tried_158 ?_
          refine pm_iload (pc := 159) dX10_tried_159 rfl ?_
          refine pm_i2l (pc := 161) dX10_tried_161 ?_
          refine pm_lcmp (pc := 162) dX10_tried_162 ?_
          refine pm_if_ge (pc := 163) (tgt := 174) dX10_tried_163 rfl (fun h163 => ?_) (fun h163 => ?_)
          · rw [pm_cmp_ge, Int32.toInt_toInt64, kv, hc1] at h163
            refine pm_iload (pc := 174) dX10_tried_174 rfl ?_
            refine pm_istore (pc := 176) dX10_tried_176 (by decide) rfl ?_
            refine pm_lload (pc := 178) dX10_tried_178 rfl ?_
            refine pm_lconst (pc := 180) (v := 0) dX10_tried_180 (by decide) ?_
            refine pm_lcmp (pc := 181) dX10_tried_181 ?_
            refine pm_if_ne (pc := 182) (tgt := 200) dX10_tried_182 rfl (fun h182 => ?_) (fun h182 => ?_)
            · rw [pm_cmp_eq, d0] at h182
              refine pm_iload (pc := 200) dX10_tried_200 rfl ?_
              refine pm_istore (pc := 202) dX10_tried_202 (by decide) rfl ?_
              refine pm_iinc (pc := 204) dX10_tried_204 rfl (pm_inc1 _) (by decide) rfl ?_
              refine pm_goto (pc := 207) (tgt := 78) dX10_tried_207 rfl ?_
              refine pm_kill 10 ?_
              refine pm_kill 12 ?_
              first
                | exact l_ytried hs hn hj hw hend m (i + 1) l v (by omega) (by omega) (by omega) (by
                    rw [← hT, hstep, if_pos hok]
                    by_cases e : d = 1
                    · have e2 := d1.mp e
                      rw [if_pos e, show min v c.toInt.toNat = v by omega]
                    · have e2 : ¬ d.toInt = 1 := fun z => e (d1.mpr z)
                      rw [if_neg e, show max l c.toInt.toNat = l by omega])
                | exact l_ytried hs hn hj hw hend m (i + 1) l (c.toInt.toNat) (by omega) (by omega) (by omega) (by
                    rw [← hT, hstep, if_pos hok]
                    by_cases e : d = 1
                    · have e2 := d1.mp e
                      rw [if_pos e, show min v c.toInt.toNat = c.toInt.toNat by omega]
                    · have e2 : ¬ d.toInt = 1 := fun z => e (d1.mpr z)
                      omega)
                | exact l_ytried hs hn hj hw hend m (i + 1) (c.toInt.toNat) v (by omega) (by omega) (by omega) (by
                    rw [← hT, hstep, if_pos hok]
                    by_cases e : d = 1
                    · have e2 := d1.mp e
                      omega
                    · have e2 : ¬ d.toInt = 1 := fun z => e (d1.mpr z)
                      rw [if_neg e, show max l c.toInt.toNat = c.toInt.toNat by omega])
                | exact l_ytried hs hn hj hw hend m (i + 1) (c.toInt.toNat) (c.toInt.toNat) (by omega) (by omega) (by omega) (by
                    rw [← hT, hstep, if_pos hok]
                    by_cases e : d = 1
                    · have e2 := d1.mp e
                      omega
                    · have e2 : ¬ d.toInt = 1 := fun z => e (d1.mpr z)
                      omega)
            · rw [pm_cmp_eq, d0] at h182
              refine pm_lload (pc := 185) dX10_tried_185 rfl ?_
              refine pm_iload (pc := 187) dX10_tried_187 rfl ?_
              refine pm_i2l (pc := 189) dX10_tried_189 ?_
              refine pm_lcmp (pc := 190) dX10_tried_190 ?_
              refine pm_if_le (pc := 191) (tgt := 200) dX10_tried_191 rfl (fun h191 => ?_) (fun h191 => ?_)
              · rw [pm_cmp_le, Int32.toInt_toInt64, kl] at h191
                refine pm_iload (pc := 200) dX10_tried_200 rfl ?_
                refine pm_istore (pc := 202) dX10_tried_202 (by decide) rfl ?_
                refine pm_iinc (pc := 204) dX10_tried_204 rfl (pm_inc1 _) (by decide) rfl ?_
                refine pm_goto (pc := 207) (tgt := 78) dX10_tried_207 rfl ?_
                refine pm_kill 10 ?_
                refine pm_kill 12 ?_
                first
                  | exact l_ytried hs hn hj hw hend m (i + 1) l v (by omega) (by omega) (by omega) (by
                      rw [← hT, hstep, if_pos hok]
                      by_cases e : d = 1
                      · have e2 := d1.mp e
                        rw [if_pos e, show min v c.toInt.toNat = v by omega]
                      · have e2 : ¬ d.toInt = 1 := fun z => e (d1.mpr z)
                        rw [if_neg e, show max l c.toInt.toNat = l by omega])
                  | exact l_ytried hs hn hj hw hend m (i + 1) l (c.toInt.toNat) (by omega) (by omega) (by omega) (by
                      rw [← hT, hstep, if_pos hok]
                      by_cases e : d = 1
                      · have e2 := d1.mp e
                        rw [if_pos e, show min v c.toInt.toNat = c.toInt.toNat by omega]
                      · have e2 : ¬ d.toInt = 1 := fun z => e (d1.mpr z)
                        omega)
                  | exact l_ytried hs hn hj hw hend m (i + 1) (c.toInt.toNat) v (by omega) (by omega) (by omega) (by
                      rw [← hT, hstep, if_pos hok]
                      by_cases e : d = 1
                      · have e2 := d1.mp e
                        omega
                      · have e2 : ¬ d.toInt = 1 := fun z => e (d1.mpr z)
                        rw [if_neg e, show max l c.toInt.toNat = c.toInt.toNat by omega])
                  | exact l_ytried hs hn hj hw hend m (i + 1) (c.toInt.toNat) (c.toInt.toNat) (by omega) (by omega) (by omega) (by
                      rw [← hT, hstep, if_pos hok]
                      by_cases e : d = 1
                      · have e2 := d1.mp e
                        omega
                      · have e2 : ¬ d.toInt = 1 := fun z => e (d1.mpr z)
                        omega)
              · rw [pm_cmp_le, Int32.toInt_toInt64, kl] at h191
                refine pm_lload (pc := 194) dX10_tried_194 rfl ?_
                refine pm_l2i (pc := 196) dX10_tried_196 ?_
                rw [ec]
                refine pm_goto (pc := 197) (tgt := 202) dX10_tried_197 rfl ?_
                refine pm_istore (pc := 202) dX10_tried_202 (by decide) rfl ?_
                refine pm_iinc (pc := 204) dX10_tried_204 rfl (pm_inc1 _) (by decide) rfl ?_
                refine pm_goto (pc := 207) (tgt := 78) dX10_tried_207 rfl ?_
                refine pm_kill 10 ?_
                refine pm_kill 12 ?_
                first
                  | exact l_ytried hs hn hj hw hend m (i + 1) l v (by omega) (by omega) (by omega) (by
                      rw [← hT, hstep, if_pos hok]
                      by_cases e : d = 1
                      · have e2 := d1.mp e
                        rw [if_pos e, show min v c.toInt.toNat = v by omega]
                      · have e2 : ¬ d.toInt = 1 := fun z => e (d1.mpr z)
                        rw [if_neg e, show max l c.toInt.toNat = l by omega])
                  | exact l_ytried hs hn hj hw hend m (i + 1) l (c.toInt.toNat) (by omega) (by omega) (by omega) (by
                      rw [← hT, hstep, if_pos hok]
                      by_cases e : d = 1
                      · have e2 := d1.mp e
                        rw [if_pos e, show min v c.toInt.toNat = c.toInt.toNat by omega]
                      · have e2 : ¬ d.toInt = 1 := fun z => e (d1.mpr z)
                        omega)
                  | exact l_ytried hs hn hj hw hend m (i + 1) (c.toInt.toNat) v (by omega) (by omega) (by omega) (by
                      rw [← hT, hstep, if_pos hok]
                      by_cases e : d = 1
                      · have e2 := d1.mp e
                        omega
                      · have e2 : ¬ d.toInt = 1 := fun z => e (d1.mpr z)
                        rw [if_neg e, show max l c.toInt.toNat = c.toInt.toNat by omega])
                  | exact l_ytried hs hn hj hw hend m (i + 1) (c.toInt.toNat) (c.toInt.toNat) (by omega) (by omega) (by omega) (by
                      rw [← hT, hstep, if_pos hok]
                      by_cases e : d = 1
                      · have e2 := d1.mp e
                        omega
                      · have e2 : ¬ d.toInt = 1 := fun z => e (d1.mpr z)
                        omega)
          · rw [pm_cmp_ge, Int32.toInt_toInt64, kv, hc1] at h163
            refine pm_lload (pc := 166) dX10_tried_166 rfl ?_
            refine pm_l2i (pc := 168) dX10_tried_168 ?_
            rw [ec]
            refine pm_iconst (pc := 169) (v := nI 1) dX10_tried_169 (by decide) ?_
            refine pm_isub (pc := 170) dX10_tried_170 ?_
            refine pm_goto (pc := 171) (tgt := 176) dX10_tried_171 rfl ?_
            refine pm_istore (pc := 176) dX10_tried_176 (by decide) rfl ?_
            refine pm_lload (pc := 178) dX10_tried_178 rfl ?_
            refine pm_lconst (pc := 180) (v := 0) dX10_tried_180 (by decide) ?_
            refine pm_lcmp (pc := 181) dX10_tried_181 ?_
            refine pm_if_ne (pc := 182) (tgt := 200) dX10_tried_182 rfl (fun h182 => ?_) (fun h182 => ?_)
            · rw [pm_cmp_eq, d0] at h182
              refine pm_iload (pc := 200) dX10_tried_200 rfl ?_
              refine pm_istore (pc := 202) dX10_tried_202 (by decide) rfl ?_
              refine pm_iinc (pc := 204) dX10_tried_204 rfl (pm_inc1 _) (by decide) rfl ?_
              refine pm_goto (pc := 207) (tgt := 78) dX10_tried_207 rfl ?_
              refine pm_kill 10 ?_
              refine pm_kill 12 ?_
              first
                | exact l_ytried hs hn hj hw hend m (i + 1) l v (by omega) (by omega) (by omega) (by
                    rw [← hT, hstep, if_pos hok]
                    by_cases e : d = 1
                    · have e2 := d1.mp e
                      rw [if_pos e, show min v c.toInt.toNat = v by omega]
                    · have e2 : ¬ d.toInt = 1 := fun z => e (d1.mpr z)
                      rw [if_neg e, show max l c.toInt.toNat = l by omega])
                | exact l_ytried hs hn hj hw hend m (i + 1) l (c.toInt.toNat) (by omega) (by omega) (by omega) (by
                    rw [← hT, hstep, if_pos hok]
                    by_cases e : d = 1
                    · have e2 := d1.mp e
                      rw [if_pos e, show min v c.toInt.toNat = c.toInt.toNat by omega]
                    · have e2 : ¬ d.toInt = 1 := fun z => e (d1.mpr z)
                      omega)
                | exact l_ytried hs hn hj hw hend m (i + 1) (c.toInt.toNat) v (by omega) (by omega) (by omega) (by
                    rw [← hT, hstep, if_pos hok]
                    by_cases e : d = 1
                    · have e2 := d1.mp e
                      omega
                    · have e2 : ¬ d.toInt = 1 := fun z => e (d1.mpr z)
                      rw [if_neg e, show max l c.toInt.toNat = c.toInt.toNat by omega])
                | exact l_ytried hs hn hj hw hend m (i + 1) (c.toInt.toNat) (c.toInt.toNat) (by omega) (by omega) (by omega) (by
                    rw [← hT, hstep, if_pos hok]
                    by_cases e : d = 1
                    · have e2 := d1.mp e
                      omega
                    · have e2 : ¬ d.toInt = 1 := fun z => e (d1.mpr z)
                      omega)
            · rw [pm_cmp_eq, d0] at h182
              refine pm_lload (pc := 185) dX10_tried_185 rfl ?_
              refine pm_iload (pc := 187) dX10_tried_187 rfl ?_
              refine pm_i2l (pc := 189) dX10_tried_189 ?_
              refine pm_lcmp (pc := 190) dX10_tried_190 ?_
              refine pm_if_le (pc := 191) (tgt := 200) dX10_tried_191 rfl (fun h191 => ?_) (fun h191 => ?_)
              · rw [pm_cmp_le, Int32.toInt_toInt64, kl] at h191
                refine pm_iload (pc := 200) dX10_tried_200 rfl ?_
                refine pm_istore (pc := 202) dX10_tried_202 (by decide) rfl ?_
                refine pm_iinc (pc := 204) dX10_tried_204 rfl (pm_inc1 _) (by decide) rfl ?_
                refine pm_goto (pc := 207) (tgt := 78) dX10_tried_207 rfl ?_
                refine pm_kill 10 ?_
                refine pm_kill 12 ?_
                first
                  | exact l_ytried hs hn hj hw hend m (i + 1) l v (by omega) (by omega) (by omega) (by
                      rw [← hT, hstep, if_pos hok]
                      by_cases e : d = 1
                      · have e2 := d1.mp e
                        rw [if_pos e, show min v c.toInt.toNat = v by omega]
                      · have e2 : ¬ d.toInt = 1 := fun z => e (d1.mpr z)
                        rw [if_neg e, show max l c.toInt.toNat = l by omega])
                  | exact l_ytried hs hn hj hw hend m (i + 1) l (c.toInt.toNat) (by omega) (by omega) (by omega) (by
                      rw [← hT, hstep, if_pos hok]
                      by_cases e : d = 1
                      · have e2 := d1.mp e
                        rw [if_pos e, show min v c.toInt.toNat = c.toInt.toNat by omega]
                      · have e2 : ¬ d.toInt = 1 := fun z => e (d1.mpr z)
                        omega)
                  | exact l_ytried hs hn hj hw hend m (i + 1) (c.toInt.toNat) v (by omega) (by omega) (by omega) (by
                      rw [← hT, hstep, if_pos hok]
                      by_cases e : d = 1
                      · have e2 := d1.mp e
                        omega
                      · have e2 : ¬ d.toInt = 1 := fun z => e (d1.mpr z)
                        rw [if_neg e, show max l c.toInt.toNat = c.toInt.toNat by omega])
                  | exact l_ytried hs hn hj hw hend m (i + 1) (c.toInt.toNat) (c.toInt.toNat) (by omega) (by omega) (by omega) (by
                      rw [← hT, hstep, if_pos hok]
                      by_cases e : d = 1
                      · have e2 := d1.mp e
                        omega
                      · have e2 : ¬ d.toInt = 1 := fun z => e (d1.mpr z)
                        omega)
              · rw [pm_cmp_le, Int32.toInt_toInt64, kl] at h191
                refine pm_lload (pc := 194) dX10_tried_194 rfl ?_
                refine pm_l2i (pc := 196) dX10_tried_196 ?_
                rw [ec]
                refine pm_goto (pc := 197) (tgt := 202) dX10_tried_197 rfl ?_
                refine pm_istore (pc := 202) dX10_tried_202 (by decide) rfl ?_
                refine pm_iinc (pc := 204) dX10_tried_204 rfl (pm_inc1 _) (by decide) rfl ?_
                refine pm_goto (pc := 207) (tgt := 78) dX10_tried_207 rfl ?_
                refine pm_kill 10 ?_
                refine pm_kill 12 ?_
                first
                  | exact l_ytried hs hn hj hw hend m (i + 1) l v (by omega) (by omega) (by omega) (by
                      rw [← hT, hstep, if_pos hok]
                      by_cases e : d = 1
                      · have e2 := d1.mp e
                        rw [if_pos e, show min v c.toInt.toNat = v by omega]
                      · have e2 : ¬ d.toInt = 1 := fun z => e (d1.mpr z)
                        rw [if_neg e, show max l c.toInt.toNat = l by omega])
                  | exact l_ytried hs hn hj hw hend m (i + 1) l (c.toInt.toNat) (by omega) (by omega) (by omega) (by
                      rw [← hT, hstep, if_pos hok]
                      by_cases e : d = 1
                      · have e2 := d1.mp e
                        rw [if_pos e, show min v c.toInt.toNat = c.toInt.toNat by omega]
                      · have e2 : ¬ d.toInt = 1 := fun z => e (d1.mpr z)
                        omega)
                  | exact l_ytried hs hn hj hw hend m (i + 1) (c.toInt.toNat) v (by omega) (by omega) (by omega) (by
                      rw [← hT, hstep, if_pos hok]
                      by_cases e : d = 1
                      · have e2 := d1.mp e
                        omega
                      · have e2 : ¬ d.toInt = 1 := fun z => e (d1.mpr z)
                        rw [if_neg e, show max l c.toInt.toNat = c.toInt.toNat by omega])
                  | exact l_ytried hs hn hj hw hend m (i + 1) (c.toInt.toNat) (c.toInt.toNat) (by omega) (by omega) (by omega) (by
                      rw [← hT, hstep, if_pos hok]
                      by_cases e : d = 1
                      · have e2 := d1.mp e
                        omega
                      · have e2 : ¬ d.toInt = 1 := fun z => e (d1.mpr z)
                        omega)
      · refine pm_bipush (pc := 145) (v := (-2)) dX10_tried_145 (by decide) ?_
        refine pm_iret (pc := 147) rfl (Nat.le_refl _) (Nat.le_refl _) dX10_tried_147 ?_
        have e := hT
        rw [hstep, if_neg (fun z => by first | exact b1_nf h132 (by rw [c0, c99]; exact z.1) | exact b1_nf h142 (by rw [c0, c1]; exact z.2))] at e
        subst e
        exact hend
set_option maxRecDepth 100000 in
set_option maxHeartbeats 1000000 in
theorem y_tried {I : pm_I} {L : pm_L} {X : xS} (hR : MR I L X) (hX : xInv X) {q b i n w : Int32} : PC 2 0 0 yX10_tried cX10_tried 14 (some (.int)) [.ref 40, .int q, .int b, .int i, .int n, .int w] GG I L (YQ I L (sp_tried X q b i n w).1 (sp_tried X q b i n w).2) := by
  refine PC.of [some (.ref 40), some (.int q), some (.int b), some (.int i), some (.int n), some (.int w), none, none, none, none, none, none, none, none] (by decide) (Nat.le_of_ble_eq_true rfl) rfl (fun l P => ?_)
  refine pm_iload_n (pc := 0) dX10_tried_0 rfl ?_
  refine pm_cSR (pc := 1) dX10_tried_1 (c_mIsSheet) wq_X10_isSheet wm_X10_277 wt_X10_isSheet ⟨Nat.le_of_ble_eq_true rfl, Nat.le_of_ble_eq_true rfl⟩ ⟨Nat.le_of_ble_eq_true rfl, Nat.le_of_ble_eq_true rfl⟩ rfl (Nat.le_of_ble_eq_true rfl) ?_
  refine pm_if_eq (pc := 4) (tgt := 45) dX10_tried_4 rfl (fun h4 => ?_) (fun h4 => ?_)
  · refine pm_iconst (pc := 45) (v := (-1)) dX10_tried_45 (by decide) ?_
    refine pm_iret (pc := 46) rfl (Nat.le_refl _) (Nat.le_refl _) dX10_tried_46 ?_
    first | (rw [show sp_tried X q b i n w = (-1, X) from if_pos (fun z => b1_nf h4 z.1)]; exact YQ.r rfl hR yF.rf) | (rw [show sp_tried X (nI s) b i n w = (-1, X) from if_pos (fun z => b1_nf h16 z.2.1)]; exact YQ.r rfl hR yF.rf) | (rw [show sp_tried X (nI s) b i n w = (-1, X) from if_pos (fun z => b1_nf h29 z.2.2.1)]; exact YQ.r rfl hR yF.rf) | (rw [show sp_tried X (nI s) b i n w = (-1, X) from if_pos (fun z => b1_nf h42 z.2.2.2)]; exact YQ.r rfl hR yF.rf)
  · obtain ⟨s, hs, rfl⟩ := sh_of (b1_nt h4)
    have hS := (hR.2.2.2 s hs).1
    have ho := hX.2.2.2 s hs
    refine pm_iload_n (pc := 7) dX10_tried_7 rfl ?_
    refine pm_i2l (pc := 8) dX10_tried_8 ?_
    refine pm_lconst (pc := 9) (v := 0) dX10_tried_9 (by decide) ?_
    refine pm_ldc2 (pc := 10) wk_X10_246 dX10_tried_10 ?_
    refine pm_cSR (pc := 13) dX10_tried_13 (c_mInI (a := 0) (b := 2) (by decide) (by decide)) wq_X10_in wm_X10_87 wt_X10_in ⟨Nat.le_of_ble_eq_true rfl, Nat.le_of_ble_eq_true rfl⟩ ⟨Nat.le_of_ble_eq_true rfl, Nat.le_of_ble_eq_true rfl⟩ rfl (Nat.le_of_ble_eq_true rfl) ?_
    refine pm_if_eq (pc := 16) (tgt := 45) dX10_tried_16 rfl (fun h16 => ?_) (fun h16 => ?_)
    · refine pm_iconst (pc := 45) (v := (-1)) dX10_tried_45 (by decide) ?_
      refine pm_iret (pc := 46) rfl (Nat.le_refl _) (Nat.le_refl _) dX10_tried_46 ?_
      first | (rw [show sp_tried X q b i n w = (-1, X) from if_pos (fun z => b1_nf h4 z.1)]; exact YQ.r rfl hR yF.rf) | (rw [show sp_tried X (nI s) b i n w = (-1, X) from if_pos (fun z => b1_nf h16 z.2.1)]; exact YQ.r rfl hR yF.rf) | (rw [show sp_tried X (nI s) b i n w = (-1, X) from if_pos (fun z => b1_nf h29 z.2.2.1)]; exact YQ.r rfl hR yF.rf) | (rw [show sp_tried X (nI s) b i n w = (-1, X) from if_pos (fun z => b1_nf h42 z.2.2.2)]; exact YQ.r rfl hR yF.rf)
    · refine pm_iload (pc := 19) dX10_tried_19 rfl ?_
      refine pm_i2l (pc := 21) dX10_tried_21 ?_
      refine pm_lconst (pc := 22) (v := 1) dX10_tried_22 (by decide) ?_
      refine pm_ldc2 (pc := 23) wk_X10_143 dX10_tried_23 ?_
      refine pm_cSR (pc := 26) dX10_tried_26 (c_mInI (a := 1) (b := 8) (by decide) (by decide)) wq_X10_in wm_X10_87 wt_X10_in ⟨Nat.le_of_ble_eq_true rfl, Nat.le_of_ble_eq_true rfl⟩ ⟨Nat.le_of_ble_eq_true rfl, Nat.le_of_ble_eq_true rfl⟩ rfl (Nat.le_of_ble_eq_true rfl) ?_
      refine pm_if_eq (pc := 29) (tgt := 45) dX10_tried_29 rfl (fun h29 => ?_) (fun h29 => ?_)
      · refine pm_iconst (pc := 45) (v := (-1)) dX10_tried_45 (by decide) ?_
        refine pm_iret (pc := 46) rfl (Nat.le_refl _) (Nat.le_refl _) dX10_tried_46 ?_
        first | (rw [show sp_tried X q b i n w = (-1, X) from if_pos (fun z => b1_nf h4 z.1)]; exact YQ.r rfl hR yF.rf) | (rw [show sp_tried X (nI s) b i n w = (-1, X) from if_pos (fun z => b1_nf h16 z.2.1)]; exact YQ.r rfl hR yF.rf) | (rw [show sp_tried X (nI s) b i n w = (-1, X) from if_pos (fun z => b1_nf h29 z.2.2.1)]; exact YQ.r rfl hR yF.rf) | (rw [show sp_tried X (nI s) b i n w = (-1, X) from if_pos (fun z => b1_nf h42 z.2.2.2)]; exact YQ.r rfl hR yF.rf)
      · refine pm_iload (pc := 32) dX10_tried_32 rfl ?_
        refine pm_i2l (pc := 34) dX10_tried_34 ?_
        refine pm_lconst (pc := 35) (v := 0) dX10_tried_35 (by decide) ?_
        refine pm_ldc2 (pc := 36) wk_X10_246 dX10_tried_36 ?_
        refine pm_cSR (pc := 39) dX10_tried_39 (c_mInI (a := 0) (b := 2) (by decide) (by decide)) wq_X10_in wm_X10_87 wt_X10_in ⟨Nat.le_of_ble_eq_true rfl, Nat.le_of_ble_eq_true rfl⟩ ⟨Nat.le_of_ble_eq_true rfl, Nat.le_of_ble_eq_true rfl⟩ rfl (Nat.le_of_ble_eq_true rfl) ?_
        refine pm_if_ne (pc := 42) (tgt := 47) dX10_tried_42 rfl (fun h42 => ?_) (fun h42 => ?_)
        · obtain ⟨b, hb, rfl⟩ := la_of (b1_nt h16)
          obtain ⟨n, hn1, hn, rfl⟩ := iR1_of (b := 8) (by decide) (b1_nt h29)
          obtain ⟨w, hw, rfl⟩ := iR_of (x := w) (b := 2) (by decide) (b1_nt h42)
          refine pm_aload_n (pc := 47) dX10_tried_47 rfl ?_
          refine pm_iload_n (pc := 48) dX10_tried_48 rfl ?_
          refine pm_iload_n (pc := 49) dX10_tried_49 rfl ?_
          refine pm_iload_n (pc := 50) dX10_tried_50 rfl ?_
          refine pm_iconst (pc := 51) (v := nI 2) dX10_tried_51 (by decide) ?_
          refine pm_iload (pc := 52) dX10_tried_52 rfl ?_
          refine pm_imul (pc := 54) dX10_tried_54 ?_
          refine pm_top (pk_mul _ _) ?_
          refine pm_cVR (pc := 55) dX10_tried_55 (c_mAg hs hS ho hb (by rw [nI_toInt (by omega)]; omega)) wq_X10_against wm_X10_280 wi_X10_against ws_X10_against rfl rfl ⟨Nat.le_of_ble_eq_true rfl, Nat.le_of_ble_eq_true rfl⟩ ⟨Nat.le_of_ble_eq_true rfl, Nat.le_of_ble_eq_true rfl⟩ rfl (Nat.le_of_ble_eq_true rfl) ?_
          refine pm_istore (pc := 58) dX10_tried_58 (by decide) rfl ?_
          refine pm_iload (pc := 60) dX10_tried_60 rfl ?_
          refine pm_if_eq (pc := 62) (tgt := 68) dX10_tried_62 rfl (fun h62 => ?_) (fun h62 => ?_)
          · obtain ⟨e, he, hr⟩ := refuse_0 h62
            have he2 := (ho b e he).2
            obtain ⟨j, hj, rfl⟩ := row_of he2 (by omega) hr
            refine pm_iconst (pc := 68) (v := nI 0) dX10_tried_68 (by decide) ?_
            refine pm_istore (pc := 69) dX10_tried_69 (by decide) rfl ?_
            refine pm_bipush (pc := 71) (v := nI 99) dX10_tried_71 (by decide) ?_
            refine pm_istore (pc := 73) dX10_tried_73 (by decide) rfl ?_
            refine pm_iconst (pc := 75) (v := nI 0) dX10_tried_75 (by decide) ?_
            refine pm_istore (pc := 76) dX10_tried_76 (by decide) rfl ?_
            have k9 := l_ytried (I := I) (L := L) (j := j) (w := w) (z2 := nI b) (z6 := refuse (x_s X s) b (nI j) (nI (2 * n))) hs hn (by omega) hw (R0 := t_run (fun k => L 63 (24 * s + (j + k))) n 0 0 100) (Q := YQ I L (sp_tried X (nI s) (nI b) (nI j) (nI n) (nI w)).1 (sp_tried X (nI s) (nI b) (nI j) (nI n) (nI w)).2) ?_ n 0 0 100 (by omega) (by omega) (by omega) rfl (la := l) (P := P)
            · exact k9
            rw [sp_tried_t hs hb ⟨hn1, hn⟩ hw (by omega) h62]
            exact YQ.r (by rw [t_run_congr n 0 0 100 (fun k hk => (hR.2.2.2 s hs).2 (j + k) (by omega))]) hR yF.rf
          · refine pm_iload (pc := 65) dX10_tried_65 rfl ?_
            refine pm_iret (pc := 67) rfl (Nat.le_refl _) (Nat.le_refl _) dX10_tried_67 ?_
            rw [sp_tried_b hs hb ⟨hn1, hn⟩ hw h62]
            exact YQ.r rfl hR yF.rf
        · refine pm_iconst (pc := 45) (v := (-1)) dX10_tried_45 (by decide) ?_
          refine pm_iret (pc := 46) rfl (Nat.le_refl _) (Nat.le_refl _) dX10_tried_46 ?_
          first | (rw [show sp_tried X q b i n w = (-1, X) from if_pos (fun z => b1_nf h4 z.1)]; exact YQ.r rfl hR yF.rf) | (rw [show sp_tried X (nI s) b i n w = (-1, X) from if_pos (fun z => b1_nf h16 z.2.1)]; exact YQ.r rfl hR yF.rf) | (rw [show sp_tried X (nI s) b i n w = (-1, X) from if_pos (fun z => b1_nf h29 z.2.2.1)]; exact YQ.r rfl hR yF.rf) | (rw [show sp_tried X (nI s) b i n w = (-1, X) from if_pos (fun z => b1_nf h42 z.2.2.2)]; exact YQ.r rfl hR yF.rf)
