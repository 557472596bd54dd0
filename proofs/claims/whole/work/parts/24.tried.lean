/-- what was felt of the changes: the least sense that is left, and one more than the most -/
def t_ok (c d : Int64) : Prop := (0 ≤ c.toInt ∧ c.toInt ≤ 99) ∧ 0 ≤ d.toInt ∧ d.toInt ≤ 1
abbrev t_okd (c d : Int64) : Prop := (0 ≤ c.toInt ∧ c.toInt ≤ 99) ∧ 0 ≤ d.toInt ∧ d.toInt ≤ 1
def t_run (f : Nat → Int64) : Nat → Nat → Nat → Nat → Option (Nat × Nat)
  | 0, _, l, v => some (l, v)
  | m + 1, i, l, v => if t_okd (f (2 * i)) (f (2 * i + 1)) then (if f (2 * i + 1) = 1 then t_run f m (i + 1) l (min v (f (2 * i)).toInt.toNat) else t_run f m (i + 1) (max l (f (2 * i)).toInt.toNat) v) else none
def t_end (l v w : Nat) : Int32 := if v ≤ l ∨ (w = 2 ∧ v < l + 2) then -4 else if w = 2 then nI (l + (v - l) / 2) else if w = 0 then nI l else nI v - nI 1
def t_ans (r : Option (Nat × Nat)) (w : Nat) : Int32 := match r with
  | none => -2
  | some e => t_end e.1 e.2 w
def sp_tried (X : xS) (q b i n w : Int32) : Int32 × xS := if ¬ (iR q 0 3 ∧ iR b 0 2 ∧ iR n 1 8 ∧ iR w 0 2) then (-1, X) else if refuse (x_s X (nt q)) (nt b) i (nI (2 * nt n)) ≠ 0 then (refuse (x_s X (nt q)) (nt b) i (nI (2 * nt n)), X) else (t_ans (t_run (fun k => x_r X (nt q) (nt i + k)) (nt n) 0 0 100) (nt w), X)
theorem t_run_congr {f g : Nat → Int64} : ∀ (m i l v : Nat), (∀ k, k < 2 * (m + i) → f k = g k) → t_run f m i l v = t_run g m i l v
  | 0, _, _, _, _ => rfl
  | m + 1, i, l, v, h => by
    show (if t_okd (f (2 * i)) (f (2 * i + 1)) then (if f (2 * i + 1) = 1 then t_run f m (i + 1) l (min v (f (2 * i)).toInt.toNat) else t_run f m (i + 1) (max l (f (2 * i)).toInt.toNat) v) else none) = (if t_okd (g (2 * i)) (g (2 * i + 1)) then (if g (2 * i + 1) = 1 then t_run g m (i + 1) l (min v (g (2 * i)).toInt.toNat) else t_run g m (i + 1) (max l (g (2 * i)).toInt.toNat) v) else none)
    rw [h (2 * i) (by omega), h (2 * i + 1) (by omega), t_run_congr m (i + 1) l _ (fun k hk => h k (by omega)), t_run_congr m (i + 1) _ v (fun k hk => h k (by omega))]
theorem sp_tried_b {X : xS} {s b n w : Nat} {i : Int32} (hs : s < 4) (hb : b < 3) (hn : 1 ≤ n ∧ n ≤ 8) (hw : w ≤ 2) (h : ¬ refuse (x_s X s) b i (nI (2 * n)) = 0) : sp_tried X (nI s) (nI b) i (nI n) (nI w) = (refuse (x_s X s) b i (nI (2 * n)), X) := by
  unfold sp_tried
  rw [if_neg (not_not_intro ⟨sh_nI hs, la_nI hb, ⟨by rw [nI_toInt (by omega)]; omega, by rw [nI_toInt (by omega)]; omega⟩, (iR_nI (b := 2) (by omega)).mpr hw⟩), nt_nI (show s < 2 ^ 31 by omega), nt_nI (show b < 2 ^ 31 by omega), nt_nI (show n < 2 ^ 31 by omega), if_pos h]
theorem sp_tried_t {X : xS} {s b n w j : Nat} (hs : s < 4) (hb : b < 3) (hn : 1 ≤ n ∧ n ≤ 8) (hw : w ≤ 2) (hj : j < 24) (h : refuse (x_s X s) b (nI j) (nI (2 * n)) = 0) : sp_tried X (nI s) (nI b) (nI j) (nI n) (nI w) = (t_ans (t_run (fun k => x_r X s (j + k)) n 0 0 100) w, X) := by
  unfold sp_tried
  rw [if_neg (not_not_intro ⟨sh_nI hs, la_nI hb, ⟨by rw [nI_toInt (by omega)]; omega, by rw [nI_toInt (by omega)]; omega⟩, (iR_nI (b := 2) (by omega)).mpr hw⟩), nt_nI (show s < 2 ^ 31 by omega), nt_nI (show b < 2 ^ 31 by omega), nt_nI (show n < 2 ^ 31 by omega), nt_nI (show w < 2 ^ 31 by omega), nt_nI (show j < 2 ^ 31 by omega), if_neg (not_not_intro h)]
theorem pm_cmp_le (x y : Int64) : lg_cmp x y ≤ 0 ↔ x.toInt ≤ y.toInt := by
  rw [← Int32.not_lt, pm_cmp_gt]; omega
theorem pm_cmp_ge (x y : Int64) : 0 ≤ lg_cmp x y ↔ y.toInt ≤ x.toInt := by
  rw [← Int32.not_lt, pm_cmp_lt]; omega
theorem l2i_small {c : Int64} (h : 0 ≤ c.toInt ∧ c.toInt ≤ 99) : c.toInt32 = nI c.toInt.toNat := by
  rw [pm_eqI, Int64.toInt_toInt32, nI_toInt (by omega), Int.bmod_eq_of_le_mul_two (by omega) (by omega)]
  omega
theorem nIm1 {v : Nat} (h : v < 2 ^ 30) : (nI v - nI 1).toInt = (v : Int) - 1 := by
  rw [fb_subI (by rw [nI_toInt (by omega), nI_toInt (by decide)]; omega) (by rw [nI_toInt (by omega), nI_toInt (by decide)]; omega), nI_toInt (by omega), nI_toInt (by decide)]
  rfl
set_option maxRecDepth 100000 in
set_option maxHeartbeats 1000000 in
theorem c_among {I : pm_I} {L : pm_L} {l v w : Nat} (hl : l ≤ 99) (hv : v ≤ 100) (hw : w ≤ 2) : PC 0 0 0 yX9_amongSenses cX9_amongSenses 4 (some (.int)) [.int (nI l), .int (nI v - nI 1), .int (nI w)] GG I L (QR GG I L (t_end l v w)) := by
  have hno : l + 2 ≤ v → ¬ (v ≤ l ∨ (w = 2 ∧ v < l + 2)) := fun h z => by omega
  have k1 := nIm1 (v := v) (by omega)
  have kl := nI_toInt (n := l) (by omega)
  have k01 := nI_toInt (n := 1) (by decide)
  have k2 : (nI v - nI 1 - nI l).toInt = (v : Int) - 1 - l := by rw [fb_subI (by omega) (by omega)]; omega
  obtain ⟨S, hS, eS⟩ : ∃ S : Int32, S.toInt = (v : Int) - l ∧ nI v - nI 1 - nI l + nI 1 = S := ⟨_, by rw [fb_addI (by omega) (by omega)]; omega, rfl⟩
  have kw := nI_toInt (n := w) (by omega)
  have kw2 : nI w = nI 2 ↔ w = 2 := nI_eq (by omega) (by decide)
  have t2 := nI_toInt (n := 2) (by decide)
  have kw0 : nI w = 0 ↔ w = 0 := by rw [pm_eqI, kw, pm_t0]; omega
  have eN : l ≤ v → S = nI (v - l) := fun h => by rw [pm_eqI, hS, nI_toInt (by omega)]; omega
  refine PC.of [some (.int (nI l)), some (.int (nI v - nI 1)), some (.int (nI w)), none] (by decide) (Nat.le_of_ble_eq_true rfl) rfl (fun l P => ?_)
  refine pm_iload_n (pc := 0) dX9_amongSenses_0 rfl ?_
  refine pm_iload_n (pc := 1) dX9_amongSenses_1 rfl ?_
  refine pm_isub (pc := 2) dX9_amongSenses_2 ?_
  refine pm_iconst (pc := 3) (v := nI 1) dX9_amongSenses_3 (by decide) ?_
  refine pm_iadd (pc := 4) dX9_amongSenses_4 ?_
  refine pm_top eS ?_
  refine pm_istore_n (pc := 5) dX9_amongSenses_5 (by decide) rfl ?_
  refine pm_iload_n (pc := 6) dX9_amongSenses_6 rfl ?_
  refine pm_iconst (pc := 7) (v := nI 1) dX9_amongSenses_7 (by decide) ?_
  refine pm_icmp_lt (pc := 8) (tgt := 21) dX9_amongSenses_8 rfl (fun h8 => ?_) (fun h8 => ?_)
  · refine pm_bipush (pc := 21) (v := (-4)) dX9_amongSenses_21 (by decide) ?_
    refine pm_iret (pc := 23) rfl (Nat.le_refl _) (Nat.le_refl _) dX9_amongSenses_23 ?_
    refine QR.r (if_pos ?_).symm
    first | (simp only [pm_ltI, k01] at h8; exact Or.inl (by omega)) | (simp only [pm_leI, t2] at h18; exact Or.inr ⟨kw2.mp (by first | exact h13 | exact Decidable.not_not.mp h13), by omega⟩)
  · refine pm_iload_n (pc := 11) dX9_amongSenses_11 rfl ?_
    refine pm_iconst (pc := 12) (v := nI 2) dX9_amongSenses_12 (by decide) ?_
    refine pm_icmp_ne (pc := 13) (tgt := 24) dX9_amongSenses_13 rfl (fun h13 => ?_) (fun h13 => ?_)
    · refine pm_iload_n (pc := 24) dX9_amongSenses_24 rfl ?_
      refine pm_iconst (pc := 25) (v := nI 2) dX9_amongSenses_25 (by decide) ?_
      refine pm_icmp_ne (pc := 26) (tgt := 35) dX9_amongSenses_26 rfl (fun h26 => ?_) (fun h26 => ?_)
      · refine pm_iload_n (pc := 35) dX9_amongSenses_35 rfl ?_
        refine pm_if_ne (pc := 36) (tgt := 43) dX9_amongSenses_36 rfl (fun h36 => ?_) (fun h36 => ?_)
        · refine pm_iload_n (pc := 43) dX9_amongSenses_43 rfl ?_
          refine pm_iret (pc := 44) rfl (Nat.le_refl _) (Nat.le_refl _) dX9_amongSenses_44 ?_
          refine QR.r ?_
          unfold t_end
          simp only [pm_ltI, k01] at h8
          first | (rw [if_neg (fun z => z.elim (by omega) (fun y => absurd (kw2.mpr y.1) h26)), if_neg (fun y => absurd (kw2.mpr y) h26), if_pos (kw0.mp h36)]) | (rw [if_neg (fun z => z.elim (by omega) (fun y => absurd (kw2.mpr y.1) h26)), if_neg (fun y => absurd (kw2.mpr y) h26), if_neg (fun y => absurd (kw0.mpr y) h36)])
        · refine pm_iload_n (pc := 39) dX9_amongSenses_39 rfl ?_
          refine pm_goto (pc := 40) (tgt := 44) dX9_amongSenses_40 rfl ?_
          refine pm_iret (pc := 44) rfl (Nat.le_refl _) (Nat.le_refl _) dX9_amongSenses_44 ?_
          refine QR.r ?_
          unfold t_end
          simp only [pm_ltI, k01] at h8
          first | (rw [if_neg (fun z => z.elim (by omega) (fun y => absurd (kw2.mpr y.1) h26)), if_neg (fun y => absurd (kw2.mpr y) h26), if_pos (kw0.mp h36)]) | (rw [if_neg (fun z => z.elim (by omega) (fun y => absurd (kw2.mpr y.1) h26)), if_neg (fun y => absurd (kw2.mpr y) h26), if_neg (fun y => absurd (kw0.mpr y) h36)])
      · refine pm_iload_n (pc := 29) dX9_amongSenses_29 rfl ?_
        refine pm_iload_n (pc := 30) dX9_amongSenses_30 rfl ?_
        refine pm_iconst (pc := 31) (v := nI 2) dX9_amongSenses_31 (by decide) ?_
        rw [eN (by simp only [pm_ltI, k01] at h8; omega)]
        refine pm_idiv (pc := 32) dX9_amongSenses_32 (by decide) ?_
        refine pm_top (pk_div (by omega) (by decide) (by decide)) ?_
        refine pm_iadd (pc := 33) dX9_amongSenses_33 ?_
        refine pm_iret (pc := 34) rfl (Nat.le_refl _) (Nat.le_refl _) dX9_amongSenses_34 ?_
        first
          | exact absurd h26 h13
          | (refine QR.r ?_
             simp only [pm_ltI, k01] at h8
             simp only [pm_leI, t2] at h18
             unfold t_end
             rw [if_neg (hno (by omega)), if_pos (kw2.mp h26), nI_add])
    · refine pm_iload_n (pc := 16) dX9_amongSenses_16 rfl ?_
      refine pm_iconst (pc := 17) (v := nI 2) dX9_amongSenses_17 (by decide) ?_
      refine pm_icmp_ge (pc := 18) (tgt := 24) dX9_amongSenses_18 rfl (fun h18 => ?_) (fun h18 => ?_)
      · refine pm_iload_n (pc := 24) dX9_amongSenses_24 rfl ?_
        refine pm_iconst (pc := 25) (v := nI 2) dX9_amongSenses_25 (by decide) ?_
        refine pm_icmp_ne (pc := 26) (tgt := 35) dX9_amongSenses_26 rfl (fun h26 => ?_) (fun h26 => ?_)
        · refine pm_iload_n (pc := 35) dX9_amongSenses_35 rfl ?_
          refine pm_if_ne (pc := 36) (tgt := 43) dX9_amongSenses_36 rfl (fun h36 => ?_) (fun h36 => ?_)
          · refine pm_iload_n (pc := 43) dX9_amongSenses_43 rfl ?_
            refine pm_iret (pc := 44) rfl (Nat.le_refl _) (Nat.le_refl _) dX9_amongSenses_44 ?_
            refine QR.r ?_
            unfold t_end
            simp only [pm_ltI, k01] at h8
            first | (rw [if_neg (fun z => z.elim (by omega) (fun y => absurd (kw2.mpr y.1) h26)), if_neg (fun y => absurd (kw2.mpr y) h26), if_pos (kw0.mp h36)]) | (rw [if_neg (fun z => z.elim (by omega) (fun y => absurd (kw2.mpr y.1) h26)), if_neg (fun y => absurd (kw2.mpr y) h26), if_neg (fun y => absurd (kw0.mpr y) h36)])
          · refine pm_iload_n (pc := 39) dX9_amongSenses_39 rfl ?_
            refine pm_goto (pc := 40) (tgt := 44) dX9_amongSenses_40 rfl ?_
            refine pm_iret (pc := 44) rfl (Nat.le_refl _) (Nat.le_refl _) dX9_amongSenses_44 ?_
            refine QR.r ?_
            unfold t_end
            simp only [pm_ltI, k01] at h8
            first | (rw [if_neg (fun z => z.elim (by omega) (fun y => absurd (kw2.mpr y.1) h26)), if_neg (fun y => absurd (kw2.mpr y) h26), if_pos (kw0.mp h36)]) | (rw [if_neg (fun z => z.elim (by omega) (fun y => absurd (kw2.mpr y.1) h26)), if_neg (fun y => absurd (kw2.mpr y) h26), if_neg (fun y => absurd (kw0.mpr y) h36)])
        · refine pm_iload_n (pc := 29) dX9_amongSenses_29 rfl ?_
          refine pm_iload_n (pc := 30) dX9_amongSenses_30 rfl ?_
          refine pm_iconst (pc := 31) (v := nI 2) dX9_amongSenses_31 (by decide) ?_
          rw [eN (by simp only [pm_ltI, k01] at h8; omega)]
          refine pm_idiv (pc := 32) dX9_amongSenses_32 (by decide) ?_
          refine pm_top (pk_div (by omega) (by decide) (by decide)) ?_
          refine pm_iadd (pc := 33) dX9_amongSenses_33 ?_
          refine pm_iret (pc := 34) rfl (Nat.le_refl _) (Nat.le_refl _) dX9_amongSenses_34 ?_
          first
            | exact absurd h26 h13
            | (refine QR.r ?_
               simp only [pm_ltI, k01] at h8
               simp only [pm_leI, t2] at h18
               unfold t_end
               rw [if_neg (hno (by omega)), if_pos (kw2.mp h26), nI_add])
      · refine pm_bipush (pc := 21) (v := (-4)) dX9_amongSenses_21 (by decide) ?_
        refine pm_iret (pc := 23) rfl (Nat.le_refl _) (Nat.le_refl _) dX9_amongSenses_23 ?_
        refine QR.r (if_pos ?_).symm
        first | (simp only [pm_ltI, k01] at h8; exact Or.inl (by omega)) | (simp only [pm_leI, t2] at h18; exact Or.inr ⟨kw2.mp (by first | exact h13 | exact Decidable.not_not.mp h13), by omega⟩)
theorem pmin_nI {x : Int32} {c v : Nat} (hc : c < 2 ^ 30) (hv : v < 2 ^ 30) (ec : x = nI c) : (if x - nI 1 < nI v - nI 1 then x - nI 1 else nI v - nI 1) = nI (min v c) - nI 1 := by
  subst ec
  by_cases e : c < v
  · rw [if_pos (by rw [pm_ltI, nIm1 hc, nIm1 hv]; omega), Nat.min_eq_right (by omega)]
  · rw [if_neg (by rw [pm_ltI, nIm1 hc, nIm1 hv]; omega), Nat.min_eq_left (by omega)]
theorem pmax_nI {x : Int32} {c l : Nat} (hc : c < 2 ^ 30) (hl : l < 2 ^ 30) (ec : x = nI c) : (if nI l < x then x else nI l) = nI (max l c) := by
  subst ec
  by_cases e : l < c
  · rw [if_pos (by rw [pm_ltI, nI_toInt (by omega), nI_toInt (by omega)]; omega), Nat.max_eq_right (by omega)]
  · rw [if_neg (by rw [pm_ltI, nI_toInt (by omega), nI_toInt (by omega)]; omega), Nat.max_eq_left (by omega)]
set_option maxRecDepth 100000 in
set_option maxHeartbeats 1000000 in
theorem l_tried {I : pm_I} {L : pm_L} {s j n w : Nat} {z2 z7 : Int32} (hs : s < 4) (hn : n ≤ 8) (hj : j + 2 * n ≤ 24) (hw : w ≤ 2) {R0 : Option (Nat × Nat)} {Q : pm_QT} (hend : Q (some (.int (t_ans R0 w))) GG I L) {la : Launch} {P : pm_E} : ∀ (m i l v : Nat), i + m = n → l ≤ 99 → v ≤ 100 → t_run (fun k => L (33 + 2 * s) (j + k)) m i l v = R0 → PW la P yX9_tried cX9_tried 15 (some (.int)) (pm_rm 2 0 0) (pm_Tg P Q 0 0) 0 0 73 [some (.ref 0), some (.int (nI s)), some (.int z2), some (.int (nI j)), some (.int (nI n)), some (.int (nI w)), some (.ref (32 + 2 * s)), some (.int z7), some (.int (nI l)), some (.int (nI v - nI 1)), some (.int (nI i)), none, none, none, none] [] GG I L
  | 0, i, l, v, hm, hl, hv, hT => by
    have e : i = n := by omega
    subst e
    subst hT
    refine pm_iload (pc := 73) dX9_tried_73 rfl ?_
    refine pm_iload (pc := 75) dX9_tried_75 rfl ?_
    refine pm_icmp_ge (pc := 77) (tgt := 179) dX9_tried_77 rfl (fun h77 => ?_) (fun h77 => (by simp (disch := omega) only [pm_eqI, pm_ltI, pm_leI, nI_toInt, pm_t0, pm_t1, pm_tm1] at h77; omega))
    refine pm_iload (pc := 179) dX9_tried_179 rfl ?_
    refine pm_iload (pc := 181) dX9_tried_181 rfl ?_
    refine pm_iload (pc := 183) dX9_tried_183 rfl ?_
    refine pm_cSR (pc := 185) dX9_tried_185 (c_among hl hv hw) wq_X9_amongSenses wm_X9_237 wt_X9_amongSenses ⟨Nat.le_of_ble_eq_true rfl, Nat.le_of_ble_eq_true rfl⟩ ⟨Nat.le_of_ble_eq_true rfl, Nat.le_of_ble_eq_true rfl⟩ rfl (Nat.le_of_ble_eq_true rfl) ?_
    refine pm_iret (pc := 188) rfl (Nat.le_refl _) (Nat.le_refl _) dX9_tried_188 ?_
    exact hend
  | m + 1, i, l, v, hm, hl, hv, hT => by
    obtain ⟨c, hc⟩ : ∃ c, c = L (33 + 2 * s) (j + 2 * i) := ⟨_, rfl⟩
    obtain ⟨d, hd⟩ : ∃ d, d = L (33 + 2 * s) (j + (2 * i + 1)) := ⟨_, rfl⟩
    have hstep : t_run (fun k => L (33 + 2 * s) (j + k)) (m + 1) i l v = if t_okd c d then (if d = 1 then t_run (fun k => L (33 + 2 * s) (j + k)) m (i + 1) l (min v c.toInt.toNat) else t_run (fun k => L (33 + 2 * s) (j + k)) m (i + 1) (max l c.toInt.toNat) v) else none := by rw [hc, hd]; rfl
    have c99 : (99 : Int64).toInt = 99 := by decide
    have c0 : (0 : Int64).toInt = 0 := by decide
    have c1 : (1 : Int64).toInt = 1 := by decide
    have kl := nI_toInt (n := l) (by omega)
    have kv := nIm1 (v := v) (by omega)
    refine pm_iload (pc := 73) dX9_tried_73 rfl ?_
    refine pm_iload (pc := 75) dX9_tried_75 rfl ?_
    refine pm_icmp_ge (pc := 77) (tgt := 179) dX9_tried_77 rfl (fun h77 => (by simp (disch := omega) only [pm_eqI, pm_ltI, pm_leI, nI_toInt, pm_t0, pm_t1, pm_tm1] at h77; omega)) (fun h77 => ?_)
    refine pm_aload (pc := 80) dX9_tried_80 rfl ?_
    refine pm_iload_n (pc := 82) dX9_tried_82 rfl ?_
    refine pm_iconst (pc := 83) (v := nI 2) dX9_tried_83 (by decide) ?_
    refine pm_iload (pc := 84) dX9_tried_84 rfl ?_
    refine pm_imul (pc := 86) dX9_tried_86 ?_
    refine pm_iadd (pc := 87) dX9_tried_87 ?_
    refine pm_top (x' := nI (j + 2 * i)) (by rw [pk_mul, nI_add]) ?_
    refine pm_cVL (pc := 88) dX9_tried_88 (c_itemAt hs (by omega)) wq_X5_itemAt wm_X9_214 wi_X5_itemAt ws_X5_itemAt (gg_sheet hs) rfl ⟨Nat.le_of_ble_eq_true rfl, Nat.le_of_ble_eq_true rfl⟩ ⟨Nat.le_of_ble_eq_true rfl, Nat.le_of_ble_eq_true rfl⟩ rfl (Nat.le_of_ble_eq_true rfl) ?_
    rw [← hc]
    refine pm_lstore (pc := 91) dX9_tried_91 (by decide) rfl ?_
    refine pm_aload (pc := 93) dX9_tried_93 rfl ?_
    refine pm_iload_n (pc := 95) dX9_tried_95 rfl ?_
    refine pm_iconst (pc := 96) (v := nI 2) dX9_tried_96 (by decide) ?_
    refine pm_iload (pc := 97) dX9_tried_97 rfl ?_
    refine pm_imul (pc := 99) dX9_tried_99 ?_
    refine pm_iadd (pc := 100) dX9_tried_100 ?_
    refine pm_iconst (pc := 101) (v := nI 1) dX9_tried_101 (by decide) ?_
    refine pm_iadd (pc := 102) dX9_tried_102 ?_
    refine pm_top (x' := nI (j + (2 * i + 1))) (by rw [pk_mul, nI_add, nI_add, Nat.add_assoc]) ?_
    refine pm_cVL (pc := 103) dX9_tried_103 (c_itemAt hs (by omega)) wq_X5_itemAt wm_X9_214 wi_X5_itemAt ws_X5_itemAt (gg_sheet hs) rfl ⟨Nat.le_of_ble_eq_true rfl, Nat.le_of_ble_eq_true rfl⟩ ⟨Nat.le_of_ble_eq_true rfl, Nat.le_of_ble_eq_true rfl⟩ rfl (Nat.le_of_ble_eq_true rfl) ?_
    rw [← hd]
    refine pm_lstore (pc := 106) dX9_tried_106 (by decide) rfl ?_
    refine pm_lload (pc := 108) dX9_tried_108 rfl ?_
    refine pm_lconst (pc := 110) (v := 0) dX9_tried_110 (by decide) ?_
    refine pm_lcmp (pc := 111) dX9_tried_111 ?_
    refine pm_if_lt (pc := 112) (tgt := 138) dX9_tried_112 rfl (fun h112 => ?_) (fun h112 => ?_)
    · rw [pm_cmp_lt, c0] at h112
      refine pm_bipush (pc := 138) (v := (-2)) dX9_tried_138 (by decide) ?_
      refine pm_iret (pc := 140) rfl (Nat.le_refl _) (Nat.le_refl _) dX9_tried_140 ?_
      have e := hT
      rw [hstep, if_neg (fun z => by have z1 := z.1.1; have z2 := z.1.2; have z3 := z.2.1; have z4 := z.2.2; omega)] at e
      subst e
      exact hend
    · rw [pm_cmp_lt, c0] at h112
      refine pm_lload (pc := 115) dX9_tried_115 rfl ?_
      refine pm_ldc2 (pc := 117) wk_X9_227 dX9_tried_117 ?_
      refine pm_lcmp (pc := 120) dX9_tried_120 ?_
      refine pm_if_gt (pc := 121) (tgt := 138) dX9_tried_121 rfl (fun h121 => ?_) (fun h121 => ?_)
      · rw [pm_cmp_gt, c99] at h121
        refine pm_bipush (pc := 138) (v := (-2)) dX9_tried_138 (by decide) ?_
        refine pm_iret (pc := 140) rfl (Nat.le_refl _) (Nat.le_refl _) dX9_tried_140 ?_
        have e := hT
        rw [hstep, if_neg (fun z => by have z1 := z.1.1; have z2 := z.1.2; have z3 := z.2.1; have z4 := z.2.2; omega)] at e
        subst e
        exact hend
      · rw [pm_cmp_gt, c99] at h121
        refine pm_lload (pc := 124) dX9_tried_124 rfl ?_
        refine pm_lconst (pc := 126) (v := 0) dX9_tried_126 (by decide) ?_
        refine pm_lcmp (pc := 127) dX9_tried_127 ?_
        refine pm_if_lt (pc := 128) (tgt := 138) dX9_tried_128 rfl (fun h128 => ?_) (fun h128 => ?_)
        · rw [pm_cmp_lt, c0] at h128
          refine pm_bipush (pc := 138) (v := (-2)) dX9_tried_138 (by decide) ?_
          refine pm_iret (pc := 140) rfl (Nat.le_refl _) (Nat.le_refl _) dX9_tried_140 ?_
          have e := hT
          rw [hstep, if_neg (fun z => by have z1 := z.1.1; have z2 := z.1.2; have z3 := z.2.1; have z4 := z.2.2; omega)] at e
          subst e
          exact hend
        · rw [pm_cmp_lt, c0] at h128
          refine pm_lload (pc := 131) dX9_tried_131 rfl ?_
          refine pm_lconst (pc := 133) (v := 1) dX9_tried_133 (by decide) ?_
          refine pm_lcmp (pc := 134) dX9_tried_134 ?_
          refine pm_if_le (pc := 135) (tgt := 141) dX9_tried_135 rfl (fun h135 => ?_) (fun h135 => ?_)
          · rw [pm_cmp_le, c1] at h135
            have hok : t_okd c d := ⟨⟨by omega, by omega⟩, by omega, by omega⟩
            have ec := l2i_small hok.1
            have kc := nIm1 (v := c.toInt.toNat) (by omega)
            have kc2 := nI_toInt (n := c.toInt.toNat) (by omega)
            refine pm_lload (pc := 141) dX9_tried_141 rfl ?_
            refine pm_lconst (pc := 143) (v := 1) dX9_tried_143 (by decide) ?_
            refine pm_lcmp (pc := 144) dX9_tried_144 ?_
            refine pm_if_ne (pc := 145) (tgt := 163) dX9_tried_145 rfl (fun h145 => ?_) (fun h145 => ?_)
            · refine pm_iload (pc := 163) dX9_tried_163 rfl ?_
              refine pm_lload (pc := 165) dX9_tried_165 rfl ?_
              refine pm_l2i (pc := 167) dX9_tried_167 ?_
              refine pm_mmax (pc := 168) wm_X9_234 wt_mmax wz_math wo_mmax ⟨Nat.le_of_ble_eq_true rfl, Nat.le_of_ble_eq_true rfl, Nat.le_of_ble_eq_true rfl, Nat.le_of_ble_eq_true rfl⟩ (Nat.le_of_ble_eq_true rfl) dX9_tried_168 ?_
              refine pm_top (x' := nI (max l c.toInt.toNat)) (pmax_nI (by omega) (by omega) ec) ?_
              refine pm_istore (pc := 171) dX9_tried_171 (by decide) rfl ?_
              refine pm_iinc (pc := 173) dX9_tried_173 rfl (pm_inc1 _) (by decide) rfl ?_
              refine pm_goto (pc := 176) (tgt := 73) dX9_tried_176 rfl ?_
              refine pm_kill 11 ?_
              refine pm_kill 13 ?_
              first | exact l_tried hs hn hj hw hend m (i + 1) _ _ (by omega) (by omega) (by omega) (by rw [← hT, hstep, if_pos hok, if_pos (pm_cmp_eq _ _ |>.mp (Decidable.not_not.mp h145))]) | exact l_tried hs hn hj hw hend m (i + 1) _ _ (by omega) (by omega) (by omega) (by rw [← hT, hstep, if_pos hok, if_pos ((pm_cmp_eq _ _).mp h145)]) | exact l_tried hs hn hj hw hend m (i + 1) _ _ (by omega) (by omega) (by omega) (by rw [← hT, hstep, if_pos hok, if_neg (fun z => h145 ((pm_cmp_eq _ _).mpr z))])
            · refine pm_iload (pc := 148) dX9_tried_148 rfl ?_
              refine pm_lload (pc := 150) dX9_tried_150 rfl ?_
              refine pm_l2i (pc := 152) dX9_tried_152 ?_
              refine pm_iconst (pc := 153) (v := nI 1) dX9_tried_153 (by decide) ?_
              refine pm_isub (pc := 154) dX9_tried_154 ?_
              refine pm_mmin (pc := 155) wm_X9_229 wt_mmin wz_math wo_mmin ⟨Nat.le_of_ble_eq_true rfl, Nat.le_of_ble_eq_true rfl, Nat.le_of_ble_eq_true rfl, Nat.le_of_ble_eq_true rfl⟩ (Nat.le_of_ble_eq_true rfl) dX9_tried_155 ?_
              refine pm_top (x' := nI (min v c.toInt.toNat) - nI 1) (pmin_nI (by omega) (by omega) ec) ?_
              refine pm_istore (pc := 158) dX9_tried_158 (by decide) rfl ?_
              refine pm_goto (pc := 160) (tgt := 173) dX9_tried_160 rfl ?_
              refine pm_iinc (pc := 173) dX9_tried_173 rfl (pm_inc1 _) (by decide) rfl ?_
              refine pm_goto (pc := 176) (tgt := 73) dX9_tried_176 rfl ?_
              refine pm_kill 11 ?_
              refine pm_kill 13 ?_
              first | exact l_tried hs hn hj hw hend m (i + 1) _ _ (by omega) (by omega) (by omega) (by rw [← hT, hstep, if_pos hok, if_pos (pm_cmp_eq _ _ |>.mp (Decidable.not_not.mp h145))]) | exact l_tried hs hn hj hw hend m (i + 1) _ _ (by omega) (by omega) (by omega) (by rw [← hT, hstep, if_pos hok, if_pos ((pm_cmp_eq _ _).mp h145)]) | exact l_tried hs hn hj hw hend m (i + 1) _ _ (by omega) (by omega) (by omega) (by rw [← hT, hstep, if_pos hok, if_neg (fun z => h145 ((pm_cmp_eq _ _).mpr z))])
          · rw [pm_cmp_le, c1] at h135
            refine pm_bipush (pc := 138) (v := (-2)) dX9_tried_138 (by decide) ?_
            refine pm_iret (pc := 140) rfl (Nat.le_refl _) (Nat.le_refl _) dX9_tried_140 ?_
            have e := hT
            rw [hstep, if_neg (fun z => by have z1 := z.1.1; have z2 := z.1.2; have z3 := z.2.1; have z4 := z.2.2; omega)] at e
            subst e
            exact hend
set_option maxRecDepth 100000 in
set_option maxHeartbeats 800000 in
theorem x_triedN {I : pm_I} {L : pm_L} {X : xS} (hR : XR I L X) (hX : xInv X) {q : Int32} {b i n w : Int32} (hq : ¬ iR q 0 3) : PC 2 0 0 yX9_tried cX9_tried 15 (some (.int)) [.ref 0, .int q, .int b, .int i, .int n, .int w] GG I L (XQ I L (sp_tried X q b i n w).1 (sp_tried X q b i n w).2) := by
  have hG := hR.1
  have hI := hX.s
  have h12 := hI.n12
  refine PC.of [some (.ref 0), some (.int q), some (.int b), some (.int i), some (.int n), some (.int w), none, none, none, none, none, none, none, none, none] (by decide) (Nat.le_of_ble_eq_true rfl) rfl (fun l P => ?_)
  refine pm_aload_n (pc := 0) dX9_tried_0 rfl ?_
  refine pm_iload_n (pc := 1) dX9_tried_1 rfl ?_
  refine pm_cVA (pc := 2) dX9_tried_2 (c_sheetAtN hq) wq_X9_sheetAt wm_X9_204 wi_X9_sheetAt ws_X9_sheetAt rfl rfl ⟨Nat.le_of_ble_eq_true rfl, Nat.le_of_ble_eq_true rfl⟩ ⟨Nat.le_of_ble_eq_true rfl, Nat.le_of_ble_eq_true rfl⟩ rfl (Nat.le_of_ble_eq_true rfl) ?_
  refine pm_astoreN (pc := 5) dX9_tried_5 (by decide) rfl ?_
  refine pm_aloadN (pc := 7) dX9_tried_7 rfl ?_
  refine pm_ifnullN (x := 0) (pc := 9) (tgt := 40) dX9_tried_9 rfl ?_
  refine pm_iconst (pc := 40) (v := (-1)) dX9_tried_40 (by decide) ?_
  refine pm_iret (pc := 41) rfl (Nat.le_refl _) (Nat.le_refl _) dX9_tried_41 ?_
  rw [show sp_tried X q b i n w = (-1, X) from if_pos (fun z => hq z.1)]
  exact XQ.r rfl hR xF.rf
set_option maxRecDepth 100000 in
set_option maxHeartbeats 800000 in
theorem x_triedV {I : pm_I} {L : pm_L} {X : xS} (hR : XR I L X) (hX : xInv X) {s : Nat} (hs : s < 4) {b i n w : Int32} : PC 2 0 0 yX9_tried cX9_tried 15 (some (.int)) [.ref 0, .int (nI s), .int b, .int i, .int n, .int w] GG I L (XQ I L (sp_tried X (nI s) b i n w).1 (sp_tried X (nI s) b i n w).2) := by
  have hG := hR.1
  have hI := hX.s
  have h12 := hI.n12
  have hS := (hR.2.2.2 s hs).1
  have ho := hX.2.2.2 s hs
  refine PC.of [some (.ref 0), some (.int (nI s)), some (.int b), some (.int i), some (.int n), some (.int w), none, none, none, none, none, none, none, none, none] (by decide) (Nat.le_of_ble_eq_true rfl) rfl (fun l P => ?_)
  refine pm_aload_n (pc := 0) dX9_tried_0 rfl ?_
  refine pm_iload_n (pc := 1) dX9_tried_1 rfl ?_
  refine pm_cVA (pc := 2) dX9_tried_2 (c_sheetAt hs) wq_X9_sheetAt wm_X9_204 wi_X9_sheetAt ws_X9_sheetAt rfl rfl ⟨Nat.le_of_ble_eq_true rfl, Nat.le_of_ble_eq_true rfl⟩ ⟨Nat.le_of_ble_eq_true rfl, Nat.le_of_ble_eq_true rfl⟩ rfl (Nat.le_of_ble_eq_true rfl) ?_
  refine pm_astore (pc := 5) dX9_tried_5 (by decide) rfl ?_
  refine pm_aload (pc := 7) dX9_tried_7 rfl ?_
  refine pm_ifnull (pc := 9) dX9_tried_9 ?_
  refine pm_iload_n (pc := 12) dX9_tried_12 rfl ?_
  refine pm_cSR (pc := 13) dX9_tried_13 (c_isLane) wq_X9_isLane wm_X9_208 wt_X9_isLane ⟨Nat.le_of_ble_eq_true rfl, Nat.le_of_ble_eq_true rfl⟩ ⟨Nat.le_of_ble_eq_true rfl, Nat.le_of_ble_eq_true rfl⟩ rfl (Nat.le_of_ble_eq_true rfl) ?_
  refine pm_if_eq (pc := 16) (tgt := 40) dX9_tried_16 rfl (fun h16 => ?_) (fun h16 => ?_)
  · refine pm_iconst (pc := 40) (v := (-1)) dX9_tried_40 (by decide) ?_
    refine pm_iret (pc := 41) rfl (Nat.le_refl _) (Nat.le_refl _) dX9_tried_41 ?_
    first | (rw [show sp_tried X (nI s) b i n w = (-1, X) from if_pos (fun z => b1_nf h16 z.2.1)]; exact XQ.r rfl hR xF.rf) | (rw [show sp_tried X (nI s) b i n w = (-1, X) from if_pos (fun z => b1_nf h27 z.2.2.1)]; exact XQ.r rfl hR xF.rf) | (rw [show sp_tried X (nI s) b i n w = (-1, X) from if_pos (fun z => b1_nf h37 z.2.2.2)]; exact XQ.r rfl hR xF.rf)
  · refine pm_iload (pc := 19) dX9_tried_19 rfl ?_
    refine pm_iconst (pc := 21) (v := nI 1) dX9_tried_21 (by decide) ?_
    refine pm_bipush (pc := 22) (v := nI 8) dX9_tried_22 (by decide) ?_
    refine pm_cSR (pc := 24) dX9_tried_24 (c_isIn (a := 1) (b := 8) (by decide) (by decide)) wq_X9_isIn wm_X9_61 wt_X9_isIn ⟨Nat.le_of_ble_eq_true rfl, Nat.le_of_ble_eq_true rfl⟩ ⟨Nat.le_of_ble_eq_true rfl, Nat.le_of_ble_eq_true rfl⟩ rfl (Nat.le_of_ble_eq_true rfl) ?_
    refine pm_if_eq (pc := 27) (tgt := 40) dX9_tried_27 rfl (fun h27 => ?_) (fun h27 => ?_)
    · refine pm_iconst (pc := 40) (v := (-1)) dX9_tried_40 (by decide) ?_
      refine pm_iret (pc := 41) rfl (Nat.le_refl _) (Nat.le_refl _) dX9_tried_41 ?_
      first | (rw [show sp_tried X (nI s) b i n w = (-1, X) from if_pos (fun z => b1_nf h16 z.2.1)]; exact XQ.r rfl hR xF.rf) | (rw [show sp_tried X (nI s) b i n w = (-1, X) from if_pos (fun z => b1_nf h27 z.2.2.1)]; exact XQ.r rfl hR xF.rf) | (rw [show sp_tried X (nI s) b i n w = (-1, X) from if_pos (fun z => b1_nf h37 z.2.2.2)]; exact XQ.r rfl hR xF.rf)
    · refine pm_iload (pc := 30) dX9_tried_30 rfl ?_
      refine pm_iconst (pc := 32) (v := nI 0) dX9_tried_32 (by decide) ?_
      refine pm_iconst (pc := 33) (v := nI 2) dX9_tried_33 (by decide) ?_
      refine pm_cSR (pc := 34) dX9_tried_34 (c_isIn (a := 0) (b := 2) (by decide) (by decide)) wq_X9_isIn wm_X9_61 wt_X9_isIn ⟨Nat.le_of_ble_eq_true rfl, Nat.le_of_ble_eq_true rfl⟩ ⟨Nat.le_of_ble_eq_true rfl, Nat.le_of_ble_eq_true rfl⟩ rfl (Nat.le_of_ble_eq_true rfl) ?_
      refine pm_if_ne (pc := 37) (tgt := 42) dX9_tried_37 rfl (fun h37 => ?_) (fun h37 => ?_)
      · obtain ⟨b, hb, rfl⟩ := la_of (b1_nt h16)
        obtain ⟨n, hn1, hn, rfl⟩ := iR1_of (b := 8) (by decide) (b1_nt h27)
        obtain ⟨w, hw, rfl⟩ := iR_of (x := w) (b := 2) (by decide) (b1_nt h37)
        refine pm_aload (pc := 42) dX9_tried_42 rfl ?_
        refine pm_iload_n (pc := 44) dX9_tried_44 rfl ?_
        refine pm_iload_n (pc := 45) dX9_tried_45 rfl ?_
        refine pm_iconst (pc := 46) (v := nI 2) dX9_tried_46 (by decide) ?_
        refine pm_iload (pc := 47) dX9_tried_47 rfl ?_
        refine pm_imul (pc := 49) dX9_tried_49 ?_
        refine pm_top (pk_mul _ _) ?_
        refine pm_cVR (pc := 50) dX9_tried_50 (c_refusal hs hS ho hb) wq_X5_refusal wm_X9_211 wi_X5_refusal ws_X5_refusal (gg_sheet hs) rfl ⟨Nat.le_of_ble_eq_true rfl, Nat.le_of_ble_eq_true rfl⟩ ⟨Nat.le_of_ble_eq_true rfl, Nat.le_of_ble_eq_true rfl⟩ rfl (Nat.le_of_ble_eq_true rfl) ?_
        refine pm_istore (pc := 53) dX9_tried_53 (by decide) rfl ?_
        refine pm_iload (pc := 55) dX9_tried_55 rfl ?_
        refine pm_if_eq (pc := 57) (tgt := 63) dX9_tried_57 rfl (fun h57 => ?_) (fun h57 => ?_)
        · obtain ⟨e, he, hr⟩ := refuse_0 h57
          have he2 := (ho b e he).2
          obtain ⟨j, hj, rfl⟩ := row_of he2 (by omega) hr
          refine pm_iconst (pc := 63) (v := nI 0) dX9_tried_63 (by decide) ?_
          refine pm_istore (pc := 64) dX9_tried_64 (by decide) rfl ?_
          refine pm_bipush (pc := 66) (v := nI 99) dX9_tried_66 (by decide) ?_
          refine pm_istore (pc := 68) dX9_tried_68 (by decide) rfl ?_
          refine pm_iconst (pc := 70) (v := nI 0) dX9_tried_70 (by decide) ?_
          refine pm_istore (pc := 71) dX9_tried_71 (by decide) rfl ?_
          have k9 := l_tried (I := I) (L := L) (j := j) (w := w) (z2 := nI b) (z7 := refuse (x_s X s) b (nI j) (nI (2 * n))) hs hn (by omega) hw (R0 := t_run (fun k => L (33 + 2 * s) (j + k)) n 0 0 100) (Q := XQ I L (sp_tried X (nI s) (nI b) (nI j) (nI n) (nI w)).1 (sp_tried X (nI s) (nI b) (nI j) (nI n) (nI w)).2) ?_ n 0 0 100 (by omega) (by omega) (by omega) rfl (la := l) (P := P)
          · exact k9
          rw [sp_tried_t hs hb ⟨hn1, hn⟩ hw (by omega) h57]
          exact XQ.r (by rw [t_run_congr n 0 0 100 (fun k hk => (hR.2.2.2 s hs).2 (j + k) (by omega))]) hR xF.rf
        · refine pm_iload (pc := 60) dX9_tried_60 rfl ?_
          refine pm_iret (pc := 62) rfl (Nat.le_refl _) (Nat.le_refl _) dX9_tried_62 ?_
          rw [sp_tried_b hs hb ⟨hn1, hn⟩ hw h57]
          exact XQ.r rfl hR xF.rf
      · refine pm_iconst (pc := 40) (v := (-1)) dX9_tried_40 (by decide) ?_
        refine pm_iret (pc := 41) rfl (Nat.le_refl _) (Nat.le_refl _) dX9_tried_41 ?_
        first | (rw [show sp_tried X (nI s) b i n w = (-1, X) from if_pos (fun z => b1_nf h16 z.2.1)]; exact XQ.r rfl hR xF.rf) | (rw [show sp_tried X (nI s) b i n w = (-1, X) from if_pos (fun z => b1_nf h27 z.2.2.1)]; exact XQ.r rfl hR xF.rf) | (rw [show sp_tried X (nI s) b i n w = (-1, X) from if_pos (fun z => b1_nf h37 z.2.2.2)]; exact XQ.r rfl hR xF.rf)
set_option maxRecDepth 100000 in
theorem x_tried {I : pm_I} {L : pm_L} {X : xS} (hR : XR I L X) (hX : xInv X) {q : Int32} {b i n w : Int32} : PC 2 0 0 yX9_tried cX9_tried 15 (some (.int)) [.ref 0, .int q, .int b, .int i, .int n, .int w] GG I L (XQ I L (sp_tried X q b i n w).1 (sp_tried X q b i n w).2) := by
  by_cases hq : iR q 0 3
  · obtain ⟨s, hs, rfl⟩ := sh_of hq
    exact x_triedV hR hX hs
  · exact x_triedN hR hX hq
