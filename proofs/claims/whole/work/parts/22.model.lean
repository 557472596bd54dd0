/-- g written over f from a base on, i items of it -/
def mset (f : Nat → Int64) (base : Nat) (g : Nat → Int64) (i : Nat) : Nat → Int64 := fun x => if base ≤ x ∧ x < base + i then g (x - base) else f x
theorem mset_0 (f : Nat → Int64) (base : Nat) (g : Nat → Int64) : mset f base g 0 = f := by
  funext x; unfold mset; rw [if_neg (by omega)]
theorem mset_s {f g : Nat → Int64} {base i : Nat} {v : Int64} (h : v = g i) : vp_updL (mset f base g i) (base + i) v = mset f base g (i + 1) := by
  subst h
  funext x
  unfold vp_updL mset
  by_cases e : x = base + i
  · subst e; rw [if_pos rfl, if_pos (by omega), show base + i - base = i by omega]
  · rw [if_neg e]
    by_cases e2 : base ≤ x ∧ x < base + i
    · rw [if_pos e2, if_pos (by omega)]
    · rw [if_neg e2, if_neg (by omega)]
theorem mset_in {f g : Nat → Int64} {base i k : Nat} (h : k < i) : mset f base g i (base + k) = g k := by
  unfold mset; rw [if_pos (by omega), show base + k - base = k by omega]
theorem mset_out {f g : Nat → Int64} {base i x : Nat} (h : x < base ∨ base + i ≤ x) : mset f base g i x = f x := by
  unfold mset; rw [if_neg (by omega)]
theorem r_film_eq {s : gS} {b i : Nat} {f : Nat → Int64} : ∀ m k, r_film s b i f m k = if i ≤ k ∧ k < i + m then low b (nI (g_load s (k - i))).toInt64 else f k
  | 0, k => by rw [if_neg (by omega)]; rfl
  | m + 1, k => by
    show (if k = i + m then low b (nI (g_load s m)).toInt64 else r_film s b i f m k) = _
    by_cases e : k = i + m
    · subst e; rw [if_pos rfl, if_pos (by omega), show i + m - i = m by omega]
    · rw [if_neg e, r_film_eq m k]
      by_cases e2 : i ≤ k ∧ k < i + m
      · rw [if_pos e2, if_pos (by omega)]
      · rw [if_neg e2, if_neg (by omega)]
theorem MR.sh {I I' : pm_I} {L L' : pm_L} {X : xS} {q : Nat} {o : Option (Nat × Nat)} {f : Nat → Int64} (h : MR I L X) (hq : q < 4) (hI : ∀ a : Nat, a ≠ 61 → a ≠ 62 → I' a = I a) (h1 : ∀ p : Nat, p ≠ q → I' 61 p = I 61 p ∧ I' 62 p = I 62 p) (hS : MS I' q o) (hL : ∀ a : Nat, a ≠ 63 → a ≠ 64 → L' a = L a) (hL2 : ∀ p : Nat, p ≠ q → ∀ k, k < 24 → L' 63 (24 * p + k) = L 63 (24 * p + k)) (hf : ∀ k, k < 24 → L' 63 (24 * q + k) = f k) : MR I' L' (xu X q o f) ∧ yF I I' L L' := by
  refine ⟨⟨?_, ?_, ?_, fun p hp => ⟨?_, fun k hk => ?_⟩⟩, fun a ha => ⟨hI a (by omega) (by omega), hL a (by omega) (by omega)⟩⟩
  · have h0 := h.1
    show MG I' (x_g X)
    unfold MG at h0 ⊢
    rw [hI 40 (by decide) (by decide), hI 41 (by decide) (by decide), hI 42 (by decide) (by decide), hI 43 (by decide) (by decide), hI 44 (by decide) (by decide), hI 45 (by decide) (by decide), hI 46 (by decide) (by decide), hI 47 (by decide) (by decide)]
    exact h0
  · have h1 := h.2.1
    show MO I' (x_i X)
    unfold MO at h1 ⊢
    split
    · rename_i hz; rw [hz] at h1; rw [hI 40 (by decide) (by decide)]; exact h1
    · rename_i s' hz
      rw [hz] at h1
      refine ⟨by rw [hI 40 (by decide) (by decide)]; exact h1.1, ?_⟩
      have h2 := h1.2
      unfold MI at h2 ⊢
      rw [hI 40 (by decide) (by decide), hI 60 (by decide) (by decide)]
      exact h2
  · have h1 := h.2.2.1
    show MT_ I' (x_t X)
    unfold MT_ at h1 ⊢
    rw [hI 40 (by decide) (by decide), hI 48 (by decide) (by decide)]; exact h1
  · show MS I' p (if p = q then o else x_s X p)
    by_cases e : p = q
    · subst e; rw [if_pos rfl]; exact hS
    · rw [if_neg e]
      have h2 := (h.2.2.2 p hp).1
      unfold MS at h2 ⊢
      rw [(h1 p e).1, (h1 p e).2]; exact h2
  · show L' 63 (24 * p + k) = (if p = q then f else x_r X p) k
    by_cases e : p = q
    · subst e; rw [if_pos rfl]; exact hf k hk
    · rw [if_neg e, hL2 p e k hk]; exact (h.2.2.2 p hp).2 k hk
theorem MR.l {I : pm_I} {L L' : pm_L} {X : xS} {q : Nat} {f : Nat → Int64} (h : MR I L X) (hq : q < 4) (hL : ∀ a : Nat, a ≠ 63 → a ≠ 64 → L' a = L a) (hL2 : ∀ p : Nat, p ≠ q → ∀ k, k < 24 → L' 63 (24 * p + k) = L 63 (24 * p + k)) (hf : ∀ k, k < 24 → L' 63 (24 * q + k) = f k) : MR I L' (xu X q (x_s X q) f) ∧ yF I I L L' := h.sh hq (fun _ _ _ => rfl) (fun _ _ => ⟨rfl, rfl⟩) (h.2.2.2 q hq).1 hL hL2 hf
set_option maxRecDepth 100000 in
set_option maxHeartbeats 1000000 in
theorem c_mIsSheet {I : pm_I} {L : pm_L} {x : Int32} : PC 1 0 0 yX10_isSheet cX10_isSheet 1 (some (.boolean)) [.int x] GG I L (QR GG I L (b1 (iR x 0 3))) := by
  refine PC.of [some (.int x)] (by decide) (Nat.le_of_ble_eq_true rfl) rfl (fun l P => ?_)
  refine pm_iload_n (pc := 0) dX10_isSheet_0 rfl ?_
  refine pm_i2l (pc := 1) dX10_isSheet_1 ?_
  refine pm_lconst (pc := 2) (v := 0) dX10_isSheet_2 (by decide) ?_
  refine pm_ldc2 (pc := 3) wk_X10_104 dX10_isSheet_3 ?_
  refine pm_cSR (pc := 6) dX10_isSheet_6 (c_mInI (a := 0) (b := 3) (by decide) (by decide)) wq_X10_in wm_X10_87 wt_X10_in ⟨Nat.le_of_ble_eq_true rfl, Nat.le_of_ble_eq_true rfl⟩ ⟨Nat.le_of_ble_eq_true rfl, Nat.le_of_ble_eq_true rfl⟩ rfl (Nat.le_of_ble_eq_true rfl) ?_
  refine pm_zret (pc := 9) b1_z rfl (Nat.le_refl _) (Nat.le_refl _) dX10_isSheet_9 ?_
  exact QR.r rfl
set_option maxRecDepth 100000 in
set_option maxHeartbeats 1000000 in
theorem c_mLow0 {I : pm_I} {L : pm_L} {v : Int64} : PC 0 0 0 yX10_low cX10_low 3 (some (.long)) [.int (nI 0), .long v] GG I L (QL GG I L (low 0 v)) := by
  refine PC.of [some (.int (nI 0)), some (.long v), none] (by decide) (Nat.le_of_ble_eq_true rfl) rfl (fun l P => ?_)
  refine pm_iload_n (pc := 0) dX10_low_0 rfl ?_
  refine pm_if_ne (pc := 1) (tgt := 11) dX10_low_1 rfl (fun h1 => absurd (show nI 0 = 0 by decide) h1) (fun h1 => ?_)
  refine pm_lload_n (pc := 4) dX10_low_4 rfl ?_
  refine pm_l2i (pc := 5) dX10_low_5 ?_
  refine pm_i2b (pc := 6) dX10_low_6 ?_
  refine pm_i2l (pc := 7) dX10_low_7 ?_
  refine pm_goto (pc := 8) (tgt := 23) dX10_low_8 rfl ?_
  refine pm_lret (pc := 23) rfl (Nat.le_refl _) (Nat.le_refl _) dX10_low_23 ?_
  exact QL.r rfl
set_option maxRecDepth 100000 in
set_option maxHeartbeats 1000000 in
theorem c_mLow1 {I : pm_I} {L : pm_L} {v : Int64} : PC 0 0 0 yX10_low cX10_low 3 (some (.long)) [.int (nI 1), .long v] GG I L (QL GG I L (low 1 v)) := by
  refine PC.of [some (.int (nI 1)), some (.long v), none] (by decide) (Nat.le_of_ble_eq_true rfl) rfl (fun l P => ?_)
  refine pm_iload_n (pc := 0) dX10_low_0 rfl ?_
  refine pm_if_ne (pc := 1) (tgt := 11) dX10_low_1 rfl (fun h1 => ?_) (fun h1 => absurd h1 (show ¬ nI 1 = 0 by decide))
  refine pm_iload_n (pc := 11) dX10_low_11 rfl ?_
  refine pm_iconst (pc := 12) (v := nI 1) dX10_low_12 (by decide) ?_
  refine pm_icmp_ne (pc := 13) (tgt := 22) dX10_low_13 rfl (fun h13 => absurd (show nI 1 = nI 1 from rfl) h13) (fun h13 => ?_)
  refine pm_lload_n (pc := 16) dX10_low_16 rfl ?_
  refine pm_l2i (pc := 17) dX10_low_17 ?_
  refine pm_i2l (pc := 18) dX10_low_18 ?_
  refine pm_goto (pc := 19) (tgt := 23) dX10_low_19 rfl ?_
  refine pm_lret (pc := 23) rfl (Nat.le_refl _) (Nat.le_refl _) dX10_low_23 ?_
  exact QL.r rfl
set_option maxRecDepth 100000 in
set_option maxHeartbeats 1000000 in
theorem c_mLow2 {I : pm_I} {L : pm_L} {v : Int64} : PC 0 0 0 yX10_low cX10_low 3 (some (.long)) [.int (nI 2), .long v] GG I L (QL GG I L (low 2 v)) := by
  refine PC.of [some (.int (nI 2)), some (.long v), none] (by decide) (Nat.le_of_ble_eq_true rfl) rfl (fun l P => ?_)
  refine pm_iload_n (pc := 0) dX10_low_0 rfl ?_
  refine pm_if_ne (pc := 1) (tgt := 11) dX10_low_1 rfl (fun h1 => ?_) (fun h1 => absurd h1 (show ¬ nI 2 = 0 by decide))
  refine pm_iload_n (pc := 11) dX10_low_11 rfl ?_
  refine pm_iconst (pc := 12) (v := nI 1) dX10_low_12 (by decide) ?_
  refine pm_icmp_ne (pc := 13) (tgt := 22) dX10_low_13 rfl (fun h13 => ?_) (fun h13 => absurd h13 (show ¬ nI 2 = nI 1 by decide))
  refine pm_lload_n (pc := 22) dX10_low_22 rfl ?_
  refine pm_lret (pc := 23) rfl (Nat.le_refl _) (Nat.le_refl _) dX10_low_23 ?_
  exact QL.r rfl
theorem c_mLow {I : pm_I} {L : pm_L} {b : Nat} {v : Int64} (h3 : b < 3) : PC 0 0 0 yX10_low cX10_low 3 (some (.long)) [.int (nI b), .long v] GG I L (QL GG I L (low b v)) := by
  rcases (show b = 0 ∨ b = 1 ∨ b = 2 by omega) with rfl | rfl | rfl
  · exact c_mLow0
  · exact c_mLow1
  · exact c_mLow2
set_option maxRecDepth 100000 in
set_option maxHeartbeats 1000000 in
theorem c_mAgN {I : pm_I} {L : pm_L} {s b : Nat} {i n : Int32} (hs : s < 4) (hS : MS I s none) : PC 0 0 0 yX10_against cX10_against 5 (some (.int)) [.ref 40, .int (nI s), .int (nI b), .int i, .int n] GG I L (QR GG I L (-11)) := by
  refine PC.of [some (.ref 40), some (.int (nI s)), some (.int (nI b)), some (.int i), some (.int n)] (by decide) (Nat.le_of_ble_eq_true rfl) rfl (fun l P => ?_)
  refine pm_aload_n (pc := 0) dX10_against_0 rfl ?_
  refine pm_getr (pc := 1) (ci := 8) (C0 := RX10) (T := TX10) (N := 34) (j := 30) rfl rfl in_X10 (by decide) wf_X10_70 rfl dX10_against_1 ?_
  refine pm_iload_n (pc := 4) dX10_against_4 rfl ?_
  refine pm_iald (pc := 5) rfl (by omega) (by decide) dX10_against_5 ?_
  refine pm_if_ge (pc := 6) (tgt := 12) dX10_against_6 rfl (fun h6 => absurd h6 (by rw [show I 61 s = -1 from hS]; decide)) (fun h6 => ?_)
  refine pm_bipush (pc := 9) (v := (-11)) dX10_against_9 (by decide) ?_
  refine pm_iret (pc := 11) rfl (Nat.le_refl _) (Nat.le_refl _) dX10_against_11 ?_
  exact QR.r rfl
set_option maxRecDepth 100000 in
set_option maxHeartbeats 1000000 in
theorem c_mAgS {I : pm_I} {L : pm_L} {s b : Nat} {i n : Int32} {e : Nat × Nat} (hs : s < 4) (hS : MS I s (some e)) (he : e.1 ≤ 2 ∧ e.2 ≤ 24) (hb : b < 3) (hn : 0 ≤ n.toInt) : PC 0 0 0 yX10_against cX10_against 5 (some (.int)) [.ref 40, .int (nI s), .int (nI b), .int i, .int n] GG I L (QR GG I L (refuse (some e) b i n)) := by
  have hS1 : I 61 s = nI e.1 := hS.1
  have hS2 : I 62 s = nI e.2 := hS.2
  have heq : nI e.1 = nI b ↔ e.1 = b := nI_eq (by omega) (by omega)
  have t := nI_toInt (n := e.2) (by omega)
  have mx : Int32.maxValue.toInt = 2147483647 := by decide
  have tn := Int32.toInt_le n
  refine PC.of [some (.ref 40), some (.int (nI s)), some (.int (nI b)), some (.int i), some (.int n)] (by decide) (Nat.le_of_ble_eq_true rfl) rfl (fun l P => ?_)
  refine pm_aload_n (pc := 0) dX10_against_0 rfl ?_
  refine pm_getr (pc := 1) (ci := 8) (C0 := RX10) (T := TX10) (N := 34) (j := 30) rfl rfl in_X10 (by decide) wf_X10_70 rfl dX10_against_1 ?_
  refine pm_iload_n (pc := 4) dX10_against_4 rfl ?_
  refine pm_iald (pc := 5) rfl (by omega) (by decide) dX10_against_5 ?_
  refine pm_if_ge (pc := 6) (tgt := 12) dX10_against_6 rfl (fun h6 => ?_) (fun h6 => absurd h6 (by rw [hS1, pm_leI, pm_t0, nI_toInt (by omega)]; omega))
  refine pm_aload_n (pc := 12) dX10_against_12 rfl ?_
  refine pm_getr (pc := 13) (ci := 8) (C0 := RX10) (T := TX10) (N := 34) (j := 30) rfl rfl in_X10 (by decide) wf_X10_70 rfl dX10_against_13 ?_
  refine pm_iload_n (pc := 16) dX10_against_16 rfl ?_
  refine pm_iald (pc := 17) rfl (by omega) (by decide) dX10_against_17 ?_
  refine pm_iload_n (pc := 18) dX10_against_18 rfl ?_
  refine pm_icmp_eq (pc := 19) (tgt := 25) dX10_against_19 rfl (fun h19 => ?_) (fun h19 => ?_)
  · refine pm_iload_n (pc := 25) dX10_against_25 rfl ?_
    refine pm_if_lt (pc := 26) (tgt := 42) dX10_against_26 rfl (fun h26 => ?_) (fun h26 => ?_)
    · refine pm_bipush (pc := 42) (v := (-13)) dX10_against_42 (by decide) ?_
      refine pm_goto (pc := 44) (tgt := 48) dX10_against_44 rfl ?_
      refine pm_iret (pc := 48) rfl (Nat.le_refl _) (Nat.le_refl _) dX10_against_48 ?_
      refine QR.r (by
        show _ = (if ¬ e.1 = b then (-12 : Int32) else if inRow e.2 i n then 0 else -13)
        rw [if_neg (not_not_intro (heq.mp (by rw [← hS1]; exact h19)))]
        simp only [pm_ltI, pm_leI, pm_t0] at *
        first
          | exact (if_neg (fun z => by have := z.2.1; omega)).symm
          | exact (if_neg (fun z => by have z3 := z.2.2; rw [hS2, fb_subI (by omega) (by omega)] at h39; omega)).symm
          | exact (if_pos ⟨hn, by omega, by rw [hS2, fb_subI (by omega) (by omega)] at h39; omega⟩).symm)
    · refine pm_iload_n (pc := 29) dX10_against_29 rfl ?_
      refine pm_aload_n (pc := 30) dX10_against_30 rfl ?_
      refine pm_getr (pc := 31) (ci := 8) (C0 := RX10) (T := TX10) (N := 34) (j := 31) rfl rfl in_X10 (by decide) wf_X10_73 rfl dX10_against_31 ?_
      refine pm_iload_n (pc := 34) dX10_against_34 rfl ?_
      refine pm_iald (pc := 35) rfl (by omega) (by decide) dX10_against_35 ?_
      refine pm_iload (pc := 36) dX10_against_36 rfl ?_
      refine pm_isub (pc := 38) dX10_against_38 ?_
      refine pm_icmp_le (pc := 39) (tgt := 47) dX10_against_39 rfl (fun h39 => ?_) (fun h39 => ?_)
      · refine pm_iconst (pc := 47) (v := nI 0) dX10_against_47 (by decide) ?_
        refine pm_iret (pc := 48) rfl (Nat.le_refl _) (Nat.le_refl _) dX10_against_48 ?_
        refine QR.r (by
          show _ = (if ¬ e.1 = b then (-12 : Int32) else if inRow e.2 i n then 0 else -13)
          rw [if_neg (not_not_intro (heq.mp (by rw [← hS1]; exact h19)))]
          simp only [pm_ltI, pm_leI, pm_t0] at *
          first
            | exact (if_neg (fun z => by have := z.2.1; omega)).symm
            | exact (if_neg (fun z => by have z3 := z.2.2; rw [hS2, fb_subI (by omega) (by omega)] at h39; omega)).symm
            | exact (if_pos ⟨hn, by omega, by rw [hS2, fb_subI (by omega) (by omega)] at h39; omega⟩).symm)
      · refine pm_bipush (pc := 42) (v := (-13)) dX10_against_42 (by decide) ?_
        refine pm_goto (pc := 44) (tgt := 48) dX10_against_44 rfl ?_
        refine pm_iret (pc := 48) rfl (Nat.le_refl _) (Nat.le_refl _) dX10_against_48 ?_
        refine QR.r (by
          show _ = (if ¬ e.1 = b then (-12 : Int32) else if inRow e.2 i n then 0 else -13)
          rw [if_neg (not_not_intro (heq.mp (by rw [← hS1]; exact h19)))]
          simp only [pm_ltI, pm_leI, pm_t0] at *
          first
            | exact (if_neg (fun z => by have := z.2.1; omega)).symm
            | exact (if_neg (fun z => by have z3 := z.2.2; rw [hS2, fb_subI (by omega) (by omega)] at h39; omega)).symm
            | exact (if_pos ⟨hn, by omega, by rw [hS2, fb_subI (by omega) (by omega)] at h39; omega⟩).symm)
  · refine pm_bipush (pc := 22) (v := (-12)) dX10_against_22 (by decide) ?_
    refine pm_iret (pc := 24) rfl (Nat.le_refl _) (Nat.le_refl _) dX10_against_24 ?_
    exact QR.r (by unfold refuse; exact (if_pos (fun z => h19 (by rw [hS1]; exact heq.mpr z))).symm)
theorem c_mAg {I : pm_I} {L : pm_L} {s b : Nat} {i n : Int32} {o : Option (Nat × Nat)} (hs : s < 4) (hS : MS I s o) (ho : ∀ a b, o = some (a, b) → a ≤ 2 ∧ b ≤ 24) (hb : b < 3) (hn : 0 ≤ n.toInt) : PC 0 0 0 yX10_against cX10_against 5 (some (.int)) [.ref 40, .int (nI s), .int (nI b), .int i, .int n] GG I L (QR GG I L (refuse o b i n)) := by
  cases o with
  | none => exact c_mAgN hs hS
  | some e => exact c_mAgS hs hS (ho e.1 e.2 rfl) hb hn
set_option maxRecDepth 100000 in
set_option maxHeartbeats 1000000 in
theorem l_ysheet {I : pm_I} {L : pm_L} {s : Nat} {z2 z3 : Int32} (hs : s < 4) {Q : pm_QT} (hend : Q (some (.int z3)) GG I (pm_u L 63 (mset (L 63) (24 * s) (fun _ => 0) 24))) {l : Launch} {P : pm_E} : ∀ (m i : Nat), i + m = 24 → PW l P yX10_sheet cX10_sheet 5 (some (.int)) (pm_rm 2 0 0) (pm_Tg P Q 0 0) 0 0 51 [some (.ref 40), some (.int (nI s)), some (.int z2), some (.int z3), some (.int (nI i))] [] GG I (pm_u L 63 (mset (L 63) (24 * s) (fun _ => 0) i))
  | 0, i, hm => by
    have e : i = 24 := by omega
    subst e
    refine pm_iload (pc := 51) dX10_sheet_51 rfl ?_
    refine pm_bipush (pc := 53) (v := nI 24) dX10_sheet_53 (by decide) ?_
    refine pm_icmp_ge (pc := 55) (tgt := 77) dX10_sheet_55 rfl (fun h55 => ?_) (fun h55 => (by simp (disch := omega) only [pm_eqI, pm_ltI, pm_leI, nI_toInt, pm_t0, pm_t1, pm_tm1] at h55; omega))
    refine pm_iload_n (pc := 77) dX10_sheet_77 rfl ?_
    refine pm_iret (pc := 78) rfl (Nat.le_refl _) (Nat.le_refl _) dX10_sheet_78 ?_
    exact hend
  | m + 1, i, hm => by
    refine pm_iload (pc := 51) dX10_sheet_51 rfl ?_
    refine pm_bipush (pc := 53) (v := nI 24) dX10_sheet_53 (by decide) ?_
    refine pm_icmp_ge (pc := 55) (tgt := 77) dX10_sheet_55 rfl (fun h55 => (by simp (disch := omega) only [pm_eqI, pm_ltI, pm_leI, nI_toInt, pm_t0, pm_t1, pm_tm1] at h55; omega)) (fun h55 => ?_)
    refine pm_aload_n (pc := 58) dX10_sheet_58 rfl ?_
    refine pm_getr (pc := 59) (ci := 8) (C0 := RX10) (T := TX10) (N := 34) (j := 32) rfl rfl in_X10 (by decide) wf_X10_76 rfl dX10_sheet_59 ?_
    refine pm_bipush (pc := 62) (v := nI 24) dX10_sheet_62 (by decide) ?_
    refine pm_iload_n (pc := 64) dX10_sheet_64 rfl ?_
    refine pm_imul (pc := 65) dX10_sheet_65 ?_
    refine pm_iload (pc := 66) dX10_sheet_66 rfl ?_
    refine pm_iadd (pc := 68) dX10_sheet_68 ?_
    refine pm_top (x' := nI (24 * s + i)) (by rw [pk_mul, nI_add]) ?_
    refine pm_lconst (pc := 69) (v := 0) dX10_sheet_69 (by decide) ?_
    refine pm_last (pc := 70) rfl (by omega) (by decide) dX10_sheet_70 ?_
    refine pm_iinc (pc := 71) dX10_sheet_71 rfl (pm_inc1 _) (by decide) rfl ?_
    refine pm_goto (pc := 74) (tgt := 51) dX10_sheet_74 rfl ?_
    have k9 := l_ysheet (I := I) (L := L) (z2 := z2) hs hend m (i + 1) (by omega) (l := l) (P := P)
    refine pm_eq rfl rfl rfl rfl ?_ k9
    rw [pm_us, pm_u2, mset_s rfl]
set_option maxRecDepth 100000 in
set_option maxHeartbeats 1000000 in
theorem y_sheet {I : pm_I} {L : pm_L} {X : xS} (hR : MR I L X) (hX : xInv X) {q b n : Int32} : PC 2 0 0 yX10_sheet cX10_sheet 5 (some (.int)) [.ref 40, .int q, .int b, .int n] GG I L (YQ I L (sp_sheet X q b n).1 (sp_sheet X q b n).2) := by
  have hG := hR.1
  have hI := hX.s
  have h12 := hI.n12
  refine PC.of [some (.ref 40), some (.int q), some (.int b), some (.int n), none] (by decide) (Nat.le_of_ble_eq_true rfl) rfl (fun l P => ?_)
  refine pm_iload_n (pc := 0) dX10_sheet_0 rfl ?_
  refine pm_cSR (pc := 1) dX10_sheet_1 (c_mIsSheet) wq_X10_isSheet wm_X10_277 wt_X10_isSheet ⟨Nat.le_of_ble_eq_true rfl, Nat.le_of_ble_eq_true rfl⟩ ⟨Nat.le_of_ble_eq_true rfl, Nat.le_of_ble_eq_true rfl⟩ rfl (Nat.le_of_ble_eq_true rfl) ?_
  refine pm_if_eq (pc := 4) (tgt := 25) dX10_sheet_4 rfl (fun h4 => ?_) (fun h4 => ?_)
  · refine pm_iconst (pc := 25) (v := (-1)) dX10_sheet_25 (by decide) ?_
    refine pm_iret (pc := 26) rfl (Nat.le_refl _) (Nat.le_refl _) dX10_sheet_26 ?_
    first | (rw [show sp_sheet X q b n = (-1, X) from if_pos (fun z => b1_nf h4 z.1)]; exact YQ.r rfl hR yF.rf) | (rw [show sp_sheet X (nI s) b n = (-1, X) from if_pos (fun z => b1_nf h16 z.2.1)]; exact YQ.r rfl hR yF.rf) | (rw [show sp_sheet X (nI s) b n = (-1, X) from if_pos (fun z => by have := z.2.2; simp (disch := omega) only [pm_ltI, pm_leI, nI_toInt] at h22; omega)]; exact YQ.r rfl hR yF.rf)
  · obtain ⟨s, hs, rfl⟩ := sh_of (b1_nt h4)
    refine pm_iload_n (pc := 7) dX10_sheet_7 rfl ?_
    refine pm_i2l (pc := 8) dX10_sheet_8 ?_
    refine pm_lconst (pc := 9) (v := 0) dX10_sheet_9 (by decide) ?_
    refine pm_ldc2 (pc := 10) wk_X10_246 dX10_sheet_10 ?_
    refine pm_cSR (pc := 13) dX10_sheet_13 (c_mInI (a := 0) (b := 2) (by decide) (by decide)) wq_X10_in wm_X10_87 wt_X10_in ⟨Nat.le_of_ble_eq_true rfl, Nat.le_of_ble_eq_true rfl⟩ ⟨Nat.le_of_ble_eq_true rfl, Nat.le_of_ble_eq_true rfl⟩ rfl (Nat.le_of_ble_eq_true rfl) ?_
    refine pm_if_eq (pc := 16) (tgt := 25) dX10_sheet_16 rfl (fun h16 => ?_) (fun h16 => ?_)
    · refine pm_iconst (pc := 25) (v := (-1)) dX10_sheet_25 (by decide) ?_
      refine pm_iret (pc := 26) rfl (Nat.le_refl _) (Nat.le_refl _) dX10_sheet_26 ?_
      first | (rw [show sp_sheet X q b n = (-1, X) from if_pos (fun z => b1_nf h4 z.1)]; exact YQ.r rfl hR yF.rf) | (rw [show sp_sheet X (nI s) b n = (-1, X) from if_pos (fun z => b1_nf h16 z.2.1)]; exact YQ.r rfl hR yF.rf) | (rw [show sp_sheet X (nI s) b n = (-1, X) from if_pos (fun z => by have := z.2.2; simp (disch := omega) only [pm_ltI, pm_leI, nI_toInt] at h22; omega)]; exact YQ.r rfl hR yF.rf)
    · refine pm_iload_n (pc := 19) dX10_sheet_19 rfl ?_
      refine pm_bipush (pc := 20) (v := nI 24) dX10_sheet_20 (by decide) ?_
      refine pm_icmp_le (pc := 22) (tgt := 27) dX10_sheet_22 rfl (fun h22 => ?_) (fun h22 => ?_)
      · refine pm_iload_n (pc := 27) dX10_sheet_27 rfl ?_
        refine pm_if_ge (pc := 28) (tgt := 34) dX10_sheet_28 rfl (fun h28 => ?_) (fun h28 => ?_)
        · obtain ⟨b, hb, rfl⟩ := la_of (b1_nt h16)
          obtain ⟨m, hm, rfl⟩ := iR_of (x := n) (b := 24) (by decide) ⟨by simp only [pm_ltI, pm_leI, pm_t0] at h28; omega, by simp (disch := omega) only [pm_ltI, pm_leI, nI_toInt] at h22; omega⟩
          refine pm_aload_n (pc := 34) dX10_sheet_34 rfl ?_
          refine pm_getr (pc := 35) (ci := 8) (C0 := RX10) (T := TX10) (N := 34) (j := 30) rfl rfl in_X10 (by decide) wf_X10_70 rfl dX10_sheet_35 ?_
          refine pm_iload_n (pc := 38) dX10_sheet_38 rfl ?_
          refine pm_iload_n (pc := 39) dX10_sheet_39 rfl ?_
          refine pm_iast (pc := 40) rfl (by omega) (by decide) dX10_sheet_40 ?_
          refine pm_aload_n (pc := 41) dX10_sheet_41 rfl ?_
          refine pm_getr (pc := 42) (ci := 8) (C0 := RX10) (T := TX10) (N := 34) (j := 31) rfl rfl in_X10 (by decide) wf_X10_73 rfl dX10_sheet_42 ?_
          refine pm_iload_n (pc := 45) dX10_sheet_45 rfl ?_
          refine pm_iload_n (pc := 46) dX10_sheet_46 rfl ?_
          refine pm_iast (pc := 47) rfl (by omega) (by decide) dX10_sheet_47 ?_
          refine pm_iconst (pc := 48) (v := nI 0) dX10_sheet_48 (by decide) ?_
          refine pm_istore (pc := 49) dX10_sheet_49 (by decide) rfl ?_
          have k9 := l_ysheet (I := pm_u (pm_u I 61 (upd (I 61) s (nI b))) 62 (upd (I 62) s (nI m))) (L := L) (z2 := nI b) (z3 := nI m) hs (Q := YQ I L (sp_sheet X (nI s) (nI b) (nI m)).1 (sp_sheet X (nI s) (nI b) (nI m)).2) ?_ 24 0 (by omega) (l := l) (P := P)
          · refine pm_eq rfl rfl rfl rfl ?_ k9
            rw [mset_0, pm_uu]
          rw [sp_sheet_t hs hb hm]
          have k := hR.sh hs (I' := pm_u (pm_u I 61 (upd (I 61) s (nI b))) 62 (upd (I 62) s (nI m))) (L' := pm_u L 63 (mset (L 63) (24 * s) (fun _ => 0) 24)) (f := fun _ => 0) (o := some (b, m)) (fun a h1 h2 => (pm_un h2).trans (pm_un h1)) (fun p hp => ⟨by rw [pm_un (by decide), pm_us, pk_un hp], by rw [pm_us, pk_un hp]⟩) ⟨by rw [pm_un (by decide), pm_us, pk_us], by rw [pm_us, pk_us]⟩ (fun a h1 h2 => pm_un h1) (fun p hp k hk => by rw [pm_us, mset_out (by omega)]) (fun k hk => by rw [pm_us, mset_in hk])
          exact YQ.r rfl k.1 k.2
        · refine pm_bipush (pc := 31) (v := (-14)) dX10_sheet_31 (by decide) ?_
          refine pm_iret (pc := 33) rfl (Nat.le_refl _) (Nat.le_refl _) dX10_sheet_33 ?_
          rw [show sp_sheet X (nI s) b n = (-14, X) from (if_neg (not_not_intro ⟨sh_nI hs, b1_nt h16, by simp (disch := omega) only [pm_ltI, pm_leI, nI_toInt] at h22; omega⟩)).trans (if_pos (by simp only [pm_ltI, pm_leI, pm_t0] at h28; omega))]
          exact YQ.r rfl hR yF.rf
      · refine pm_iconst (pc := 25) (v := (-1)) dX10_sheet_25 (by decide) ?_
        refine pm_iret (pc := 26) rfl (Nat.le_refl _) (Nat.le_refl _) dX10_sheet_26 ?_
        first | (rw [show sp_sheet X q b n = (-1, X) from if_pos (fun z => b1_nf h4 z.1)]; exact YQ.r rfl hR yF.rf) | (rw [show sp_sheet X (nI s) b n = (-1, X) from if_pos (fun z => b1_nf h16 z.2.1)]; exact YQ.r rfl hR yF.rf) | (rw [show sp_sheet X (nI s) b n = (-1, X) from if_pos (fun z => by have := z.2.2; simp (disch := omega) only [pm_ltI, pm_leI, nI_toInt] at h22; omega)]; exact YQ.r rfl hR yF.rf)
set_option maxRecDepth 100000 in
set_option maxHeartbeats 1000000 in
theorem y_dropB {I : pm_I} {L : pm_L} {X : xS} (hR : MR I L X) (hX : xInv X) {q : Int32} (hq : ¬ iR q 0 3) : PC 2 0 0 yX10_drop cX10_drop 2 (some (.int)) [.ref 40, .int q] GG I L (YQ I L (sp_drop X q).1 (sp_drop X q).2) := by
  refine PC.of [some (.ref 40), some (.int q)] (by decide) (Nat.le_of_ble_eq_true rfl) rfl (fun l P => ?_)
  refine pm_iload_n (pc := 0) dX10_drop_0 rfl ?_
  refine pm_cSR (pc := 1) dX10_drop_1 (c_mIsSheet) wq_X10_isSheet wm_X10_277 wt_X10_isSheet ⟨Nat.le_of_ble_eq_true rfl, Nat.le_of_ble_eq_true rfl⟩ ⟨Nat.le_of_ble_eq_true rfl, Nat.le_of_ble_eq_true rfl⟩ rfl (Nat.le_of_ble_eq_true rfl) ?_
  refine pm_if_ne (pc := 4) (tgt := 9) dX10_drop_4 rfl (fun h4 => absurd (b1_nt h4) hq) (fun h4 => ?_)
  refine pm_iconst (pc := 7) (v := (-1)) dX10_drop_7 (by decide) ?_
  refine pm_iret (pc := 8) rfl (Nat.le_refl _) (Nat.le_refl _) dX10_drop_8 ?_
  rw [show sp_drop X q = (-1, X) from if_pos hq]
  exact YQ.r rfl hR yF.rf
set_option maxRecDepth 100000 in
set_option maxHeartbeats 1000000 in
theorem y_dropN {I : pm_I} {L : pm_L} {X : xS} (hR : MR I L X) (hX : xInv X) {s : Nat} (hs : s < 4) (he : x_s X s = none) : PC 2 0 0 yX10_drop cX10_drop 2 (some (.int)) [.ref 40, .int (nI s)] GG I L (YQ I L (sp_drop X (nI s)).1 (sp_drop X (nI s)).2) := by
  have hG := hR.1
  have hI := hX.s
  have h12 := hI.n12
  have hS := (hR.2.2.2 s hs).1
  have ho := hX.2.2.2 s hs
  rw [he] at hS
  refine PC.of [some (.ref 40), some (.int (nI s))] (by decide) (Nat.le_of_ble_eq_true rfl) rfl (fun l P => ?_)
  refine pm_iload_n (pc := 0) dX10_drop_0 rfl ?_
  refine pm_cSR (pc := 1) dX10_drop_1 (c_mIsSheet) wq_X10_isSheet wm_X10_277 wt_X10_isSheet ⟨Nat.le_of_ble_eq_true rfl, Nat.le_of_ble_eq_true rfl⟩ ⟨Nat.le_of_ble_eq_true rfl, Nat.le_of_ble_eq_true rfl⟩ rfl (Nat.le_of_ble_eq_true rfl) ?_
  refine pm_if_ne (pc := 4) (tgt := 9) dX10_drop_4 rfl (fun h4 => ?_) (fun h4 => absurd (sh_nI hs) (b1_nf h4))
  refine pm_aload_n (pc := 9) dX10_drop_9 rfl ?_
  refine pm_getr (pc := 10) (ci := 8) (C0 := RX10) (T := TX10) (N := 34) (j := 30) rfl rfl in_X10 (by decide) wf_X10_70 rfl dX10_drop_10 ?_
  refine pm_iload_n (pc := 13) dX10_drop_13 rfl ?_
  refine pm_iald (pc := 14) rfl (by omega) (by decide) dX10_drop_14 ?_
  refine pm_if_ge (pc := 15) (tgt := 21) dX10_drop_15 rfl (fun h15 => absurd h15 (by rw [show I 61 s = -1 from hS]; decide)) (fun h15 => ?_)
  refine pm_bipush (pc := 18) (v := (-11)) dX10_drop_18 (by decide) ?_
  refine pm_iret (pc := 20) rfl (Nat.le_refl _) (Nat.le_refl _) dX10_drop_20 ?_
  rw [sp_drop_n hs he]
  exact YQ.r rfl hR yF.rf
set_option maxRecDepth 100000 in
set_option maxHeartbeats 1000000 in
theorem y_dropS {I : pm_I} {L : pm_L} {X : xS} (hR : MR I L X) (hX : xInv X) {s : Nat} {e : Nat × Nat} (hs : s < 4) (he : x_s X s = some e) : PC 2 0 0 yX10_drop cX10_drop 2 (some (.int)) [.ref 40, .int (nI s)] GG I L (YQ I L (sp_drop X (nI s)).1 (sp_drop X (nI s)).2) := by
  have hG := hR.1
  have hI := hX.s
  have h12 := hI.n12
  have hS := (hR.2.2.2 s hs).1
  have ho := hX.2.2.2 s hs
  rw [he] at hS
  have he2 := ho e.1 e.2 he
  have hS1 : I 61 s = nI e.1 := hS.1
  have hS2 : I 62 s = nI e.2 := hS.2
  refine PC.of [some (.ref 40), some (.int (nI s))] (by decide) (Nat.le_of_ble_eq_true rfl) rfl (fun l P => ?_)
  refine pm_iload_n (pc := 0) dX10_drop_0 rfl ?_
  refine pm_cSR (pc := 1) dX10_drop_1 (c_mIsSheet) wq_X10_isSheet wm_X10_277 wt_X10_isSheet ⟨Nat.le_of_ble_eq_true rfl, Nat.le_of_ble_eq_true rfl⟩ ⟨Nat.le_of_ble_eq_true rfl, Nat.le_of_ble_eq_true rfl⟩ rfl (Nat.le_of_ble_eq_true rfl) ?_
  refine pm_if_ne (pc := 4) (tgt := 9) dX10_drop_4 rfl (fun h4 => ?_) (fun h4 => absurd (sh_nI hs) (b1_nf h4))
  refine pm_aload_n (pc := 9) dX10_drop_9 rfl ?_
  refine pm_getr (pc := 10) (ci := 8) (C0 := RX10) (T := TX10) (N := 34) (j := 30) rfl rfl in_X10 (by decide) wf_X10_70 rfl dX10_drop_10 ?_
  refine pm_iload_n (pc := 13) dX10_drop_13 rfl ?_
  refine pm_iald (pc := 14) rfl (by omega) (by decide) dX10_drop_14 ?_
  refine pm_if_ge (pc := 15) (tgt := 21) dX10_drop_15 rfl (fun h15 => ?_) (fun h15 => absurd h15 (by rw [hS1, pm_leI, pm_t0, nI_toInt (by omega)]; omega))
  refine pm_aload_n (pc := 21) dX10_drop_21 rfl ?_
  refine pm_getr (pc := 22) (ci := 8) (C0 := RX10) (T := TX10) (N := 34) (j := 30) rfl rfl in_X10 (by decide) wf_X10_70 rfl dX10_drop_22 ?_
  refine pm_iload_n (pc := 25) dX10_drop_25 rfl ?_
  refine pm_iconst (pc := 26) (v := (-1)) dX10_drop_26 (by decide) ?_
  refine pm_iast (pc := 27) rfl (by omega) (by decide) dX10_drop_27 ?_
  refine pm_aload_n (pc := 28) dX10_drop_28 rfl ?_
  refine pm_getr (pc := 29) (ci := 8) (C0 := RX10) (T := TX10) (N := 34) (j := 31) rfl rfl in_X10 (by decide) wf_X10_73 rfl dX10_drop_29 ?_
  refine pm_iload_n (pc := 32) dX10_drop_32 rfl ?_
  refine pm_iald (pc := 33) rfl (by omega) (by decide) dX10_drop_33 ?_
  refine pm_iret (pc := 34) rfl (Nat.le_refl _) (Nat.le_refl _) dX10_drop_34 ?_
  rw [sp_drop_s hs he]
  have k := hR.sh hs (I' := pm_u I 61 (upd (I 61) s (-1))) (L' := L) (f := x_r X s) (o := none) (fun a h1 h2 => pm_un h1) (fun p hp => ⟨by rw [pm_us, pk_un hp], rfl⟩) (show pm_u I 61 (upd (I 61) s (-1)) 61 s = -1 by rw [pm_us, pk_us]) (fun a h1 h2 => rfl) (fun p hp k hk => rfl) (fun k hk => (hR.2.2.2 s hs).2 k hk)
  exact YQ.r hS2 k.1 k.2
set_option maxRecDepth 100000 in
theorem y_drop {I : pm_I} {L : pm_L} {X : xS} (hR : MR I L X) (hX : xInv X) {q : Int32} : PC 2 0 0 yX10_drop cX10_drop 2 (some (.int)) [.ref 40, .int q] GG I L (YQ I L (sp_drop X q).1 (sp_drop X q).2) := by
  by_cases hq : iR q 0 3
  · obtain ⟨s, hs, rfl⟩ := sh_of hq
    cases he : x_s X s with
    | none => exact y_dropN hR hX hs he
    | some e => exact y_dropS hR hX hs he
  · exact y_dropB hR hX hq
set_option maxRecDepth 100000 in
set_option maxHeartbeats 1000000 in
theorem y_item {I : pm_I} {L : pm_L} {X : xS} (hR : MR I L X) (hX : xInv X) {q b i : Int32} {v : Int64} : PC 2 0 0 yX10_item cX10_item 7 (some (.int)) [.ref 40, .int q, .int b, .int i, .long v] GG I L (YQ I L (sp_item X q b i v).1 (sp_item X q b i v).2) := by
  have hG := hR.1
  have hI := hX.s
  have h12 := hI.n12
  refine PC.of [some (.ref 40), some (.int q), some (.int b), some (.int i), some (.long v), none, none] (by decide) (Nat.le_of_ble_eq_true rfl) rfl (fun l P => ?_)
  refine pm_iload_n (pc := 0) dX10_item_0 rfl ?_
  refine pm_cSR (pc := 1) dX10_item_1 (c_mIsSheet) wq_X10_isSheet wm_X10_277 wt_X10_isSheet ⟨Nat.le_of_ble_eq_true rfl, Nat.le_of_ble_eq_true rfl⟩ ⟨Nat.le_of_ble_eq_true rfl, Nat.le_of_ble_eq_true rfl⟩ rfl (Nat.le_of_ble_eq_true rfl) ?_
  refine pm_if_eq (pc := 4) (tgt := 19) dX10_item_4 rfl (fun h4 => ?_) (fun h4 => ?_)
  · refine pm_iconst (pc := 19) (v := (-1)) dX10_item_19 (by decide) ?_
    refine pm_iret (pc := 20) rfl (Nat.le_refl _) (Nat.le_refl _) dX10_item_20 ?_
    first | (rw [show sp_item X q b i v = (-1, X) from if_pos (fun z => b1_nf h4 z.1)]; exact YQ.r rfl hR yF.rf) | (rw [show sp_item X (nI s) b i v = (-1, X) from if_pos (fun z => b1_nf h16 z.2)]; exact YQ.r rfl hR yF.rf)
  · obtain ⟨s, hs, rfl⟩ := sh_of (b1_nt h4)
    have hS := (hR.2.2.2 s hs).1
    have ho := hX.2.2.2 s hs
    refine pm_iload_n (pc := 7) dX10_item_7 rfl ?_
    refine pm_i2l (pc := 8) dX10_item_8 ?_
    refine pm_lconst (pc := 9) (v := 0) dX10_item_9 (by decide) ?_
    refine pm_ldc2 (pc := 10) wk_X10_246 dX10_item_10 ?_
    refine pm_cSR (pc := 13) dX10_item_13 (c_mInI (a := 0) (b := 2) (by decide) (by decide)) wq_X10_in wm_X10_87 wt_X10_in ⟨Nat.le_of_ble_eq_true rfl, Nat.le_of_ble_eq_true rfl⟩ ⟨Nat.le_of_ble_eq_true rfl, Nat.le_of_ble_eq_true rfl⟩ rfl (Nat.le_of_ble_eq_true rfl) ?_
    refine pm_if_ne (pc := 16) (tgt := 21) dX10_item_16 rfl (fun h16 => ?_) (fun h16 => ?_)
    · obtain ⟨b, hb, rfl⟩ := la_of (b1_nt h16)
      refine pm_aload_n (pc := 21) dX10_item_21 rfl ?_
      refine pm_iload_n (pc := 22) dX10_item_22 rfl ?_
      refine pm_iload_n (pc := 23) dX10_item_23 rfl ?_
      refine pm_iload_n (pc := 24) dX10_item_24 rfl ?_
      refine pm_iconst (pc := 25) (v := nI 1) dX10_item_25 (by decide) ?_
      refine pm_cVR (pc := 26) dX10_item_26 (c_mAg hs hS ho hb (by decide)) wq_X10_against wm_X10_280 wi_X10_against ws_X10_against rfl rfl ⟨Nat.le_of_ble_eq_true rfl, Nat.le_of_ble_eq_true rfl⟩ ⟨Nat.le_of_ble_eq_true rfl, Nat.le_of_ble_eq_true rfl⟩ rfl (Nat.le_of_ble_eq_true rfl) ?_
      refine pm_istore (pc := 29) dX10_item_29 (by decide) rfl ?_
      refine pm_iload (pc := 31) dX10_item_31 rfl ?_
      refine pm_if_eq (pc := 33) (tgt := 39) dX10_item_33 rfl (fun h33 => ?_) (fun h33 => ?_)
      · obtain ⟨e, he, hr⟩ := refuse_0 h33
        have he2 := (ho b e he).2
        obtain ⟨j, hj, rfl⟩ := row_of he2 (by decide) hr
        refine pm_aload_n (pc := 39) dX10_item_39 rfl ?_
        refine pm_getr (pc := 40) (ci := 8) (C0 := RX10) (T := TX10) (N := 34) (j := 32) rfl rfl in_X10 (by decide) wf_X10_76 rfl dX10_item_40 ?_
        refine pm_bipush (pc := 43) (v := nI 24) dX10_item_43 (by decide) ?_
        refine pm_iload_n (pc := 45) dX10_item_45 rfl ?_
        refine pm_imul (pc := 46) dX10_item_46 ?_
        refine pm_iload_n (pc := 47) dX10_item_47 rfl ?_
        refine pm_iadd (pc := 48) dX10_item_48 ?_
        refine pm_top (x' := nI (24 * s + j)) (by rw [pk_mul, nI_add]) ?_
        refine pm_iload_n (pc := 49) dX10_item_49 rfl ?_
        refine pm_lload (pc := 50) dX10_item_50 rfl ?_
        refine pm_cSL (pc := 52) dX10_item_52 (c_mLow hb) wq_X10_low wm_X10_290 wt_X10_low ⟨Nat.le_of_ble_eq_true rfl, Nat.le_of_ble_eq_true rfl⟩ ⟨Nat.le_of_ble_eq_true rfl, Nat.le_of_ble_eq_true rfl⟩ rfl (Nat.le_of_ble_eq_true rfl) ?_
        refine pm_last (pc := 55) rfl (by omega) (by decide) dX10_item_55 ?_
        refine pm_iconst (pc := 56) (v := nI 1) dX10_item_56 (by decide) ?_
        refine pm_iret (pc := 57) rfl (Nat.le_refl _) (Nat.le_refl _) dX10_item_57 ?_
        rw [sp_item_t hs hb (by omega) h33]
        have k := hR.l hs (L' := pm_u L 63 (vp_updL (L 63) (24 * s + j) (low b v))) (f := vp_updL (x_r X s) j (low b v)) (fun a h1 h2 => pm_un h1) (fun p hp k hk => by rw [pm_us]; exact if_neg (by omega)) (fun k hk => by
          rw [pm_us]
          show (if 24 * s + k = 24 * s + j then low b v else L 63 (24 * s + k)) = (if k = j then low b v else x_r X s k)
          by_cases e : k = j
          · rw [if_pos (by omega), if_pos e]
          · rw [if_neg (by omega), if_neg e]; exact (hR.2.2.2 s hs).2 k hk)
        exact YQ.r rfl k.1 k.2
      · refine pm_iload (pc := 36) dX10_item_36 rfl ?_
        refine pm_iret (pc := 38) rfl (Nat.le_refl _) (Nat.le_refl _) dX10_item_38 ?_
        rw [sp_item_b hs hb h33]
        exact YQ.r rfl hR yF.rf
    · refine pm_iconst (pc := 19) (v := (-1)) dX10_item_19 (by decide) ?_
      refine pm_iret (pc := 20) rfl (Nat.le_refl _) (Nat.le_refl _) dX10_item_20 ?_
      first | (rw [show sp_item X q b i v = (-1, X) from if_pos (fun z => b1_nf h4 z.1)]; exact YQ.r rfl hR yF.rf) | (rw [show sp_item X (nI s) b i v = (-1, X) from if_pos (fun z => b1_nf h16 z.2)]; exact YQ.r rfl hR yF.rf)
set_option maxRecDepth 100000 in
set_option maxHeartbeats 1000000 in
theorem l_yfilm {I : pm_I} {L : pm_L} {X : xS} (hR : MR I L X) (hX : xInv X) {s b j : Nat} {z4 : Int32} (hs : s < 4) (hb : b < 3) (hj : j + 6 ≤ 24) {Q : pm_QT} (hend : Q (some (.int (nI 6))) GG I (pm_u L 63 (mset (L 63) (24 * s + j) (fun k => low b (nI (g_load (x_g X) k)).toInt64) 6))) {l : Launch} {P : pm_E} : ∀ (m i : Nat), i + m = 6 → PW l P yX10_film cX10_film 6 (some (.int)) (pm_rm 2 0 0) (pm_Tg P Q 0 0) 0 0 43 [some (.ref 40), some (.int (nI s)), some (.int (nI b)), some (.int (nI j)), some (.int z4), some (.int (nI i))] [] GG I (pm_u L 63 (mset (L 63) (24 * s + j) (fun k => low b (nI (g_load (x_g X) k)).toInt64) i))
  | 0, i, hm => by
    have e : i = 6 := by omega
    subst e
    refine pm_iload (pc := 43) dX10_film_43 rfl ?_
    refine pm_bipush (pc := 45) (v := nI 6) dX10_film_45 (by decide) ?_
    refine pm_icmp_ge (pc := 47) (tgt := 81) dX10_film_47 rfl (fun h47 => ?_) (fun h47 => (by simp (disch := omega) only [pm_eqI, pm_ltI, pm_leI, nI_toInt, pm_t0, pm_t1, pm_tm1] at h47; omega))
    refine pm_bipush (pc := 81) (v := nI 6) dX10_film_81 (by decide) ?_
    refine pm_iret (pc := 83) rfl (Nat.le_refl _) (Nat.le_refl _) dX10_film_83 ?_
    exact hend
  | m + 1, i, hm => by
    have hG := hR.1
    have hI := hX.s
    refine pm_iload (pc := 43) dX10_film_43 rfl ?_
    refine pm_bipush (pc := 45) (v := nI 6) dX10_film_45 (by decide) ?_
    refine pm_icmp_ge (pc := 47) (tgt := 81) dX10_film_47 rfl (fun h47 => (by simp (disch := omega) only [pm_eqI, pm_ltI, pm_leI, nI_toInt, pm_t0, pm_t1, pm_tm1] at h47; omega)) (fun h47 => ?_)
    refine pm_aload_n (pc := 50) dX10_film_50 rfl ?_
    refine pm_getr (pc := 51) (ci := 8) (C0 := RX10) (T := TX10) (N := 34) (j := 32) rfl rfl in_X10 (by decide) wf_X10_76 rfl dX10_film_51 ?_
    refine pm_bipush (pc := 54) (v := nI 24) dX10_film_54 (by decide) ?_
    refine pm_iload_n (pc := 56) dX10_film_56 rfl ?_
    refine pm_imul (pc := 57) dX10_film_57 ?_
    refine pm_iload_n (pc := 58) dX10_film_58 rfl ?_
    refine pm_iadd (pc := 59) dX10_film_59 ?_
    refine pm_iload (pc := 60) dX10_film_60 rfl ?_
    refine pm_iadd (pc := 62) dX10_film_62 ?_
    refine pm_top (x' := nI (24 * s + j + i)) (by rw [pk_mul, nI_add, nI_add]) ?_
    refine pm_iload_n (pc := 63) dX10_film_63 rfl ?_
    refine pm_aload_n (pc := 64) dX10_film_64 rfl ?_
    refine pm_iload (pc := 65) dX10_film_65 rfl ?_
    refine pm_cVR (pc := 67) dX10_film_67 (c_mLoadOf hG hI (by omega)) wq_X10_loadOf wm_X10_127 wi_X10_loadOf ws_X10_loadOf rfl rfl ⟨Nat.le_of_ble_eq_true rfl, Nat.le_of_ble_eq_true rfl⟩ ⟨Nat.le_of_ble_eq_true rfl, Nat.le_of_ble_eq_true rfl⟩ rfl (Nat.le_of_ble_eq_true rfl) ?_
    refine pm_i2l (pc := 70) dX10_film_70 ?_
    refine pm_cSL (pc := 71) dX10_film_71 (c_mLow hb) wq_X10_low wm_X10_290 wt_X10_low ⟨Nat.le_of_ble_eq_true rfl, Nat.le_of_ble_eq_true rfl⟩ ⟨Nat.le_of_ble_eq_true rfl, Nat.le_of_ble_eq_true rfl⟩ rfl (Nat.le_of_ble_eq_true rfl) ?_
    refine pm_last (pc := 74) rfl (by omega) (by decide) dX10_film_74 ?_
    refine pm_iinc (pc := 75) dX10_film_75 rfl (pm_inc1 _) (by decide) rfl ?_
    refine pm_goto (pc := 78) (tgt := 43) dX10_film_78 rfl ?_
    have k9 := l_yfilm hR hX hs hb hj hend m (i + 1) (by omega) (l := l) (P := P) (z4 := z4)
    refine pm_eq rfl rfl rfl rfl ?_ k9
    rw [pm_us, pm_u2, mset_s rfl]
set_option maxRecDepth 100000 in
set_option maxHeartbeats 1000000 in
theorem y_film {I : pm_I} {L : pm_L} {X : xS} (hR : MR I L X) (hX : xInv X) {q b i : Int32} : PC 2 0 0 yX10_film cX10_film 6 (some (.int)) [.ref 40, .int q, .int b, .int i] GG I L (YQ I L (sp_film X q b i).1 (sp_film X q b i).2) := by
  have hG := hR.1
  have hI := hX.s
  have h12 := hI.n12
  refine PC.of [some (.ref 40), some (.int q), some (.int b), some (.int i), none, none] (by decide) (Nat.le_of_ble_eq_true rfl) rfl (fun l P => ?_)
  refine pm_iload_n (pc := 0) dX10_film_0 rfl ?_
  refine pm_cSR (pc := 1) dX10_film_1 (c_mIsSheet) wq_X10_isSheet wm_X10_277 wt_X10_isSheet ⟨Nat.le_of_ble_eq_true rfl, Nat.le_of_ble_eq_true rfl⟩ ⟨Nat.le_of_ble_eq_true rfl, Nat.le_of_ble_eq_true rfl⟩ rfl (Nat.le_of_ble_eq_true rfl) ?_
  refine pm_if_eq (pc := 4) (tgt := 19) dX10_film_4 rfl (fun h4 => ?_) (fun h4 => ?_)
  · refine pm_iconst (pc := 19) (v := (-1)) dX10_film_19 (by decide) ?_
    refine pm_iret (pc := 20) rfl (Nat.le_refl _) (Nat.le_refl _) dX10_film_20 ?_
    first | (rw [show sp_film X q b i = (-1, X) from if_pos (fun z => b1_nf h4 z.1)]; exact YQ.r rfl hR yF.rf) | (rw [show sp_film X (nI s) b i = (-1, X) from if_pos (fun z => b1_nf h16 z.2)]; exact YQ.r rfl hR yF.rf)
  · obtain ⟨s, hs, rfl⟩ := sh_of (b1_nt h4)
    have hS := (hR.2.2.2 s hs).1
    have ho := hX.2.2.2 s hs
    refine pm_iload_n (pc := 7) dX10_film_7 rfl ?_
    refine pm_i2l (pc := 8) dX10_film_8 ?_
    refine pm_lconst (pc := 9) (v := 0) dX10_film_9 (by decide) ?_
    refine pm_ldc2 (pc := 10) wk_X10_246 dX10_film_10 ?_
    refine pm_cSR (pc := 13) dX10_film_13 (c_mInI (a := 0) (b := 2) (by decide) (by decide)) wq_X10_in wm_X10_87 wt_X10_in ⟨Nat.le_of_ble_eq_true rfl, Nat.le_of_ble_eq_true rfl⟩ ⟨Nat.le_of_ble_eq_true rfl, Nat.le_of_ble_eq_true rfl⟩ rfl (Nat.le_of_ble_eq_true rfl) ?_
    refine pm_if_ne (pc := 16) (tgt := 21) dX10_film_16 rfl (fun h16 => ?_) (fun h16 => ?_)
    · obtain ⟨b, hb, rfl⟩ := la_of (b1_nt h16)
      refine pm_aload_n (pc := 21) dX10_film_21 rfl ?_
      refine pm_iload_n (pc := 22) dX10_film_22 rfl ?_
      refine pm_iload_n (pc := 23) dX10_film_23 rfl ?_
      refine pm_iload_n (pc := 24) dX10_film_24 rfl ?_
      refine pm_bipush (pc := 25) (v := nI 6) dX10_film_25 (by decide) ?_
      refine pm_cVR (pc := 27) dX10_film_27 (c_mAg hs hS ho hb (by decide)) wq_X10_against wm_X10_280 wi_X10_against ws_X10_against rfl rfl ⟨Nat.le_of_ble_eq_true rfl, Nat.le_of_ble_eq_true rfl⟩ ⟨Nat.le_of_ble_eq_true rfl, Nat.le_of_ble_eq_true rfl⟩ rfl (Nat.le_of_ble_eq_true rfl) ?_
      refine pm_istore (pc := 30) dX10_film_30 (by decide) rfl ?_
      refine pm_iload (pc := 32) dX10_film_32 rfl ?_
      refine pm_if_eq (pc := 34) (tgt := 40) dX10_film_34 rfl (fun h34 => ?_) (fun h34 => ?_)
      · obtain ⟨e, he, hr⟩ := refuse_0 h34
        have he2 := (ho b e he).2
        obtain ⟨j, hj, rfl⟩ := row_of he2 (by decide) hr
        refine pm_iconst (pc := 40) (v := nI 0) dX10_film_40 (by decide) ?_
        refine pm_istore (pc := 41) dX10_film_41 (by decide) rfl ?_
        have k9 := l_yfilm hR hX hs hb (j := j) (by omega) (Q := YQ I L (sp_film X (nI s) (nI b) (nI j)).1 (sp_film X (nI s) (nI b) (nI j)).2) ?_ 6 0 (by omega) (l := l) (P := P) (z4 := refuse (x_s X s) b (nI j) (nI 6))
        · refine pm_eq rfl rfl rfl rfl ?_ k9
          rw [mset_0, pm_uu]
        rw [sp_film_t hs hb (by omega) h34]
        have k := hR.l hs (L' := pm_u L 63 (mset (L 63) (24 * s + j) (fun k => low b (nI (g_load (x_g X) k)).toInt64) 6)) (f := r_film (x_g X) b j (x_r X s) 6) (fun a h1 h2 => pm_un h1) (fun p hp k hk => by rw [pm_us, mset_out (by omega)]) (fun k hk => by
          rw [pm_us, r_film_eq]
          by_cases e : j ≤ k ∧ k < j + 6
          · rw [if_pos e, show 24 * s + k = 24 * s + j + (k - j) by omega, mset_in (by omega)]
          · rw [if_neg e, mset_out (by omega)]; exact (hR.2.2.2 s hs).2 k hk)
        exact YQ.r rfl k.1 k.2
      · refine pm_iload (pc := 37) dX10_film_37 rfl ?_
        refine pm_iret (pc := 39) rfl (Nat.le_refl _) (Nat.le_refl _) dX10_film_39 ?_
        rw [sp_film_b hs hb h34]
        exact YQ.r rfl hR yF.rf
    · refine pm_iconst (pc := 19) (v := (-1)) dX10_film_19 (by decide) ?_
      refine pm_iret (pc := 20) rfl (Nat.le_refl _) (Nat.le_refl _) dX10_film_20 ?_
      first | (rw [show sp_film X q b i = (-1, X) from if_pos (fun z => b1_nf h4 z.1)]; exact YQ.r rfl hR yF.rf) | (rw [show sp_film X (nI s) b i = (-1, X) from if_pos (fun z => b1_nf h16 z.2)]; exact YQ.r rfl hR yF.rf)
