theorem refuse_0 {o : Option (Nat × Nat)} {b : Nat} {i n : Int32} (h : refuse o b i n = 0) : ∃ e, o = some (b, e) ∧ inRow e i n := by
  cases o with
  | none => exact absurd h (show ¬ (-11 : Int32) = 0 by decide)
  | some e =>
    have h2 : (if e.1 ≠ b then (-12 : Int32) else if inRow e.2 i n then 0 else -13) = 0 := h
    by_cases e1 : e.1 ≠ b
    · rw [if_pos e1] at h2; exact absurd h2 (by decide)
    · rw [if_neg e1] at h2
      by_cases e2 : inRow e.2 i n
      · have e3 : e.1 = b := Decidable.not_not.mp e1
        exact ⟨e.2, by rw [← e3], e2⟩
      · rw [if_neg e2] at h2; exact absurd h2 (by decide)
theorem row_of {e n : Nat} {i : Int32} (he : e ≤ 24) (hn : n < 2 ^ 31) (h : inRow e i (nI n)) : ∃ j : Nat, j + n ≤ e ∧ i = nI j := by
  obtain ⟨h1, h2, h3⟩ := h
  rw [nI_toInt hn] at h3
  refine ⟨i.toInt.toNat, by omega, ?_⟩
  rw [pm_eqI, nI_toInt (by omega)]; omega
theorem sp_sheet_t {X : xS} {s b m : Nat} (hs : s < 4) (hb : b < 3) (hm : m ≤ 24) : sp_sheet X (nI s) (nI b) (nI m) = (nI m, xu X s (some (b, m)) (fun _ => 0)) := by
  unfold sp_sheet
  rw [if_neg (not_not_intro ⟨sh_nI hs, la_nI hb, by rw [nI_toInt (by omega)]; omega⟩), if_neg (by rw [nI_toInt (by omega)]; omega), nt_nI (by omega), nt_nI (by omega), nt_nI (by omega)]
theorem sp_drop_n {X : xS} {s : Nat} (hs : s < 4) (he : x_s X s = none) : sp_drop X (nI s) = (-11, X) := by
  unfold sp_drop; rw [if_neg (not_not_intro (sh_nI hs)), nt_nI (by omega), he]
theorem sp_drop_s {X : xS} {s : Nat} {e : Nat × Nat} (hs : s < 4) (he : x_s X s = some e) : sp_drop X (nI s) = (nI e.2, xu X s none (x_r X s)) := by
  unfold sp_drop; rw [if_neg (not_not_intro (sh_nI hs)), nt_nI (by omega), he]
theorem sp_item_b {X : xS} {s b : Nat} {i : Int32} {v : Int64} (hs : s < 4) (hb : b < 3) (h : ¬ refuse (x_s X s) b i (nI 1) = 0) : sp_item X (nI s) (nI b) i v = (refuse (x_s X s) b i (nI 1), X) := by
  unfold sp_item; rw [if_neg (not_not_intro ⟨sh_nI hs, la_nI hb⟩), nt_nI (show s < 2 ^ 31 by omega), nt_nI (show b < 2 ^ 31 by omega), if_pos h]
theorem sp_item_t {X : xS} {s b j : Nat} {v : Int64} (hs : s < 4) (hb : b < 3) (hj : j < 24) (h : refuse (x_s X s) b (nI j) (nI 1) = 0) : sp_item X (nI s) (nI b) (nI j) v = (nI 1, xu X s (x_s X s) (vp_updL (x_r X s) j (low b v))) := by
  unfold sp_item; rw [if_neg (not_not_intro ⟨sh_nI hs, la_nI hb⟩), nt_nI (show s < 2 ^ 31 by omega), nt_nI (show b < 2 ^ 31 by omega), if_neg (not_not_intro h), nt_nI (show j < 2 ^ 31 by omega)]
theorem sp_film_b {X : xS} {s b : Nat} {i : Int32} (hs : s < 4) (hb : b < 3) (h : ¬ refuse (x_s X s) b i (nI 6) = 0) : sp_film X (nI s) (nI b) i = (refuse (x_s X s) b i (nI 6), X) := by
  unfold sp_film; rw [if_neg (not_not_intro ⟨sh_nI hs, la_nI hb⟩), nt_nI (show s < 2 ^ 31 by omega), nt_nI (show b < 2 ^ 31 by omega), if_pos h]
theorem sp_film_t {X : xS} {s b j : Nat} (hs : s < 4) (hb : b < 3) (hj : j < 24) (h : refuse (x_s X s) b (nI j) (nI 6) = 0) : sp_film X (nI s) (nI b) (nI j) = (nI 6, xu X s (x_s X s) (r_film (x_g X) b j (x_r X s) 6)) := by
  unfold sp_film; rw [if_neg (not_not_intro ⟨sh_nI hs, la_nI hb⟩), nt_nI (show s < 2 ^ 31 by omega), nt_nI (show b < 2 ^ 31 by omega), if_neg (not_not_intro h), nt_nI (show j < 2 ^ 31 by omega)]
theorem sp_copy_n {X : xS} {s t : Nat} {i j n : Int32} (hs : s < 4) (ht : t < 4) (he : x_s X s = none ∨ x_s X t = none) : sp_copy X (nI s) i (nI t) j n = (-11, X) := by
  unfold sp_copy; rw [if_neg (not_not_intro ⟨sh_nI hs, sh_nI ht⟩), nt_nI (show s < 2 ^ 31 by omega), nt_nI (show t < 2 ^ 31 by omega)]
  rcases he with h | h
  · rw [h]
  · rw [h]; cases x_s X s <;> rfl
theorem sp_copy_s {X : xS} {s t : Nat} {i j n : Int32} {e f : Nat × Nat} (hs : s < 4) (ht : t < 4) (he : x_s X s = some e) (hf : x_s X t = some f) : sp_copy X (nI s) i (nI t) j n = if e.1 ≠ f.1 then (-12, X) else if inRow e.2 i n ∧ inRow f.2 j n then (n, xu X t (some f) (va_cpy (x_r X s) (x_r X t) (nt i) (nt j) (nt n))) else (-13, X) := by
  unfold sp_copy; rw [if_neg (not_not_intro ⟨sh_nI hs, sh_nI ht⟩), nt_nI (show s < 2 ^ 31 by omega), nt_nI (show t < 2 ^ 31 by omega), he, hf]
theorem r_film_congr {s : gS} {b i : Nat} {f g : Nat → Int64} (h : ∀ k, k < 24 → f k = g k) : ∀ m k, k < 24 → r_film s b i f m k = r_film s b i g m k
  | 0, k, hk => h k hk
  | m + 1, k, hk => by
    show (if k = i + m then _ else r_film s b i f m k) = (if k = i + m then _ else r_film s b i g m k)
    by_cases e : k = i + m
    · rw [if_pos e, if_pos e]
    · rw [if_neg e, if_neg e]; exact r_film_congr h m k hk
set_option maxRecDepth 100000 in
set_option maxHeartbeats 800000 in
theorem x_sheetN {I : pm_I} {L : pm_L} {X : xS} (hR : XR I L X) (hX : xInv X) {q : Int32} {b n : Int32} (hq : ¬ iR q 0 3) : PC 2 0 0 yX9_sheet cX9_sheet 5 (some (.int)) [.ref 0, .int q, .int b, .int n] GG I L (XQ I L (sp_sheet X q b n).1 (sp_sheet X q b n).2) := by
  have hG := hR.1
  have hI := hX.s
  have h12 := hI.n12
  refine PC.of [some (.ref 0), some (.int q), some (.int b), some (.int n), none] (by decide) (Nat.le_of_ble_eq_true rfl) rfl (fun l P => ?_)
  refine pm_aload_n (pc := 0) dX9_sheet_0 rfl ?_
  refine pm_iload_n (pc := 1) dX9_sheet_1 rfl ?_
  refine pm_cVA (pc := 2) dX9_sheet_2 (c_sheetAtN hq) wq_X9_sheetAt wm_X9_204 wi_X9_sheetAt ws_X9_sheetAt rfl rfl ⟨Nat.le_of_ble_eq_true rfl, Nat.le_of_ble_eq_true rfl⟩ ⟨Nat.le_of_ble_eq_true rfl, Nat.le_of_ble_eq_true rfl⟩ rfl (Nat.le_of_ble_eq_true rfl) ?_
  refine pm_astoreN (pc := 5) dX9_sheet_5 (by decide) rfl ?_
  refine pm_aloadN (pc := 7) dX9_sheet_7 rfl ?_
  refine pm_ifnullN (x := 0) (pc := 9) (tgt := 25) dX9_sheet_9 rfl ?_
  refine pm_iconst (pc := 25) (v := (-1)) dX9_sheet_25 (by decide) ?_
  refine pm_iret (pc := 26) rfl (Nat.le_refl _) (Nat.le_refl _) dX9_sheet_26 ?_
  rw [show sp_sheet X q b n = (-1, X) from if_pos (fun z => hq z.1)]
  exact XQ.r rfl hR xF.rf
set_option maxRecDepth 100000 in
set_option maxHeartbeats 800000 in
theorem x_sheetV {I : pm_I} {L : pm_L} {X : xS} (hR : XR I L X) (hX : xInv X) {s : Nat} (hs : s < 4) {b n : Int32} : PC 2 0 0 yX9_sheet cX9_sheet 5 (some (.int)) [.ref 0, .int (nI s), .int b, .int n] GG I L (XQ I L (sp_sheet X (nI s) b n).1 (sp_sheet X (nI s) b n).2) := by
  have hG := hR.1
  have hI := hX.s
  have h12 := hI.n12
  have hS := (hR.2.2.2 s hs).1
  have ho := hX.2.2.2 s hs
  refine PC.of [some (.ref 0), some (.int (nI s)), some (.int b), some (.int n), none] (by decide) (Nat.le_of_ble_eq_true rfl) rfl (fun l P => ?_)
  refine pm_aload_n (pc := 0) dX9_sheet_0 rfl ?_
  refine pm_iload_n (pc := 1) dX9_sheet_1 rfl ?_
  refine pm_cVA (pc := 2) dX9_sheet_2 (c_sheetAt hs) wq_X9_sheetAt wm_X9_204 wi_X9_sheetAt ws_X9_sheetAt rfl rfl ⟨Nat.le_of_ble_eq_true rfl, Nat.le_of_ble_eq_true rfl⟩ ⟨Nat.le_of_ble_eq_true rfl, Nat.le_of_ble_eq_true rfl⟩ rfl (Nat.le_of_ble_eq_true rfl) ?_
  refine pm_astore (pc := 5) dX9_sheet_5 (by decide) rfl ?_
  refine pm_aload (pc := 7) dX9_sheet_7 rfl ?_
  refine pm_ifnull (pc := 9) dX9_sheet_9 ?_
  refine pm_iload_n (pc := 12) dX9_sheet_12 rfl ?_
  refine pm_cSR (pc := 13) dX9_sheet_13 (c_isLane) wq_X9_isLane wm_X9_208 wt_X9_isLane ⟨Nat.le_of_ble_eq_true rfl, Nat.le_of_ble_eq_true rfl⟩ ⟨Nat.le_of_ble_eq_true rfl, Nat.le_of_ble_eq_true rfl⟩ rfl (Nat.le_of_ble_eq_true rfl) ?_
  refine pm_if_eq (pc := 16) (tgt := 25) dX9_sheet_16 rfl (fun h16 => ?_) (fun h16 => ?_)
  · refine pm_iconst (pc := 25) (v := (-1)) dX9_sheet_25 (by decide) ?_
    refine pm_iret (pc := 26) rfl (Nat.le_refl _) (Nat.le_refl _) dX9_sheet_26 ?_
    first | (rw [show sp_sheet X (nI s) b n = (-1, X) from if_pos (fun z => b1_nf h16 z.2.1)]; exact XQ.r rfl hR xF.rf) | (rw [show sp_sheet X (nI s) b n = (-1, X) from if_pos (fun z => by have := z.2.2; simp (disch := omega) only [pm_ltI, pm_leI, nI_toInt] at h22; omega)]; exact XQ.r rfl hR xF.rf)
  · refine pm_iload_n (pc := 19) dX9_sheet_19 rfl ?_
    refine pm_bipush (pc := 20) (v := nI 24) dX9_sheet_20 (by decide) ?_
    refine pm_icmp_le (pc := 22) (tgt := 27) dX9_sheet_22 rfl (fun h22 => ?_) (fun h22 => ?_)
    · refine pm_iload_n (pc := 27) dX9_sheet_27 rfl ?_
      refine pm_if_ge (pc := 28) (tgt := 34) dX9_sheet_28 rfl (fun h28 => ?_) (fun h28 => ?_)
      · obtain ⟨b, hb, rfl⟩ := la_of (b1_nt h16)
        obtain ⟨m, hm, rfl⟩ := iR_of (x := n) (b := 24) (by decide) ⟨by simp only [pm_ltI, pm_leI, pm_t0] at h28; omega, by simp (disch := omega) only [pm_ltI, pm_leI, nI_toInt] at h22; omega⟩
        refine pm_aload (pc := 34) dX9_sheet_34 rfl ?_
        refine pm_iload_n (pc := 36) dX9_sheet_36 rfl ?_
        refine pm_iload_n (pc := 37) dX9_sheet_37 rfl ?_
        refine pm_cVV (pc := 38) dX9_sheet_38 (c_renew hs hm) wq_X5_renew wm_X9_244 wi_X5_renew ws_X5_renew (gg_sheet hs) rfl ⟨Nat.le_of_ble_eq_true rfl, Nat.le_of_ble_eq_true rfl⟩ ⟨Nat.le_of_ble_eq_true rfl, Nat.le_of_ble_eq_true rfl⟩ rfl (Nat.le_of_ble_eq_true rfl) (fun I38 L38 q38 => ?_)
        obtain ⟨⟨q1, q2, q3⟩, q4⟩ := q38
        subst q4
        refine pm_iload_n (pc := 41) dX9_sheet_41 rfl ?_
        refine pm_iret (pc := 42) rfl (Nat.le_refl _) (Nat.le_refl _) dX9_sheet_42 ?_
        rw [sp_sheet_t hs hb hm]
        have k := hR.sh hs (I' := I38) (L' := pm_u L (33 + 2 * s) (fa_fill (fun _ => 0) (L (33 + 2 * s)) 24)) (f := fun _ => 0) (o := some (b, m)) q1 ⟨q2, q3⟩ (fun a ha => pm_un ha) (fun k hk => by rw [pm_us, fa_fill_in hk])
        exact XQ.r rfl k.1 k.2
      · refine pm_bipush (pc := 31) (v := (-14)) dX9_sheet_31 (by decide) ?_
        refine pm_iret (pc := 33) rfl (Nat.le_refl _) (Nat.le_refl _) dX9_sheet_33 ?_
        rw [show sp_sheet X (nI s) b n = (-14, X) from (if_neg (not_not_intro ⟨sh_nI hs, b1_nt h16, by simp (disch := omega) only [pm_ltI, pm_leI, nI_toInt] at h22; omega⟩)).trans (if_pos (by simp only [pm_ltI, pm_leI, pm_t0] at h28; omega))]
        exact XQ.r rfl hR xF.rf
    · refine pm_iconst (pc := 25) (v := (-1)) dX9_sheet_25 (by decide) ?_
      refine pm_iret (pc := 26) rfl (Nat.le_refl _) (Nat.le_refl _) dX9_sheet_26 ?_
      first | (rw [show sp_sheet X (nI s) b n = (-1, X) from if_pos (fun z => b1_nf h16 z.2.1)]; exact XQ.r rfl hR xF.rf) | (rw [show sp_sheet X (nI s) b n = (-1, X) from if_pos (fun z => by have := z.2.2; simp (disch := omega) only [pm_ltI, pm_leI, nI_toInt] at h22; omega)]; exact XQ.r rfl hR xF.rf)
set_option maxRecDepth 100000 in
theorem x_sheet {I : pm_I} {L : pm_L} {X : xS} (hR : XR I L X) (hX : xInv X) {q : Int32} {b n : Int32} : PC 2 0 0 yX9_sheet cX9_sheet 5 (some (.int)) [.ref 0, .int q, .int b, .int n] GG I L (XQ I L (sp_sheet X q b n).1 (sp_sheet X q b n).2) := by
  by_cases hq : iR q 0 3
  · obtain ⟨s, hs, rfl⟩ := sh_of hq
    exact x_sheetV hR hX hs
  · exact x_sheetN hR hX hq
set_option maxRecDepth 100000 in
set_option maxHeartbeats 800000 in
theorem x_dropN {I : pm_I} {L : pm_L} {X : xS} (hR : XR I L X) (hX : xInv X) {q : Int32}  (hq : ¬ iR q 0 3) : PC 1 0 0 yX9_drop cX9_drop 3 (some (.int)) [.ref 0, .int q] GG I L (XQ I L (sp_drop X q).1 (sp_drop X q).2) := by
  have hG := hR.1
  have hI := hX.s
  have h12 := hI.n12
  refine PC.of [some (.ref 0), some (.int q), none] (by decide) (Nat.le_of_ble_eq_true rfl) rfl (fun l P => ?_)
  refine pm_aload_n (pc := 0) dX9_drop_0 rfl ?_
  refine pm_iload_n (pc := 1) dX9_drop_1 rfl ?_
  refine pm_cVA (pc := 2) dX9_drop_2 (c_sheetAtN hq) wq_X9_sheetAt wm_X9_204 wi_X9_sheetAt ws_X9_sheetAt rfl rfl ⟨Nat.le_of_ble_eq_true rfl, Nat.le_of_ble_eq_true rfl⟩ ⟨Nat.le_of_ble_eq_true rfl, Nat.le_of_ble_eq_true rfl⟩ rfl (Nat.le_of_ble_eq_true rfl) ?_
  refine pm_astore_nN (pc := 5) dX9_drop_5 (by decide) rfl ?_
  refine pm_aload_nN (pc := 6) dX9_drop_6 rfl ?_
  refine pm_ifnonnullN (pc := 7) dX9_drop_7 ?_
  refine pm_iconst (pc := 10) (v := (-1)) dX9_drop_10 (by decide) ?_
  refine pm_iret (pc := 11) rfl (Nat.le_refl _) (Nat.le_refl _) dX9_drop_11 ?_
  rw [show sp_drop X q = (-1, X) from if_pos hq]
  exact XQ.r rfl hR xF.rf
set_option maxRecDepth 100000 in
set_option maxHeartbeats 800000 in
theorem x_dropV {I : pm_I} {L : pm_L} {X : xS} (hR : XR I L X) (hX : xInv X) {s : Nat} (hs : s < 4)  : PC 1 0 0 yX9_drop cX9_drop 3 (some (.int)) [.ref 0, .int (nI s)] GG I L (XQ I L (sp_drop X (nI s)).1 (sp_drop X (nI s)).2) := by
  have hG := hR.1
  have hI := hX.s
  have h12 := hI.n12
  have hS := (hR.2.2.2 s hs).1
  have ho := hX.2.2.2 s hs
  refine PC.of [some (.ref 0), some (.int (nI s)), none] (by decide) (Nat.le_of_ble_eq_true rfl) rfl (fun l P => ?_)
  refine pm_aload_n (pc := 0) dX9_drop_0 rfl ?_
  refine pm_iload_n (pc := 1) dX9_drop_1 rfl ?_
  refine pm_cVA (pc := 2) dX9_drop_2 (c_sheetAt hs) wq_X9_sheetAt wm_X9_204 wi_X9_sheetAt ws_X9_sheetAt rfl rfl ⟨Nat.le_of_ble_eq_true rfl, Nat.le_of_ble_eq_true rfl⟩ ⟨Nat.le_of_ble_eq_true rfl, Nat.le_of_ble_eq_true rfl⟩ rfl (Nat.le_of_ble_eq_true rfl) ?_
  refine pm_astore_n (pc := 5) dX9_drop_5 (by decide) rfl ?_
  refine pm_aload_n (pc := 6) dX9_drop_6 rfl ?_
  refine pm_ifnonnull (pc := 7) (tgt := 12) dX9_drop_7 rfl ?_
  refine pm_aload_n (pc := 12) dX9_drop_12 rfl ?_
  refine pm_cVR (pc := 13) dX9_drop_13 (c_holds_ hs hS ho) wq_X5_holdsRow wm_X9_247 wi_X5_holdsRow ws_X5_holdsRow (gg_sheet hs) rfl ⟨Nat.le_of_ble_eq_true rfl, Nat.le_of_ble_eq_true rfl⟩ ⟨Nat.le_of_ble_eq_true rfl, Nat.le_of_ble_eq_true rfl⟩ rfl (Nat.le_of_ble_eq_true rfl) ?_
  refine pm_if_eq (pc := 16) (tgt := 26) dX9_drop_16 rfl (fun h16 => ?_) (fun h16 => ?_)
  · have he : x_s X s = none := by
      cases hz : x_s X s with
      | none => rfl
      | some e => rw [hz] at h16; exact absurd (show (some e).isSome = true from rfl) (b1_nf h16)
    refine pm_bipush (pc := 26) (v := (-11)) dX9_drop_26 (by decide) ?_
    refine pm_iret (pc := 28) rfl (Nat.le_refl _) (Nat.le_refl _) dX9_drop_28 ?_
    first
      | (rw [sp_drop_n hs he]; exact XQ.r rfl hR xF.rf)
      | (rw [sp_drop_s hs he]; have k := hR.sh hs (I' := I20) (L' := L20) (f := x_r X s) (o := none) (fun a ha => by rw [q2]; exact pm_un ha) (show I20 (32 + 2 * s) 2 = -1 by rw [q2]; exact (congrFun pm_us 2).trans pk_us) (fun a ha => rfl) (fun k hk => (hR.2.2.2 s hs).2 k hk); exact XQ.r (q1.trans hS2) k.1 k.2)
  · obtain ⟨e, he⟩ := Option.isSome_iff_exists.mp (b1_nt h16)
    rw [he] at hS
    have hS2 : I (32 + 2 * s) 2 = nI e.2 := hS.2
    refine pm_aload_n (pc := 19) dX9_drop_19 rfl ?_
    refine pm_cVI (pc := 20) dX9_drop_20 (c_clear hs) wq_X5_clear wm_X9_251 wi_X5_clear ws_X5_clear (gg_sheet hs) rfl ⟨Nat.le_of_ble_eq_true rfl, Nat.le_of_ble_eq_true rfl⟩ ⟨Nat.le_of_ble_eq_true rfl, Nat.le_of_ble_eq_true rfl⟩ rfl (Nat.le_of_ble_eq_true rfl) (fun r20 I20 L20 q20 => ?_)
    obtain ⟨q1, q2, q3⟩ := q20
    subst q3
    refine pm_goto (pc := 23) (tgt := 28) dX9_drop_23 rfl ?_
    refine pm_iret (pc := 28) rfl (Nat.le_refl _) (Nat.le_refl _) dX9_drop_28 ?_
    first
      | (rw [sp_drop_n hs he]; exact XQ.r rfl hR xF.rf)
      | (rw [sp_drop_s hs he]; have k := hR.sh hs (I' := I20) (L' := L20) (f := x_r X s) (o := none) (fun a ha => by rw [q2]; exact pm_un ha) (show I20 (32 + 2 * s) 2 = -1 by rw [q2]; exact (congrFun pm_us 2).trans pk_us) (fun a ha => rfl) (fun k hk => (hR.2.2.2 s hs).2 k hk); exact XQ.r (q1.trans hS2) k.1 k.2)
set_option maxRecDepth 100000 in
theorem x_drop {I : pm_I} {L : pm_L} {X : xS} (hR : XR I L X) (hX : xInv X) {q : Int32}  : PC 1 0 0 yX9_drop cX9_drop 3 (some (.int)) [.ref 0, .int q] GG I L (XQ I L (sp_drop X q).1 (sp_drop X q).2) := by
  by_cases hq : iR q 0 3
  · obtain ⟨s, hs, rfl⟩ := sh_of hq
    exact x_dropV hR hX hs
  · exact x_dropN hR hX hq
set_option maxRecDepth 100000 in
set_option maxHeartbeats 800000 in
theorem x_itemN {I : pm_I} {L : pm_L} {X : xS} (hR : XR I L X) (hX : xInv X) {q : Int32} {b i : Int32} {v : Int64} (hq : ¬ iR q 0 3) : PC 2 0 0 yX9_item cX9_item 8 (some (.int)) [.ref 0, .int q, .int b, .int i, .long v] GG I L (XQ I L (sp_item X q b i v).1 (sp_item X q b i v).2) := by
  have hG := hR.1
  have hI := hX.s
  have h12 := hI.n12
  refine PC.of [some (.ref 0), some (.int q), some (.int b), some (.int i), some (.long v), none, none, none] (by decide) (Nat.le_of_ble_eq_true rfl) rfl (fun l P => ?_)
  refine pm_aload_n (pc := 0) dX9_item_0 rfl ?_
  refine pm_iload_n (pc := 1) dX9_item_1 rfl ?_
  refine pm_cVA (pc := 2) dX9_item_2 (c_sheetAtN hq) wq_X9_sheetAt wm_X9_204 wi_X9_sheetAt ws_X9_sheetAt rfl rfl ⟨Nat.le_of_ble_eq_true rfl, Nat.le_of_ble_eq_true rfl⟩ ⟨Nat.le_of_ble_eq_true rfl, Nat.le_of_ble_eq_true rfl⟩ rfl (Nat.le_of_ble_eq_true rfl) ?_
  refine pm_astoreN (pc := 5) dX9_item_5 (by decide) rfl ?_
  refine pm_aloadN (pc := 7) dX9_item_7 rfl ?_
  refine pm_ifnullN (x := 0) (pc := 9) (tgt := 19) dX9_item_9 rfl ?_
  refine pm_iconst (pc := 19) (v := (-1)) dX9_item_19 (by decide) ?_
  refine pm_iret (pc := 20) rfl (Nat.le_refl _) (Nat.le_refl _) dX9_item_20 ?_
  rw [show sp_item X q b i v = (-1, X) from if_pos (fun z => hq z.1)]
  exact XQ.r rfl hR xF.rf
set_option maxRecDepth 100000 in
set_option maxHeartbeats 800000 in
theorem x_itemV {I : pm_I} {L : pm_L} {X : xS} (hR : XR I L X) (hX : xInv X) {s : Nat} (hs : s < 4) {b i : Int32} {v : Int64} : PC 2 0 0 yX9_item cX9_item 8 (some (.int)) [.ref 0, .int (nI s), .int b, .int i, .long v] GG I L (XQ I L (sp_item X (nI s) b i v).1 (sp_item X (nI s) b i v).2) := by
  have hG := hR.1
  have hI := hX.s
  have h12 := hI.n12
  have hS := (hR.2.2.2 s hs).1
  have ho := hX.2.2.2 s hs
  refine PC.of [some (.ref 0), some (.int (nI s)), some (.int b), some (.int i), some (.long v), none, none, none] (by decide) (Nat.le_of_ble_eq_true rfl) rfl (fun l P => ?_)
  refine pm_aload_n (pc := 0) dX9_item_0 rfl ?_
  refine pm_iload_n (pc := 1) dX9_item_1 rfl ?_
  refine pm_cVA (pc := 2) dX9_item_2 (c_sheetAt hs) wq_X9_sheetAt wm_X9_204 wi_X9_sheetAt ws_X9_sheetAt rfl rfl ⟨Nat.le_of_ble_eq_true rfl, Nat.le_of_ble_eq_true rfl⟩ ⟨Nat.le_of_ble_eq_true rfl, Nat.le_of_ble_eq_true rfl⟩ rfl (Nat.le_of_ble_eq_true rfl) ?_
  refine pm_astore (pc := 5) dX9_item_5 (by decide) rfl ?_
  refine pm_aload (pc := 7) dX9_item_7 rfl ?_
  refine pm_ifnull (pc := 9) dX9_item_9 ?_
  refine pm_iload_n (pc := 12) dX9_item_12 rfl ?_
  refine pm_cSR (pc := 13) dX9_item_13 (c_isLane) wq_X9_isLane wm_X9_208 wt_X9_isLane ⟨Nat.le_of_ble_eq_true rfl, Nat.le_of_ble_eq_true rfl⟩ ⟨Nat.le_of_ble_eq_true rfl, Nat.le_of_ble_eq_true rfl⟩ rfl (Nat.le_of_ble_eq_true rfl) ?_
  refine pm_if_ne (pc := 16) (tgt := 21) dX9_item_16 rfl (fun h16 => ?_) (fun h16 => ?_)
  · obtain ⟨b, hb, rfl⟩ := la_of (b1_nt h16)
    refine pm_aload (pc := 21) dX9_item_21 rfl ?_
    refine pm_iload_n (pc := 23) dX9_item_23 rfl ?_
    refine pm_iload_n (pc := 24) dX9_item_24 rfl ?_
    refine pm_iconst (pc := 25) (v := nI 1) dX9_item_25 (by decide) ?_
    refine pm_cVR (pc := 26) dX9_item_26 (c_refusal hs hS ho hb) wq_X5_refusal wm_X9_211 wi_X5_refusal ws_X5_refusal (gg_sheet hs) rfl ⟨Nat.le_of_ble_eq_true rfl, Nat.le_of_ble_eq_true rfl⟩ ⟨Nat.le_of_ble_eq_true rfl, Nat.le_of_ble_eq_true rfl⟩ rfl (Nat.le_of_ble_eq_true rfl) ?_
    refine pm_istore (pc := 29) dX9_item_29 (by decide) rfl ?_
    refine pm_iload (pc := 31) dX9_item_31 rfl ?_
    refine pm_if_eq (pc := 33) (tgt := 39) dX9_item_33 rfl (fun h33 => ?_) (fun h33 => ?_)
    · obtain ⟨e, he, hr⟩ := refuse_0 h33
      have he2 := (ho b e he).2
      obtain ⟨j, hj, rfl⟩ := row_of he2 (by decide) hr
      have hS1 : I (32 + 2 * s) 1 = nI b := by rw [he] at hS; exact hS.1
      refine pm_aload (pc := 39) dX9_item_39 rfl ?_
      refine pm_iload_n (pc := 41) dX9_item_41 rfl ?_
      refine pm_lload (pc := 42) dX9_item_42 rfl ?_
      refine pm_cVV (pc := 44) dX9_item_44 (c_becomeAt hs (by omega) hS1 hb) wq_X5_becomeAt wm_X9_240 wi_X5_becomeAt ws_X5_becomeAt (gg_sheet hs) rfl ⟨Nat.le_of_ble_eq_true rfl, Nat.le_of_ble_eq_true rfl⟩ ⟨Nat.le_of_ble_eq_true rfl, Nat.le_of_ble_eq_true rfl⟩ rfl (Nat.le_of_ble_eq_true rfl) (fun I44 L44 q44 => ?_)
      obtain ⟨q1, q2⟩ := q44
      subst q1 q2
      refine pm_iconst (pc := 47) (v := nI 1) dX9_item_47 (by decide) ?_
      refine pm_iret (pc := 48) rfl (Nat.le_refl _) (Nat.le_refl _) dX9_item_48 ?_
      rw [sp_item_t hs hb (by omega) h33]
      have k := hR.sh hs (I' := I44) (L' := pm_u L (33 + 2 * s) (vp_updL (L (33 + 2 * s)) j (low b v))) (f := vp_updL (x_r X s) j (low b v)) (o := x_s X s) (fun a ha => rfl) hS (fun a ha => pm_un ha) (fun k hk => by rw [pm_us]; show (if k = j then _ else L (33 + 2 * s) k) = (if k = j then _ else x_r X s k); rw [(hR.2.2.2 s hs).2 k hk])
      exact XQ.r rfl k.1 k.2
    · refine pm_iload (pc := 36) dX9_item_36 rfl ?_
      refine pm_iret (pc := 38) rfl (Nat.le_refl _) (Nat.le_refl _) dX9_item_38 ?_
      rw [sp_item_b hs hb h33]
      exact XQ.r rfl hR xF.rf
  · refine pm_iconst (pc := 19) (v := (-1)) dX9_item_19 (by decide) ?_
    refine pm_iret (pc := 20) rfl (Nat.le_refl _) (Nat.le_refl _) dX9_item_20 ?_
    rw [show sp_item X (nI s) b i v = (-1, X) from if_pos (fun z => b1_nf h16 z.2)]
    exact XQ.r rfl hR xF.rf
set_option maxRecDepth 100000 in
theorem x_item {I : pm_I} {L : pm_L} {X : xS} (hR : XR I L X) (hX : xInv X) {q : Int32} {b i : Int32} {v : Int64} : PC 2 0 0 yX9_item cX9_item 8 (some (.int)) [.ref 0, .int q, .int b, .int i, .long v] GG I L (XQ I L (sp_item X q b i v).1 (sp_item X q b i v).2) := by
  by_cases hq : iR q 0 3
  · obtain ⟨s, hs, rfl⟩ := sh_of hq
    exact x_itemV hR hX hs
  · exact x_itemN hR hX hq
set_option maxRecDepth 100000 in
set_option maxHeartbeats 4000000 in
theorem l_film {I : pm_I} {L : pm_L} {X : xS} (hR : XR I L X) (hX : xInv X) {s b j : Nat} {z5 : Int32} (hs : s < 4) (hb : b < 3) (hj : j + 6 ≤ 24) (hS1 : I (32 + 2 * s) 1 = nI b) {Q : pm_QT} (hend : Q (some (.int (nI 6))) GG I (pm_u L (33 + 2 * s) (r_film (x_g X) b j (L (33 + 2 * s)) 6))) {l : Launch} {P : pm_E} : ∀ (m i : Nat), i + m = 6 → PW l P yX9_film cX9_film 7 (some (.int)) (pm_rm 3 0 0) (pm_Tg P Q 0 0) 0 0 43 [some (.ref 0), some (.int (nI s)), some (.int (nI b)), some (.int (nI j)), some (.ref (32 + 2 * s)), some (.int z5), some (.int (nI i))] [] GG I (pm_u L (33 + 2 * s) (r_film (x_g X) b j (L (33 + 2 * s)) i))
  | 0, i, hm => by
    have e : i = 6 := by omega
    subst e
    refine pm_iload (pc := 43) dX9_film_43 rfl ?_
    refine pm_bipush (pc := 45) (v := nI 6) dX9_film_45 (by decide) ?_
    refine pm_icmp_ge (pc := 47) (tgt := 75) dX9_film_47 rfl (fun h47 => ?_) (fun h47 => (by simp (disch := omega) only [pm_eqI, pm_ltI, pm_leI, nI_toInt, pm_t0, pm_t1, pm_tm1] at h47; omega))
    refine pm_bipush (pc := 75) (v := nI 6) dX9_film_75 (by decide) ?_
    refine pm_iret (pc := 77) rfl (Nat.le_refl _) (Nat.le_refl _) dX9_film_77 ?_
    exact hend
  | m + 1, i, hm => by
    have hG := hR.1
    have hI := hX.s
    refine pm_iload (pc := 43) dX9_film_43 rfl ?_
    refine pm_bipush (pc := 45) (v := nI 6) dX9_film_45 (by decide) ?_
    refine pm_icmp_ge (pc := 47) (tgt := 75) dX9_film_47 rfl (fun h47 => (by simp (disch := omega) only [pm_eqI, pm_ltI, pm_leI, nI_toInt, pm_t0, pm_t1, pm_tm1] at h47; omega)) (fun h47 => ?_)
    refine pm_aload (pc := 50) dX9_film_50 rfl ?_
    refine pm_iload_n (pc := 52) dX9_film_52 rfl ?_
    refine pm_iload (pc := 53) dX9_film_53 rfl ?_
    refine pm_iadd (pc := 55) dX9_film_55 ?_
    refine pm_top (nI_add _ _) ?_
    refine pm_aload_n (pc := 56) dX9_film_56 rfl ?_
    refine pm_getr (pc := 57) (ci := 7) (C0 := RX9) (T := TX9) (N := 9) (j := 0) rfl rfl in_X9 (by decide) wf_X9_10 rfl dX9_film_57 ?_
    refine pm_iload (pc := 60) dX9_film_60 rfl ?_
    refine pm_cVR (pc := 62) dX9_film_62 (c_loadIn hG hI (by omega)) wq_X2_loadIn wm_X9_95 wi_X2_loadIn ws_X2_loadIn rfl rfl ⟨Nat.le_of_ble_eq_true rfl, Nat.le_of_ble_eq_true rfl⟩ ⟨Nat.le_of_ble_eq_true rfl, Nat.le_of_ble_eq_true rfl⟩ rfl (Nat.le_of_ble_eq_true rfl) ?_
    refine pm_i2l (pc := 65) dX9_film_65 ?_
    refine pm_cVV (pc := 66) dX9_film_66 (c_becomeAt hs (by omega) hS1 hb) wq_X5_becomeAt wm_X9_240 wi_X5_becomeAt ws_X5_becomeAt (gg_sheet hs) rfl ⟨Nat.le_of_ble_eq_true rfl, Nat.le_of_ble_eq_true rfl⟩ ⟨Nat.le_of_ble_eq_true rfl, Nat.le_of_ble_eq_true rfl⟩ rfl (Nat.le_of_ble_eq_true rfl) (fun I66 L66 q66 => ?_)
    obtain ⟨q1, q2⟩ := q66
    subst q1 q2
    refine pm_iinc (pc := 69) dX9_film_69 rfl (pm_inc1 _) (by decide) rfl ?_
    refine pm_goto (pc := 72) (tgt := 43) dX9_film_72 rfl ?_
    have k9 := l_film hR hX hs hb hj hS1 hend m (i + 1) (by omega) (l := l) (P := P) (z5 := z5)
    refine pm_eq rfl rfl rfl rfl ?_ k9
    rw [pm_us, pm_u2]; rfl
set_option maxRecDepth 100000 in
set_option maxHeartbeats 800000 in
theorem x_filmN {I : pm_I} {L : pm_L} {X : xS} (hR : XR I L X) (hX : xInv X) {q : Int32} {b i : Int32} (hq : ¬ iR q 0 3) : PC 3 0 0 yX9_film cX9_film 7 (some (.int)) [.ref 0, .int q, .int b, .int i] GG I L (XQ I L (sp_film X q b i).1 (sp_film X q b i).2) := by
  have hG := hR.1
  have hI := hX.s
  have h12 := hI.n12
  refine PC.of [some (.ref 0), some (.int q), some (.int b), some (.int i), none, none, none] (by decide) (Nat.le_of_ble_eq_true rfl) rfl (fun l P => ?_)
  refine pm_aload_n (pc := 0) dX9_film_0 rfl ?_
  refine pm_iload_n (pc := 1) dX9_film_1 rfl ?_
  refine pm_cVA (pc := 2) dX9_film_2 (c_sheetAtN hq) wq_X9_sheetAt wm_X9_204 wi_X9_sheetAt ws_X9_sheetAt rfl rfl ⟨Nat.le_of_ble_eq_true rfl, Nat.le_of_ble_eq_true rfl⟩ ⟨Nat.le_of_ble_eq_true rfl, Nat.le_of_ble_eq_true rfl⟩ rfl (Nat.le_of_ble_eq_true rfl) ?_
  refine pm_astoreN (pc := 5) dX9_film_5 (by decide) rfl ?_
  refine pm_aloadN (pc := 7) dX9_film_7 rfl ?_
  refine pm_ifnullN (x := 0) (pc := 9) (tgt := 19) dX9_film_9 rfl ?_
  refine pm_iconst (pc := 19) (v := (-1)) dX9_film_19 (by decide) ?_
  refine pm_iret (pc := 20) rfl (Nat.le_refl _) (Nat.le_refl _) dX9_film_20 ?_
  rw [show sp_film X q b i = (-1, X) from if_pos (fun z => hq z.1)]
  exact XQ.r rfl hR xF.rf
set_option maxRecDepth 100000 in
set_option maxHeartbeats 800000 in
theorem x_filmV {I : pm_I} {L : pm_L} {X : xS} (hR : XR I L X) (hX : xInv X) {s : Nat} (hs : s < 4) {b i : Int32} : PC 3 0 0 yX9_film cX9_film 7 (some (.int)) [.ref 0, .int (nI s), .int b, .int i] GG I L (XQ I L (sp_film X (nI s) b i).1 (sp_film X (nI s) b i).2) := by
  have hG := hR.1
  have hI := hX.s
  have h12 := hI.n12
  have hS := (hR.2.2.2 s hs).1
  have ho := hX.2.2.2 s hs
  refine PC.of [some (.ref 0), some (.int (nI s)), some (.int b), some (.int i), none, none, none] (by decide) (Nat.le_of_ble_eq_true rfl) rfl (fun l P => ?_)
  refine pm_aload_n (pc := 0) dX9_film_0 rfl ?_
  refine pm_iload_n (pc := 1) dX9_film_1 rfl ?_
  refine pm_cVA (pc := 2) dX9_film_2 (c_sheetAt hs) wq_X9_sheetAt wm_X9_204 wi_X9_sheetAt ws_X9_sheetAt rfl rfl ⟨Nat.le_of_ble_eq_true rfl, Nat.le_of_ble_eq_true rfl⟩ ⟨Nat.le_of_ble_eq_true rfl, Nat.le_of_ble_eq_true rfl⟩ rfl (Nat.le_of_ble_eq_true rfl) ?_
  refine pm_astore (pc := 5) dX9_film_5 (by decide) rfl ?_
  refine pm_aload (pc := 7) dX9_film_7 rfl ?_
  refine pm_ifnull (pc := 9) dX9_film_9 ?_
  refine pm_iload_n (pc := 12) dX9_film_12 rfl ?_
  refine pm_cSR (pc := 13) dX9_film_13 (c_isLane) wq_X9_isLane wm_X9_208 wt_X9_isLane ⟨Nat.le_of_ble_eq_true rfl, Nat.le_of_ble_eq_true rfl⟩ ⟨Nat.le_of_ble_eq_true rfl, Nat.le_of_ble_eq_true rfl⟩ rfl (Nat.le_of_ble_eq_true rfl) ?_
  refine pm_if_ne (pc := 16) (tgt := 21) dX9_film_16 rfl (fun h16 => ?_) (fun h16 => ?_)
  · obtain ⟨b, hb, rfl⟩ := la_of (b1_nt h16)
    refine pm_aload (pc := 21) dX9_film_21 rfl ?_
    refine pm_iload_n (pc := 23) dX9_film_23 rfl ?_
    refine pm_iload_n (pc := 24) dX9_film_24 rfl ?_
    refine pm_bipush (pc := 25) (v := nI 6) dX9_film_25 (by decide) ?_
    refine pm_cVR (pc := 27) dX9_film_27 (c_refusal hs hS ho hb) wq_X5_refusal wm_X9_211 wi_X5_refusal ws_X5_refusal (gg_sheet hs) rfl ⟨Nat.le_of_ble_eq_true rfl, Nat.le_of_ble_eq_true rfl⟩ ⟨Nat.le_of_ble_eq_true rfl, Nat.le_of_ble_eq_true rfl⟩ rfl (Nat.le_of_ble_eq_true rfl) ?_
    refine pm_istore (pc := 30) dX9_film_30 (by decide) rfl ?_
    refine pm_iload (pc := 32) dX9_film_32 rfl ?_
    refine pm_if_eq (pc := 34) (tgt := 40) dX9_film_34 rfl (fun h34 => ?_) (fun h34 => ?_)
    · obtain ⟨e, he, hr⟩ := refuse_0 h34
      have he2 := (ho b e he).2
      obtain ⟨j, hj, rfl⟩ := row_of he2 (by decide) hr
      have hS1 : I (32 + 2 * s) 1 = nI b := by rw [he] at hS; exact hS.1
      refine pm_iconst (pc := 40) (v := nI 0) dX9_film_40 (by decide) ?_
      refine pm_istore (pc := 41) dX9_film_41 (by decide) rfl ?_
      have k9 := l_film hR hX hs hb (j := j) (by omega) hS1 (Q := XQ I L (sp_film X (nI s) (nI b) (nI j)).1 (sp_film X (nI s) (nI b) (nI j)).2) ?_ 6 0 (by omega) (l := l) (P := P) (z5 := refuse (x_s X s) b (nI j) (nI 6))
      · refine pm_eq rfl rfl rfl rfl ?_ k9
        exact (pm_uu L (33 + 2 * s)).symm
      rw [sp_film_t hs hb (by omega) h34]
      have k := hR.sh hs (I' := I) (L' := pm_u L (33 + 2 * s) (r_film (x_g X) b j (L (33 + 2 * s)) 6)) (f := r_film (x_g X) b j (x_r X s) 6) (o := x_s X s) (fun a ha => rfl) hS (fun a ha => pm_un ha) (fun k hk => by rw [pm_us]; exact r_film_congr (fun k hk => (hR.2.2.2 s hs).2 k hk) 6 k hk)
      exact XQ.r rfl k.1 k.2
    · refine pm_iload (pc := 37) dX9_film_37 rfl ?_
      refine pm_iret (pc := 39) rfl (Nat.le_refl _) (Nat.le_refl _) dX9_film_39 ?_
      rw [sp_film_b hs hb h34]
      exact XQ.r rfl hR xF.rf
  · refine pm_iconst (pc := 19) (v := (-1)) dX9_film_19 (by decide) ?_
    refine pm_iret (pc := 20) rfl (Nat.le_refl _) (Nat.le_refl _) dX9_film_20 ?_
    rw [show sp_film X (nI s) b i = (-1, X) from if_pos (fun z => b1_nf h16 z.2)]
    exact XQ.r rfl hR xF.rf
set_option maxRecDepth 100000 in
theorem x_film {I : pm_I} {L : pm_L} {X : xS} (hR : XR I L X) (hX : xInv X) {q : Int32} {b i : Int32} : PC 3 0 0 yX9_film cX9_film 7 (some (.int)) [.ref 0, .int q, .int b, .int i] GG I L (XQ I L (sp_film X q b i).1 (sp_film X q b i).2) := by
  by_cases hq : iR q 0 3
  · obtain ⟨s, hs, rfl⟩ := sh_of hq
    exact x_filmV hR hX hs
  · exact x_filmN hR hX hq
set_option maxRecDepth 100000 in
set_option maxHeartbeats 800000 in
theorem x_copyNN {I : pm_I} {L : pm_L} {X : xS} (hR : XR I L X) (hX : xInv X) {q p i j n : Int32} (hq : ¬ iR q 0 3) (hp : ¬ iR p 0 3) : PC 2 0 0 yX9_copy cX9_copy 8 (some (.int)) [.ref 0, .int q, .int i, .int p, .int j, .int n] GG I L (XQ I L (sp_copy X q i p j n).1 (sp_copy X q i p j n).2) := by
  refine PC.of [some (.ref 0), some (.int q), some (.int i), some (.int p), some (.int j), some (.int n), none, none] (by decide) (Nat.le_of_ble_eq_true rfl) rfl (fun l P => ?_)
  refine pm_aload_n (pc := 0) dX9_copy_0 rfl ?_
  refine pm_iload_n (pc := 1) dX9_copy_1 rfl ?_
  refine pm_cVA (pc := 2) dX9_copy_2 (c_sheetAtN hq) wq_X9_sheetAt wm_X9_204 wi_X9_sheetAt ws_X9_sheetAt rfl rfl ⟨Nat.le_of_ble_eq_true rfl, Nat.le_of_ble_eq_true rfl⟩ ⟨Nat.le_of_ble_eq_true rfl, Nat.le_of_ble_eq_true rfl⟩ rfl (Nat.le_of_ble_eq_true rfl) ?_
  refine pm_astoreN (pc := 5) dX9_copy_5 (by decide) rfl ?_
  refine pm_aload_n (pc := 7) dX9_copy_7 rfl ?_
  refine pm_iload_n (pc := 8) dX9_copy_8 rfl ?_
  refine pm_cVA (pc := 9) dX9_copy_9 (c_sheetAtN hp) wq_X9_sheetAt wm_X9_204 wi_X9_sheetAt ws_X9_sheetAt rfl rfl ⟨Nat.le_of_ble_eq_true rfl, Nat.le_of_ble_eq_true rfl⟩ ⟨Nat.le_of_ble_eq_true rfl, Nat.le_of_ble_eq_true rfl⟩ rfl (Nat.le_of_ble_eq_true rfl) ?_
  refine pm_astoreN (pc := 12) dX9_copy_12 (by decide) rfl ?_
  refine pm_aloadN (pc := 14) dX9_copy_14 rfl ?_
  refine pm_ifnullN (x := 0) (pc := 16) (tgt := 24) dX9_copy_16 rfl ?_
  refine pm_iconst (pc := 24) (v := (-1)) dX9_copy_24 (by decide) ?_
  refine pm_iret (pc := 25) rfl (Nat.le_refl _) (Nat.le_refl _) dX9_copy_25 ?_
  rw [show sp_copy X q i p j n = (-1, X) from if_pos (fun z => hq z.1)]
  exact XQ.r rfl hR xF.rf
set_option maxRecDepth 100000 in
set_option maxHeartbeats 800000 in
theorem x_copyNV {I : pm_I} {L : pm_L} {X : xS} (hR : XR I L X) (hX : xInv X) {q i j n : Int32} {t : Nat} (hq : ¬ iR q 0 3) (ht : t < 4) : PC 2 0 0 yX9_copy cX9_copy 8 (some (.int)) [.ref 0, .int q, .int i, .int (nI t), .int j, .int n] GG I L (XQ I L (sp_copy X q i (nI t) j n).1 (sp_copy X q i (nI t) j n).2) := by
  refine PC.of [some (.ref 0), some (.int q), some (.int i), some (.int (nI t)), some (.int j), some (.int n), none, none] (by decide) (Nat.le_of_ble_eq_true rfl) rfl (fun l P => ?_)
  refine pm_aload_n (pc := 0) dX9_copy_0 rfl ?_
  refine pm_iload_n (pc := 1) dX9_copy_1 rfl ?_
  refine pm_cVA (pc := 2) dX9_copy_2 (c_sheetAtN hq) wq_X9_sheetAt wm_X9_204 wi_X9_sheetAt ws_X9_sheetAt rfl rfl ⟨Nat.le_of_ble_eq_true rfl, Nat.le_of_ble_eq_true rfl⟩ ⟨Nat.le_of_ble_eq_true rfl, Nat.le_of_ble_eq_true rfl⟩ rfl (Nat.le_of_ble_eq_true rfl) ?_
  refine pm_astoreN (pc := 5) dX9_copy_5 (by decide) rfl ?_
  refine pm_aload_n (pc := 7) dX9_copy_7 rfl ?_
  refine pm_iload_n (pc := 8) dX9_copy_8 rfl ?_
  refine pm_cVA (pc := 9) dX9_copy_9 (c_sheetAt ht) wq_X9_sheetAt wm_X9_204 wi_X9_sheetAt ws_X9_sheetAt rfl rfl ⟨Nat.le_of_ble_eq_true rfl, Nat.le_of_ble_eq_true rfl⟩ ⟨Nat.le_of_ble_eq_true rfl, Nat.le_of_ble_eq_true rfl⟩ rfl (Nat.le_of_ble_eq_true rfl) ?_
  refine pm_astore (pc := 12) dX9_copy_12 (by decide) rfl ?_
  refine pm_aloadN (pc := 14) dX9_copy_14 rfl ?_
  refine pm_ifnullN (x := 0) (pc := 16) (tgt := 24) dX9_copy_16 rfl ?_
  refine pm_iconst (pc := 24) (v := (-1)) dX9_copy_24 (by decide) ?_
  refine pm_iret (pc := 25) rfl (Nat.le_refl _) (Nat.le_refl _) dX9_copy_25 ?_
  rw [show sp_copy X q i (nI t) j n = (-1, X) from if_pos (fun z => hq z.1)]
  exact XQ.r rfl hR xF.rf
set_option maxRecDepth 100000 in
set_option maxHeartbeats 800000 in
theorem x_copyVN {I : pm_I} {L : pm_L} {X : xS} (hR : XR I L X) (hX : xInv X) {p i j n : Int32} {s : Nat} (hs : s < 4) (hp : ¬ iR p 0 3) : PC 2 0 0 yX9_copy cX9_copy 8 (some (.int)) [.ref 0, .int (nI s), .int i, .int p, .int j, .int n] GG I L (XQ I L (sp_copy X (nI s) i p j n).1 (sp_copy X (nI s) i p j n).2) := by
  refine PC.of [some (.ref 0), some (.int (nI s)), some (.int i), some (.int p), some (.int j), some (.int n), none, none] (by decide) (Nat.le_of_ble_eq_true rfl) rfl (fun l P => ?_)
  refine pm_aload_n (pc := 0) dX9_copy_0 rfl ?_
  refine pm_iload_n (pc := 1) dX9_copy_1 rfl ?_
  refine pm_cVA (pc := 2) dX9_copy_2 (c_sheetAt hs) wq_X9_sheetAt wm_X9_204 wi_X9_sheetAt ws_X9_sheetAt rfl rfl ⟨Nat.le_of_ble_eq_true rfl, Nat.le_of_ble_eq_true rfl⟩ ⟨Nat.le_of_ble_eq_true rfl, Nat.le_of_ble_eq_true rfl⟩ rfl (Nat.le_of_ble_eq_true rfl) ?_
  refine pm_astore (pc := 5) dX9_copy_5 (by decide) rfl ?_
  refine pm_aload_n (pc := 7) dX9_copy_7 rfl ?_
  refine pm_iload_n (pc := 8) dX9_copy_8 rfl ?_
  refine pm_cVA (pc := 9) dX9_copy_9 (c_sheetAtN hp) wq_X9_sheetAt wm_X9_204 wi_X9_sheetAt ws_X9_sheetAt rfl rfl ⟨Nat.le_of_ble_eq_true rfl, Nat.le_of_ble_eq_true rfl⟩ ⟨Nat.le_of_ble_eq_true rfl, Nat.le_of_ble_eq_true rfl⟩ rfl (Nat.le_of_ble_eq_true rfl) ?_
  refine pm_astoreN (pc := 12) dX9_copy_12 (by decide) rfl ?_
  refine pm_aload (pc := 14) dX9_copy_14 rfl ?_
  refine pm_ifnull (pc := 16) dX9_copy_16 ?_
  refine pm_aloadN (pc := 19) dX9_copy_19 rfl ?_
  refine pm_ifnonnullN (pc := 21) dX9_copy_21 ?_
  refine pm_iconst (pc := 24) (v := (-1)) dX9_copy_24 (by decide) ?_
  refine pm_iret (pc := 25) rfl (Nat.le_refl _) (Nat.le_refl _) dX9_copy_25 ?_
  rw [show sp_copy X (nI s) i p j n = (-1, X) from if_pos (fun z => hp z.2)]
  exact XQ.r rfl hR xF.rf
set_option maxRecDepth 100000 in
set_option maxHeartbeats 800000 in
theorem x_copyVV {I : pm_I} {L : pm_L} {X : xS} (hR : XR I L X) (hX : xInv X) {i j n : Int32} {s t : Nat} (hs : s < 4) (ht : t < 4) : PC 2 0 0 yX9_copy cX9_copy 8 (some (.int)) [.ref 0, .int (nI s), .int i, .int (nI t), .int j, .int n] GG I L (XQ I L (sp_copy X (nI s) i (nI t) j n).1 (sp_copy X (nI s) i (nI t) j n).2) := by
  have hG := hR.1
  have hI := hX.s
  have h12 := hI.n12
  have hS := (hR.2.2.2 s hs).1
  have ho := hX.2.2.2 s hs
  have hT := (hR.2.2.2 t ht).1
  have ht2 := hX.2.2.2 t ht
  refine PC.of [some (.ref 0), some (.int (nI s)), some (.int i), some (.int (nI t)), some (.int j), some (.int n), none, none] (by decide) (Nat.le_of_ble_eq_true rfl) rfl (fun l P => ?_)
  refine pm_aload_n (pc := 0) dX9_copy_0 rfl ?_
  refine pm_iload_n (pc := 1) dX9_copy_1 rfl ?_
  refine pm_cVA (pc := 2) dX9_copy_2 (c_sheetAt hs) wq_X9_sheetAt wm_X9_204 wi_X9_sheetAt ws_X9_sheetAt rfl rfl ⟨Nat.le_of_ble_eq_true rfl, Nat.le_of_ble_eq_true rfl⟩ ⟨Nat.le_of_ble_eq_true rfl, Nat.le_of_ble_eq_true rfl⟩ rfl (Nat.le_of_ble_eq_true rfl) ?_
  refine pm_astore (pc := 5) dX9_copy_5 (by decide) rfl ?_
  refine pm_aload_n (pc := 7) dX9_copy_7 rfl ?_
  refine pm_iload_n (pc := 8) dX9_copy_8 rfl ?_
  refine pm_cVA (pc := 9) dX9_copy_9 (c_sheetAt ht) wq_X9_sheetAt wm_X9_204 wi_X9_sheetAt ws_X9_sheetAt rfl rfl ⟨Nat.le_of_ble_eq_true rfl, Nat.le_of_ble_eq_true rfl⟩ ⟨Nat.le_of_ble_eq_true rfl, Nat.le_of_ble_eq_true rfl⟩ rfl (Nat.le_of_ble_eq_true rfl) ?_
  refine pm_astore (pc := 12) dX9_copy_12 (by decide) rfl ?_
  refine pm_aload (pc := 14) dX9_copy_14 rfl ?_
  refine pm_ifnull (pc := 16) dX9_copy_16 ?_
  refine pm_aload (pc := 19) dX9_copy_19 rfl ?_
  refine pm_ifnonnull (pc := 21) (tgt := 26) dX9_copy_21 rfl ?_
  refine pm_aload (pc := 26) dX9_copy_26 rfl ?_
  refine pm_cVR (pc := 28) dX9_copy_28 (c_holds_ hs hS ho) wq_X5_holdsRow wm_X9_247 wi_X5_holdsRow ws_X5_holdsRow (gg_sheet hs) rfl ⟨Nat.le_of_ble_eq_true rfl, Nat.le_of_ble_eq_true rfl⟩ ⟨Nat.le_of_ble_eq_true rfl, Nat.le_of_ble_eq_true rfl⟩ rfl (Nat.le_of_ble_eq_true rfl) ?_
  refine pm_if_eq (pc := 31) (tgt := 42) dX9_copy_31 rfl (fun h31 => ?_) (fun h31 => ?_)
  · have he : x_s X s = none := by
      cases hz : x_s X s with
      | none => rfl
      | some e => rw [hz] at h31; exact absurd (show (some e).isSome = true from rfl) (b1_nf h31)
    refine pm_bipush (pc := 42) (v := (-11)) dX9_copy_42 (by decide) ?_
    refine pm_iret (pc := 44) rfl (Nat.le_refl _) (Nat.le_refl _) dX9_copy_44 ?_
    first | (rw [sp_copy_n hs ht (Or.inl he)]; exact XQ.r rfl hR xF.rf) | (rw [sp_copy_n hs ht (Or.inr he)]; exact XQ.r rfl hR xF.rf)
  · obtain ⟨e, he⟩ := Option.isSome_iff_exists.mp (b1_nt h31)
    have he2 := ho e.1 e.2 he
    have hS1 : I (32 + 2 * s) 1 = nI e.1 := by rw [he] at hS; exact hS.1
    have hS2 : I (32 + 2 * s) 2 = nI e.2 := by rw [he] at hS; exact hS.2
    refine pm_aload (pc := 34) dX9_copy_34 rfl ?_
    refine pm_cVR (pc := 36) dX9_copy_36 (c_holds_ ht hT ht2) wq_X5_holdsRow wm_X9_247 wi_X5_holdsRow ws_X5_holdsRow (gg_sheet ht) rfl ⟨Nat.le_of_ble_eq_true rfl, Nat.le_of_ble_eq_true rfl⟩ ⟨Nat.le_of_ble_eq_true rfl, Nat.le_of_ble_eq_true rfl⟩ rfl (Nat.le_of_ble_eq_true rfl) ?_
    refine pm_if_ne (pc := 39) (tgt := 45) dX9_copy_39 rfl (fun h39 => ?_) (fun h39 => ?_)
    · obtain ⟨f, hf⟩ := Option.isSome_iff_exists.mp (b1_nt h39)
      have hf2 := ht2 f.1 f.2 hf
      have hT1 : I (32 + 2 * t) 1 = nI f.1 := by rw [hf] at hT; exact hT.1
      have hT2 : I (32 + 2 * t) 2 = nI f.2 := by rw [hf] at hT; exact hT.2
      have heq : nI f.1 = nI e.1 ↔ f.1 = e.1 := nI_eq (by omega) (by omega)
      rw [sp_copy_s hs ht he hf]
      refine pm_aload (pc := 45) dX9_copy_45 rfl ?_
      refine pm_aload (pc := 47) dX9_copy_47 rfl ?_
      refine pm_cVR (pc := 49) dX9_copy_49 (c_isOfLane ht hs) wq_X5_isOfLane wm_X9_254 wi_X5_isOfLane ws_X5_isOfLane (gg_sheet ht) rfl ⟨Nat.le_of_ble_eq_true rfl, Nat.le_of_ble_eq_true rfl⟩ ⟨Nat.le_of_ble_eq_true rfl, Nat.le_of_ble_eq_true rfl⟩ rfl (Nat.le_of_ble_eq_true rfl) ?_
      refine pm_if_ne (pc := 52) (tgt := 58) dX9_copy_52 rfl (fun h52 => ?_) (fun h52 => ?_)
      · refine pm_aload (pc := 58) dX9_copy_58 rfl ?_
        refine pm_iload_n (pc := 60) dX9_copy_60 rfl ?_
        refine pm_iload (pc := 61) dX9_copy_61 rfl ?_
        refine pm_cVR (pc := 63) dX9_copy_63 (c_hasItems hs hS2 he2.2) wq_X5_hasItems wm_X9_258 wi_X5_hasItems ws_X5_hasItems (gg_sheet hs) rfl ⟨Nat.le_of_ble_eq_true rfl, Nat.le_of_ble_eq_true rfl⟩ ⟨Nat.le_of_ble_eq_true rfl, Nat.le_of_ble_eq_true rfl⟩ rfl (Nat.le_of_ble_eq_true rfl) ?_
        refine pm_if_eq (pc := 66) (tgt := 81) dX9_copy_66 rfl (fun h66 => ?_) (fun h66 => ?_)
        · refine pm_bipush (pc := 81) (v := (-13)) dX9_copy_81 (by decide) ?_
          refine pm_iret (pc := 83) rfl (Nat.le_refl _) (Nat.le_refl _) dX9_copy_83 ?_
          rw [if_neg (not_not_intro (heq.mp (by rw [← hS1, ← hT1]; exact b1_nt h52)).symm), if_neg (fun z => by first | exact b1_nf h66 z.1 | exact b1_nf h78 z.2)]
          exact XQ.r rfl hR xF.rf
        · refine pm_aload (pc := 69) dX9_copy_69 rfl ?_
          refine pm_iload (pc := 71) dX9_copy_71 rfl ?_
          refine pm_iload (pc := 73) dX9_copy_73 rfl ?_
          refine pm_cVR (pc := 75) dX9_copy_75 (c_hasItems ht hT2 hf2.2) wq_X5_hasItems wm_X9_258 wi_X5_hasItems ws_X5_hasItems (gg_sheet ht) rfl ⟨Nat.le_of_ble_eq_true rfl, Nat.le_of_ble_eq_true rfl⟩ ⟨Nat.le_of_ble_eq_true rfl, Nat.le_of_ble_eq_true rfl⟩ rfl (Nat.le_of_ble_eq_true rfl) ?_
          refine pm_if_ne (pc := 78) (tgt := 84) dX9_copy_78 rfl (fun h78 => ?_) (fun h78 => ?_)
          · refine pm_aload (pc := 84) dX9_copy_84 rfl ?_
            refine pm_iload (pc := 86) dX9_copy_86 rfl ?_
            refine pm_aload (pc := 88) dX9_copy_88 rfl ?_
            refine pm_iload_n (pc := 90) dX9_copy_90 rfl ?_
            refine pm_iload (pc := 91) dX9_copy_91 rfl ?_
            refine pm_cVV (pc := 93) dX9_copy_93 (c_takeItems hs ht hS2 he2.2 hT2 hf2.2 (b1_nt h66) (b1_nt h78)) wq_X5_takeItems wm_X9_261 wi_X5_takeItems ws_X5_takeItems (gg_sheet ht) rfl ⟨Nat.le_of_ble_eq_true rfl, Nat.le_of_ble_eq_true rfl⟩ ⟨Nat.le_of_ble_eq_true rfl, Nat.le_of_ble_eq_true rfl⟩ rfl (Nat.le_of_ble_eq_true rfl) (fun I93 L93 q93 => ?_)
            obtain ⟨q1, q2⟩ := q93
            subst q1 q2
            refine pm_iload (pc := 96) dX9_copy_96 rfl ?_
            refine pm_iret (pc := 98) rfl (Nat.le_refl _) (Nat.le_refl _) dX9_copy_98 ?_
            rw [if_neg (not_not_intro (heq.mp (by rw [← hS1, ← hT1]; exact b1_nt h52)).symm), if_pos ⟨b1_nt h66, b1_nt h78⟩]
            have k := hR.sh ht (I' := I93) (L' := pm_u L (33 + 2 * t) (va_cpy (L (33 + 2 * s)) (L (33 + 2 * t)) (nt i) (nt j) (nt n))) (f := va_cpy (x_r X s) (x_r X t) (nt i) (nt j) (nt n)) (o := some f) (fun a ha => rfl) ⟨hT1, hT2⟩ (fun a ha => pm_un ha) (fun k hk => by
              rw [pm_us]
              have z := b1_nt h66
              unfold va_cpy nt
              by_cases e : j.toInt.toNat ≤ k ∧ k < j.toInt.toNat + n.toInt.toNat
              · rw [if_pos e, if_pos e]; exact (hR.2.2.2 s hs).2 _ (by have z1 := z.1; have z2 := z.2.1; have z3 := z.2.2; omega)
              · rw [if_neg e, if_neg e]; exact (hR.2.2.2 t ht).2 _ hk)
            exact XQ.r rfl k.1 k.2
          · refine pm_bipush (pc := 81) (v := (-13)) dX9_copy_81 (by decide) ?_
            refine pm_iret (pc := 83) rfl (Nat.le_refl _) (Nat.le_refl _) dX9_copy_83 ?_
            rw [if_neg (not_not_intro (heq.mp (by rw [← hS1, ← hT1]; exact b1_nt h52)).symm), if_neg (fun z => by first | exact b1_nf h66 z.1 | exact b1_nf h78 z.2)]
            exact XQ.r rfl hR xF.rf
      · refine pm_bipush (pc := 55) (v := (-12)) dX9_copy_55 (by decide) ?_
        refine pm_iret (pc := 57) rfl (Nat.le_refl _) (Nat.le_refl _) dX9_copy_57 ?_
        rw [if_pos (fun z => b1_nf h52 (by rw [hS1, hT1]; exact heq.mpr z.symm))]
        exact XQ.r rfl hR xF.rf
    · have he : x_s X t = none := by
        cases hz : x_s X t with
        | none => rfl
        | some e => rw [hz] at h39; exact absurd (show (some e).isSome = true from rfl) (b1_nf h39)
      refine pm_bipush (pc := 42) (v := (-11)) dX9_copy_42 (by decide) ?_
      refine pm_iret (pc := 44) rfl (Nat.le_refl _) (Nat.le_refl _) dX9_copy_44 ?_
      first | (rw [sp_copy_n hs ht (Or.inl he)]; exact XQ.r rfl hR xF.rf) | (rw [sp_copy_n hs ht (Or.inr he)]; exact XQ.r rfl hR xF.rf)
set_option maxRecDepth 100000 in
theorem x_copy {I : pm_I} {L : pm_L} {X : xS} (hR : XR I L X) (hX : xInv X) {q i p j n : Int32} : PC 2 0 0 yX9_copy cX9_copy 8 (some (.int)) [.ref 0, .int q, .int i, .int p, .int j, .int n] GG I L (XQ I L (sp_copy X q i p j n).1 (sp_copy X q i p j n).2) := by
  by_cases hq : iR q 0 3
  · obtain ⟨s, hs, rfl⟩ := sh_of hq
    by_cases hp : iR p 0 3
    · obtain ⟨t, ht, rfl⟩ := sh_of hp
      exact x_copyVV hR hX hs ht
    · exact x_copyVN hR hX hs hp
  · by_cases hp : iR p 0 3
    · obtain ⟨t, ht, rfl⟩ := sh_of hp
      exact x_copyNV hR hX hq ht
    · exact x_copyNN hR hX hq hp
