def h_v : Option (List Nat) → Int32
  | none => nI 0
  | some _ => nI 1
theorem h_v0 {T : Option (List Nat)} : h_v T = 0 ↔ T = none := by
  cases T with
  | none => exact ⟨fun _ => rfl, fun _ => rfl⟩
  | some q => exact ⟨fun z => absurd z (by show ¬ nI 1 = 0; decide), fun z => absurd z (by simp)⟩
theorem h_vz (T : Option (List Nat)) : narrow .boolean (.int (h_v T)) = .int (h_v T) := by
  cases T with
  | none => show narrow .boolean (.int (nI 0)) = .int (nI 0); decide
  | some q => show narrow .boolean (.int (nI 1)) = .int (nI 1); decide
def h_lt (i : Nat) (r : Nat) (s : gS) (c : Nat) : Option (List Nat) := match r with
  | 0 => if h_V s c then some [] else none
  | r + 1 => if h_V s c then h_f i r (s_do s c) else none
theorem h_lt_V {i r : Nat} {s : gS} {c : Nat} (h : ¬ h_V s c) : h_lt i r s c = none := by
  cases r <;> exact if_neg h
/-- the pieces as they were, the row filled from depth on -/
def h_K (s : gS) (depth : Nat) (I J : pm_I) : Prop := GR J 1 s ∧ (∀ a : Nat, (a = 0 ∨ 9 ≤ a) → a ≠ 18 → J a = I a) ∧ ∀ k, k < depth → J 18 k = I 18 k
def h_R (s : gS) (depth : Nat) (I J : pm_I) (T : Option (List Nat)) : Prop := h_K s depth I J ∧ ∀ q, T = some q → ∀ k, k < q.length → J 18 (depth + k) = nI (q.getD k 0)
theorem h_K.rf {s : gS} {depth : Nat} {I : pm_I} (h : GR I 1 s) : h_K s depth I I := ⟨h, fun _ _ _ => rfl, fun _ _ => rfl⟩
theorem h_K.tr {s : gS} {depth : Nat} {I J J' : pm_I} (h : h_K s depth I J) (h2 : h_K s depth J J') : h_K s depth I J' := ⟨h2.1, fun a ha hb => (h2.2.1 a ha hb).trans (h.2.1 a ha hb), fun k hk => (h2.2.2 k hk).trans (h.2.2 k hk)⟩
theorem h_K.dn {s : gS} {d e : Nat} {I J : pm_I} (h : h_K s e I J) (hd : d ≤ e) : h_K s d I J := ⟨h.1, h.2.1, fun k hk => h.2.2 k (by omega)⟩
theorem h_K.row {s : gS} {depth : Nat} {I J : pm_I} (h : h_K s depth I J) (x : Int32) : h_K s depth I (pm_u J 18 (upd (J 18) depth x)) ∧ pm_u J 18 (upd (J 18) depth x) 18 depth = x := by
  refine ⟨⟨h.1.e (fun a h1 h2 => pm_un (by omega)), fun a ha hb => (pm_un hb).trans (h.2.1 a ha hb), fun k hk => ?_⟩, ?_⟩
  · rw [pm_us]
    show (if k = depth then x else J 18 k) = I 18 k
    rw [if_neg (by omega)]; exact h.2.2 k hk
  · rw [pm_us]
    show (if depth = depth then x else J 18 depth) = x
    rw [if_pos rfl]
theorem h_R.none {s : gS} {depth : Nat} {I J : pm_I} (h : h_K s depth I J) : h_R s depth I J none := ⟨h, fun q hq => absurd hq (by simp)⟩
theorem h_R.cons {s : gS} {depth c : Nat} {I J J' : pm_I} {t : List Nat} (h : h_K s depth I J) (h1 : J 18 depth = nI c) (h2 : h_R s (depth + 1) J J' (some t)) : h_R s depth I J' (some (c :: t)) := by
  refine ⟨h.tr (h2.1.dn (by omega)), fun q hq k hk => ?_⟩
  rw [← Option.some.inj hq] at hk ⊢
  cases k with
  | zero => rw [Nat.add_zero, h2.1.2.2 depth (by omega), h1]; rfl
  | succ k =>
    have := h2.2 t rfl k (by simpa using hk)
    rw [show depth + (k + 1) = depth + 1 + k by omega, this]; rfl
def h_bk (c x : Nat) : Nat := if a_h c = 0 then 1000 * 1 + 100 * a_p c + x else if a_h c = 1 then 1000 * 0 + 100 * a_p c + 0 else if a_h c = 2 then 1000 * 2 + 100 * a_p c + x else 1000 * 3 + 100 * a_o c + a_p c
abbrev h_hp (how a left : Nat) : Prop := (left = 1 ∧ a = 1 ∧ (how = 0 ∨ how = 2)) ∨ (left ≠ 1 ∧ (2 < left ∨ how = 0 ∨ how = 2 ∨ how = 3 ∧ a = 1))
def h_ot (s : gS) (how : Nat) : Nat := if how = 0 then 1 else if how = 3 then 6 else g_n s
theorem h_ot12 {s : gS} (h12 : g_n s ≤ 12) (how : Nat) : h_ot s how ≤ 12 := by
  unfold h_ot
  split
  · decide
  · split
    · decide
    · exact h12
/-- what can't help -/
theorem h_pr {s : gS} (hI : gInv s) {i r c a : Nat} (hi : i < g_n s) (hw : g_wh s i < 6) (hr : r ≤ 2) (hN : ∀ q, q < r → h_f i q s = none) (ha : a = 1 ↔ a_p c = g_wh s i) (hh : ¬ h_hp (a_h c) a (r + 1)) : h_at i r s c = none := by
  by_cases v : h_V s c
  · have h4 := v.1
    rcases (show r = 0 ∨ r = 1 ∨ r = 2 by omega) with e | e | e
    · subst e
      refine h_at_0 (fun z => hh (Or.inl ⟨rfl, ha.mpr z.2.2.2.1, z.2.1⟩))
    · subst e
      rw [h_at_s v]
      refine h_help hI hi hw (hN 0 (by decide)) v ?_
      rcases (show a_h c = 0 ∨ a_h c = 1 ∨ a_h c = 2 ∨ a_h c = 3 by omega) with e | e | e | e
      · exact absurd (Or.inr ⟨by decide, Or.inr (Or.inl e)⟩) hh
      · exact Or.inl e
      · exact absurd (Or.inr ⟨by decide, Or.inr (Or.inr (Or.inl e))⟩) hh
      · exact Or.inr ⟨e, fun z => hh (Or.inr ⟨by decide, Or.inr (Or.inr (Or.inr ⟨e, ha.mpr z⟩))⟩)⟩
    · subst e
      exact absurd (Or.inr ⟨by decide, Or.inl (by decide)⟩) hh
  · exact h_at_V v
theorem h_hi {s : gS} {how c : Nat} (h : a_h c = how) (ho : h_ot s how ≤ a_o c) : ¬ h_V s c := fun v => by
  have h4 := v.1
  unfold h_ot at ho
  rcases (show how = 0 ∨ how = 1 ∨ how = 2 ∨ how = 3 by omega) with e | e | e | e
  · rw [if_pos e] at ho
    have := v.2.2.2.2.1 (by omega); omega
  · rw [if_neg (by omega), if_neg (by omega)] at ho
    have := v.2.2.1 (by omega); omega
  · rw [if_neg (by omega), if_neg (by omega)] at ho
    have := v.2.2.1 (by omega); omega
  · rw [if_neg (by omega), if_pos e] at ho
    have := (v.2.2.2.1 (by omega)).1; omega
/-- the codes of one place: how, where, other -/
theorem h_at2 {how w c oth : Nat} (hw : w < 6) (h1 : 1000 * how + 100 * w + oth ≤ c) (h2 : c < 1000 * how + 100 * (w + 1)) : a_h c = how ∧ a_p c = w ∧ oth ≤ a_o c := by
  show c / 1000 = how ∧ c / 100 % 10 = w ∧ oth ≤ c % 100
  omega
theorem h_okc {s : gS} {how w o : Nat} (h12 : g_n s ≤ 12) (hh : how < 4) (hw : w < 6) (ho : o < h_ot s how) (hne : how = 3 → o ≠ w) : a_ok s (1000 * how + 100 * w + o) ∧ (a_h (1000 * how + 100 * w + o) = 0 → a_o (1000 * how + 100 * w + o) = 0) := by
  have hl := h_ot12 h12 how
  obtain ⟨k1, k2, k3⟩ := h_code (h := how) (p := w) (o := o) (by omega) (by omega)
  unfold h_ot at ho
  refine ⟨⟨by omega, by omega, fun z => ?_, fun z => ?_⟩, fun z => ?_⟩
  · rw [if_neg (by omega), if_neg (by omega)] at ho; omega
  · rw [if_neg (by omega), if_pos (by omega)] at ho
    have := hne (by omega); omega
  · rw [if_pos (by omega)] at ho; omega
theorem h_ltB {s : gS} {i a how c : Nat} (hp : h_hp how a 1) (hw : g_wh s i < 6) (ht : g_top s (g_wh s i) = i) (h1 : a_h c = how) (ha : a = 1 ↔ a_p c = g_wh s i) : h_lt i 0 s c = h_at i 0 s c := by
  have hp2 : a = 1 ∧ (how = 0 ∨ how = 2) := by
    rcases hp with z | z
    · exact z.2
    · exact absurd rfl z.1
  by_cases v : h_V s c
  · rw [show h_lt i 0 s c = some [] from if_pos v, h_at_1 ⟨v, by rw [h1]; exact hp2.2, hw, ha.mp hp2.1, ht⟩]
  · rw [h_lt_V v, h_at_V v]
theorem g_off_lt {s : gS} (hI : gInv s) {i : Nat} (hi : i < g_n s) : g_off s i ≤ 12 := by
  unfold g_off
  split
  · rename_i hw
    have h1 := hI.len hw
    have h3 := hI.n12
    have h2 := List.idxOf_le_length (a := i) (l := g_st s (g_wh s i))
    omega
  · omega
set_option maxRecDepth 100000 in
set_option maxHeartbeats 1000000 in
theorem c_back {I : pm_I} {L : pm_L} {c x : Nat} (hc : c < 4000) : PC 1 0 0 yX0_back cX0_back 3 (some (.int)) [.int (nI c), .int (nI x)] GG I L (QR GG I L (nI (h_bk c x))) := by
  have h3 : a_h c < 2 ^ 31 := by show c / 1000 < 2 ^ 31; omega
  refine PC.of [some (.int (nI c)), some (.int (nI x)), none] (by decide) (Nat.le_of_ble_eq_true rfl) rfl (fun l P => ?_)
  refine pm_iload_n (pc := 0) dX0_back_0 rfl ?_
  refine pm_cSR (pc := 1) dX0_back_1 (c_where (by omega)) wq_X0_where wm_X0_7 wt_X0_where ⟨Nat.le_of_ble_eq_true rfl, Nat.le_of_ble_eq_true rfl⟩ ⟨Nat.le_of_ble_eq_true rfl, Nat.le_of_ble_eq_true rfl⟩ rfl (Nat.le_of_ble_eq_true rfl) ?_
  refine pm_istore_n (pc := 4) dX0_back_4 (by decide) rfl ?_
  refine pm_iload_n (pc := 5) dX0_back_5 rfl ?_
  refine pm_cSR (pc := 6) dX0_back_6 (c_how (by omega) rfl) wq_X0_how wm_X0_13 wt_X0_how ⟨Nat.le_of_ble_eq_true rfl, Nat.le_of_ble_eq_true rfl⟩ ⟨Nat.le_of_ble_eq_true rfl, Nat.le_of_ble_eq_true rfl⟩ rfl (Nat.le_of_ble_eq_true rfl) ?_
  by_cases hs9_0 : nI (a_h c) = nI 0
  · rw [hs9_0]
    refine pm_tableIn (pc := 9) (tgt := 36) dX0_back_9 (by decide) (by decide) (by rfl) rfl ?_
    refine pm_iconst (pc := 36) (v := nI 1) dX0_back_36 (by decide) ?_
    refine pm_iload_n (pc := 37) dX0_back_37 rfl ?_
    refine pm_iload_n (pc := 38) dX0_back_38 rfl ?_
    refine pm_cSR (pc := 39) dX0_back_39 (c_code) wq_X0_code wm_X0_16 wt_X0_code ⟨Nat.le_of_ble_eq_true rfl, Nat.le_of_ble_eq_true rfl⟩ ⟨Nat.le_of_ble_eq_true rfl, Nat.le_of_ble_eq_true rfl⟩ rfl (Nat.le_of_ble_eq_true rfl) ?_
    refine pm_iret (pc := 42) rfl (Nat.le_refl _) (Nat.le_refl _) dX0_back_42 ?_
    refine QR.r (congrArg nI ?_)
    unfold h_bk
    have h4 : a_h c < 4 := by show c / 1000 < 4; omega
    simp (disch := omega) only [pm_eqI, nI_toInt] at *
    first
      | (rw [if_pos (by omega)])
      | (rw [if_neg (by omega), if_pos (by omega)])
      | (rw [if_neg (by omega), if_neg (by omega), if_pos (by omega)])
      | (rw [if_neg (by omega), if_neg (by omega), if_neg (by omega)])
  by_cases hs9_1 : nI (a_h c) = nI 1
  · rw [hs9_1]
    refine pm_tableIn (pc := 9) (tgt := 43) dX0_back_9 (by decide) (by decide) (by rfl) rfl ?_
    refine pm_iconst (pc := 43) (v := nI 0) dX0_back_43 (by decide) ?_
    refine pm_iload_n (pc := 44) dX0_back_44 rfl ?_
    refine pm_iconst (pc := 45) (v := nI 0) dX0_back_45 (by decide) ?_
    refine pm_cSR (pc := 46) dX0_back_46 (c_code) wq_X0_code wm_X0_16 wt_X0_code ⟨Nat.le_of_ble_eq_true rfl, Nat.le_of_ble_eq_true rfl⟩ ⟨Nat.le_of_ble_eq_true rfl, Nat.le_of_ble_eq_true rfl⟩ rfl (Nat.le_of_ble_eq_true rfl) ?_
    refine pm_iret (pc := 49) rfl (Nat.le_refl _) (Nat.le_refl _) dX0_back_49 ?_
    refine QR.r (congrArg nI ?_)
    unfold h_bk
    have h4 : a_h c < 4 := by show c / 1000 < 4; omega
    simp (disch := omega) only [pm_eqI, nI_toInt] at *
    first
      | (rw [if_pos (by omega)])
      | (rw [if_neg (by omega), if_pos (by omega)])
      | (rw [if_neg (by omega), if_neg (by omega), if_pos (by omega)])
      | (rw [if_neg (by omega), if_neg (by omega), if_neg (by omega)])
  by_cases hs9_2 : nI (a_h c) = nI 2
  · rw [hs9_2]
    refine pm_tableIn (pc := 9) (tgt := 50) dX0_back_9 (by decide) (by decide) (by rfl) rfl ?_
    refine pm_iconst (pc := 50) (v := nI 2) dX0_back_50 (by decide) ?_
    refine pm_iload_n (pc := 51) dX0_back_51 rfl ?_
    refine pm_iload_n (pc := 52) dX0_back_52 rfl ?_
    refine pm_cSR (pc := 53) dX0_back_53 (c_code) wq_X0_code wm_X0_16 wt_X0_code ⟨Nat.le_of_ble_eq_true rfl, Nat.le_of_ble_eq_true rfl⟩ ⟨Nat.le_of_ble_eq_true rfl, Nat.le_of_ble_eq_true rfl⟩ rfl (Nat.le_of_ble_eq_true rfl) ?_
    refine pm_iret (pc := 56) rfl (Nat.le_refl _) (Nat.le_refl _) dX0_back_56 ?_
    refine QR.r (congrArg nI ?_)
    unfold h_bk
    have h4 : a_h c < 4 := by show c / 1000 < 4; omega
    simp (disch := omega) only [pm_eqI, nI_toInt] at *
    first
      | (rw [if_pos (by omega)])
      | (rw [if_neg (by omega), if_pos (by omega)])
      | (rw [if_neg (by omega), if_neg (by omega), if_pos (by omega)])
      | (rw [if_neg (by omega), if_neg (by omega), if_neg (by omega)])
  refine pm_tableOut (pc := 9) (tgt := 57) dX0_back_9 (pm_out3 hs9_0 hs9_1 hs9_2) rfl ?_
  refine pm_iconst (pc := 57) (v := nI 3) dX0_back_57 (by decide) ?_
  refine pm_iload_n (pc := 58) dX0_back_58 rfl ?_
  refine pm_cSR (pc := 59) dX0_back_59 (c_other (by omega)) wq_X0_other wm_X0_20 wt_X0_other ⟨Nat.le_of_ble_eq_true rfl, Nat.le_of_ble_eq_true rfl⟩ ⟨Nat.le_of_ble_eq_true rfl, Nat.le_of_ble_eq_true rfl⟩ rfl (Nat.le_of_ble_eq_true rfl) ?_
  refine pm_iload_n (pc := 62) dX0_back_62 rfl ?_
  refine pm_cSR (pc := 63) dX0_back_63 (c_code) wq_X0_code wm_X0_16 wt_X0_code ⟨Nat.le_of_ble_eq_true rfl, Nat.le_of_ble_eq_true rfl⟩ ⟨Nat.le_of_ble_eq_true rfl, Nat.le_of_ble_eq_true rfl⟩ rfl (Nat.le_of_ble_eq_true rfl) ?_
  refine pm_iret (pc := 66) rfl (Nat.le_refl _) (Nat.le_refl _) dX0_back_66 ?_
  refine QR.r (congrArg nI ?_)
  unfold h_bk
  have h4 : a_h c < 4 := by show c / 1000 < 4; omega
  simp (disch := omega) only [pm_eqI, nI_toInt] at *
  first
    | (rw [if_pos (by omega)])
    | (rw [if_neg (by omega), if_pos (by omega)])
    | (rw [if_neg (by omega), if_neg (by omega), if_pos (by omega)])
    | (rw [if_neg (by omega), if_neg (by omega), if_neg (by omega)])
set_option maxRecDepth 100000 in
set_option maxHeartbeats 1000000 in
theorem c_canHelp {I : pm_I} {L : pm_L} {how a left : Nat} (hh : how < 4) (ha : a < 2) (hl : left < 4) : PC 0 0 0 yX7_canHelp cX7_canHelp 3 (some (.boolean)) [.int (nI how), .int (nI a), .int (nI left)] GG I L (QR GG I L (b1 (h_hp how a left))) := by
  refine PC.of [some (.int (nI how)), some (.int (nI a)), some (.int (nI left))] (by decide) (Nat.le_of_ble_eq_true rfl) rfl (fun l P => ?_)
  refine pm_iload_n (pc := 0) dX7_canHelp_0 rfl ?_
  refine pm_iconst (pc := 1) (v := nI 1) dX7_canHelp_1 (by decide) ?_
  refine pm_icmp_ne (pc := 2) (tgt := 24) dX7_canHelp_2 rfl (fun h2 => ?_) (fun h2 => ?_)
  · simp (disch := omega) only [pm_eqI, pm_ltI, pm_leI, nI_toInt, pm_t0, pm_t1, pm_tm1] at h2
    refine pm_iload_n (pc := 24) dX7_canHelp_24 rfl ?_
    refine pm_iconst (pc := 25) (v := nI 2) dX7_canHelp_25 (by decide) ?_
    refine pm_icmp_gt (pc := 26) (tgt := 47) dX7_canHelp_26 rfl (fun h26 => ?_) (fun h26 => ?_)
    · simp (disch := omega) only [pm_eqI, pm_ltI, pm_leI, nI_toInt, pm_t0, pm_t1, pm_tm1] at h26
      refine pm_iconst (pc := 47) (v := nI 1) dX7_canHelp_47 (by decide) ?_
      refine pm_goto (pc := 48) (tgt := 52) dX7_canHelp_48 rfl ?_
      refine pm_zret (pc := 52) (by decide) rfl (Nat.le_refl _) (Nat.le_refl _) dX7_canHelp_52 ?_
      refine QR.r ?_
      unfold h_hp
      first | exact (b1_t (by omega)).symm | exact (b1_f (by omega)).symm | exact b1_t (by omega) | exact b1_f (by omega)
    · simp (disch := omega) only [pm_eqI, pm_ltI, pm_leI, nI_toInt, pm_t0, pm_t1, pm_tm1] at h26
      refine pm_iload_n (pc := 29) dX7_canHelp_29 rfl ?_
      refine pm_if_eq (pc := 30) (tgt := 47) dX7_canHelp_30 rfl (fun h30 => ?_) (fun h30 => ?_)
      · simp (disch := omega) only [pm_eqI, pm_ltI, pm_leI, nI_toInt, pm_t0, pm_t1, pm_tm1] at h30
        refine pm_iconst (pc := 47) (v := nI 1) dX7_canHelp_47 (by decide) ?_
        refine pm_goto (pc := 48) (tgt := 52) dX7_canHelp_48 rfl ?_
        refine pm_zret (pc := 52) (by decide) rfl (Nat.le_refl _) (Nat.le_refl _) dX7_canHelp_52 ?_
        refine QR.r ?_
        unfold h_hp
        first | exact (b1_t (by omega)).symm | exact (b1_f (by omega)).symm | exact b1_t (by omega) | exact b1_f (by omega)
      · simp (disch := omega) only [pm_eqI, pm_ltI, pm_leI, nI_toInt, pm_t0, pm_t1, pm_tm1] at h30
        refine pm_iload_n (pc := 33) dX7_canHelp_33 rfl ?_
        refine pm_iconst (pc := 34) (v := nI 2) dX7_canHelp_34 (by decide) ?_
        refine pm_icmp_eq (pc := 35) (tgt := 47) dX7_canHelp_35 rfl (fun h35 => ?_) (fun h35 => ?_)
        · simp (disch := omega) only [pm_eqI, pm_ltI, pm_leI, nI_toInt, pm_t0, pm_t1, pm_tm1] at h35
          refine pm_iconst (pc := 47) (v := nI 1) dX7_canHelp_47 (by decide) ?_
          refine pm_goto (pc := 48) (tgt := 52) dX7_canHelp_48 rfl ?_
          refine pm_zret (pc := 52) (by decide) rfl (Nat.le_refl _) (Nat.le_refl _) dX7_canHelp_52 ?_
          refine QR.r ?_
          unfold h_hp
          first | exact (b1_t (by omega)).symm | exact (b1_f (by omega)).symm | exact b1_t (by omega) | exact b1_f (by omega)
        · simp (disch := omega) only [pm_eqI, pm_ltI, pm_leI, nI_toInt, pm_t0, pm_t1, pm_tm1] at h35
          refine pm_iload_n (pc := 38) dX7_canHelp_38 rfl ?_
          refine pm_iconst (pc := 39) (v := nI 3) dX7_canHelp_39 (by decide) ?_
          refine pm_icmp_ne (pc := 40) (tgt := 51) dX7_canHelp_40 rfl (fun h40 => ?_) (fun h40 => ?_)
          · simp (disch := omega) only [pm_eqI, pm_ltI, pm_leI, nI_toInt, pm_t0, pm_t1, pm_tm1] at h40
            refine pm_iconst (pc := 51) (v := nI 0) dX7_canHelp_51 (by decide) ?_
            refine pm_zret (pc := 52) (by decide) rfl (Nat.le_refl _) (Nat.le_refl _) dX7_canHelp_52 ?_
            refine QR.r ?_
            unfold h_hp
            first | exact (b1_t (by omega)).symm | exact (b1_f (by omega)).symm | exact b1_t (by omega) | exact b1_f (by omega)
          · simp (disch := omega) only [pm_eqI, pm_ltI, pm_leI, nI_toInt, pm_t0, pm_t1, pm_tm1] at h40
            refine pm_iload_n (pc := 43) dX7_canHelp_43 rfl ?_
            refine pm_if_eq (pc := 44) (tgt := 51) dX7_canHelp_44 rfl (fun h44 => ?_) (fun h44 => ?_)
            · simp (disch := omega) only [pm_eqI, pm_ltI, pm_leI, nI_toInt, pm_t0, pm_t1, pm_tm1] at h44
              refine pm_iconst (pc := 51) (v := nI 0) dX7_canHelp_51 (by decide) ?_
              refine pm_zret (pc := 52) (by decide) rfl (Nat.le_refl _) (Nat.le_refl _) dX7_canHelp_52 ?_
              refine QR.r ?_
              unfold h_hp
              first | exact (b1_t (by omega)).symm | exact (b1_f (by omega)).symm | exact b1_t (by omega) | exact b1_f (by omega)
            · simp (disch := omega) only [pm_eqI, pm_ltI, pm_leI, nI_toInt, pm_t0, pm_t1, pm_tm1] at h44
              refine pm_iconst (pc := 47) (v := nI 1) dX7_canHelp_47 (by decide) ?_
              refine pm_goto (pc := 48) (tgt := 52) dX7_canHelp_48 rfl ?_
              refine pm_zret (pc := 52) (by decide) rfl (Nat.le_refl _) (Nat.le_refl _) dX7_canHelp_52 ?_
              refine QR.r ?_
              unfold h_hp
              first | exact (b1_t (by omega)).symm | exact (b1_f (by omega)).symm | exact b1_t (by omega) | exact b1_f (by omega)
  · simp (disch := omega) only [pm_eqI, pm_ltI, pm_leI, nI_toInt, pm_t0, pm_t1, pm_tm1] at h2
    refine pm_iload_n (pc := 5) dX7_canHelp_5 rfl ?_
    refine pm_if_eq (pc := 6) (tgt := 22) dX7_canHelp_6 rfl (fun h6 => ?_) (fun h6 => ?_)
    · simp (disch := omega) only [pm_eqI, pm_ltI, pm_leI, nI_toInt, pm_t0, pm_t1, pm_tm1] at h6
      refine pm_iconst (pc := 22) (v := nI 0) dX7_canHelp_22 (by decide) ?_
      refine pm_zret (pc := 23) (by decide) rfl (Nat.le_refl _) (Nat.le_refl _) dX7_canHelp_23 ?_
      refine QR.r ?_
      unfold h_hp
      first | exact (b1_t (by omega)).symm | exact (b1_f (by omega)).symm | exact b1_t (by omega) | exact b1_f (by omega)
    · simp (disch := omega) only [pm_eqI, pm_ltI, pm_leI, nI_toInt, pm_t0, pm_t1, pm_tm1] at h6
      refine pm_iload_n (pc := 9) dX7_canHelp_9 rfl ?_
      refine pm_if_eq (pc := 10) (tgt := 18) dX7_canHelp_10 rfl (fun h10 => ?_) (fun h10 => ?_)
      · simp (disch := omega) only [pm_eqI, pm_ltI, pm_leI, nI_toInt, pm_t0, pm_t1, pm_tm1] at h10
        refine pm_iconst (pc := 18) (v := nI 1) dX7_canHelp_18 (by decide) ?_
        refine pm_goto (pc := 19) (tgt := 23) dX7_canHelp_19 rfl ?_
        refine pm_zret (pc := 23) (by decide) rfl (Nat.le_refl _) (Nat.le_refl _) dX7_canHelp_23 ?_
        refine QR.r ?_
        unfold h_hp
        first | exact (b1_t (by omega)).symm | exact (b1_f (by omega)).symm | exact b1_t (by omega) | exact b1_f (by omega)
      · simp (disch := omega) only [pm_eqI, pm_ltI, pm_leI, nI_toInt, pm_t0, pm_t1, pm_tm1] at h10
        refine pm_iload_n (pc := 13) dX7_canHelp_13 rfl ?_
        refine pm_iconst (pc := 14) (v := nI 2) dX7_canHelp_14 (by decide) ?_
        refine pm_icmp_ne (pc := 15) (tgt := 22) dX7_canHelp_15 rfl (fun h15 => ?_) (fun h15 => ?_)
        · simp (disch := omega) only [pm_eqI, pm_ltI, pm_leI, nI_toInt, pm_t0, pm_t1, pm_tm1] at h15
          refine pm_iconst (pc := 22) (v := nI 0) dX7_canHelp_22 (by decide) ?_
          refine pm_zret (pc := 23) (by decide) rfl (Nat.le_refl _) (Nat.le_refl _) dX7_canHelp_23 ?_
          refine QR.r ?_
          unfold h_hp
          first | exact (b1_t (by omega)).symm | exact (b1_f (by omega)).symm | exact b1_t (by omega) | exact b1_f (by omega)
        · simp (disch := omega) only [pm_eqI, pm_ltI, pm_leI, nI_toInt, pm_t0, pm_t1, pm_tm1] at h15
          refine pm_iconst (pc := 18) (v := nI 1) dX7_canHelp_18 (by decide) ?_
          refine pm_goto (pc := 19) (tgt := 23) dX7_canHelp_19 rfl ?_
          refine pm_zret (pc := 23) (by decide) rfl (Nat.le_refl _) (Nat.le_refl _) dX7_canHelp_23 ?_
          refine QR.r ?_
          unfold h_hp
          first | exact (b1_t (by omega)).symm | exact (b1_f (by omega)).symm | exact b1_t (by omega) | exact b1_f (by omega)
set_option maxRecDepth 100000 in
set_option maxHeartbeats 1000000 in
theorem c_othersOf {I : pm_I} {L : pm_L} {s : gS} {how : Nat} (hG : GR I 1 s) (hh : how < 4) : PC 1 0 0 yX7_othersOf cX7_othersOf 2 (some (.int)) [.ref 1, .int (nI how)] GG I L (QR GG I L (nI (h_ot s how))) := by
  refine PC.of [some (.ref 1), some (.int (nI how))] (by decide) (Nat.le_of_ble_eq_true rfl) rfl (fun l P => ?_)
  refine pm_iload_n (pc := 0) dX7_othersOf_0 rfl ?_
  refine pm_if_ne (pc := 1) (tgt := 6) dX7_othersOf_1 rfl (fun h1 => ?_) (fun h1 => ?_)
  · simp (disch := omega) only [pm_eqI, pm_ltI, pm_leI, nI_toInt, pm_t0, pm_t1, pm_tm1] at h1
    refine pm_iload_n (pc := 6) dX7_othersOf_6 rfl ?_
    refine pm_iconst (pc := 7) (v := nI 3) dX7_othersOf_7 (by decide) ?_
    refine pm_icmp_ne (pc := 8) (tgt := 16) dX7_othersOf_8 rfl (fun h8 => ?_) (fun h8 => ?_)
    · simp (disch := omega) only [pm_eqI, pm_ltI, pm_leI, nI_toInt, pm_t0, pm_t1, pm_tm1] at h8
      refine pm_aload_n (pc := 16) dX7_othersOf_16 rfl ?_
      refine pm_cVR (pc := 17) dX7_othersOf_17 (c_pieces hG) wq_X2_pieces wm_X7_45 wi_X2_pieces ws_X2_pieces rfl rfl ⟨Nat.le_of_ble_eq_true rfl, Nat.le_of_ble_eq_true rfl⟩ ⟨Nat.le_of_ble_eq_true rfl, Nat.le_of_ble_eq_true rfl⟩ rfl (Nat.le_of_ble_eq_true rfl) ?_
      refine pm_iret (pc := 20) rfl (Nat.le_refl _) (Nat.le_refl _) dX7_othersOf_20 ?_
      refine QR.r (congrArg nI ?_)
      unfold h_ot
      first
        | (rw [if_pos (by omega)])
        | (rw [if_neg (by omega), if_pos (by omega)])
        | (rw [if_neg (by omega), if_neg (by omega)])
    · simp (disch := omega) only [pm_eqI, pm_ltI, pm_leI, nI_toInt, pm_t0, pm_t1, pm_tm1] at h8
      refine pm_bipush (pc := 11) (v := nI 6) dX7_othersOf_11 (by decide) ?_
      refine pm_goto (pc := 13) (tgt := 20) dX7_othersOf_13 rfl ?_
      refine pm_iret (pc := 20) rfl (Nat.le_refl _) (Nat.le_refl _) dX7_othersOf_20 ?_
      refine QR.r (congrArg nI ?_)
      unfold h_ot
      first
        | (rw [if_pos (by omega)])
        | (rw [if_neg (by omega), if_pos (by omega)])
        | (rw [if_neg (by omega), if_neg (by omega)])
  · simp (disch := omega) only [pm_eqI, pm_ltI, pm_leI, nI_toInt, pm_t0, pm_t1, pm_tm1] at h1
    refine pm_iconst (pc := 4) (v := nI 1) dX7_othersOf_4 (by decide) ?_
    refine pm_iret (pc := 5) rfl (Nat.le_refl _) (Nat.le_refl _) dX7_othersOf_5 ?_
    refine QR.r (congrArg nI ?_)
    unfold h_ot
    first
      | (rw [if_pos (by omega)])
      | (rw [if_neg (by omega), if_pos (by omega)])
      | (rw [if_neg (by omega), if_neg (by omega)])
set_option maxRecDepth 100000 in
set_option maxHeartbeats 1000000 in
theorem c_leads0 {I : pm_I} {L : pm_L} {s : gS} (hG : GR I 1 s) (hI : gInv s) {i : Nat} (hi : i < g_n s) (hw : g_wh s i < 6) (hN : ∀ q, q < 0 → h_f i q s = none) {depth c : Nat} (hd : depth + 1 ≤ 3) (hrow : I 18 depth = nI c) (ho : a_ok s c) (h0 : a_h c = 0 → a_o c = 0) : PC 4 0 0 yX7_leads cX7_leads 8 (some (.boolean)) [.ref 1, .int (nI i), .ref 18, .int (nI depth), .int (nI (depth + 1))] GG I L (QI GG (fun v I' L' => (v = h_v (h_lt i 0 s c) ∧ h_R s (depth + 1) I I' (h_lt i 0 s c)) ∧ L' = L)) := by
  have h4 : c < 4000 := a_lt ho
  have h12 := hI.n12
  refine PC.of [some (.ref 1), some (.int (nI i)), some (.ref 18), some (.int (nI depth)), some (.int (nI (depth + 1))), none, none, none] (by decide) (Nat.le_of_ble_eq_true rfl) rfl (fun l P => ?_)
  refine pm_iload_n (pc := 0) dX7_leads_0 rfl ?_
  refine pm_if_lt (pc := 1) (tgt := 10) dX7_leads_1 rfl (fun h1 => (by simp (disch := omega) only [pm_eqI, pm_ltI, pm_leI, nI_toInt, pm_t0, pm_t1, pm_tm1] at h1; omega)) (fun h1 => ?_)
  refine pm_iload_n (pc := 4) dX7_leads_4 rfl ?_
  refine pm_aload_n (pc := 5) dX7_leads_5 rfl ?_
  refine pm_alen (pc := 6) (v := nI 3) rfl (by decide) rfl dX7_leads_6 ?_
  refine pm_icmp_lt (pc := 7) (tgt := 12) dX7_leads_7 rfl (fun h7 => ?_) (fun h7 => (by simp (disch := omega) only [pm_eqI, pm_ltI, pm_leI, nI_toInt, pm_t0, pm_t1, pm_tm1] at h7; omega))
  refine pm_aload_n (pc := 12) dX7_leads_12 rfl ?_
  refine pm_iload_n (pc := 13) dX7_leads_13 rfl ?_
  refine pm_iald (pc := 14) rfl (by omega) (by decide) dX7_leads_14 ?_
  rw [hrow]
  refine pm_istore (pc := 15) dX7_leads_15 (by decide) rfl ?_
  refine pm_aload_n (pc := 17) dX7_leads_17 rfl ?_
  refine pm_iload (pc := 18) dX7_leads_18 rfl ?_
  refine pm_cVR (pc := 20) dX7_leads_20 (c_canBe hG hI ho) wq_X2_canBe wm_X7_49 wi_X2_canBe ws_X2_canBe rfl rfl ⟨Nat.le_of_ble_eq_true rfl, Nat.le_of_ble_eq_true rfl⟩ ⟨Nat.le_of_ble_eq_true rfl, Nat.le_of_ble_eq_true rfl⟩ rfl (Nat.le_of_ble_eq_true rfl) ?_
  refine pm_if_eq (pc := 23) (tgt := 35) dX7_leads_23 rfl (fun h23 => ?_) (fun h23 => ?_)
  · refine pm_iconst (pc := 35) (v := nI 0) dX7_leads_35 (by decide) ?_
    refine pm_zret (pc := 36) (by decide) rfl (Nat.le_refl _) (Nat.le_refl _) dX7_leads_36 ?_
    first
      | exact absurd hcan (b1_nf h23)
      | (have e : h_lt i 0 s c = none := h_lt_V (fun z => b1_nf h23 z.can); rw [e]; exact QI.r ⟨⟨rfl, h_R.none (h_K.rf hG)⟩, rfl⟩)
      | (have e : h_lt i 0 s c = none := h_lt_V (fun z => z.2.2.2.2.2.2 (b1_nt h32)); rw [e]; exact QI.r ⟨⟨rfl, h_R.none (h_K.rf hG)⟩, rfl⟩)
  · have hcan : a_can s c := b1_nt h23
    refine pm_aload_n (pc := 26) dX7_leads_26 rfl ?_
    refine pm_iload (pc := 27) dX7_leads_27 rfl ?_
    refine pm_cVR (pc := 29) dX7_leads_29 (c_isFelt hG hI ho hcan) wq_X2_isFelt wm_X7_53 wi_X2_isFelt ws_X2_isFelt rfl rfl ⟨Nat.le_of_ble_eq_true rfl, Nat.le_of_ble_eq_true rfl⟩ ⟨Nat.le_of_ble_eq_true rfl, Nat.le_of_ble_eq_true rfl⟩ rfl (Nat.le_of_ble_eq_true rfl) ?_
    refine pm_if_eq (pc := 32) (tgt := 37) dX7_leads_32 rfl (fun h32 => ?_) (fun h32 => ?_)
    · have hv : h_V s c := ⟨ho.1, ho.2.1, ho.2.2.1, ho.2.2.2, h0, hcan, b1_nf h32⟩
      refine pm_iload_n (pc := 37) dX7_leads_37 rfl ?_
      refine pm_iconst (pc := 38) (v := nI 1) dX7_leads_38 (by decide) ?_
      refine pm_iadd (pc := 39) dX7_leads_39 ?_
      refine pm_top (nI_add _ _) ?_
      refine pm_iload (pc := 40) dX7_leads_40 rfl ?_
      refine pm_icmp_ne (pc := 42) (tgt := 47) dX7_leads_42 rfl (fun h42 => absurd rfl h42) (fun h42 => ?_)
      refine pm_iconst (pc := 45) (v := nI 1) dX7_leads_45 (by decide) ?_
      refine pm_zret (pc := 46) (by decide) rfl (Nat.le_refl _) (Nat.le_refl _) dX7_leads_46 ?_
      have e : h_lt i 0 s c = some [] := if_pos hv
      rw [e]
      exact QI.r ⟨⟨rfl, h_K.rf hG, fun q hq k hk => by rw [← Option.some.inj hq] at hk; exact absurd hk (Nat.not_lt_zero _)⟩, rfl⟩
    · refine pm_iconst (pc := 35) (v := nI 0) dX7_leads_35 (by decide) ?_
      refine pm_zret (pc := 36) (by decide) rfl (Nat.le_refl _) (Nat.le_refl _) dX7_leads_36 ?_
      first
        | exact absurd hcan (b1_nf h23)
        | (have e : h_lt i 0 s c = none := h_lt_V (fun z => b1_nf h23 z.can); rw [e]; exact QI.r ⟨⟨rfl, h_R.none (h_K.rf hG)⟩, rfl⟩)
        | (have e : h_lt i 0 s c = none := h_lt_V (fun z => z.2.2.2.2.2.2 (b1_nt h32)); rw [e]; exact QI.r ⟨⟨rfl, h_R.none (h_K.rf hG)⟩, rfl⟩)
set_option maxRecDepth 100000 in
set_option maxHeartbeats 1000000 in
theorem l_hs089 {I : pm_I} {L : pm_L} {s : gS} (hG : GR I 1 s) (hI : gInv s) {i : Nat} (hi : i < g_n s) (hw : g_wh s i < 6) (hN : ∀ q, q < 0 → h_f i q s = none) (htp : g_top s (g_wh s i) = i) {depth : Nat} (hd : depth + 1 ≤ 3) {la : Launch} {P : pm_E} {how w oth : Nat} (hh : how < 4) (hwp : w < 6) (hoth : oth ≤ h_ot s how) (hlt : ∀ o, o < oth → h_lt i 0 s (1000 * how + 100 * w + o) = h_at i 0 s (1000 * how + 100 * w + o)) (k153 : ∀ J : pm_I, h_K s depth I J → h_fst (h_at i 0 s) (3600 - (1000 * how + 100 * w + oth)) (1000 * how + 100 * w + oth) = h_f i 0 s → PW la P yX7_search cX7_search 11 (some (.boolean)) (pm_rm 5 0 0) (pm_Tg P (QI GG (fun v I' L' => (v = h_v (h_f i 0 s) ∧ h_R s depth I I' (h_f i 0 s)) ∧ L' = L)) 0 0) 0 0 153 [some (.ref 1), some (.int (nI i)), some (.ref 18), some (.int (nI depth)), some (.int (nI (depth + 1))), some (.int (nI (g_wh s i))), some (.int (nI how)), some (.int (nI w)), none, none, none] [] GG J L) : ∀ (m o : Nat), o + m = oth → ∀ J : pm_I, h_K s depth I J → h_fst (h_at i 0 s) (3600 - (1000 * how + 100 * w + o)) (1000 * how + 100 * w + o) = h_f i 0 s → PW la P yX7_search cX7_search 11 (some (.boolean)) (pm_rm 5 0 0) (pm_Tg P (QI GG (fun v I' L' => (v = h_v (h_f i 0 s) ∧ h_R s depth I I' (h_f i 0 s)) ∧ L' = L)) 0 0) 0 0 89 [some (.ref 1), some (.int (nI i)), some (.ref 18), some (.int (nI depth)), some (.int (nI (depth + 1))), some (.int (nI (g_wh s i))), some (.int (nI how)), some (.int (nI w)), some (.int (nI oth)), some (.int (nI o)), none] [] GG J L
  | 0, o, hm, J, hK, hT => by
    have h12 := h_ot12 hI.n12 how
    have e : o = oth := by omega
    subst e
    refine pm_iload (pc := 89) dX7_search_89 rfl ?_
    refine pm_iload (pc := 91) dX7_search_91 rfl ?_
    refine pm_icmp_ge (pc := 93) (tgt := 153) dX7_search_93 rfl (fun h93 => ?_) (fun h93 => (by simp (disch := omega) only [pm_eqI, pm_ltI, pm_leI, nI_toInt, pm_t0, pm_t1, pm_tm1] at h93; omega))
    refine pm_kill 8 ?_
    refine pm_kill 9 ?_
    exact k153 J hK hT
  | m + 1, o, hm, J, hK, hT => by
    have h12 := h_ot12 hI.n12 how
    have hlo := hlt o (by omega)
    obtain ⟨k1, k2, k3⟩ := h_code (h := how) (p := w) (o := o) (by omega) (by omega)
    obtain ⟨hK2, hrow⟩ := hK.row (nI (1000 * how + 100 * w + o))
    have kA : (how = 3 → o ≠ w) → PW la P yX7_search cX7_search 11 (some (.boolean)) (pm_rm 5 0 0) (pm_Tg P (QI GG (fun v I' L' => (v = h_v (h_f i 0 s) ∧ h_R s depth I I' (h_f i 0 s)) ∧ L' = L)) 0 0) 0 0 116 [some (.ref 1), some (.int (nI i)), some (.ref 18), some (.int (nI depth)), some (.int (nI (depth + 1))), some (.int (nI (g_wh s i))), some (.int (nI how)), some (.int (nI w)), some (.int (nI oth)), some (.int (nI o)), some (.int (nI 1))] [] GG J L := fun hne => by
      obtain ⟨ho, h0⟩ := h_okc hI.n12 hh hwp (show o < h_ot s how by omega) hne
      refine pm_aload_n (pc := 116) dX7_search_116 rfl ?_
      refine pm_iload_n (pc := 117) dX7_search_117 rfl ?_
      refine pm_iload (pc := 118) dX7_search_118 rfl ?_
      refine pm_iload (pc := 120) dX7_search_120 rfl ?_
      refine pm_iload (pc := 122) dX7_search_122 rfl ?_
      refine pm_cSR (pc := 124) dX7_search_124 (c_code) wq_X0_code wm_X7_38 wt_X0_code ⟨Nat.le_of_ble_eq_true rfl, Nat.le_of_ble_eq_true rfl⟩ ⟨Nat.le_of_ble_eq_true rfl, Nat.le_of_ble_eq_true rfl⟩ rfl (Nat.le_of_ble_eq_true rfl) ?_
      refine pm_iast (pc := 127) rfl (by omega) (by decide) dX7_search_127 ?_
      refine pm_iload (pc := 128) dX7_search_128 rfl ?_
      refine pm_if_eq (pc := 130) (tgt := 147) dX7_search_130 rfl (fun h130 => absurd h130 (by decide)) (fun h130 => ?_)
      refine pm_aload_n (pc := 133) dX7_search_133 rfl ?_
      refine pm_iload_n (pc := 134) dX7_search_134 rfl ?_
      refine pm_aload_n (pc := 135) dX7_search_135 rfl ?_
      refine pm_iload_n (pc := 136) dX7_search_136 rfl ?_
      refine pm_iload (pc := 137) dX7_search_137 rfl ?_
      refine pm_cSI (pc := 139) dX7_search_139 (c_leads0 hK2.1 hI hi hw hN (depth := depth) (c := 1000 * how + 100 * w + o) hd hrow ho h0) wq_X7_leads wm_X7_42 wt_X7_leads ⟨Nat.le_of_ble_eq_true rfl, Nat.le_of_ble_eq_true rfl⟩ ⟨Nat.le_of_ble_eq_true rfl, Nat.le_of_ble_eq_true rfl⟩ rfl (Nat.le_of_ble_eq_true rfl) (fun r139 I139 L139 q139 => ?_)
      obtain ⟨⟨v139, R139⟩, l139⟩ := q139
      subst l139
      rw [hlo] at v139 R139
      refine pm_if_eq (pc := 142) (tgt := 147) dX7_search_142 rfl (fun h142 => ?_) (fun h142 => ?_)
      · have hn : h_at i 0 s (1000 * how + 100 * w + o) = none := by rw [v139] at h142; exact h_v0.mp h142
        rw [h_fst_1 hn] at hT
        refine pm_iinc (pc := 147) dX7_search_147 rfl (pm_inc1 _) (by decide) rfl ?_
        refine pm_goto (pc := 150) (tgt := 89) dX7_search_150 rfl ?_
        refine pm_kill 10 ?_
        exact l_hs089 hG hI hi hw hN htp hd hh hwp hoth hlt k153 m (o + 1) (by omega) _ (hK2.tr (R139.1.dn (Nat.le_succ _))) hT
      · refine pm_iconst (pc := 145) (v := nI 1) dX7_search_145 (by decide) ?_
        refine pm_zret (pc := 146) (by decide) rfl (Nat.le_refl _) (Nat.le_refl _) dX7_search_146 ?_
        cases et : h_at i 0 s (1000 * how + 100 * w + o) with
        | none => exact absurd (by rw [v139, et]; rfl) h142
        | some t =>
          have hlt9 : 1000 * how + 100 * w + o < 3600 := (show h_V s (1000 * how + 100 * w + o) from Classical.byContradiction (fun z => by rw [h_at_V z] at et; exact absurd et (by simp))).lt hI
          rw [h_fst_some hlt9 et] at hT
          rw [← hT]
          rw [et] at R139
          exact QI.r ⟨⟨rfl, h_R.cons hK2 hrow R139⟩, rfl⟩
    have kB : (how = 3 ∧ o = w) → PW la P yX7_search cX7_search 11 (some (.boolean)) (pm_rm 5 0 0) (pm_Tg P (QI GG (fun v I' L' => (v = h_v (h_f i 0 s) ∧ h_R s depth I I' (h_f i 0 s)) ∧ L' = L)) 0 0) 0 0 116 [some (.ref 1), some (.int (nI i)), some (.ref 18), some (.int (nI depth)), some (.int (nI (depth + 1))), some (.int (nI (g_wh s i))), some (.int (nI how)), some (.int (nI w)), some (.int (nI oth)), some (.int (nI o)), some (.int (nI 0))] [] GG J L := fun hne => by
      refine pm_aload_n (pc := 116) dX7_search_116 rfl ?_
      refine pm_iload_n (pc := 117) dX7_search_117 rfl ?_
      refine pm_iload (pc := 118) dX7_search_118 rfl ?_
      refine pm_iload (pc := 120) dX7_search_120 rfl ?_
      refine pm_iload (pc := 122) dX7_search_122 rfl ?_
      refine pm_cSR (pc := 124) dX7_search_124 (c_code) wq_X0_code wm_X7_38 wt_X0_code ⟨Nat.le_of_ble_eq_true rfl, Nat.le_of_ble_eq_true rfl⟩ ⟨Nat.le_of_ble_eq_true rfl, Nat.le_of_ble_eq_true rfl⟩ rfl (Nat.le_of_ble_eq_true rfl) ?_
      refine pm_iast (pc := 127) rfl (by omega) (by decide) dX7_search_127 ?_
      refine pm_iload (pc := 128) dX7_search_128 rfl ?_
      refine pm_if_eq (pc := 130) (tgt := 147) dX7_search_130 rfl (fun h130 => ?_) (fun h130 => absurd (show nI 0 = 0 by decide) h130)
      have hn : h_at i 0 s (1000 * how + 100 * w + o) = none := h_at_V (fun v => (v.2.2.2.1 (by omega)).2 (by omega))
      rw [h_fst_1 hn] at hT
      refine pm_iinc (pc := 147) dX7_search_147 rfl (pm_inc1 _) (by decide) rfl ?_
      refine pm_goto (pc := 150) (tgt := 89) dX7_search_150 rfl ?_
      refine pm_kill 10 ?_
      exact l_hs089 hG hI hi hw hN htp hd hh hwp hoth hlt k153 m (o + 1) (by omega) _ hK2 hT
    refine pm_iload (pc := 89) dX7_search_89 rfl ?_
    refine pm_iload (pc := 91) dX7_search_91 rfl ?_
    refine pm_icmp_ge (pc := 93) (tgt := 153) dX7_search_93 rfl (fun h93 => (by simp (disch := omega) only [pm_eqI, pm_ltI, pm_leI, nI_toInt, pm_t0, pm_t1, pm_tm1] at h93; omega)) (fun h93 => ?_)
    refine pm_iload (pc := 96) dX7_search_96 rfl ?_
    refine pm_iconst (pc := 98) (v := nI 3) dX7_search_98 (by decide) ?_
    refine pm_icmp_ne (pc := 99) (tgt := 109) dX7_search_99 rfl (fun h99 => ?_) (fun h99 => ?_)
    · simp (disch := omega) only [pm_eqI, pm_ltI, pm_leI, nI_toInt, pm_t0, pm_t1, pm_tm1] at h99
      refine pm_iconst (pc := 109) (v := nI 1) dX7_search_109 (by decide) ?_
      refine pm_goto (pc := 110) (tgt := 114) dX7_search_110 rfl ?_
      refine pm_istore (pc := 114) dX7_search_114 (by decide) rfl ?_
      first
        | exact kA (by omega)
        | exact kB (by omega)
    · simp (disch := omega) only [pm_eqI, pm_ltI, pm_leI, nI_toInt, pm_t0, pm_t1, pm_tm1] at h99
      refine pm_iload (pc := 102) dX7_search_102 rfl ?_
      refine pm_iload (pc := 104) dX7_search_104 rfl ?_
      refine pm_icmp_eq (pc := 106) (tgt := 113) dX7_search_106 rfl (fun h106 => ?_) (fun h106 => ?_)
      · simp (disch := omega) only [pm_eqI, pm_ltI, pm_leI, nI_toInt, pm_t0, pm_t1, pm_tm1] at h106
        refine pm_iconst (pc := 113) (v := nI 0) dX7_search_113 (by decide) ?_
        refine pm_istore (pc := 114) dX7_search_114 (by decide) rfl ?_
        first
          | exact kA (by omega)
          | exact kB (by omega)
      · simp (disch := omega) only [pm_eqI, pm_ltI, pm_leI, nI_toInt, pm_t0, pm_t1, pm_tm1] at h106
        refine pm_iconst (pc := 109) (v := nI 1) dX7_search_109 (by decide) ?_
        refine pm_goto (pc := 110) (tgt := 114) dX7_search_110 rfl ?_
        refine pm_istore (pc := 114) dX7_search_114 (by decide) rfl ?_
        first
          | exact kA (by omega)
          | exact kB (by omega)
set_option maxRecDepth 100000 in
set_option maxHeartbeats 1000000 in
theorem l_hs043 {I : pm_I} {L : pm_L} {s : gS} (hG : GR I 1 s) (hI : gInv s) {i : Nat} (hi : i < g_n s) (hw : g_wh s i < 6) (hN : ∀ q, q < 0 → h_f i q s = none) (htp : g_top s (g_wh s i) = i) {depth : Nat} (hd : depth + 1 ≤ 3) {la : Launch} {P : pm_E} {how : Nat} (hh : how < 4) (k159 : ∀ J : pm_I, h_K s depth I J → h_fst (h_at i 0 s) (3600 - (1000 * how + 100 * 6)) (1000 * how + 100 * 6) = h_f i 0 s → PW la P yX7_search cX7_search 11 (some (.boolean)) (pm_rm 5 0 0) (pm_Tg P (QI GG (fun v I' L' => (v = h_v (h_f i 0 s) ∧ h_R s depth I I' (h_f i 0 s)) ∧ L' = L)) 0 0) 0 0 159 [some (.ref 1), some (.int (nI i)), some (.ref 18), some (.int (nI depth)), some (.int (nI (depth + 1))), some (.int (nI (g_wh s i))), some (.int (nI how)), none, none, none, none] [] GG J L) : ∀ (m w : Nat), w + m = 6 → ∀ J : pm_I, h_K s depth I J → h_fst (h_at i 0 s) (3600 - (1000 * how + 100 * w)) (1000 * how + 100 * w) = h_f i 0 s → PW la P yX7_search cX7_search 11 (some (.boolean)) (pm_rm 5 0 0) (pm_Tg P (QI GG (fun v I' L' => (v = h_v (h_f i 0 s) ∧ h_R s depth I I' (h_f i 0 s)) ∧ L' = L)) 0 0) 0 0 43 [some (.ref 1), some (.int (nI i)), some (.ref 18), some (.int (nI depth)), some (.int (nI (depth + 1))), some (.int (nI (g_wh s i))), some (.int (nI how)), some (.int (nI w)), none, none, none] [] GG J L
  | 0, w, hm, J, hK, hT => by
    have e : w = 6 := by omega
    subst e
    refine pm_iload (pc := 43) dX7_search_43 rfl ?_
    refine pm_bipush (pc := 45) (v := nI 6) dX7_search_45 (by decide) ?_
    refine pm_icmp_ge (pc := 47) (tgt := 159) dX7_search_47 rfl (fun h47 => ?_) (fun h47 => (by simp (disch := omega) only [pm_eqI, pm_ltI, pm_leI, nI_toInt, pm_t0, pm_t1, pm_tm1] at h47; omega))
    refine pm_kill 7 ?_
    exact k159 J hK hT
  | m + 1, w, hm, J, hK, hT => by
    have hwp : w < 6 := by omega
    have hGJ := hK.1
    have k153 : ∀ oth : Nat, oth ≤ 12 → (∀ c, 1000 * how + 100 * w + oth ≤ c → c < 1000 * how + 100 * (w + 1) → h_at i 0 s c = none) → ∀ J : pm_I, h_K s depth I J → h_fst (h_at i 0 s) (3600 - (1000 * how + 100 * w + oth)) (1000 * how + 100 * w + oth) = h_f i 0 s → PW la P yX7_search cX7_search 11 (some (.boolean)) (pm_rm 5 0 0) (pm_Tg P (QI GG (fun v I' L' => (v = h_v (h_f i 0 s) ∧ h_R s depth I I' (h_f i 0 s)) ∧ L' = L)) 0 0) 0 0 153 [some (.ref 1), some (.int (nI i)), some (.ref 18), some (.int (nI depth)), some (.int (nI (depth + 1))), some (.int (nI (g_wh s i))), some (.int (nI how)), some (.int (nI w)), none, none, none] [] GG J L := fun oth h12 hs J hK hT => by
      rw [h_fst_to (show 1000 * how + 100 * w + oth ≤ 1000 * how + 100 * (w + 1) by omega) hs] at hT
      refine pm_iinc (pc := 153) dX7_search_153 rfl (pm_inc1 _) (by decide) rfl ?_
      refine pm_goto (pc := 156) (tgt := 43) dX7_search_156 rfl ?_
      exact l_hs043 hG hI hi hw hN htp hd hh k159 m (w + 1) (by omega) J hK hT
    refine pm_iload (pc := 43) dX7_search_43 rfl ?_
    refine pm_bipush (pc := 45) (v := nI 6) dX7_search_45 (by decide) ?_
    refine pm_icmp_ge (pc := 47) (tgt := 159) dX7_search_47 rfl (fun h47 => (by simp (disch := omega) only [pm_eqI, pm_ltI, pm_leI, nI_toInt, pm_t0, pm_t1, pm_tm1] at h47; omega)) (fun h47 => ?_)
    refine pm_iload (pc := 50) dX7_search_50 rfl ?_
    refine pm_iload (pc := 52) dX7_search_52 rfl ?_
    refine pm_iload (pc := 54) dX7_search_54 rfl ?_
    refine pm_icmp_ne (pc := 56) (tgt := 63) dX7_search_56 rfl (fun h56 => ?_) (fun h56 => ?_)
    · simp (disch := omega) only [pm_eqI, pm_ltI, pm_leI, nI_toInt, pm_t0, pm_t1, pm_tm1] at h56
      have ha : (0 : Nat) = 1 ↔ w = g_wh s i := by omega
      refine pm_iconst (pc := 63) (v := nI 0) dX7_search_63 (by decide) ?_
      refine pm_iload (pc := 64) dX7_search_64 rfl ?_
      refine pm_iload_n (pc := 66) dX7_search_66 rfl ?_
      refine pm_isub (pc := 67) dX7_search_67 ?_
      refine pm_top (x' := nI 1) (by rw [pk_sub (by omega)]; congr 1; omega) ?_
      refine pm_cSR (pc := 68) dX7_search_68 (c_canHelp hh (by decide) (by decide)) wq_X7_canHelp wm_X7_30 wt_X7_canHelp ⟨Nat.le_of_ble_eq_true rfl, Nat.le_of_ble_eq_true rfl⟩ ⟨Nat.le_of_ble_eq_true rfl, Nat.le_of_ble_eq_true rfl⟩ rfl (Nat.le_of_ble_eq_true rfl) ?_
      refine pm_if_eq (pc := 71) (tgt := 83) dX7_search_71 rfl (fun h71 => ?_) (fun h71 => ?_)
      · have v71 := b1_nf h71
        refine pm_iconst (pc := 83) (v := nI 0) dX7_search_83 (by decide) ?_
        refine pm_istore (pc := 84) dX7_search_84 (by decide) rfl ?_
        refine pm_iconst (pc := 86) (v := nI 0) dX7_search_86 (by decide) ?_
        refine pm_istore (pc := 87) dX7_search_87 (by decide) rfl ?_
        first
          | (refine l_hs089 hG hI hi hw hN htp hd hh hwp (oth := h_ot s how) (Nat.le_refl _) (fun o _ => by
                 obtain ⟨k1, k2, k3⟩ := h_code (h := how) (p := w) (o := o) (by omega) (by have := h_ot12 hI.n12 how; omega)
                 exact h_ltB v71 hw htp k1 (by rw [k2]; exact ha)) (k153 _ (h_ot12 hI.n12 how) (fun c h1 h2 => ?_)) (h_ot s how) 0 (by omega) J hK hT
             obtain ⟨c1, c2, c3⟩ := h_at2 hwp h1 h2
             exact h_at_V (h_hi c1 c3))
          | (refine l_hs089 hG hI hi hw hN htp hd hh hwp (oth := 0) (Nat.zero_le _) (fun o ho => absurd ho (Nat.not_lt_zero o)) (k153 _ (Nat.zero_le _) (fun c h1 h2 => ?_)) 0 0 (by omega) J hK hT
             obtain ⟨c1, c2, c3⟩ := h_at2 hwp h1 h2
             exact h_pr hI hi hw (by decide) hN (by rw [c2]; exact ha) (by rw [c1]; exact v71))
      · have v71 := b1_nt h71
        refine pm_aload_n (pc := 74) dX7_search_74 rfl ?_
        refine pm_iload (pc := 75) dX7_search_75 rfl ?_
        refine pm_cSR (pc := 77) dX7_search_77 (c_othersOf hGJ hh) wq_X7_othersOf wm_X7_34 wt_X7_othersOf ⟨Nat.le_of_ble_eq_true rfl, Nat.le_of_ble_eq_true rfl⟩ ⟨Nat.le_of_ble_eq_true rfl, Nat.le_of_ble_eq_true rfl⟩ rfl (Nat.le_of_ble_eq_true rfl) ?_
        refine pm_goto (pc := 80) (tgt := 84) dX7_search_80 rfl ?_
        refine pm_istore (pc := 84) dX7_search_84 (by decide) rfl ?_
        refine pm_iconst (pc := 86) (v := nI 0) dX7_search_86 (by decide) ?_
        refine pm_istore (pc := 87) dX7_search_87 (by decide) rfl ?_
        first
          | (refine l_hs089 hG hI hi hw hN htp hd hh hwp (oth := h_ot s how) (Nat.le_refl _) (fun o _ => by
                 obtain ⟨k1, k2, k3⟩ := h_code (h := how) (p := w) (o := o) (by omega) (by have := h_ot12 hI.n12 how; omega)
                 exact h_ltB v71 hw htp k1 (by rw [k2]; exact ha)) (k153 _ (h_ot12 hI.n12 how) (fun c h1 h2 => ?_)) (h_ot s how) 0 (by omega) J hK hT
             obtain ⟨c1, c2, c3⟩ := h_at2 hwp h1 h2
             exact h_at_V (h_hi c1 c3))
          | (refine l_hs089 hG hI hi hw hN htp hd hh hwp (oth := 0) (Nat.zero_le _) (fun o ho => absurd ho (Nat.not_lt_zero o)) (k153 _ (Nat.zero_le _) (fun c h1 h2 => ?_)) 0 0 (by omega) J hK hT
             obtain ⟨c1, c2, c3⟩ := h_at2 hwp h1 h2
             exact h_pr hI hi hw (by decide) hN (by rw [c2]; exact ha) (by rw [c1]; exact v71))
    · simp (disch := omega) only [pm_eqI, pm_ltI, pm_leI, nI_toInt, pm_t0, pm_t1, pm_tm1] at h56
      have ha : (1 : Nat) = 1 ↔ w = g_wh s i := by omega
      refine pm_iconst (pc := 59) (v := nI 1) dX7_search_59 (by decide) ?_
      refine pm_goto (pc := 60) (tgt := 64) dX7_search_60 rfl ?_
      refine pm_iload (pc := 64) dX7_search_64 rfl ?_
      refine pm_iload_n (pc := 66) dX7_search_66 rfl ?_
      refine pm_isub (pc := 67) dX7_search_67 ?_
      refine pm_top (x' := nI 1) (by rw [pk_sub (by omega)]; congr 1; omega) ?_
      refine pm_cSR (pc := 68) dX7_search_68 (c_canHelp hh (by decide) (by decide)) wq_X7_canHelp wm_X7_30 wt_X7_canHelp ⟨Nat.le_of_ble_eq_true rfl, Nat.le_of_ble_eq_true rfl⟩ ⟨Nat.le_of_ble_eq_true rfl, Nat.le_of_ble_eq_true rfl⟩ rfl (Nat.le_of_ble_eq_true rfl) ?_
      refine pm_if_eq (pc := 71) (tgt := 83) dX7_search_71 rfl (fun h71 => ?_) (fun h71 => ?_)
      · have v71 := b1_nf h71
        refine pm_iconst (pc := 83) (v := nI 0) dX7_search_83 (by decide) ?_
        refine pm_istore (pc := 84) dX7_search_84 (by decide) rfl ?_
        refine pm_iconst (pc := 86) (v := nI 0) dX7_search_86 (by decide) ?_
        refine pm_istore (pc := 87) dX7_search_87 (by decide) rfl ?_
        first
          | (refine l_hs089 hG hI hi hw hN htp hd hh hwp (oth := h_ot s how) (Nat.le_refl _) (fun o _ => by
                 obtain ⟨k1, k2, k3⟩ := h_code (h := how) (p := w) (o := o) (by omega) (by have := h_ot12 hI.n12 how; omega)
                 exact h_ltB v71 hw htp k1 (by rw [k2]; exact ha)) (k153 _ (h_ot12 hI.n12 how) (fun c h1 h2 => ?_)) (h_ot s how) 0 (by omega) J hK hT
             obtain ⟨c1, c2, c3⟩ := h_at2 hwp h1 h2
             exact h_at_V (h_hi c1 c3))
          | (refine l_hs089 hG hI hi hw hN htp hd hh hwp (oth := 0) (Nat.zero_le _) (fun o ho => absurd ho (Nat.not_lt_zero o)) (k153 _ (Nat.zero_le _) (fun c h1 h2 => ?_)) 0 0 (by omega) J hK hT
             obtain ⟨c1, c2, c3⟩ := h_at2 hwp h1 h2
             exact h_pr hI hi hw (by decide) hN (by rw [c2]; exact ha) (by rw [c1]; exact v71))
      · have v71 := b1_nt h71
        refine pm_aload_n (pc := 74) dX7_search_74 rfl ?_
        refine pm_iload (pc := 75) dX7_search_75 rfl ?_
        refine pm_cSR (pc := 77) dX7_search_77 (c_othersOf hGJ hh) wq_X7_othersOf wm_X7_34 wt_X7_othersOf ⟨Nat.le_of_ble_eq_true rfl, Nat.le_of_ble_eq_true rfl⟩ ⟨Nat.le_of_ble_eq_true rfl, Nat.le_of_ble_eq_true rfl⟩ rfl (Nat.le_of_ble_eq_true rfl) ?_
        refine pm_goto (pc := 80) (tgt := 84) dX7_search_80 rfl ?_
        refine pm_istore (pc := 84) dX7_search_84 (by decide) rfl ?_
        refine pm_iconst (pc := 86) (v := nI 0) dX7_search_86 (by decide) ?_
        refine pm_istore (pc := 87) dX7_search_87 (by decide) rfl ?_
        first
          | (refine l_hs089 hG hI hi hw hN htp hd hh hwp (oth := h_ot s how) (Nat.le_refl _) (fun o _ => by
                 obtain ⟨k1, k2, k3⟩ := h_code (h := how) (p := w) (o := o) (by omega) (by have := h_ot12 hI.n12 how; omega)
                 exact h_ltB v71 hw htp k1 (by rw [k2]; exact ha)) (k153 _ (h_ot12 hI.n12 how) (fun c h1 h2 => ?_)) (h_ot s how) 0 (by omega) J hK hT
             obtain ⟨c1, c2, c3⟩ := h_at2 hwp h1 h2
             exact h_at_V (h_hi c1 c3))
          | (refine l_hs089 hG hI hi hw hN htp hd hh hwp (oth := 0) (Nat.zero_le _) (fun o ho => absurd ho (Nat.not_lt_zero o)) (k153 _ (Nat.zero_le _) (fun c h1 h2 => ?_)) 0 0 (by omega) J hK hT
             obtain ⟨c1, c2, c3⟩ := h_at2 hwp h1 h2
             exact h_pr hI hi hw (by decide) hN (by rw [c2]; exact ha) (by rw [c1]; exact v71))
set_option maxRecDepth 100000 in
set_option maxHeartbeats 1000000 in
theorem l_hs034 {I : pm_I} {L : pm_L} {s : gS} (hG : GR I 1 s) (hI : gInv s) {i : Nat} (hi : i < g_n s) (hw : g_wh s i < 6) (hN : ∀ q, q < 0 → h_f i q s = none) (htp : g_top s (g_wh s i) = i) {depth : Nat} (hd : depth + 1 ≤ 3) {la : Launch} {P : pm_E} : ∀ (m how : Nat), how + m = 4 → ∀ J : pm_I, h_K s depth I J → h_fst (h_at i 0 s) (3600 - (1000 * how)) (1000 * how) = h_f i 0 s → PW la P yX7_search cX7_search 11 (some (.boolean)) (pm_rm 5 0 0) (pm_Tg P (QI GG (fun v I' L' => (v = h_v (h_f i 0 s) ∧ h_R s depth I I' (h_f i 0 s)) ∧ L' = L)) 0 0) 0 0 34 [some (.ref 1), some (.int (nI i)), some (.ref 18), some (.int (nI depth)), some (.int (nI (depth + 1))), some (.int (nI (g_wh s i))), some (.int (nI how)), none, none, none, none] [] GG J L
  | 0, how, hm, J, hK, hT => by
    have e : how = 4 := by omega
    subst e
    rw [h_fst_end (by decide)] at hT
    refine pm_iload (pc := 34) dX7_search_34 rfl ?_
    refine pm_iconst (pc := 36) (v := nI 3) dX7_search_36 (by decide) ?_
    refine pm_icmp_gt (pc := 37) (tgt := 165) dX7_search_37 rfl (fun h37 => ?_) (fun h37 => (by simp (disch := omega) only [pm_eqI, pm_ltI, pm_leI, nI_toInt, pm_t0, pm_t1, pm_tm1] at h37; omega))
    refine pm_iconst (pc := 165) (v := nI 0) dX7_search_165 (by decide) ?_
    refine pm_zret (pc := 166) (by decide) rfl (Nat.le_refl _) (Nat.le_refl _) dX7_search_166 ?_
    rw [← hT]
    exact QI.r ⟨⟨rfl, h_R.none hK⟩, rfl⟩
  | m + 1, how, hm, J, hK, hT => by
    have hh : how < 4 := by omega
    have k159 : ∀ J : pm_I, h_K s depth I J → h_fst (h_at i 0 s) (3600 - (1000 * how + 100 * 6)) (1000 * how + 100 * 6) = h_f i 0 s → PW la P yX7_search cX7_search 11 (some (.boolean)) (pm_rm 5 0 0) (pm_Tg P (QI GG (fun v I' L' => (v = h_v (h_f i 0 s) ∧ h_R s depth I I' (h_f i 0 s)) ∧ L' = L)) 0 0) 0 0 159 [some (.ref 1), some (.int (nI i)), some (.ref 18), some (.int (nI depth)), some (.int (nI (depth + 1))), some (.int (nI (g_wh s i))), some (.int (nI how)), none, none, none, none] [] GG J L := fun J hK hT => by
      rw [h_fst_to (show 1000 * how + 100 * 6 ≤ 1000 * (how + 1) by omega) (fun c h1 h2 => h_at_V (fun v => by
        have v2 : c / 100 % 10 < 6 := v.2.1
        omega))] at hT
      refine pm_iinc (pc := 159) dX7_search_159 rfl (pm_inc1 _) (by decide) rfl ?_
      refine pm_goto (pc := 162) (tgt := 34) dX7_search_162 rfl ?_
      exact l_hs034 hG hI hi hw hN htp hd m (how + 1) (by omega) J hK hT
    refine pm_iload (pc := 34) dX7_search_34 rfl ?_
    refine pm_iconst (pc := 36) (v := nI 3) dX7_search_36 (by decide) ?_
    refine pm_icmp_gt (pc := 37) (tgt := 165) dX7_search_37 rfl (fun h37 => (by simp (disch := omega) only [pm_eqI, pm_ltI, pm_leI, nI_toInt, pm_t0, pm_t1, pm_tm1] at h37; omega)) (fun h37 => ?_)
    refine pm_iconst (pc := 40) (v := nI 0) dX7_search_40 (by decide) ?_
    refine pm_istore (pc := 41) dX7_search_41 (by decide) rfl ?_
    exact l_hs043 hG hI hi hw hN htp hd hh k159 6 0 (by omega) J hK hT
set_option maxRecDepth 100000 in
set_option maxHeartbeats 1000000 in
theorem c_search0 {I : pm_I} {L : pm_L} {s : gS} (hG : GR I 1 s) (hI : gInv s) {i : Nat} (hi : i < g_n s) (hw : g_wh s i < 6) (hN : ∀ q, q < 0 → h_f i q s = none) {depth : Nat} (hd : depth + 1 ≤ 3) : PC 5 0 0 yX7_search cX7_search 11 (some (.boolean)) [.ref 1, .int (nI i), .ref 18, .int (nI depth), .int (nI (depth + 1))] GG I L (QI GG (fun v I' L' => (v = h_v (h_f i 0 s) ∧ h_R s depth I I' (h_f i 0 s)) ∧ L' = L)) := by
  have h12 := hI.n12
  have hoff := g_off_lt hI hi
  refine PC.of [some (.ref 1), some (.int (nI i)), some (.ref 18), some (.int (nI depth)), some (.int (nI (depth + 1))), none, none, none, none, none, none] (by decide) (Nat.le_of_ble_eq_true rfl) rfl (fun l P => ?_)
  refine pm_iload_n (pc := 0) dX7_search_0 rfl ?_
  refine pm_if_lt (pc := 1) (tgt := 22) dX7_search_1 rfl (fun h1 => (by simp (disch := omega) only [pm_eqI, pm_ltI, pm_leI, nI_toInt, pm_t0, pm_t1, pm_tm1] at h1; omega)) (fun h1 => ?_)
  refine pm_iload_n (pc := 4) dX7_search_4 rfl ?_
  refine pm_aload_n (pc := 5) dX7_search_5 rfl ?_
  refine pm_alen (pc := 6) (v := nI 3) rfl (by decide) rfl dX7_search_6 ?_
  refine pm_icmp_ge (pc := 7) (tgt := 22) dX7_search_7 rfl (fun h7 => (by simp (disch := omega) only [pm_eqI, pm_ltI, pm_leI, nI_toInt, pm_t0, pm_t1, pm_tm1] at h7; omega)) (fun h7 => ?_)
  refine pm_aload_n (pc := 10) dX7_search_10 rfl ?_
  refine pm_iload_n (pc := 11) dX7_search_11 rfl ?_
  refine pm_cVR (pc := 12) dX7_search_12 (c_offOf hG hI hi) wq_X2_offOf wm_X7_25 wi_X2_offOf ws_X2_offOf rfl rfl ⟨Nat.le_of_ble_eq_true rfl, Nat.le_of_ble_eq_true rfl⟩ ⟨Nat.le_of_ble_eq_true rfl, Nat.le_of_ble_eq_true rfl⟩ rfl (Nat.le_of_ble_eq_true rfl) ?_
  refine pm_iload (pc := 15) dX7_search_15 rfl ?_
  refine pm_iload_n (pc := 17) dX7_search_17 rfl ?_
  refine pm_isub (pc := 18) dX7_search_18 ?_
  refine pm_top (x' := nI 1) (by rw [pk_sub (by omega)]; congr 1; omega) ?_
  refine pm_icmp_lt (pc := 19) (tgt := 24) dX7_search_19 rfl (fun h19 => ?_) (fun h19 => ?_)
  · simp (disch := omega) only [pm_eqI, pm_ltI, pm_leI, nI_toInt, pm_t0, pm_t1, pm_tm1] at h19
    have htp := h_off0' hI hi hw (by omega)
    refine pm_aload_n (pc := 24) dX7_search_24 rfl ?_
    refine pm_iload_n (pc := 25) dX7_search_25 rfl ?_
    refine pm_cVR (pc := 26) dX7_search_26 (c_placeOf hG hI hi) wq_X2_placeOf wm_X7_15 wi_X2_placeOf ws_X2_placeOf rfl rfl ⟨Nat.le_of_ble_eq_true rfl, Nat.le_of_ble_eq_true rfl⟩ ⟨Nat.le_of_ble_eq_true rfl, Nat.le_of_ble_eq_true rfl⟩ rfl (Nat.le_of_ble_eq_true rfl) ?_
    refine pm_istore (pc := 29) dX7_search_29 (by decide) rfl ?_
    refine pm_iconst (pc := 31) (v := nI 0) dX7_search_31 (by decide) ?_
    refine pm_istore (pc := 32) dX7_search_32 (by decide) rfl ?_
    exact l_hs034 hG hI hi hw hN htp hd 4 0 (by omega) I (h_K.rf hG) (h_f_eq i 0 s).symm
  · simp (disch := omega) only [pm_eqI, pm_ltI, pm_leI, nI_toInt, pm_t0, pm_t1, pm_tm1] at h19
    refine pm_iconst (pc := 22) (v := nI 0) dX7_search_22 (by decide) ?_
    refine pm_zret (pc := 23) (by decide) rfl (Nat.le_refl _) (Nat.le_refl _) dX7_search_23 ?_
    cases e : h_f i 0 s with
    | none => exact QI.r ⟨⟨rfl, h_R.none (h_K.rf hG)⟩, rfl⟩
    | some q =>
      have := h_off 0 s q hI hi hw e
      omega
set_option maxRecDepth 100000 in
set_option maxHeartbeats 1000000 in
theorem c_leads1 {I : pm_I} {L : pm_L} {s : gS} (hG : GR I 1 s) (hI : gInv s) {i : Nat} (hi : i < g_n s) (hw : g_wh s i < 6) (hN : ∀ q, q < 1 → h_f i q s = none) {depth c : Nat} (hd : depth + 2 ≤ 3) (hrow : I 18 depth = nI c) (ho : a_ok s c) (h0 : a_h c = 0 → a_o c = 0) : PC 6 0 0 yX7_leads cX7_leads 8 (some (.boolean)) [.ref 1, .int (nI i), .ref 18, .int (nI depth), .int (nI (depth + 1 + 1))] GG I L (QI GG (fun v I' L' => (v = h_v (h_lt i 1 s c) ∧ h_R s (depth + 1) I I' (h_lt i 1 s c)) ∧ L' = L)) := by
  have h4 : c < 4000 := a_lt ho
  have h12 := hI.n12
  refine PC.of [some (.ref 1), some (.int (nI i)), some (.ref 18), some (.int (nI depth)), some (.int (nI (depth + 1 + 1))), none, none, none] (by decide) (Nat.le_of_ble_eq_true rfl) rfl (fun l P => ?_)
  refine pm_iload_n (pc := 0) dX7_leads_0 rfl ?_
  refine pm_if_lt (pc := 1) (tgt := 10) dX7_leads_1 rfl (fun h1 => (by simp (disch := omega) only [pm_eqI, pm_ltI, pm_leI, nI_toInt, pm_t0, pm_t1, pm_tm1] at h1; omega)) (fun h1 => ?_)
  refine pm_iload_n (pc := 4) dX7_leads_4 rfl ?_
  refine pm_aload_n (pc := 5) dX7_leads_5 rfl ?_
  refine pm_alen (pc := 6) (v := nI 3) rfl (by decide) rfl dX7_leads_6 ?_
  refine pm_icmp_lt (pc := 7) (tgt := 12) dX7_leads_7 rfl (fun h7 => ?_) (fun h7 => (by simp (disch := omega) only [pm_eqI, pm_ltI, pm_leI, nI_toInt, pm_t0, pm_t1, pm_tm1] at h7; omega))
  refine pm_aload_n (pc := 12) dX7_leads_12 rfl ?_
  refine pm_iload_n (pc := 13) dX7_leads_13 rfl ?_
  refine pm_iald (pc := 14) rfl (by omega) (by decide) dX7_leads_14 ?_
  rw [hrow]
  refine pm_istore (pc := 15) dX7_leads_15 (by decide) rfl ?_
  refine pm_aload_n (pc := 17) dX7_leads_17 rfl ?_
  refine pm_iload (pc := 18) dX7_leads_18 rfl ?_
  refine pm_cVR (pc := 20) dX7_leads_20 (c_canBe hG hI ho) wq_X2_canBe wm_X7_49 wi_X2_canBe ws_X2_canBe rfl rfl ⟨Nat.le_of_ble_eq_true rfl, Nat.le_of_ble_eq_true rfl⟩ ⟨Nat.le_of_ble_eq_true rfl, Nat.le_of_ble_eq_true rfl⟩ rfl (Nat.le_of_ble_eq_true rfl) ?_
  refine pm_if_eq (pc := 23) (tgt := 35) dX7_leads_23 rfl (fun h23 => ?_) (fun h23 => ?_)
  · refine pm_iconst (pc := 35) (v := nI 0) dX7_leads_35 (by decide) ?_
    refine pm_zret (pc := 36) (by decide) rfl (Nat.le_refl _) (Nat.le_refl _) dX7_leads_36 ?_
    first
      | exact absurd hcan (b1_nf h23)
      | (have e : h_lt i 1 s c = none := h_lt_V (fun z => b1_nf h23 z.can); rw [e]; exact QI.r ⟨⟨rfl, h_R.none (h_K.rf hG)⟩, rfl⟩)
      | (have e : h_lt i 1 s c = none := h_lt_V (fun z => z.2.2.2.2.2.2 (b1_nt h32)); rw [e]; exact QI.r ⟨⟨rfl, h_R.none (h_K.rf hG)⟩, rfl⟩)
  · have hcan : a_can s c := b1_nt h23
    refine pm_aload_n (pc := 26) dX7_leads_26 rfl ?_
    refine pm_iload (pc := 27) dX7_leads_27 rfl ?_
    refine pm_cVR (pc := 29) dX7_leads_29 (c_isFelt hG hI ho hcan) wq_X2_isFelt wm_X7_53 wi_X2_isFelt ws_X2_isFelt rfl rfl ⟨Nat.le_of_ble_eq_true rfl, Nat.le_of_ble_eq_true rfl⟩ ⟨Nat.le_of_ble_eq_true rfl, Nat.le_of_ble_eq_true rfl⟩ rfl (Nat.le_of_ble_eq_true rfl) ?_
    refine pm_if_eq (pc := 32) (tgt := 37) dX7_leads_32 rfl (fun h32 => ?_) (fun h32 => ?_)
    · have hv : h_V s c := ⟨ho.1, ho.2.1, ho.2.2.1, ho.2.2.2, h0, hcan, b1_nf h32⟩
      refine pm_iload_n (pc := 37) dX7_leads_37 rfl ?_
      refine pm_iconst (pc := 38) (v := nI 1) dX7_leads_38 (by decide) ?_
      refine pm_iadd (pc := 39) dX7_leads_39 ?_
      refine pm_top (nI_add _ _) ?_
      refine pm_iload (pc := 40) dX7_leads_40 rfl ?_
      refine pm_icmp_ne (pc := 42) (tgt := 47) dX7_leads_42 rfl (fun h42 => ?_) (fun h42 => (by simp (disch := omega) only [pm_eqI, pm_ltI, pm_leI, nI_toInt, pm_t0, pm_t1, pm_tm1] at h42; omega))
      refine pm_aload_n (pc := 47) dX7_leads_47 rfl ?_
      refine pm_iload (pc := 48) dX7_leads_48 rfl ?_
      refine pm_cSR (pc := 50) dX7_leads_50 (c_where (by omega)) wq_X0_where wm_X7_56 wt_X0_where ⟨Nat.le_of_ble_eq_true rfl, Nat.le_of_ble_eq_true rfl⟩ ⟨Nat.le_of_ble_eq_true rfl, Nat.le_of_ble_eq_true rfl⟩ rfl (Nat.le_of_ble_eq_true rfl) ?_
      refine pm_cVR (pc := 53) dX7_leads_53 (c_topOf hG hI ho.2.1) wq_X2_topOf wm_X7_59 wi_X2_topOf ws_X2_topOf rfl rfl ⟨Nat.le_of_ble_eq_true rfl, Nat.le_of_ble_eq_true rfl⟩ ⟨Nat.le_of_ble_eq_true rfl, Nat.le_of_ble_eq_true rfl⟩ rfl (Nat.le_of_ble_eq_true rfl) ?_
      refine pm_istore (pc := 56) dX7_leads_56 (by decide) rfl ?_
      refine pm_aload_n (pc := 58) dX7_leads_58 rfl ?_
      refine pm_iload (pc := 59) dX7_leads_59 rfl ?_
      refine pm_cVV (pc := 61) dX7_leads_61 (c_doAct hG hI ho hcan) wq_X2_doAct wm_X7_62 wi_X2_doAct ws_X2_doAct rfl rfl ⟨Nat.le_of_ble_eq_true rfl, Nat.le_of_ble_eq_true rfl⟩ ⟨Nat.le_of_ble_eq_true rfl, Nat.le_of_ble_eq_true rfl⟩ rfl (Nat.le_of_ble_eq_true rfl) (fun I61 L61 q61 => ?_)
      obtain ⟨⟨g61, f61⟩, l61⟩ := q61
      subst l61
      have hI2 := gInv_do hI ho hcan
      have hb : ¬ h_B s i c := fun z => by
        have hz := h_f_none hI (hN 0 (by decide)) c
        rw [h_at_1 z] at hz; exact absurd hz (by simp)
      have hi2 : i < g_n (s_do s c) := by rw [(h_same s c).1]; exact hi
      have hw2 := h_wh hI hi hw hv hb
      have hN2 : ∀ q, q < 0 → h_f i q (s_do s c) = none := fun q hq => by
        have hz := h_f_none hI (hN (q + 1) (by omega)) c
        rw [h_at_s hv] at hz; exact hz
      have hun := h_undo hI ho hcan
      have eb : h_bk c (g_top s (a_p c)) = h_back s c := rfl
      refine pm_aload_n (pc := 64) dX7_leads_64 rfl ?_
      refine pm_iload_n (pc := 65) dX7_leads_65 rfl ?_
      refine pm_aload_n (pc := 66) dX7_leads_66 rfl ?_
      refine pm_iload_n (pc := 67) dX7_leads_67 rfl ?_
      refine pm_iconst (pc := 68) (v := nI 1) dX7_leads_68 (by decide) ?_
      refine pm_iadd (pc := 69) dX7_leads_69 ?_
      refine pm_top (nI_add _ _) ?_
      refine pm_iload (pc := 70) dX7_leads_70 rfl ?_
      refine pm_cSI (pc := 72) dX7_leads_72 (c_search0 g61 hI2 hi2 hw2 hN2 (depth := depth + 1) (by omega)) wq_X7_search wm_X7_21 wt_X7_search ⟨Nat.le_of_ble_eq_true rfl, Nat.le_of_ble_eq_true rfl⟩ ⟨Nat.le_of_ble_eq_true rfl, Nat.le_of_ble_eq_true rfl⟩ rfl (Nat.le_of_ble_eq_true rfl) (fun r72 I72 L72 q72 => ?_)
      obtain ⟨⟨v72, K72, R72⟩, l72⟩ := q72
      subst l72
      refine pm_istore (pc := 75) dX7_leads_75 (by decide) rfl ?_
      refine pm_aload_n (pc := 77) dX7_leads_77 rfl ?_
      refine pm_iload (pc := 78) dX7_leads_78 rfl ?_
      refine pm_iload (pc := 80) dX7_leads_80 rfl ?_
      refine pm_cSR (pc := 82) dX7_leads_82 (c_back h4) wq_X0_back wm_X7_66 wt_X0_back ⟨Nat.le_of_ble_eq_true rfl, Nat.le_of_ble_eq_true rfl⟩ ⟨Nat.le_of_ble_eq_true rfl, Nat.le_of_ble_eq_true rfl⟩ rfl (Nat.le_of_ble_eq_true rfl) ?_
      rw [eb]
      refine pm_cVV (pc := 85) dX7_leads_85 (c_doAct K72.1 hI2 hun.1 hun.2.1) wq_X2_doAct wm_X7_62 wi_X2_doAct ws_X2_doAct rfl rfl ⟨Nat.le_of_ble_eq_true rfl, Nat.le_of_ble_eq_true rfl⟩ ⟨Nat.le_of_ble_eq_true rfl, Nat.le_of_ble_eq_true rfl⟩ rfl (Nat.le_of_ble_eq_true rfl) (fun I85 L85 q85 => ?_)
      obtain ⟨⟨g85, f85⟩, l85⟩ := q85
      subst l85
      rw [hun.2.2] at g85
      refine pm_iload (pc := 88) dX7_leads_88 rfl ?_
      refine pm_zret (pc := 90) (by rw [v72]; exact h_vz _) rfl (Nat.le_refl _) (Nat.le_refl _) dX7_leads_90 ?_
      have e : h_lt i 1 s c = h_f i 0 (s_do s c) := if_pos hv
      rw [e]
      refine QI.r ⟨⟨v72, ⟨g85, fun a ha hb => ?_, fun k hk => ?_⟩, fun q hq k hk => ?_⟩, rfl⟩
      · exact (f85 a ha).trans ((K72.2.1 a ha hb).trans (f61 a ha))
      · rw [f85 18 (by omega), K72.2.2 k hk, f61 18 (by omega)]
      · rw [f85 18 (by omega)]; exact R72 q hq k hk
    · refine pm_iconst (pc := 35) (v := nI 0) dX7_leads_35 (by decide) ?_
      refine pm_zret (pc := 36) (by decide) rfl (Nat.le_refl _) (Nat.le_refl _) dX7_leads_36 ?_
      first
        | exact absurd hcan (b1_nf h23)
        | (have e : h_lt i 1 s c = none := h_lt_V (fun z => b1_nf h23 z.can); rw [e]; exact QI.r ⟨⟨rfl, h_R.none (h_K.rf hG)⟩, rfl⟩)
        | (have e : h_lt i 1 s c = none := h_lt_V (fun z => z.2.2.2.2.2.2 (b1_nt h32)); rw [e]; exact QI.r ⟨⟨rfl, h_R.none (h_K.rf hG)⟩, rfl⟩)
set_option maxRecDepth 100000 in
set_option maxHeartbeats 1000000 in
theorem l_hs189 {I : pm_I} {L : pm_L} {s : gS} (hG : GR I 1 s) (hI : gInv s) {i : Nat} (hi : i < g_n s) (hw : g_wh s i < 6) (hN : ∀ q, q < 1 → h_f i q s = none) {depth : Nat} (hd : depth + 2 ≤ 3) {la : Launch} {P : pm_E} {how w oth : Nat} (hh : how < 4) (hwp : w < 6) (hoth : oth ≤ h_ot s how) (hlt : ∀ o, o < oth → h_lt i 1 s (1000 * how + 100 * w + o) = h_at i 1 s (1000 * how + 100 * w + o)) (k153 : ∀ J : pm_I, h_K s depth I J → h_fst (h_at i 1 s) (3600 - (1000 * how + 100 * w + oth)) (1000 * how + 100 * w + oth) = h_f i 1 s → PW la P yX7_search cX7_search 11 (some (.boolean)) (pm_rm 7 0 0) (pm_Tg P (QI GG (fun v I' L' => (v = h_v (h_f i 1 s) ∧ h_R s depth I I' (h_f i 1 s)) ∧ L' = L)) 0 0) 0 0 153 [some (.ref 1), some (.int (nI i)), some (.ref 18), some (.int (nI depth)), some (.int (nI (depth + 2))), some (.int (nI (g_wh s i))), some (.int (nI how)), some (.int (nI w)), none, none, none] [] GG J L) : ∀ (m o : Nat), o + m = oth → ∀ J : pm_I, h_K s depth I J → h_fst (h_at i 1 s) (3600 - (1000 * how + 100 * w + o)) (1000 * how + 100 * w + o) = h_f i 1 s → PW la P yX7_search cX7_search 11 (some (.boolean)) (pm_rm 7 0 0) (pm_Tg P (QI GG (fun v I' L' => (v = h_v (h_f i 1 s) ∧ h_R s depth I I' (h_f i 1 s)) ∧ L' = L)) 0 0) 0 0 89 [some (.ref 1), some (.int (nI i)), some (.ref 18), some (.int (nI depth)), some (.int (nI (depth + 2))), some (.int (nI (g_wh s i))), some (.int (nI how)), some (.int (nI w)), some (.int (nI oth)), some (.int (nI o)), none] [] GG J L
  | 0, o, hm, J, hK, hT => by
    have h12 := h_ot12 hI.n12 how
    have e : o = oth := by omega
    subst e
    refine pm_iload (pc := 89) dX7_search_89 rfl ?_
    refine pm_iload (pc := 91) dX7_search_91 rfl ?_
    refine pm_icmp_ge (pc := 93) (tgt := 153) dX7_search_93 rfl (fun h93 => ?_) (fun h93 => (by simp (disch := omega) only [pm_eqI, pm_ltI, pm_leI, nI_toInt, pm_t0, pm_t1, pm_tm1] at h93; omega))
    refine pm_kill 8 ?_
    refine pm_kill 9 ?_
    exact k153 J hK hT
  | m + 1, o, hm, J, hK, hT => by
    have h12 := h_ot12 hI.n12 how
    have hlo := hlt o (by omega)
    obtain ⟨k1, k2, k3⟩ := h_code (h := how) (p := w) (o := o) (by omega) (by omega)
    obtain ⟨hK2, hrow⟩ := hK.row (nI (1000 * how + 100 * w + o))
    have kA : (how = 3 → o ≠ w) → PW la P yX7_search cX7_search 11 (some (.boolean)) (pm_rm 7 0 0) (pm_Tg P (QI GG (fun v I' L' => (v = h_v (h_f i 1 s) ∧ h_R s depth I I' (h_f i 1 s)) ∧ L' = L)) 0 0) 0 0 116 [some (.ref 1), some (.int (nI i)), some (.ref 18), some (.int (nI depth)), some (.int (nI (depth + 2))), some (.int (nI (g_wh s i))), some (.int (nI how)), some (.int (nI w)), some (.int (nI oth)), some (.int (nI o)), some (.int (nI 1))] [] GG J L := fun hne => by
      obtain ⟨ho, h0⟩ := h_okc hI.n12 hh hwp (show o < h_ot s how by omega) hne
      refine pm_aload_n (pc := 116) dX7_search_116 rfl ?_
      refine pm_iload_n (pc := 117) dX7_search_117 rfl ?_
      refine pm_iload (pc := 118) dX7_search_118 rfl ?_
      refine pm_iload (pc := 120) dX7_search_120 rfl ?_
      refine pm_iload (pc := 122) dX7_search_122 rfl ?_
      refine pm_cSR (pc := 124) dX7_search_124 (c_code) wq_X0_code wm_X7_38 wt_X0_code ⟨Nat.le_of_ble_eq_true rfl, Nat.le_of_ble_eq_true rfl⟩ ⟨Nat.le_of_ble_eq_true rfl, Nat.le_of_ble_eq_true rfl⟩ rfl (Nat.le_of_ble_eq_true rfl) ?_
      refine pm_iast (pc := 127) rfl (by omega) (by decide) dX7_search_127 ?_
      refine pm_iload (pc := 128) dX7_search_128 rfl ?_
      refine pm_if_eq (pc := 130) (tgt := 147) dX7_search_130 rfl (fun h130 => absurd h130 (by decide)) (fun h130 => ?_)
      refine pm_aload_n (pc := 133) dX7_search_133 rfl ?_
      refine pm_iload_n (pc := 134) dX7_search_134 rfl ?_
      refine pm_aload_n (pc := 135) dX7_search_135 rfl ?_
      refine pm_iload_n (pc := 136) dX7_search_136 rfl ?_
      refine pm_iload (pc := 137) dX7_search_137 rfl ?_
      refine pm_top (x' := nI (depth + 1 + 1)) (congrArg nI (by omega)) ?_
      refine pm_cSI (pc := 139) dX7_search_139 (c_leads1 hK2.1 hI hi hw hN (depth := depth) (c := 1000 * how + 100 * w + o) hd hrow ho h0) wq_X7_leads wm_X7_42 wt_X7_leads ⟨Nat.le_of_ble_eq_true rfl, Nat.le_of_ble_eq_true rfl⟩ ⟨Nat.le_of_ble_eq_true rfl, Nat.le_of_ble_eq_true rfl⟩ rfl (Nat.le_of_ble_eq_true rfl) (fun r139 I139 L139 q139 => ?_)
      obtain ⟨⟨v139, R139⟩, l139⟩ := q139
      subst l139
      rw [hlo] at v139 R139
      refine pm_if_eq (pc := 142) (tgt := 147) dX7_search_142 rfl (fun h142 => ?_) (fun h142 => ?_)
      · have hn : h_at i 1 s (1000 * how + 100 * w + o) = none := by rw [v139] at h142; exact h_v0.mp h142
        rw [h_fst_1 hn] at hT
        refine pm_iinc (pc := 147) dX7_search_147 rfl (pm_inc1 _) (by decide) rfl ?_
        refine pm_goto (pc := 150) (tgt := 89) dX7_search_150 rfl ?_
        refine pm_kill 10 ?_
        exact l_hs189 hG hI hi hw hN hd hh hwp hoth hlt k153 m (o + 1) (by omega) _ (hK2.tr (R139.1.dn (Nat.le_succ _))) hT
      · refine pm_iconst (pc := 145) (v := nI 1) dX7_search_145 (by decide) ?_
        refine pm_zret (pc := 146) (by decide) rfl (Nat.le_refl _) (Nat.le_refl _) dX7_search_146 ?_
        cases et : h_at i 1 s (1000 * how + 100 * w + o) with
        | none => exact absurd (by rw [v139, et]; rfl) h142
        | some t =>
          have hlt9 : 1000 * how + 100 * w + o < 3600 := (show h_V s (1000 * how + 100 * w + o) from Classical.byContradiction (fun z => by rw [h_at_V z] at et; exact absurd et (by simp))).lt hI
          rw [h_fst_some hlt9 et] at hT
          rw [← hT]
          rw [et] at R139
          exact QI.r ⟨⟨rfl, h_R.cons hK2 hrow R139⟩, rfl⟩
    have kB : (how = 3 ∧ o = w) → PW la P yX7_search cX7_search 11 (some (.boolean)) (pm_rm 7 0 0) (pm_Tg P (QI GG (fun v I' L' => (v = h_v (h_f i 1 s) ∧ h_R s depth I I' (h_f i 1 s)) ∧ L' = L)) 0 0) 0 0 116 [some (.ref 1), some (.int (nI i)), some (.ref 18), some (.int (nI depth)), some (.int (nI (depth + 2))), some (.int (nI (g_wh s i))), some (.int (nI how)), some (.int (nI w)), some (.int (nI oth)), some (.int (nI o)), some (.int (nI 0))] [] GG J L := fun hne => by
      refine pm_aload_n (pc := 116) dX7_search_116 rfl ?_
      refine pm_iload_n (pc := 117) dX7_search_117 rfl ?_
      refine pm_iload (pc := 118) dX7_search_118 rfl ?_
      refine pm_iload (pc := 120) dX7_search_120 rfl ?_
      refine pm_iload (pc := 122) dX7_search_122 rfl ?_
      refine pm_cSR (pc := 124) dX7_search_124 (c_code) wq_X0_code wm_X7_38 wt_X0_code ⟨Nat.le_of_ble_eq_true rfl, Nat.le_of_ble_eq_true rfl⟩ ⟨Nat.le_of_ble_eq_true rfl, Nat.le_of_ble_eq_true rfl⟩ rfl (Nat.le_of_ble_eq_true rfl) ?_
      refine pm_iast (pc := 127) rfl (by omega) (by decide) dX7_search_127 ?_
      refine pm_iload (pc := 128) dX7_search_128 rfl ?_
      refine pm_if_eq (pc := 130) (tgt := 147) dX7_search_130 rfl (fun h130 => ?_) (fun h130 => absurd (show nI 0 = 0 by decide) h130)
      have hn : h_at i 1 s (1000 * how + 100 * w + o) = none := h_at_V (fun v => (v.2.2.2.1 (by omega)).2 (by omega))
      rw [h_fst_1 hn] at hT
      refine pm_iinc (pc := 147) dX7_search_147 rfl (pm_inc1 _) (by decide) rfl ?_
      refine pm_goto (pc := 150) (tgt := 89) dX7_search_150 rfl ?_
      refine pm_kill 10 ?_
      exact l_hs189 hG hI hi hw hN hd hh hwp hoth hlt k153 m (o + 1) (by omega) _ hK2 hT
    refine pm_iload (pc := 89) dX7_search_89 rfl ?_
    refine pm_iload (pc := 91) dX7_search_91 rfl ?_
    refine pm_icmp_ge (pc := 93) (tgt := 153) dX7_search_93 rfl (fun h93 => (by simp (disch := omega) only [pm_eqI, pm_ltI, pm_leI, nI_toInt, pm_t0, pm_t1, pm_tm1] at h93; omega)) (fun h93 => ?_)
    refine pm_iload (pc := 96) dX7_search_96 rfl ?_
    refine pm_iconst (pc := 98) (v := nI 3) dX7_search_98 (by decide) ?_
    refine pm_icmp_ne (pc := 99) (tgt := 109) dX7_search_99 rfl (fun h99 => ?_) (fun h99 => ?_)
    · simp (disch := omega) only [pm_eqI, pm_ltI, pm_leI, nI_toInt, pm_t0, pm_t1, pm_tm1] at h99
      refine pm_iconst (pc := 109) (v := nI 1) dX7_search_109 (by decide) ?_
      refine pm_goto (pc := 110) (tgt := 114) dX7_search_110 rfl ?_
      refine pm_istore (pc := 114) dX7_search_114 (by decide) rfl ?_
      first
        | exact kA (by omega)
        | exact kB (by omega)
    · simp (disch := omega) only [pm_eqI, pm_ltI, pm_leI, nI_toInt, pm_t0, pm_t1, pm_tm1] at h99
      refine pm_iload (pc := 102) dX7_search_102 rfl ?_
      refine pm_iload (pc := 104) dX7_search_104 rfl ?_
      refine pm_icmp_eq (pc := 106) (tgt := 113) dX7_search_106 rfl (fun h106 => ?_) (fun h106 => ?_)
      · simp (disch := omega) only [pm_eqI, pm_ltI, pm_leI, nI_toInt, pm_t0, pm_t1, pm_tm1] at h106
        refine pm_iconst (pc := 113) (v := nI 0) dX7_search_113 (by decide) ?_
        refine pm_istore (pc := 114) dX7_search_114 (by decide) rfl ?_
        first
          | exact kA (by omega)
          | exact kB (by omega)
      · simp (disch := omega) only [pm_eqI, pm_ltI, pm_leI, nI_toInt, pm_t0, pm_t1, pm_tm1] at h106
        refine pm_iconst (pc := 109) (v := nI 1) dX7_search_109 (by decide) ?_
        refine pm_goto (pc := 110) (tgt := 114) dX7_search_110 rfl ?_
        refine pm_istore (pc := 114) dX7_search_114 (by decide) rfl ?_
        first
          | exact kA (by omega)
          | exact kB (by omega)
set_option maxRecDepth 100000 in
set_option maxHeartbeats 1000000 in
theorem l_hs143 {I : pm_I} {L : pm_L} {s : gS} (hG : GR I 1 s) (hI : gInv s) {i : Nat} (hi : i < g_n s) (hw : g_wh s i < 6) (hN : ∀ q, q < 1 → h_f i q s = none) {depth : Nat} (hd : depth + 2 ≤ 3) {la : Launch} {P : pm_E} {how : Nat} (hh : how < 4) (k159 : ∀ J : pm_I, h_K s depth I J → h_fst (h_at i 1 s) (3600 - (1000 * how + 100 * 6)) (1000 * how + 100 * 6) = h_f i 1 s → PW la P yX7_search cX7_search 11 (some (.boolean)) (pm_rm 7 0 0) (pm_Tg P (QI GG (fun v I' L' => (v = h_v (h_f i 1 s) ∧ h_R s depth I I' (h_f i 1 s)) ∧ L' = L)) 0 0) 0 0 159 [some (.ref 1), some (.int (nI i)), some (.ref 18), some (.int (nI depth)), some (.int (nI (depth + 2))), some (.int (nI (g_wh s i))), some (.int (nI how)), none, none, none, none] [] GG J L) : ∀ (m w : Nat), w + m = 6 → ∀ J : pm_I, h_K s depth I J → h_fst (h_at i 1 s) (3600 - (1000 * how + 100 * w)) (1000 * how + 100 * w) = h_f i 1 s → PW la P yX7_search cX7_search 11 (some (.boolean)) (pm_rm 7 0 0) (pm_Tg P (QI GG (fun v I' L' => (v = h_v (h_f i 1 s) ∧ h_R s depth I I' (h_f i 1 s)) ∧ L' = L)) 0 0) 0 0 43 [some (.ref 1), some (.int (nI i)), some (.ref 18), some (.int (nI depth)), some (.int (nI (depth + 2))), some (.int (nI (g_wh s i))), some (.int (nI how)), some (.int (nI w)), none, none, none] [] GG J L
  | 0, w, hm, J, hK, hT => by
    have e : w = 6 := by omega
    subst e
    refine pm_iload (pc := 43) dX7_search_43 rfl ?_
    refine pm_bipush (pc := 45) (v := nI 6) dX7_search_45 (by decide) ?_
    refine pm_icmp_ge (pc := 47) (tgt := 159) dX7_search_47 rfl (fun h47 => ?_) (fun h47 => (by simp (disch := omega) only [pm_eqI, pm_ltI, pm_leI, nI_toInt, pm_t0, pm_t1, pm_tm1] at h47; omega))
    refine pm_kill 7 ?_
    exact k159 J hK hT
  | m + 1, w, hm, J, hK, hT => by
    have hwp : w < 6 := by omega
    have hGJ := hK.1
    have k153 : ∀ oth : Nat, oth ≤ 12 → (∀ c, 1000 * how + 100 * w + oth ≤ c → c < 1000 * how + 100 * (w + 1) → h_at i 1 s c = none) → ∀ J : pm_I, h_K s depth I J → h_fst (h_at i 1 s) (3600 - (1000 * how + 100 * w + oth)) (1000 * how + 100 * w + oth) = h_f i 1 s → PW la P yX7_search cX7_search 11 (some (.boolean)) (pm_rm 7 0 0) (pm_Tg P (QI GG (fun v I' L' => (v = h_v (h_f i 1 s) ∧ h_R s depth I I' (h_f i 1 s)) ∧ L' = L)) 0 0) 0 0 153 [some (.ref 1), some (.int (nI i)), some (.ref 18), some (.int (nI depth)), some (.int (nI (depth + 2))), some (.int (nI (g_wh s i))), some (.int (nI how)), some (.int (nI w)), none, none, none] [] GG J L := fun oth h12 hs J hK hT => by
      rw [h_fst_to (show 1000 * how + 100 * w + oth ≤ 1000 * how + 100 * (w + 1) by omega) hs] at hT
      refine pm_iinc (pc := 153) dX7_search_153 rfl (pm_inc1 _) (by decide) rfl ?_
      refine pm_goto (pc := 156) (tgt := 43) dX7_search_156 rfl ?_
      exact l_hs143 hG hI hi hw hN hd hh k159 m (w + 1) (by omega) J hK hT
    refine pm_iload (pc := 43) dX7_search_43 rfl ?_
    refine pm_bipush (pc := 45) (v := nI 6) dX7_search_45 (by decide) ?_
    refine pm_icmp_ge (pc := 47) (tgt := 159) dX7_search_47 rfl (fun h47 => (by simp (disch := omega) only [pm_eqI, pm_ltI, pm_leI, nI_toInt, pm_t0, pm_t1, pm_tm1] at h47; omega)) (fun h47 => ?_)
    refine pm_iload (pc := 50) dX7_search_50 rfl ?_
    refine pm_iload (pc := 52) dX7_search_52 rfl ?_
    refine pm_iload (pc := 54) dX7_search_54 rfl ?_
    refine pm_icmp_ne (pc := 56) (tgt := 63) dX7_search_56 rfl (fun h56 => ?_) (fun h56 => ?_)
    · simp (disch := omega) only [pm_eqI, pm_ltI, pm_leI, nI_toInt, pm_t0, pm_t1, pm_tm1] at h56
      have ha : (0 : Nat) = 1 ↔ w = g_wh s i := by omega
      refine pm_iconst (pc := 63) (v := nI 0) dX7_search_63 (by decide) ?_
      refine pm_iload (pc := 64) dX7_search_64 rfl ?_
      refine pm_iload_n (pc := 66) dX7_search_66 rfl ?_
      refine pm_isub (pc := 67) dX7_search_67 ?_
      refine pm_top (x' := nI 2) (by rw [pk_sub (by omega)]; congr 1; omega) ?_
      refine pm_cSR (pc := 68) dX7_search_68 (c_canHelp hh (by decide) (by decide)) wq_X7_canHelp wm_X7_30 wt_X7_canHelp ⟨Nat.le_of_ble_eq_true rfl, Nat.le_of_ble_eq_true rfl⟩ ⟨Nat.le_of_ble_eq_true rfl, Nat.le_of_ble_eq_true rfl⟩ rfl (Nat.le_of_ble_eq_true rfl) ?_
      refine pm_if_eq (pc := 71) (tgt := 83) dX7_search_71 rfl (fun h71 => ?_) (fun h71 => ?_)
      · have v71 := b1_nf h71
        refine pm_iconst (pc := 83) (v := nI 0) dX7_search_83 (by decide) ?_
        refine pm_istore (pc := 84) dX7_search_84 (by decide) rfl ?_
        refine pm_iconst (pc := 86) (v := nI 0) dX7_search_86 (by decide) ?_
        refine pm_istore (pc := 87) dX7_search_87 (by decide) rfl ?_
        first
          | (refine l_hs189 hG hI hi hw hN hd hh hwp (oth := h_ot s how) (Nat.le_refl _) (fun o _ => rfl) (k153 _ (h_ot12 hI.n12 how) (fun c h1 h2 => ?_)) (h_ot s how) 0 (by omega) J hK hT
             obtain ⟨c1, c2, c3⟩ := h_at2 hwp h1 h2
             exact h_at_V (h_hi c1 c3))
          | (refine l_hs189 hG hI hi hw hN hd hh hwp (oth := 0) (Nat.zero_le _) (fun o ho => absurd ho (Nat.not_lt_zero o)) (k153 _ (Nat.zero_le _) (fun c h1 h2 => ?_)) 0 0 (by omega) J hK hT
             obtain ⟨c1, c2, c3⟩ := h_at2 hwp h1 h2
             exact h_pr hI hi hw (by decide) hN (by rw [c2]; exact ha) (by rw [c1]; exact v71))
      · have v71 := b1_nt h71
        refine pm_aload_n (pc := 74) dX7_search_74 rfl ?_
        refine pm_iload (pc := 75) dX7_search_75 rfl ?_
        refine pm_cSR (pc := 77) dX7_search_77 (c_othersOf hGJ hh) wq_X7_othersOf wm_X7_34 wt_X7_othersOf ⟨Nat.le_of_ble_eq_true rfl, Nat.le_of_ble_eq_true rfl⟩ ⟨Nat.le_of_ble_eq_true rfl, Nat.le_of_ble_eq_true rfl⟩ rfl (Nat.le_of_ble_eq_true rfl) ?_
        refine pm_goto (pc := 80) (tgt := 84) dX7_search_80 rfl ?_
        refine pm_istore (pc := 84) dX7_search_84 (by decide) rfl ?_
        refine pm_iconst (pc := 86) (v := nI 0) dX7_search_86 (by decide) ?_
        refine pm_istore (pc := 87) dX7_search_87 (by decide) rfl ?_
        first
          | (refine l_hs189 hG hI hi hw hN hd hh hwp (oth := h_ot s how) (Nat.le_refl _) (fun o _ => rfl) (k153 _ (h_ot12 hI.n12 how) (fun c h1 h2 => ?_)) (h_ot s how) 0 (by omega) J hK hT
             obtain ⟨c1, c2, c3⟩ := h_at2 hwp h1 h2
             exact h_at_V (h_hi c1 c3))
          | (refine l_hs189 hG hI hi hw hN hd hh hwp (oth := 0) (Nat.zero_le _) (fun o ho => absurd ho (Nat.not_lt_zero o)) (k153 _ (Nat.zero_le _) (fun c h1 h2 => ?_)) 0 0 (by omega) J hK hT
             obtain ⟨c1, c2, c3⟩ := h_at2 hwp h1 h2
             exact h_pr hI hi hw (by decide) hN (by rw [c2]; exact ha) (by rw [c1]; exact v71))
    · simp (disch := omega) only [pm_eqI, pm_ltI, pm_leI, nI_toInt, pm_t0, pm_t1, pm_tm1] at h56
      have ha : (1 : Nat) = 1 ↔ w = g_wh s i := by omega
      refine pm_iconst (pc := 59) (v := nI 1) dX7_search_59 (by decide) ?_
      refine pm_goto (pc := 60) (tgt := 64) dX7_search_60 rfl ?_
      refine pm_iload (pc := 64) dX7_search_64 rfl ?_
      refine pm_iload_n (pc := 66) dX7_search_66 rfl ?_
      refine pm_isub (pc := 67) dX7_search_67 ?_
      refine pm_top (x' := nI 2) (by rw [pk_sub (by omega)]; congr 1; omega) ?_
      refine pm_cSR (pc := 68) dX7_search_68 (c_canHelp hh (by decide) (by decide)) wq_X7_canHelp wm_X7_30 wt_X7_canHelp ⟨Nat.le_of_ble_eq_true rfl, Nat.le_of_ble_eq_true rfl⟩ ⟨Nat.le_of_ble_eq_true rfl, Nat.le_of_ble_eq_true rfl⟩ rfl (Nat.le_of_ble_eq_true rfl) ?_
      refine pm_if_eq (pc := 71) (tgt := 83) dX7_search_71 rfl (fun h71 => ?_) (fun h71 => ?_)
      · have v71 := b1_nf h71
        refine pm_iconst (pc := 83) (v := nI 0) dX7_search_83 (by decide) ?_
        refine pm_istore (pc := 84) dX7_search_84 (by decide) rfl ?_
        refine pm_iconst (pc := 86) (v := nI 0) dX7_search_86 (by decide) ?_
        refine pm_istore (pc := 87) dX7_search_87 (by decide) rfl ?_
        first
          | (refine l_hs189 hG hI hi hw hN hd hh hwp (oth := h_ot s how) (Nat.le_refl _) (fun o _ => rfl) (k153 _ (h_ot12 hI.n12 how) (fun c h1 h2 => ?_)) (h_ot s how) 0 (by omega) J hK hT
             obtain ⟨c1, c2, c3⟩ := h_at2 hwp h1 h2
             exact h_at_V (h_hi c1 c3))
          | (refine l_hs189 hG hI hi hw hN hd hh hwp (oth := 0) (Nat.zero_le _) (fun o ho => absurd ho (Nat.not_lt_zero o)) (k153 _ (Nat.zero_le _) (fun c h1 h2 => ?_)) 0 0 (by omega) J hK hT
             obtain ⟨c1, c2, c3⟩ := h_at2 hwp h1 h2
             exact h_pr hI hi hw (by decide) hN (by rw [c2]; exact ha) (by rw [c1]; exact v71))
      · have v71 := b1_nt h71
        refine pm_aload_n (pc := 74) dX7_search_74 rfl ?_
        refine pm_iload (pc := 75) dX7_search_75 rfl ?_
        refine pm_cSR (pc := 77) dX7_search_77 (c_othersOf hGJ hh) wq_X7_othersOf wm_X7_34 wt_X7_othersOf ⟨Nat.le_of_ble_eq_true rfl, Nat.le_of_ble_eq_true rfl⟩ ⟨Nat.le_of_ble_eq_true rfl, Nat.le_of_ble_eq_true rfl⟩ rfl (Nat.le_of_ble_eq_true rfl) ?_
        refine pm_goto (pc := 80) (tgt := 84) dX7_search_80 rfl ?_
        refine pm_istore (pc := 84) dX7_search_84 (by decide) rfl ?_
        refine pm_iconst (pc := 86) (v := nI 0) dX7_search_86 (by decide) ?_
        refine pm_istore (pc := 87) dX7_search_87 (by decide) rfl ?_
        first
          | (refine l_hs189 hG hI hi hw hN hd hh hwp (oth := h_ot s how) (Nat.le_refl _) (fun o _ => rfl) (k153 _ (h_ot12 hI.n12 how) (fun c h1 h2 => ?_)) (h_ot s how) 0 (by omega) J hK hT
             obtain ⟨c1, c2, c3⟩ := h_at2 hwp h1 h2
             exact h_at_V (h_hi c1 c3))
          | (refine l_hs189 hG hI hi hw hN hd hh hwp (oth := 0) (Nat.zero_le _) (fun o ho => absurd ho (Nat.not_lt_zero o)) (k153 _ (Nat.zero_le _) (fun c h1 h2 => ?_)) 0 0 (by omega) J hK hT
             obtain ⟨c1, c2, c3⟩ := h_at2 hwp h1 h2
             exact h_pr hI hi hw (by decide) hN (by rw [c2]; exact ha) (by rw [c1]; exact v71))
set_option maxRecDepth 100000 in
set_option maxHeartbeats 1000000 in
theorem l_hs134 {I : pm_I} {L : pm_L} {s : gS} (hG : GR I 1 s) (hI : gInv s) {i : Nat} (hi : i < g_n s) (hw : g_wh s i < 6) (hN : ∀ q, q < 1 → h_f i q s = none) {depth : Nat} (hd : depth + 2 ≤ 3) {la : Launch} {P : pm_E} : ∀ (m how : Nat), how + m = 4 → ∀ J : pm_I, h_K s depth I J → h_fst (h_at i 1 s) (3600 - (1000 * how)) (1000 * how) = h_f i 1 s → PW la P yX7_search cX7_search 11 (some (.boolean)) (pm_rm 7 0 0) (pm_Tg P (QI GG (fun v I' L' => (v = h_v (h_f i 1 s) ∧ h_R s depth I I' (h_f i 1 s)) ∧ L' = L)) 0 0) 0 0 34 [some (.ref 1), some (.int (nI i)), some (.ref 18), some (.int (nI depth)), some (.int (nI (depth + 2))), some (.int (nI (g_wh s i))), some (.int (nI how)), none, none, none, none] [] GG J L
  | 0, how, hm, J, hK, hT => by
    have e : how = 4 := by omega
    subst e
    rw [h_fst_end (by decide)] at hT
    refine pm_iload (pc := 34) dX7_search_34 rfl ?_
    refine pm_iconst (pc := 36) (v := nI 3) dX7_search_36 (by decide) ?_
    refine pm_icmp_gt (pc := 37) (tgt := 165) dX7_search_37 rfl (fun h37 => ?_) (fun h37 => (by simp (disch := omega) only [pm_eqI, pm_ltI, pm_leI, nI_toInt, pm_t0, pm_t1, pm_tm1] at h37; omega))
    refine pm_iconst (pc := 165) (v := nI 0) dX7_search_165 (by decide) ?_
    refine pm_zret (pc := 166) (by decide) rfl (Nat.le_refl _) (Nat.le_refl _) dX7_search_166 ?_
    rw [← hT]
    exact QI.r ⟨⟨rfl, h_R.none hK⟩, rfl⟩
  | m + 1, how, hm, J, hK, hT => by
    have hh : how < 4 := by omega
    have k159 : ∀ J : pm_I, h_K s depth I J → h_fst (h_at i 1 s) (3600 - (1000 * how + 100 * 6)) (1000 * how + 100 * 6) = h_f i 1 s → PW la P yX7_search cX7_search 11 (some (.boolean)) (pm_rm 7 0 0) (pm_Tg P (QI GG (fun v I' L' => (v = h_v (h_f i 1 s) ∧ h_R s depth I I' (h_f i 1 s)) ∧ L' = L)) 0 0) 0 0 159 [some (.ref 1), some (.int (nI i)), some (.ref 18), some (.int (nI depth)), some (.int (nI (depth + 2))), some (.int (nI (g_wh s i))), some (.int (nI how)), none, none, none, none] [] GG J L := fun J hK hT => by
      rw [h_fst_to (show 1000 * how + 100 * 6 ≤ 1000 * (how + 1) by omega) (fun c h1 h2 => h_at_V (fun v => by
        have v2 : c / 100 % 10 < 6 := v.2.1
        omega))] at hT
      refine pm_iinc (pc := 159) dX7_search_159 rfl (pm_inc1 _) (by decide) rfl ?_
      refine pm_goto (pc := 162) (tgt := 34) dX7_search_162 rfl ?_
      exact l_hs134 hG hI hi hw hN hd m (how + 1) (by omega) J hK hT
    refine pm_iload (pc := 34) dX7_search_34 rfl ?_
    refine pm_iconst (pc := 36) (v := nI 3) dX7_search_36 (by decide) ?_
    refine pm_icmp_gt (pc := 37) (tgt := 165) dX7_search_37 rfl (fun h37 => (by simp (disch := omega) only [pm_eqI, pm_ltI, pm_leI, nI_toInt, pm_t0, pm_t1, pm_tm1] at h37; omega)) (fun h37 => ?_)
    refine pm_iconst (pc := 40) (v := nI 0) dX7_search_40 (by decide) ?_
    refine pm_istore (pc := 41) dX7_search_41 (by decide) rfl ?_
    exact l_hs143 hG hI hi hw hN hd hh k159 6 0 (by omega) J hK hT
set_option maxRecDepth 100000 in
set_option maxHeartbeats 1000000 in
theorem c_search1 {I : pm_I} {L : pm_L} {s : gS} (hG : GR I 1 s) (hI : gInv s) {i : Nat} (hi : i < g_n s) (hw : g_wh s i < 6) (hN : ∀ q, q < 1 → h_f i q s = none) {depth : Nat} (hd : depth + 2 ≤ 3) : PC 7 0 0 yX7_search cX7_search 11 (some (.boolean)) [.ref 1, .int (nI i), .ref 18, .int (nI depth), .int (nI (depth + 2))] GG I L (QI GG (fun v I' L' => (v = h_v (h_f i 1 s) ∧ h_R s depth I I' (h_f i 1 s)) ∧ L' = L)) := by
  have h12 := hI.n12
  have hoff := g_off_lt hI hi
  refine PC.of [some (.ref 1), some (.int (nI i)), some (.ref 18), some (.int (nI depth)), some (.int (nI (depth + 2))), none, none, none, none, none, none] (by decide) (Nat.le_of_ble_eq_true rfl) rfl (fun l P => ?_)
  refine pm_iload_n (pc := 0) dX7_search_0 rfl ?_
  refine pm_if_lt (pc := 1) (tgt := 22) dX7_search_1 rfl (fun h1 => (by simp (disch := omega) only [pm_eqI, pm_ltI, pm_leI, nI_toInt, pm_t0, pm_t1, pm_tm1] at h1; omega)) (fun h1 => ?_)
  refine pm_iload_n (pc := 4) dX7_search_4 rfl ?_
  refine pm_aload_n (pc := 5) dX7_search_5 rfl ?_
  refine pm_alen (pc := 6) (v := nI 3) rfl (by decide) rfl dX7_search_6 ?_
  refine pm_icmp_ge (pc := 7) (tgt := 22) dX7_search_7 rfl (fun h7 => (by simp (disch := omega) only [pm_eqI, pm_ltI, pm_leI, nI_toInt, pm_t0, pm_t1, pm_tm1] at h7; omega)) (fun h7 => ?_)
  refine pm_aload_n (pc := 10) dX7_search_10 rfl ?_
  refine pm_iload_n (pc := 11) dX7_search_11 rfl ?_
  refine pm_cVR (pc := 12) dX7_search_12 (c_offOf hG hI hi) wq_X2_offOf wm_X7_25 wi_X2_offOf ws_X2_offOf rfl rfl ⟨Nat.le_of_ble_eq_true rfl, Nat.le_of_ble_eq_true rfl⟩ ⟨Nat.le_of_ble_eq_true rfl, Nat.le_of_ble_eq_true rfl⟩ rfl (Nat.le_of_ble_eq_true rfl) ?_
  refine pm_iload (pc := 15) dX7_search_15 rfl ?_
  refine pm_iload_n (pc := 17) dX7_search_17 rfl ?_
  refine pm_isub (pc := 18) dX7_search_18 ?_
  refine pm_top (x' := nI 2) (by rw [pk_sub (by omega)]; congr 1; omega) ?_
  refine pm_icmp_lt (pc := 19) (tgt := 24) dX7_search_19 rfl (fun h19 => ?_) (fun h19 => ?_)
  · simp (disch := omega) only [pm_eqI, pm_ltI, pm_leI, nI_toInt, pm_t0, pm_t1, pm_tm1] at h19
    refine pm_aload_n (pc := 24) dX7_search_24 rfl ?_
    refine pm_iload_n (pc := 25) dX7_search_25 rfl ?_
    refine pm_cVR (pc := 26) dX7_search_26 (c_placeOf hG hI hi) wq_X2_placeOf wm_X7_15 wi_X2_placeOf ws_X2_placeOf rfl rfl ⟨Nat.le_of_ble_eq_true rfl, Nat.le_of_ble_eq_true rfl⟩ ⟨Nat.le_of_ble_eq_true rfl, Nat.le_of_ble_eq_true rfl⟩ rfl (Nat.le_of_ble_eq_true rfl) ?_
    refine pm_istore (pc := 29) dX7_search_29 (by decide) rfl ?_
    refine pm_iconst (pc := 31) (v := nI 0) dX7_search_31 (by decide) ?_
    refine pm_istore (pc := 32) dX7_search_32 (by decide) rfl ?_
    exact l_hs134 hG hI hi hw hN hd 4 0 (by omega) I (h_K.rf hG) (h_f_eq i 1 s).symm
  · simp (disch := omega) only [pm_eqI, pm_ltI, pm_leI, nI_toInt, pm_t0, pm_t1, pm_tm1] at h19
    refine pm_iconst (pc := 22) (v := nI 0) dX7_search_22 (by decide) ?_
    refine pm_zret (pc := 23) (by decide) rfl (Nat.le_refl _) (Nat.le_refl _) dX7_search_23 ?_
    cases e : h_f i 1 s with
    | none => exact QI.r ⟨⟨rfl, h_R.none (h_K.rf hG)⟩, rfl⟩
    | some q =>
      have := h_off 1 s q hI hi hw e
      omega
set_option maxRecDepth 100000 in
set_option maxHeartbeats 1000000 in
theorem c_leads2 {I : pm_I} {L : pm_L} {s : gS} (hG : GR I 1 s) (hI : gInv s) {i : Nat} (hi : i < g_n s) (hw : g_wh s i < 6) (hN : ∀ q, q < 2 → h_f i q s = none) {depth c : Nat} (hd : depth + 3 ≤ 3) (hrow : I 18 depth = nI c) (ho : a_ok s c) (h0 : a_h c = 0 → a_o c = 0) : PC 8 0 0 yX7_leads cX7_leads 8 (some (.boolean)) [.ref 1, .int (nI i), .ref 18, .int (nI depth), .int (nI (depth + 1 + 2))] GG I L (QI GG (fun v I' L' => (v = h_v (h_lt i 2 s c) ∧ h_R s (depth + 1) I I' (h_lt i 2 s c)) ∧ L' = L)) := by
  have h4 : c < 4000 := a_lt ho
  have h12 := hI.n12
  refine PC.of [some (.ref 1), some (.int (nI i)), some (.ref 18), some (.int (nI depth)), some (.int (nI (depth + 1 + 2))), none, none, none] (by decide) (Nat.le_of_ble_eq_true rfl) rfl (fun l P => ?_)
  refine pm_iload_n (pc := 0) dX7_leads_0 rfl ?_
  refine pm_if_lt (pc := 1) (tgt := 10) dX7_leads_1 rfl (fun h1 => (by simp (disch := omega) only [pm_eqI, pm_ltI, pm_leI, nI_toInt, pm_t0, pm_t1, pm_tm1] at h1; omega)) (fun h1 => ?_)
  refine pm_iload_n (pc := 4) dX7_leads_4 rfl ?_
  refine pm_aload_n (pc := 5) dX7_leads_5 rfl ?_
  refine pm_alen (pc := 6) (v := nI 3) rfl (by decide) rfl dX7_leads_6 ?_
  refine pm_icmp_lt (pc := 7) (tgt := 12) dX7_leads_7 rfl (fun h7 => ?_) (fun h7 => (by simp (disch := omega) only [pm_eqI, pm_ltI, pm_leI, nI_toInt, pm_t0, pm_t1, pm_tm1] at h7; omega))
  refine pm_aload_n (pc := 12) dX7_leads_12 rfl ?_
  refine pm_iload_n (pc := 13) dX7_leads_13 rfl ?_
  refine pm_iald (pc := 14) rfl (by omega) (by decide) dX7_leads_14 ?_
  rw [hrow]
  refine pm_istore (pc := 15) dX7_leads_15 (by decide) rfl ?_
  refine pm_aload_n (pc := 17) dX7_leads_17 rfl ?_
  refine pm_iload (pc := 18) dX7_leads_18 rfl ?_
  refine pm_cVR (pc := 20) dX7_leads_20 (c_canBe hG hI ho) wq_X2_canBe wm_X7_49 wi_X2_canBe ws_X2_canBe rfl rfl ⟨Nat.le_of_ble_eq_true rfl, Nat.le_of_ble_eq_true rfl⟩ ⟨Nat.le_of_ble_eq_true rfl, Nat.le_of_ble_eq_true rfl⟩ rfl (Nat.le_of_ble_eq_true rfl) ?_
  refine pm_if_eq (pc := 23) (tgt := 35) dX7_leads_23 rfl (fun h23 => ?_) (fun h23 => ?_)
  · refine pm_iconst (pc := 35) (v := nI 0) dX7_leads_35 (by decide) ?_
    refine pm_zret (pc := 36) (by decide) rfl (Nat.le_refl _) (Nat.le_refl _) dX7_leads_36 ?_
    first
      | exact absurd hcan (b1_nf h23)
      | (have e : h_lt i 2 s c = none := h_lt_V (fun z => b1_nf h23 z.can); rw [e]; exact QI.r ⟨⟨rfl, h_R.none (h_K.rf hG)⟩, rfl⟩)
      | (have e : h_lt i 2 s c = none := h_lt_V (fun z => z.2.2.2.2.2.2 (b1_nt h32)); rw [e]; exact QI.r ⟨⟨rfl, h_R.none (h_K.rf hG)⟩, rfl⟩)
  · have hcan : a_can s c := b1_nt h23
    refine pm_aload_n (pc := 26) dX7_leads_26 rfl ?_
    refine pm_iload (pc := 27) dX7_leads_27 rfl ?_
    refine pm_cVR (pc := 29) dX7_leads_29 (c_isFelt hG hI ho hcan) wq_X2_isFelt wm_X7_53 wi_X2_isFelt ws_X2_isFelt rfl rfl ⟨Nat.le_of_ble_eq_true rfl, Nat.le_of_ble_eq_true rfl⟩ ⟨Nat.le_of_ble_eq_true rfl, Nat.le_of_ble_eq_true rfl⟩ rfl (Nat.le_of_ble_eq_true rfl) ?_
    refine pm_if_eq (pc := 32) (tgt := 37) dX7_leads_32 rfl (fun h32 => ?_) (fun h32 => ?_)
    · have hv : h_V s c := ⟨ho.1, ho.2.1, ho.2.2.1, ho.2.2.2, h0, hcan, b1_nf h32⟩
      refine pm_iload_n (pc := 37) dX7_leads_37 rfl ?_
      refine pm_iconst (pc := 38) (v := nI 1) dX7_leads_38 (by decide) ?_
      refine pm_iadd (pc := 39) dX7_leads_39 ?_
      refine pm_top (nI_add _ _) ?_
      refine pm_iload (pc := 40) dX7_leads_40 rfl ?_
      refine pm_icmp_ne (pc := 42) (tgt := 47) dX7_leads_42 rfl (fun h42 => ?_) (fun h42 => (by simp (disch := omega) only [pm_eqI, pm_ltI, pm_leI, nI_toInt, pm_t0, pm_t1, pm_tm1] at h42; omega))
      refine pm_aload_n (pc := 47) dX7_leads_47 rfl ?_
      refine pm_iload (pc := 48) dX7_leads_48 rfl ?_
      refine pm_cSR (pc := 50) dX7_leads_50 (c_where (by omega)) wq_X0_where wm_X7_56 wt_X0_where ⟨Nat.le_of_ble_eq_true rfl, Nat.le_of_ble_eq_true rfl⟩ ⟨Nat.le_of_ble_eq_true rfl, Nat.le_of_ble_eq_true rfl⟩ rfl (Nat.le_of_ble_eq_true rfl) ?_
      refine pm_cVR (pc := 53) dX7_leads_53 (c_topOf hG hI ho.2.1) wq_X2_topOf wm_X7_59 wi_X2_topOf ws_X2_topOf rfl rfl ⟨Nat.le_of_ble_eq_true rfl, Nat.le_of_ble_eq_true rfl⟩ ⟨Nat.le_of_ble_eq_true rfl, Nat.le_of_ble_eq_true rfl⟩ rfl (Nat.le_of_ble_eq_true rfl) ?_
      refine pm_istore (pc := 56) dX7_leads_56 (by decide) rfl ?_
      refine pm_aload_n (pc := 58) dX7_leads_58 rfl ?_
      refine pm_iload (pc := 59) dX7_leads_59 rfl ?_
      refine pm_cVV (pc := 61) dX7_leads_61 (c_doAct hG hI ho hcan) wq_X2_doAct wm_X7_62 wi_X2_doAct ws_X2_doAct rfl rfl ⟨Nat.le_of_ble_eq_true rfl, Nat.le_of_ble_eq_true rfl⟩ ⟨Nat.le_of_ble_eq_true rfl, Nat.le_of_ble_eq_true rfl⟩ rfl (Nat.le_of_ble_eq_true rfl) (fun I61 L61 q61 => ?_)
      obtain ⟨⟨g61, f61⟩, l61⟩ := q61
      subst l61
      have hI2 := gInv_do hI ho hcan
      have hb : ¬ h_B s i c := fun z => by
        have hz := h_f_none hI (hN 0 (by decide)) c
        rw [h_at_1 z] at hz; exact absurd hz (by simp)
      have hi2 : i < g_n (s_do s c) := by rw [(h_same s c).1]; exact hi
      have hw2 := h_wh hI hi hw hv hb
      have hN2 : ∀ q, q < 1 → h_f i q (s_do s c) = none := fun q hq => by
        have hz := h_f_none hI (hN (q + 1) (by omega)) c
        rw [h_at_s hv] at hz; exact hz
      have hun := h_undo hI ho hcan
      have eb : h_bk c (g_top s (a_p c)) = h_back s c := rfl
      refine pm_aload_n (pc := 64) dX7_leads_64 rfl ?_
      refine pm_iload_n (pc := 65) dX7_leads_65 rfl ?_
      refine pm_aload_n (pc := 66) dX7_leads_66 rfl ?_
      refine pm_iload_n (pc := 67) dX7_leads_67 rfl ?_
      refine pm_iconst (pc := 68) (v := nI 1) dX7_leads_68 (by decide) ?_
      refine pm_iadd (pc := 69) dX7_leads_69 ?_
      refine pm_top (nI_add _ _) ?_
      refine pm_iload (pc := 70) dX7_leads_70 rfl ?_
      refine pm_cSI (pc := 72) dX7_leads_72 (c_search1 g61 hI2 hi2 hw2 hN2 (depth := depth + 1) (by omega)) wq_X7_search wm_X7_21 wt_X7_search ⟨Nat.le_of_ble_eq_true rfl, Nat.le_of_ble_eq_true rfl⟩ ⟨Nat.le_of_ble_eq_true rfl, Nat.le_of_ble_eq_true rfl⟩ rfl (Nat.le_of_ble_eq_true rfl) (fun r72 I72 L72 q72 => ?_)
      obtain ⟨⟨v72, K72, R72⟩, l72⟩ := q72
      subst l72
      refine pm_istore (pc := 75) dX7_leads_75 (by decide) rfl ?_
      refine pm_aload_n (pc := 77) dX7_leads_77 rfl ?_
      refine pm_iload (pc := 78) dX7_leads_78 rfl ?_
      refine pm_iload (pc := 80) dX7_leads_80 rfl ?_
      refine pm_cSR (pc := 82) dX7_leads_82 (c_back h4) wq_X0_back wm_X7_66 wt_X0_back ⟨Nat.le_of_ble_eq_true rfl, Nat.le_of_ble_eq_true rfl⟩ ⟨Nat.le_of_ble_eq_true rfl, Nat.le_of_ble_eq_true rfl⟩ rfl (Nat.le_of_ble_eq_true rfl) ?_
      rw [eb]
      refine pm_cVV (pc := 85) dX7_leads_85 (c_doAct K72.1 hI2 hun.1 hun.2.1) wq_X2_doAct wm_X7_62 wi_X2_doAct ws_X2_doAct rfl rfl ⟨Nat.le_of_ble_eq_true rfl, Nat.le_of_ble_eq_true rfl⟩ ⟨Nat.le_of_ble_eq_true rfl, Nat.le_of_ble_eq_true rfl⟩ rfl (Nat.le_of_ble_eq_true rfl) (fun I85 L85 q85 => ?_)
      obtain ⟨⟨g85, f85⟩, l85⟩ := q85
      subst l85
      rw [hun.2.2] at g85
      refine pm_iload (pc := 88) dX7_leads_88 rfl ?_
      refine pm_zret (pc := 90) (by rw [v72]; exact h_vz _) rfl (Nat.le_refl _) (Nat.le_refl _) dX7_leads_90 ?_
      have e : h_lt i 2 s c = h_f i 1 (s_do s c) := if_pos hv
      rw [e]
      refine QI.r ⟨⟨v72, ⟨g85, fun a ha hb => ?_, fun k hk => ?_⟩, fun q hq k hk => ?_⟩, rfl⟩
      · exact (f85 a ha).trans ((K72.2.1 a ha hb).trans (f61 a ha))
      · rw [f85 18 (by omega), K72.2.2 k hk, f61 18 (by omega)]
      · rw [f85 18 (by omega)]; exact R72 q hq k hk
    · refine pm_iconst (pc := 35) (v := nI 0) dX7_leads_35 (by decide) ?_
      refine pm_zret (pc := 36) (by decide) rfl (Nat.le_refl _) (Nat.le_refl _) dX7_leads_36 ?_
      first
        | exact absurd hcan (b1_nf h23)
        | (have e : h_lt i 2 s c = none := h_lt_V (fun z => b1_nf h23 z.can); rw [e]; exact QI.r ⟨⟨rfl, h_R.none (h_K.rf hG)⟩, rfl⟩)
        | (have e : h_lt i 2 s c = none := h_lt_V (fun z => z.2.2.2.2.2.2 (b1_nt h32)); rw [e]; exact QI.r ⟨⟨rfl, h_R.none (h_K.rf hG)⟩, rfl⟩)
set_option maxRecDepth 100000 in
set_option maxHeartbeats 1000000 in
theorem l_hs289 {I : pm_I} {L : pm_L} {s : gS} (hG : GR I 1 s) (hI : gInv s) {i : Nat} (hi : i < g_n s) (hw : g_wh s i < 6) (hN : ∀ q, q < 2 → h_f i q s = none) {depth : Nat} (hd : depth + 3 ≤ 3) {la : Launch} {P : pm_E} {how w oth : Nat} (hh : how < 4) (hwp : w < 6) (hoth : oth ≤ h_ot s how) (hlt : ∀ o, o < oth → h_lt i 2 s (1000 * how + 100 * w + o) = h_at i 2 s (1000 * how + 100 * w + o)) (k153 : ∀ J : pm_I, h_K s depth I J → h_fst (h_at i 2 s) (3600 - (1000 * how + 100 * w + oth)) (1000 * how + 100 * w + oth) = h_f i 2 s → PW la P yX7_search cX7_search 11 (some (.boolean)) (pm_rm 9 0 0) (pm_Tg P (QI GG (fun v I' L' => (v = h_v (h_f i 2 s) ∧ h_R s depth I I' (h_f i 2 s)) ∧ L' = L)) 0 0) 0 0 153 [some (.ref 1), some (.int (nI i)), some (.ref 18), some (.int (nI depth)), some (.int (nI (depth + 3))), some (.int (nI (g_wh s i))), some (.int (nI how)), some (.int (nI w)), none, none, none] [] GG J L) : ∀ (m o : Nat), o + m = oth → ∀ J : pm_I, h_K s depth I J → h_fst (h_at i 2 s) (3600 - (1000 * how + 100 * w + o)) (1000 * how + 100 * w + o) = h_f i 2 s → PW la P yX7_search cX7_search 11 (some (.boolean)) (pm_rm 9 0 0) (pm_Tg P (QI GG (fun v I' L' => (v = h_v (h_f i 2 s) ∧ h_R s depth I I' (h_f i 2 s)) ∧ L' = L)) 0 0) 0 0 89 [some (.ref 1), some (.int (nI i)), some (.ref 18), some (.int (nI depth)), some (.int (nI (depth + 3))), some (.int (nI (g_wh s i))), some (.int (nI how)), some (.int (nI w)), some (.int (nI oth)), some (.int (nI o)), none] [] GG J L
  | 0, o, hm, J, hK, hT => by
    have h12 := h_ot12 hI.n12 how
    have e : o = oth := by omega
    subst e
    refine pm_iload (pc := 89) dX7_search_89 rfl ?_
    refine pm_iload (pc := 91) dX7_search_91 rfl ?_
    refine pm_icmp_ge (pc := 93) (tgt := 153) dX7_search_93 rfl (fun h93 => ?_) (fun h93 => (by simp (disch := omega) only [pm_eqI, pm_ltI, pm_leI, nI_toInt, pm_t0, pm_t1, pm_tm1] at h93; omega))
    refine pm_kill 8 ?_
    refine pm_kill 9 ?_
    exact k153 J hK hT
  | m + 1, o, hm, J, hK, hT => by
    have h12 := h_ot12 hI.n12 how
    have hlo := hlt o (by omega)
    obtain ⟨k1, k2, k3⟩ := h_code (h := how) (p := w) (o := o) (by omega) (by omega)
    obtain ⟨hK2, hrow⟩ := hK.row (nI (1000 * how + 100 * w + o))
    have kA : (how = 3 → o ≠ w) → PW la P yX7_search cX7_search 11 (some (.boolean)) (pm_rm 9 0 0) (pm_Tg P (QI GG (fun v I' L' => (v = h_v (h_f i 2 s) ∧ h_R s depth I I' (h_f i 2 s)) ∧ L' = L)) 0 0) 0 0 116 [some (.ref 1), some (.int (nI i)), some (.ref 18), some (.int (nI depth)), some (.int (nI (depth + 3))), some (.int (nI (g_wh s i))), some (.int (nI how)), some (.int (nI w)), some (.int (nI oth)), some (.int (nI o)), some (.int (nI 1))] [] GG J L := fun hne => by
      obtain ⟨ho, h0⟩ := h_okc hI.n12 hh hwp (show o < h_ot s how by omega) hne
      refine pm_aload_n (pc := 116) dX7_search_116 rfl ?_
      refine pm_iload_n (pc := 117) dX7_search_117 rfl ?_
      refine pm_iload (pc := 118) dX7_search_118 rfl ?_
      refine pm_iload (pc := 120) dX7_search_120 rfl ?_
      refine pm_iload (pc := 122) dX7_search_122 rfl ?_
      refine pm_cSR (pc := 124) dX7_search_124 (c_code) wq_X0_code wm_X7_38 wt_X0_code ⟨Nat.le_of_ble_eq_true rfl, Nat.le_of_ble_eq_true rfl⟩ ⟨Nat.le_of_ble_eq_true rfl, Nat.le_of_ble_eq_true rfl⟩ rfl (Nat.le_of_ble_eq_true rfl) ?_
      refine pm_iast (pc := 127) rfl (by omega) (by decide) dX7_search_127 ?_
      refine pm_iload (pc := 128) dX7_search_128 rfl ?_
      refine pm_if_eq (pc := 130) (tgt := 147) dX7_search_130 rfl (fun h130 => absurd h130 (by decide)) (fun h130 => ?_)
      refine pm_aload_n (pc := 133) dX7_search_133 rfl ?_
      refine pm_iload_n (pc := 134) dX7_search_134 rfl ?_
      refine pm_aload_n (pc := 135) dX7_search_135 rfl ?_
      refine pm_iload_n (pc := 136) dX7_search_136 rfl ?_
      refine pm_iload (pc := 137) dX7_search_137 rfl ?_
      refine pm_top (x' := nI (depth + 1 + 2)) (congrArg nI (by omega)) ?_
      refine pm_cSI (pc := 139) dX7_search_139 (c_leads2 hK2.1 hI hi hw hN (depth := depth) (c := 1000 * how + 100 * w + o) hd hrow ho h0) wq_X7_leads wm_X7_42 wt_X7_leads ⟨Nat.le_of_ble_eq_true rfl, Nat.le_of_ble_eq_true rfl⟩ ⟨Nat.le_of_ble_eq_true rfl, Nat.le_of_ble_eq_true rfl⟩ rfl (Nat.le_of_ble_eq_true rfl) (fun r139 I139 L139 q139 => ?_)
      obtain ⟨⟨v139, R139⟩, l139⟩ := q139
      subst l139
      rw [hlo] at v139 R139
      refine pm_if_eq (pc := 142) (tgt := 147) dX7_search_142 rfl (fun h142 => ?_) (fun h142 => ?_)
      · have hn : h_at i 2 s (1000 * how + 100 * w + o) = none := by rw [v139] at h142; exact h_v0.mp h142
        rw [h_fst_1 hn] at hT
        refine pm_iinc (pc := 147) dX7_search_147 rfl (pm_inc1 _) (by decide) rfl ?_
        refine pm_goto (pc := 150) (tgt := 89) dX7_search_150 rfl ?_
        refine pm_kill 10 ?_
        exact l_hs289 hG hI hi hw hN hd hh hwp hoth hlt k153 m (o + 1) (by omega) _ (hK2.tr (R139.1.dn (Nat.le_succ _))) hT
      · refine pm_iconst (pc := 145) (v := nI 1) dX7_search_145 (by decide) ?_
        refine pm_zret (pc := 146) (by decide) rfl (Nat.le_refl _) (Nat.le_refl _) dX7_search_146 ?_
        cases et : h_at i 2 s (1000 * how + 100 * w + o) with
        | none => exact absurd (by rw [v139, et]; rfl) h142
        | some t =>
          have hlt9 : 1000 * how + 100 * w + o < 3600 := (show h_V s (1000 * how + 100 * w + o) from Classical.byContradiction (fun z => by rw [h_at_V z] at et; exact absurd et (by simp))).lt hI
          rw [h_fst_some hlt9 et] at hT
          rw [← hT]
          rw [et] at R139
          exact QI.r ⟨⟨rfl, h_R.cons hK2 hrow R139⟩, rfl⟩
    have kB : (how = 3 ∧ o = w) → PW la P yX7_search cX7_search 11 (some (.boolean)) (pm_rm 9 0 0) (pm_Tg P (QI GG (fun v I' L' => (v = h_v (h_f i 2 s) ∧ h_R s depth I I' (h_f i 2 s)) ∧ L' = L)) 0 0) 0 0 116 [some (.ref 1), some (.int (nI i)), some (.ref 18), some (.int (nI depth)), some (.int (nI (depth + 3))), some (.int (nI (g_wh s i))), some (.int (nI how)), some (.int (nI w)), some (.int (nI oth)), some (.int (nI o)), some (.int (nI 0))] [] GG J L := fun hne => by
      refine pm_aload_n (pc := 116) dX7_search_116 rfl ?_
      refine pm_iload_n (pc := 117) dX7_search_117 rfl ?_
      refine pm_iload (pc := 118) dX7_search_118 rfl ?_
      refine pm_iload (pc := 120) dX7_search_120 rfl ?_
      refine pm_iload (pc := 122) dX7_search_122 rfl ?_
      refine pm_cSR (pc := 124) dX7_search_124 (c_code) wq_X0_code wm_X7_38 wt_X0_code ⟨Nat.le_of_ble_eq_true rfl, Nat.le_of_ble_eq_true rfl⟩ ⟨Nat.le_of_ble_eq_true rfl, Nat.le_of_ble_eq_true rfl⟩ rfl (Nat.le_of_ble_eq_true rfl) ?_
      refine pm_iast (pc := 127) rfl (by omega) (by decide) dX7_search_127 ?_
      refine pm_iload (pc := 128) dX7_search_128 rfl ?_
      refine pm_if_eq (pc := 130) (tgt := 147) dX7_search_130 rfl (fun h130 => ?_) (fun h130 => absurd (show nI 0 = 0 by decide) h130)
      have hn : h_at i 2 s (1000 * how + 100 * w + o) = none := h_at_V (fun v => (v.2.2.2.1 (by omega)).2 (by omega))
      rw [h_fst_1 hn] at hT
      refine pm_iinc (pc := 147) dX7_search_147 rfl (pm_inc1 _) (by decide) rfl ?_
      refine pm_goto (pc := 150) (tgt := 89) dX7_search_150 rfl ?_
      refine pm_kill 10 ?_
      exact l_hs289 hG hI hi hw hN hd hh hwp hoth hlt k153 m (o + 1) (by omega) _ hK2 hT
    refine pm_iload (pc := 89) dX7_search_89 rfl ?_
    refine pm_iload (pc := 91) dX7_search_91 rfl ?_
    refine pm_icmp_ge (pc := 93) (tgt := 153) dX7_search_93 rfl (fun h93 => (by simp (disch := omega) only [pm_eqI, pm_ltI, pm_leI, nI_toInt, pm_t0, pm_t1, pm_tm1] at h93; omega)) (fun h93 => ?_)
    refine pm_iload (pc := 96) dX7_search_96 rfl ?_
    refine pm_iconst (pc := 98) (v := nI 3) dX7_search_98 (by decide) ?_
    refine pm_icmp_ne (pc := 99) (tgt := 109) dX7_search_99 rfl (fun h99 => ?_) (fun h99 => ?_)
    · simp (disch := omega) only [pm_eqI, pm_ltI, pm_leI, nI_toInt, pm_t0, pm_t1, pm_tm1] at h99
      refine pm_iconst (pc := 109) (v := nI 1) dX7_search_109 (by decide) ?_
      refine pm_goto (pc := 110) (tgt := 114) dX7_search_110 rfl ?_
      refine pm_istore (pc := 114) dX7_search_114 (by decide) rfl ?_
      first
        | exact kA (by omega)
        | exact kB (by omega)
    · simp (disch := omega) only [pm_eqI, pm_ltI, pm_leI, nI_toInt, pm_t0, pm_t1, pm_tm1] at h99
      refine pm_iload (pc := 102) dX7_search_102 rfl ?_
      refine pm_iload (pc := 104) dX7_search_104 rfl ?_
      refine pm_icmp_eq (pc := 106) (tgt := 113) dX7_search_106 rfl (fun h106 => ?_) (fun h106 => ?_)
      · simp (disch := omega) only [pm_eqI, pm_ltI, pm_leI, nI_toInt, pm_t0, pm_t1, pm_tm1] at h106
        refine pm_iconst (pc := 113) (v := nI 0) dX7_search_113 (by decide) ?_
        refine pm_istore (pc := 114) dX7_search_114 (by decide) rfl ?_
        first
          | exact kA (by omega)
          | exact kB (by omega)
      · simp (disch := omega) only [pm_eqI, pm_ltI, pm_leI, nI_toInt, pm_t0, pm_t1, pm_tm1] at h106
        refine pm_iconst (pc := 109) (v := nI 1) dX7_search_109 (by decide) ?_
        refine pm_goto (pc := 110) (tgt := 114) dX7_search_110 rfl ?_
        refine pm_istore (pc := 114) dX7_search_114 (by decide) rfl ?_
        first
          | exact kA (by omega)
          | exact kB (by omega)
set_option maxRecDepth 100000 in
set_option maxHeartbeats 1000000 in
theorem l_hs243 {I : pm_I} {L : pm_L} {s : gS} (hG : GR I 1 s) (hI : gInv s) {i : Nat} (hi : i < g_n s) (hw : g_wh s i < 6) (hN : ∀ q, q < 2 → h_f i q s = none) {depth : Nat} (hd : depth + 3 ≤ 3) {la : Launch} {P : pm_E} {how : Nat} (hh : how < 4) (k159 : ∀ J : pm_I, h_K s depth I J → h_fst (h_at i 2 s) (3600 - (1000 * how + 100 * 6)) (1000 * how + 100 * 6) = h_f i 2 s → PW la P yX7_search cX7_search 11 (some (.boolean)) (pm_rm 9 0 0) (pm_Tg P (QI GG (fun v I' L' => (v = h_v (h_f i 2 s) ∧ h_R s depth I I' (h_f i 2 s)) ∧ L' = L)) 0 0) 0 0 159 [some (.ref 1), some (.int (nI i)), some (.ref 18), some (.int (nI depth)), some (.int (nI (depth + 3))), some (.int (nI (g_wh s i))), some (.int (nI how)), none, none, none, none] [] GG J L) : ∀ (m w : Nat), w + m = 6 → ∀ J : pm_I, h_K s depth I J → h_fst (h_at i 2 s) (3600 - (1000 * how + 100 * w)) (1000 * how + 100 * w) = h_f i 2 s → PW la P yX7_search cX7_search 11 (some (.boolean)) (pm_rm 9 0 0) (pm_Tg P (QI GG (fun v I' L' => (v = h_v (h_f i 2 s) ∧ h_R s depth I I' (h_f i 2 s)) ∧ L' = L)) 0 0) 0 0 43 [some (.ref 1), some (.int (nI i)), some (.ref 18), some (.int (nI depth)), some (.int (nI (depth + 3))), some (.int (nI (g_wh s i))), some (.int (nI how)), some (.int (nI w)), none, none, none] [] GG J L
  | 0, w, hm, J, hK, hT => by
    have e : w = 6 := by omega
    subst e
    refine pm_iload (pc := 43) dX7_search_43 rfl ?_
    refine pm_bipush (pc := 45) (v := nI 6) dX7_search_45 (by decide) ?_
    refine pm_icmp_ge (pc := 47) (tgt := 159) dX7_search_47 rfl (fun h47 => ?_) (fun h47 => (by simp (disch := omega) only [pm_eqI, pm_ltI, pm_leI, nI_toInt, pm_t0, pm_t1, pm_tm1] at h47; omega))
    refine pm_kill 7 ?_
    exact k159 J hK hT
  | m + 1, w, hm, J, hK, hT => by
    have hwp : w < 6 := by omega
    have hGJ := hK.1
    have k153 : ∀ oth : Nat, oth ≤ 12 → (∀ c, 1000 * how + 100 * w + oth ≤ c → c < 1000 * how + 100 * (w + 1) → h_at i 2 s c = none) → ∀ J : pm_I, h_K s depth I J → h_fst (h_at i 2 s) (3600 - (1000 * how + 100 * w + oth)) (1000 * how + 100 * w + oth) = h_f i 2 s → PW la P yX7_search cX7_search 11 (some (.boolean)) (pm_rm 9 0 0) (pm_Tg P (QI GG (fun v I' L' => (v = h_v (h_f i 2 s) ∧ h_R s depth I I' (h_f i 2 s)) ∧ L' = L)) 0 0) 0 0 153 [some (.ref 1), some (.int (nI i)), some (.ref 18), some (.int (nI depth)), some (.int (nI (depth + 3))), some (.int (nI (g_wh s i))), some (.int (nI how)), some (.int (nI w)), none, none, none] [] GG J L := fun oth h12 hs J hK hT => by
      rw [h_fst_to (show 1000 * how + 100 * w + oth ≤ 1000 * how + 100 * (w + 1) by omega) hs] at hT
      refine pm_iinc (pc := 153) dX7_search_153 rfl (pm_inc1 _) (by decide) rfl ?_
      refine pm_goto (pc := 156) (tgt := 43) dX7_search_156 rfl ?_
      exact l_hs243 hG hI hi hw hN hd hh k159 m (w + 1) (by omega) J hK hT
    refine pm_iload (pc := 43) dX7_search_43 rfl ?_
    refine pm_bipush (pc := 45) (v := nI 6) dX7_search_45 (by decide) ?_
    refine pm_icmp_ge (pc := 47) (tgt := 159) dX7_search_47 rfl (fun h47 => (by simp (disch := omega) only [pm_eqI, pm_ltI, pm_leI, nI_toInt, pm_t0, pm_t1, pm_tm1] at h47; omega)) (fun h47 => ?_)
    refine pm_iload (pc := 50) dX7_search_50 rfl ?_
    refine pm_iload (pc := 52) dX7_search_52 rfl ?_
    refine pm_iload (pc := 54) dX7_search_54 rfl ?_
    refine pm_icmp_ne (pc := 56) (tgt := 63) dX7_search_56 rfl (fun h56 => ?_) (fun h56 => ?_)
    · simp (disch := omega) only [pm_eqI, pm_ltI, pm_leI, nI_toInt, pm_t0, pm_t1, pm_tm1] at h56
      have ha : (0 : Nat) = 1 ↔ w = g_wh s i := by omega
      refine pm_iconst (pc := 63) (v := nI 0) dX7_search_63 (by decide) ?_
      refine pm_iload (pc := 64) dX7_search_64 rfl ?_
      refine pm_iload_n (pc := 66) dX7_search_66 rfl ?_
      refine pm_isub (pc := 67) dX7_search_67 ?_
      refine pm_top (x' := nI 3) (by rw [pk_sub (by omega)]; congr 1; omega) ?_
      refine pm_cSR (pc := 68) dX7_search_68 (c_canHelp hh (by decide) (by decide)) wq_X7_canHelp wm_X7_30 wt_X7_canHelp ⟨Nat.le_of_ble_eq_true rfl, Nat.le_of_ble_eq_true rfl⟩ ⟨Nat.le_of_ble_eq_true rfl, Nat.le_of_ble_eq_true rfl⟩ rfl (Nat.le_of_ble_eq_true rfl) ?_
      refine pm_if_eq (pc := 71) (tgt := 83) dX7_search_71 rfl (fun h71 => ?_) (fun h71 => ?_)
      · have v71 := b1_nf h71
        refine pm_iconst (pc := 83) (v := nI 0) dX7_search_83 (by decide) ?_
        refine pm_istore (pc := 84) dX7_search_84 (by decide) rfl ?_
        refine pm_iconst (pc := 86) (v := nI 0) dX7_search_86 (by decide) ?_
        refine pm_istore (pc := 87) dX7_search_87 (by decide) rfl ?_
        first
          | (refine l_hs289 hG hI hi hw hN hd hh hwp (oth := h_ot s how) (Nat.le_refl _) (fun o _ => rfl) (k153 _ (h_ot12 hI.n12 how) (fun c h1 h2 => ?_)) (h_ot s how) 0 (by omega) J hK hT
             obtain ⟨c1, c2, c3⟩ := h_at2 hwp h1 h2
             exact h_at_V (h_hi c1 c3))
          | (refine l_hs289 hG hI hi hw hN hd hh hwp (oth := 0) (Nat.zero_le _) (fun o ho => absurd ho (Nat.not_lt_zero o)) (k153 _ (Nat.zero_le _) (fun c h1 h2 => ?_)) 0 0 (by omega) J hK hT
             obtain ⟨c1, c2, c3⟩ := h_at2 hwp h1 h2
             exact h_pr hI hi hw (by decide) hN (by rw [c2]; exact ha) (by rw [c1]; exact v71))
      · have v71 := b1_nt h71
        refine pm_aload_n (pc := 74) dX7_search_74 rfl ?_
        refine pm_iload (pc := 75) dX7_search_75 rfl ?_
        refine pm_cSR (pc := 77) dX7_search_77 (c_othersOf hGJ hh) wq_X7_othersOf wm_X7_34 wt_X7_othersOf ⟨Nat.le_of_ble_eq_true rfl, Nat.le_of_ble_eq_true rfl⟩ ⟨Nat.le_of_ble_eq_true rfl, Nat.le_of_ble_eq_true rfl⟩ rfl (Nat.le_of_ble_eq_true rfl) ?_
        refine pm_goto (pc := 80) (tgt := 84) dX7_search_80 rfl ?_
        refine pm_istore (pc := 84) dX7_search_84 (by decide) rfl ?_
        refine pm_iconst (pc := 86) (v := nI 0) dX7_search_86 (by decide) ?_
        refine pm_istore (pc := 87) dX7_search_87 (by decide) rfl ?_
        first
          | (refine l_hs289 hG hI hi hw hN hd hh hwp (oth := h_ot s how) (Nat.le_refl _) (fun o _ => rfl) (k153 _ (h_ot12 hI.n12 how) (fun c h1 h2 => ?_)) (h_ot s how) 0 (by omega) J hK hT
             obtain ⟨c1, c2, c3⟩ := h_at2 hwp h1 h2
             exact h_at_V (h_hi c1 c3))
          | (refine l_hs289 hG hI hi hw hN hd hh hwp (oth := 0) (Nat.zero_le _) (fun o ho => absurd ho (Nat.not_lt_zero o)) (k153 _ (Nat.zero_le _) (fun c h1 h2 => ?_)) 0 0 (by omega) J hK hT
             obtain ⟨c1, c2, c3⟩ := h_at2 hwp h1 h2
             exact h_pr hI hi hw (by decide) hN (by rw [c2]; exact ha) (by rw [c1]; exact v71))
    · simp (disch := omega) only [pm_eqI, pm_ltI, pm_leI, nI_toInt, pm_t0, pm_t1, pm_tm1] at h56
      have ha : (1 : Nat) = 1 ↔ w = g_wh s i := by omega
      refine pm_iconst (pc := 59) (v := nI 1) dX7_search_59 (by decide) ?_
      refine pm_goto (pc := 60) (tgt := 64) dX7_search_60 rfl ?_
      refine pm_iload (pc := 64) dX7_search_64 rfl ?_
      refine pm_iload_n (pc := 66) dX7_search_66 rfl ?_
      refine pm_isub (pc := 67) dX7_search_67 ?_
      refine pm_top (x' := nI 3) (by rw [pk_sub (by omega)]; congr 1; omega) ?_
      refine pm_cSR (pc := 68) dX7_search_68 (c_canHelp hh (by decide) (by decide)) wq_X7_canHelp wm_X7_30 wt_X7_canHelp ⟨Nat.le_of_ble_eq_true rfl, Nat.le_of_ble_eq_true rfl⟩ ⟨Nat.le_of_ble_eq_true rfl, Nat.le_of_ble_eq_true rfl⟩ rfl (Nat.le_of_ble_eq_true rfl) ?_
      refine pm_if_eq (pc := 71) (tgt := 83) dX7_search_71 rfl (fun h71 => ?_) (fun h71 => ?_)
      · have v71 := b1_nf h71
        refine pm_iconst (pc := 83) (v := nI 0) dX7_search_83 (by decide) ?_
        refine pm_istore (pc := 84) dX7_search_84 (by decide) rfl ?_
        refine pm_iconst (pc := 86) (v := nI 0) dX7_search_86 (by decide) ?_
        refine pm_istore (pc := 87) dX7_search_87 (by decide) rfl ?_
        first
          | (refine l_hs289 hG hI hi hw hN hd hh hwp (oth := h_ot s how) (Nat.le_refl _) (fun o _ => rfl) (k153 _ (h_ot12 hI.n12 how) (fun c h1 h2 => ?_)) (h_ot s how) 0 (by omega) J hK hT
             obtain ⟨c1, c2, c3⟩ := h_at2 hwp h1 h2
             exact h_at_V (h_hi c1 c3))
          | (refine l_hs289 hG hI hi hw hN hd hh hwp (oth := 0) (Nat.zero_le _) (fun o ho => absurd ho (Nat.not_lt_zero o)) (k153 _ (Nat.zero_le _) (fun c h1 h2 => ?_)) 0 0 (by omega) J hK hT
             obtain ⟨c1, c2, c3⟩ := h_at2 hwp h1 h2
             exact h_pr hI hi hw (by decide) hN (by rw [c2]; exact ha) (by rw [c1]; exact v71))
      · have v71 := b1_nt h71
        refine pm_aload_n (pc := 74) dX7_search_74 rfl ?_
        refine pm_iload (pc := 75) dX7_search_75 rfl ?_
        refine pm_cSR (pc := 77) dX7_search_77 (c_othersOf hGJ hh) wq_X7_othersOf wm_X7_34 wt_X7_othersOf ⟨Nat.le_of_ble_eq_true rfl, Nat.le_of_ble_eq_true rfl⟩ ⟨Nat.le_of_ble_eq_true rfl, Nat.le_of_ble_eq_true rfl⟩ rfl (Nat.le_of_ble_eq_true rfl) ?_
        refine pm_goto (pc := 80) (tgt := 84) dX7_search_80 rfl ?_
        refine pm_istore (pc := 84) dX7_search_84 (by decide) rfl ?_
        refine pm_iconst (pc := 86) (v := nI 0) dX7_search_86 (by decide) ?_
        refine pm_istore (pc := 87) dX7_search_87 (by decide) rfl ?_
        first
          | (refine l_hs289 hG hI hi hw hN hd hh hwp (oth := h_ot s how) (Nat.le_refl _) (fun o _ => rfl) (k153 _ (h_ot12 hI.n12 how) (fun c h1 h2 => ?_)) (h_ot s how) 0 (by omega) J hK hT
             obtain ⟨c1, c2, c3⟩ := h_at2 hwp h1 h2
             exact h_at_V (h_hi c1 c3))
          | (refine l_hs289 hG hI hi hw hN hd hh hwp (oth := 0) (Nat.zero_le _) (fun o ho => absurd ho (Nat.not_lt_zero o)) (k153 _ (Nat.zero_le _) (fun c h1 h2 => ?_)) 0 0 (by omega) J hK hT
             obtain ⟨c1, c2, c3⟩ := h_at2 hwp h1 h2
             exact h_pr hI hi hw (by decide) hN (by rw [c2]; exact ha) (by rw [c1]; exact v71))
set_option maxRecDepth 100000 in
set_option maxHeartbeats 1000000 in
theorem l_hs234 {I : pm_I} {L : pm_L} {s : gS} (hG : GR I 1 s) (hI : gInv s) {i : Nat} (hi : i < g_n s) (hw : g_wh s i < 6) (hN : ∀ q, q < 2 → h_f i q s = none) {depth : Nat} (hd : depth + 3 ≤ 3) {la : Launch} {P : pm_E} : ∀ (m how : Nat), how + m = 4 → ∀ J : pm_I, h_K s depth I J → h_fst (h_at i 2 s) (3600 - (1000 * how)) (1000 * how) = h_f i 2 s → PW la P yX7_search cX7_search 11 (some (.boolean)) (pm_rm 9 0 0) (pm_Tg P (QI GG (fun v I' L' => (v = h_v (h_f i 2 s) ∧ h_R s depth I I' (h_f i 2 s)) ∧ L' = L)) 0 0) 0 0 34 [some (.ref 1), some (.int (nI i)), some (.ref 18), some (.int (nI depth)), some (.int (nI (depth + 3))), some (.int (nI (g_wh s i))), some (.int (nI how)), none, none, none, none] [] GG J L
  | 0, how, hm, J, hK, hT => by
    have e : how = 4 := by omega
    subst e
    rw [h_fst_end (by decide)] at hT
    refine pm_iload (pc := 34) dX7_search_34 rfl ?_
    refine pm_iconst (pc := 36) (v := nI 3) dX7_search_36 (by decide) ?_
    refine pm_icmp_gt (pc := 37) (tgt := 165) dX7_search_37 rfl (fun h37 => ?_) (fun h37 => (by simp (disch := omega) only [pm_eqI, pm_ltI, pm_leI, nI_toInt, pm_t0, pm_t1, pm_tm1] at h37; omega))
    refine pm_iconst (pc := 165) (v := nI 0) dX7_search_165 (by decide) ?_
    refine pm_zret (pc := 166) (by decide) rfl (Nat.le_refl _) (Nat.le_refl _) dX7_search_166 ?_
    rw [← hT]
    exact QI.r ⟨⟨rfl, h_R.none hK⟩, rfl⟩
  | m + 1, how, hm, J, hK, hT => by
    have hh : how < 4 := by omega
    have k159 : ∀ J : pm_I, h_K s depth I J → h_fst (h_at i 2 s) (3600 - (1000 * how + 100 * 6)) (1000 * how + 100 * 6) = h_f i 2 s → PW la P yX7_search cX7_search 11 (some (.boolean)) (pm_rm 9 0 0) (pm_Tg P (QI GG (fun v I' L' => (v = h_v (h_f i 2 s) ∧ h_R s depth I I' (h_f i 2 s)) ∧ L' = L)) 0 0) 0 0 159 [some (.ref 1), some (.int (nI i)), some (.ref 18), some (.int (nI depth)), some (.int (nI (depth + 3))), some (.int (nI (g_wh s i))), some (.int (nI how)), none, none, none, none] [] GG J L := fun J hK hT => by
      rw [h_fst_to (show 1000 * how + 100 * 6 ≤ 1000 * (how + 1) by omega) (fun c h1 h2 => h_at_V (fun v => by
        have v2 : c / 100 % 10 < 6 := v.2.1
        omega))] at hT
      refine pm_iinc (pc := 159) dX7_search_159 rfl (pm_inc1 _) (by decide) rfl ?_
      refine pm_goto (pc := 162) (tgt := 34) dX7_search_162 rfl ?_
      exact l_hs234 hG hI hi hw hN hd m (how + 1) (by omega) J hK hT
    refine pm_iload (pc := 34) dX7_search_34 rfl ?_
    refine pm_iconst (pc := 36) (v := nI 3) dX7_search_36 (by decide) ?_
    refine pm_icmp_gt (pc := 37) (tgt := 165) dX7_search_37 rfl (fun h37 => (by simp (disch := omega) only [pm_eqI, pm_ltI, pm_leI, nI_toInt, pm_t0, pm_t1, pm_tm1] at h37; omega)) (fun h37 => ?_)
    refine pm_iconst (pc := 40) (v := nI 0) dX7_search_40 (by decide) ?_
    refine pm_istore (pc := 41) dX7_search_41 (by decide) rfl ?_
    exact l_hs243 hG hI hi hw hN hd hh k159 6 0 (by omega) J hK hT
set_option maxRecDepth 100000 in
set_option maxHeartbeats 1000000 in
theorem c_search2 {I : pm_I} {L : pm_L} {s : gS} (hG : GR I 1 s) (hI : gInv s) {i : Nat} (hi : i < g_n s) (hw : g_wh s i < 6) (hN : ∀ q, q < 2 → h_f i q s = none) {depth : Nat} (hd : depth + 3 ≤ 3) : PC 9 0 0 yX7_search cX7_search 11 (some (.boolean)) [.ref 1, .int (nI i), .ref 18, .int (nI depth), .int (nI (depth + 3))] GG I L (QI GG (fun v I' L' => (v = h_v (h_f i 2 s) ∧ h_R s depth I I' (h_f i 2 s)) ∧ L' = L)) := by
  have h12 := hI.n12
  have hoff := g_off_lt hI hi
  refine PC.of [some (.ref 1), some (.int (nI i)), some (.ref 18), some (.int (nI depth)), some (.int (nI (depth + 3))), none, none, none, none, none, none] (by decide) (Nat.le_of_ble_eq_true rfl) rfl (fun l P => ?_)
  refine pm_iload_n (pc := 0) dX7_search_0 rfl ?_
  refine pm_if_lt (pc := 1) (tgt := 22) dX7_search_1 rfl (fun h1 => (by simp (disch := omega) only [pm_eqI, pm_ltI, pm_leI, nI_toInt, pm_t0, pm_t1, pm_tm1] at h1; omega)) (fun h1 => ?_)
  refine pm_iload_n (pc := 4) dX7_search_4 rfl ?_
  refine pm_aload_n (pc := 5) dX7_search_5 rfl ?_
  refine pm_alen (pc := 6) (v := nI 3) rfl (by decide) rfl dX7_search_6 ?_
  refine pm_icmp_ge (pc := 7) (tgt := 22) dX7_search_7 rfl (fun h7 => (by simp (disch := omega) only [pm_eqI, pm_ltI, pm_leI, nI_toInt, pm_t0, pm_t1, pm_tm1] at h7; omega)) (fun h7 => ?_)
  refine pm_aload_n (pc := 10) dX7_search_10 rfl ?_
  refine pm_iload_n (pc := 11) dX7_search_11 rfl ?_
  refine pm_cVR (pc := 12) dX7_search_12 (c_offOf hG hI hi) wq_X2_offOf wm_X7_25 wi_X2_offOf ws_X2_offOf rfl rfl ⟨Nat.le_of_ble_eq_true rfl, Nat.le_of_ble_eq_true rfl⟩ ⟨Nat.le_of_ble_eq_true rfl, Nat.le_of_ble_eq_true rfl⟩ rfl (Nat.le_of_ble_eq_true rfl) ?_
  refine pm_iload (pc := 15) dX7_search_15 rfl ?_
  refine pm_iload_n (pc := 17) dX7_search_17 rfl ?_
  refine pm_isub (pc := 18) dX7_search_18 ?_
  refine pm_top (x' := nI 3) (by rw [pk_sub (by omega)]; congr 1; omega) ?_
  refine pm_icmp_lt (pc := 19) (tgt := 24) dX7_search_19 rfl (fun h19 => ?_) (fun h19 => ?_)
  · simp (disch := omega) only [pm_eqI, pm_ltI, pm_leI, nI_toInt, pm_t0, pm_t1, pm_tm1] at h19
    refine pm_aload_n (pc := 24) dX7_search_24 rfl ?_
    refine pm_iload_n (pc := 25) dX7_search_25 rfl ?_
    refine pm_cVR (pc := 26) dX7_search_26 (c_placeOf hG hI hi) wq_X2_placeOf wm_X7_15 wi_X2_placeOf ws_X2_placeOf rfl rfl ⟨Nat.le_of_ble_eq_true rfl, Nat.le_of_ble_eq_true rfl⟩ ⟨Nat.le_of_ble_eq_true rfl, Nat.le_of_ble_eq_true rfl⟩ rfl (Nat.le_of_ble_eq_true rfl) ?_
    refine pm_istore (pc := 29) dX7_search_29 (by decide) rfl ?_
    refine pm_iconst (pc := 31) (v := nI 0) dX7_search_31 (by decide) ?_
    refine pm_istore (pc := 32) dX7_search_32 (by decide) rfl ?_
    exact l_hs234 hG hI hi hw hN hd 4 0 (by omega) I (h_K.rf hG) (h_f_eq i 2 s).symm
  · simp (disch := omega) only [pm_eqI, pm_ltI, pm_leI, nI_toInt, pm_t0, pm_t1, pm_tm1] at h19
    refine pm_iconst (pc := 22) (v := nI 0) dX7_search_22 (by decide) ?_
    refine pm_zret (pc := 23) (by decide) rfl (Nat.le_refl _) (Nat.le_refl _) dX7_search_23 ?_
    cases e : h_f i 2 s with
    | none => exact QI.r ⟨⟨rfl, h_R.none (h_K.rf hG)⟩, rfl⟩
    | some q =>
      have := h_off 2 s q hI hi hw e
      omega
