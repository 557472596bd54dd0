/-- what a lane keeps of a number; why items can't be taken -/
def low (b : Nat) (v : Int64) : Int64 := if b = 0 then v.toInt32.toInt8.toInt32.toInt64 else if b = 1 then v.toInt32.toInt64 else v
abbrev inRow (e : Nat) (i n : Int32) : Prop := 0 ≤ n.toInt ∧ 0 ≤ i.toInt ∧ i.toInt + n.toInt ≤ e
def refuse (o : Option (Nat × Nat)) (b : Nat) (i n : Int32) : Int32 := match o with
  | none => -11
  | some e => if e.1 ≠ b then -12 else if inRow e.2 i n then 0 else -13
def xu (X : xS) (q : Nat) (o : Option (Nat × Nat)) (f : Nat → Int64) : xS := xr (xsh X q o) q f
def sp_sheet (X : xS) (q b n : Int32) : Int32 × xS := if ¬ (iR q 0 3 ∧ iR b 0 2 ∧ n.toInt ≤ 24) then (-1, X) else if n.toInt < 0 then (-14, X) else (n, xu X (nt q) (some (nt b, nt n)) (fun _ => 0))
def sp_drop (X : xS) (q : Int32) : Int32 × xS := if ¬ iR q 0 3 then (-1, X) else match x_s X (nt q) with
  | none => (-11, X)
  | some e => (nI e.2, xu X (nt q) none (x_r X (nt q)))
def sp_item (X : xS) (q b i : Int32) (v : Int64) : Int32 × xS := if ¬ (iR q 0 3 ∧ iR b 0 2) then (-1, X) else if refuse (x_s X (nt q)) (nt b) i (nI 1) ≠ 0 then (refuse (x_s X (nt q)) (nt b) i (nI 1), X) else (nI 1, xu X (nt q) (x_s X (nt q)) (vp_updL (x_r X (nt q)) (nt i) (low (nt b) v)))
/-- a row into which the loads of m places are filmed -/
def r_film (s : gS) (b i : Nat) (f : Nat → Int64) : Nat → Nat → Int64
  | 0 => f
  | m + 1 => vp_updL (r_film s b i f m) (i + m) (low b (nI (g_load s m)).toInt64)
def sp_film (X : xS) (q b i : Int32) : Int32 × xS := if ¬ (iR q 0 3 ∧ iR b 0 2) then (-1, X) else if refuse (x_s X (nt q)) (nt b) i (nI 6) ≠ 0 then (refuse (x_s X (nt q)) (nt b) i (nI 6), X) else (nI 6, xu X (nt q) (x_s X (nt q)) (r_film (x_g X) (nt b) (nt i) (x_r X (nt q)) 6))
def sp_copy (X : xS) (q i p j n : Int32) : Int32 × xS := if ¬ (iR q 0 3 ∧ iR p 0 3) then (-1, X) else match x_s X (nt q), x_s X (nt p) with
  | some e, some f => if e.1 ≠ f.1 then (-12, X) else if inRow e.2 i n ∧ inRow f.2 j n then (n, xu X (nt p) (some f) (va_cpy (x_r X (nt q)) (x_r X (nt p)) (nt i) (nt j) (nt n))) else (-13, X)
  | _, _ => (-11, X)
theorem XR.sh {I I' : pm_I} {L L' : pm_L} {X : xS} {q : Nat} {o : Option (Nat × Nat)} {f : Nat → Int64} (h : XR I L X) (hq : q < 4) (hI : ∀ a : Nat, a ≠ 32 + 2 * q → I' a = I a) (hS : XS I' q o) (hL : ∀ a : Nat, a ≠ 33 + 2 * q → L' a = L a) (hf : ∀ k, k < 24 → L' (33 + 2 * q) k = f k) : XR I' L' (xu X q o f) ∧ xF I I' L L' := by
  refine ⟨⟨?_, ?_, ?_, fun p hp => ⟨?_, fun k hk => ?_⟩⟩, fun a ha => ⟨hI a (by omega), hL a (by omega)⟩⟩
  · have h0 := h.1
    show GR I' 1 (x_g X)
    unfold GR at h0 ⊢
    simp only [hI 1 (by omega), hI (1 + 1) (by omega), hI (1 + 2) (by omega), hI (1 + 3) (by omega), hI (1 + 4) (by omega), hI (1 + 5) (by omega), hI (1 + 6) (by omega), hI (1 + 7) (by omega)]
    exact h0
  · have h1 := h.2.1
    show XI I' (x_i X)
    unfold XI at h1 ⊢
    split
    · rename_i hz; rw [hz] at h1; rw [hI 0 (by omega)]; exact h1
    · rename_i s' hz
      rw [hz] at h1
      refine ⟨by rw [hI 0 (by omega)]; exact h1.1, ?_⟩
      have h2 := h1.2
      unfold GR at h2 ⊢
      simp only [hI 9 (by omega), hI (9 + 1) (by omega), hI (9 + 2) (by omega), hI (9 + 3) (by omega), hI (9 + 4) (by omega), hI (9 + 5) (by omega), hI (9 + 6) (by omega), hI (9 + 7) (by omega)]
      exact h2
  · have h1 := h.2.2.1
    show XT I' (x_t X)
    unfold XT at h1 ⊢
    rw [hI 22 (by omega), hI 23 (by omega)]; exact h1
  · show XS I' p (if p = q then o else x_s X p)
    by_cases e : p = q
    · subst e; rw [if_pos rfl]; exact hS
    · rw [if_neg e]
      have h1 := (h.2.2.2 p hp).1
      unfold XS at h1 ⊢
      rw [hI (32 + 2 * p) (by omega)]; exact h1
  · show L' (33 + 2 * p) k = (if p = q then f else x_r X p) k
    by_cases e : p = q
    · subst e; rw [if_pos rfl]; exact hf k hk
    · rw [if_neg e, hL (33 + 2 * p) (by omega)]; exact (h.2.2.2 p hp).2 k hk
theorem sh_of {q : Int32} (h : iR q 0 3) : ∃ s : Nat, s < 4 ∧ q = nI s := by
  obtain ⟨j, hj, e⟩ := iR_of (b := 3) (by decide) h
  exact ⟨j, by omega, e⟩
theorem sh_nI {s : Nat} (h : s < 4) : iR (nI s) 0 3 := (iR_nI (b := 3) (by omega)).mpr (by omega)
theorem la_of {q : Int32} (h : iR q 0 2) : ∃ s : Nat, s < 3 ∧ q = nI s := by
  obtain ⟨j, hj, e⟩ := iR_of (b := 2) (by decide) h
  exact ⟨j, by omega, e⟩
theorem la_nI {s : Nat} (h : s < 3) : iR (nI s) 0 2 := (iR_nI (b := 2) (by omega)).mpr (by omega)
set_option maxRecDepth 100000 in
set_option maxHeartbeats 4000000 in
theorem c_sheetAtN {I : pm_I} {L : pm_L} {q : Int32} (h : ¬ iR q 0 3) : PC 0 0 0 yX9_sheetAt cX9_sheetAt 2 (some (.object "WormHeap$Sheet")) [.ref 0, .int q] GG I L (QA GG I L .null) := by
  refine PC.of [some (.ref 0), some (.int q)] (by decide) (Nat.le_of_ble_eq_true rfl) rfl (fun l P => ?_)
  refine pm_iload_n (pc := 0) dX9_sheetAt_0 rfl ?_
  refine pm_if_lt (pc := 1) (tgt := 22) dX9_sheetAt_1 rfl (fun h1 => ?_) (fun h1 => ?_)
  · refine pm_null (u := ()) (pc := 22) dX9_sheetAt_22 ?_
    refine pm_aretN (pc := 23) (Or.inl ⟨_, rfl⟩) rfl (Nat.le_refl _) (Nat.le_refl _) dX9_sheetAt_23 ?_
    exact ⟨rfl, rfl, rfl, rfl⟩
  · refine pm_iload_n (pc := 4) dX9_sheetAt_4 rfl ?_
    refine pm_aload_n (pc := 5) dX9_sheetAt_5 rfl ?_
    refine pm_getr (pc := 6) (ci := 7) (C0 := RX9) (T := TX9) (N := 9) (j := 8) rfl rfl in_X9 (by decide) wf_X9_56 rfl dX9_sheetAt_6 ?_
    refine pm_alenR (pc := 9) (v := nI 4) rfl rfl dX9_sheetAt_9 ?_
    refine pm_icmp_ge (pc := 10) (tgt := 22) dX9_sheetAt_10 rfl (fun h10 => ?_) (fun h10 => ?_)
    · refine pm_null (u := ()) (pc := 22) dX9_sheetAt_22 ?_
      refine pm_aretN (pc := 23) (Or.inl ⟨_, rfl⟩) rfl (Nat.le_refl _) (Nat.le_refl _) dX9_sheetAt_23 ?_
      exact ⟨rfl, rfl, rfl, rfl⟩
    · exact absurd ⟨by rw [pm_ltI, pm_t0] at h1; omega, by rw [pm_leI, nI_toInt (by decide)] at h10; omega⟩ h
set_option maxRecDepth 100000 in
set_option maxHeartbeats 4000000 in
theorem c_sheetAt {I : pm_I} {L : pm_L} {q : Nat} (hq : q < 4) : PC 0 0 0 yX9_sheetAt cX9_sheetAt 2 (some (.object "WormHeap$Sheet")) [.ref 0, .int (nI q)] GG I L (QA GG I L (.ref (32 + 2 * q))) := by
  refine PC.of [some (.ref 0), some (.int (nI q))] (by decide) (Nat.le_of_ble_eq_true rfl) rfl (fun l P => ?_)
  refine pm_iload_n (pc := 0) dX9_sheetAt_0 rfl ?_
  refine pm_if_lt (pc := 1) (tgt := 22) dX9_sheetAt_1 rfl (fun h1 => (by simp (disch := omega) only [pm_eqI, pm_ltI, pm_leI, nI_toInt, pm_t0, pm_t1, pm_tm1] at h1; omega)) (fun h1 => ?_)
  refine pm_iload_n (pc := 4) dX9_sheetAt_4 rfl ?_
  refine pm_aload_n (pc := 5) dX9_sheetAt_5 rfl ?_
  refine pm_getr (pc := 6) (ci := 7) (C0 := RX9) (T := TX9) (N := 9) (j := 8) rfl rfl in_X9 (by decide) wf_X9_56 rfl dX9_sheetAt_6 ?_
  refine pm_alenR (pc := 9) (v := nI 4) rfl rfl dX9_sheetAt_9 ?_
  refine pm_icmp_ge (pc := 10) (tgt := 22) dX9_sheetAt_10 rfl (fun h10 => (by simp (disch := omega) only [pm_eqI, pm_ltI, pm_leI, nI_toInt, pm_t0, pm_t1, pm_tm1] at h10; omega)) (fun h10 => ?_)
  refine pm_aload_n (pc := 13) dX9_sheetAt_13 rfl ?_
  refine pm_getr (pc := 14) (ci := 7) (C0 := RX9) (T := TX9) (N := 9) (j := 8) rfl rfl in_X9 (by decide) wf_X9_56 rfl dX9_sheetAt_14 ?_
  refine pm_iload_n (pc := 17) dX9_sheetAt_17 rfl ?_
  refine pm_aaload (pc := 18) rfl (vp_in_nI hq (by decide)) (show _ = some (some (32 + 2 * q)) by rw [nI_clamp (by omega)]; rcases (show q = 0 ∨ q = 1 ∨ q = 2 ∨ q = 3 by omega) with rfl | rfl | rfl | rfl <;> rfl) dX9_sheetAt_18 ?_
  refine pm_goto (pc := 19) (tgt := 23) dX9_sheetAt_19 rfl ?_
  refine pm_aret (pc := 23) (Or.inl ⟨_, rfl⟩) rfl (Nat.le_refl _) (Nat.le_refl _) dX9_sheetAt_23 ?_
  exact ⟨rfl, rfl, rfl, rfl⟩
set_option maxRecDepth 100000 in
set_option maxHeartbeats 4000000 in
theorem c_holdsRow {I : pm_I} {L : pm_L} {q : Nat} (hq : q < 4) : PC 0 0 0 yX5_holdsRow cX5_holdsRow 1 (some (.boolean)) [.ref (32 + 2 * q)] GG I L (QR GG I L (b1 (¬ I (32 + 2 * q) 2 < 0))) := by
  refine PC.of [some (.ref (32 + 2 * q))] (by decide) (Nat.le_of_ble_eq_true rfl) rfl (fun l P => ?_)
  refine pm_aload_n (pc := 0) dX5_holdsRow_0 rfl ?_
  refine pm_get (pc := 1) (ci := 3) (C0 := RX5) (T := TX5) (N := 3) (j := 2) (gg_sheet hq) rfl in_X5 (by decide) wf_X5_15 rfl dX5_holdsRow_1 ?_
  refine pm_if_lt (pc := 4) (tgt := 11) dX5_holdsRow_4 rfl (fun h4 => ?_) (fun h4 => ?_)
  · refine pm_iconst (pc := 11) (v := nI 0) dX5_holdsRow_11 (by decide) ?_
    refine pm_zret (pc := 12) (by decide) rfl (Nat.le_refl _) (Nat.le_refl _) dX5_holdsRow_12 ?_
    exact QR.r (by first | exact b1_t (by assumption) | exact b1_f (fun z => z (by assumption)))
  · refine pm_iconst (pc := 7) (v := nI 1) dX5_holdsRow_7 (by decide) ?_
    refine pm_goto (pc := 8) (tgt := 12) dX5_holdsRow_8 rfl ?_
    refine pm_zret (pc := 12) (by decide) rfl (Nat.le_refl _) (Nat.le_refl _) dX5_holdsRow_12 ?_
    exact QR.r (by first | exact b1_t (by assumption) | exact b1_f (fun z => z (by assumption)))
theorem c_holds_ {I : pm_I} {L : pm_L} {q : Nat} {o : Option (Nat × Nat)} (hq : q < 4) (hS : XS I q o) (ho : ∀ a b, o = some (a, b) → a ≤ 2 ∧ b ≤ 24) : PC 0 0 0 yX5_holdsRow cX5_holdsRow 1 (some (.boolean)) [.ref (32 + 2 * q)] GG I L (QR GG I L (b1 (o.isSome = true))) := by
  have h := c_holdsRow (I := I) (L := L) hq
  rw [b1_congr (q := o.isSome = true)] at h
  · exact h
  · cases o with
    | none =>
      have hS2 : I (32 + 2 * q) 2 = -1 := hS
      rw [hS2]; decide
    | some e =>
      have hS2 : I (32 + 2 * q) 2 = nI e.2 := hS.2
      have := (ho e.1 e.2 rfl).2
      rw [hS2, pm_ltI, pm_t0, nI_toInt (by omega)]
      exact ⟨fun _ => rfl, fun _ => by omega⟩
set_option maxRecDepth 100000 in
set_option maxHeartbeats 4000000 in
theorem c_isOfLane {I : pm_I} {L : pm_L} {q p : Nat} (hq : q < 4) (hp : p < 4) : PC 0 0 0 yX5_isOfLane cX5_isOfLane 2 (some (.boolean)) [.ref (32 + 2 * q), .ref (32 + 2 * p)] GG I L (QR GG I L (b1 (I (32 + 2 * q) 1 = I (32 + 2 * p) 1))) := by
  refine PC.of [some (.ref (32 + 2 * q)), some (.ref (32 + 2 * p))] (by decide) (Nat.le_of_ble_eq_true rfl) rfl (fun l P => ?_)
  refine pm_aload_n (pc := 0) dX5_isOfLane_0 rfl ?_
  refine pm_get (pc := 1) (ci := 3) (C0 := RX5) (T := TX5) (N := 3) (j := 1) (gg_sheet hq) rfl in_X5 (by decide) wf_X5_19 rfl dX5_isOfLane_1 ?_
  refine pm_aload_n (pc := 4) dX5_isOfLane_4 rfl ?_
  refine pm_get (pc := 5) (ci := 3) (C0 := RX5) (T := TX5) (N := 3) (j := 1) (gg_sheet hp) rfl in_X5 (by decide) wf_X5_19 rfl dX5_isOfLane_5 ?_
  refine pm_icmp_ne (pc := 8) (tgt := 15) dX5_isOfLane_8 rfl (fun h8 => ?_) (fun h8 => ?_)
  · refine pm_iconst (pc := 15) (v := nI 0) dX5_isOfLane_15 (by decide) ?_
    refine pm_zret (pc := 16) (by decide) rfl (Nat.le_refl _) (Nat.le_refl _) dX5_isOfLane_16 ?_
    exact QR.r (by first | exact b1_t (by assumption) | exact b1_f (by assumption))
  · refine pm_iconst (pc := 11) (v := nI 1) dX5_isOfLane_11 (by decide) ?_
    refine pm_goto (pc := 12) (tgt := 16) dX5_isOfLane_12 rfl ?_
    refine pm_zret (pc := 16) (by decide) rfl (Nat.le_refl _) (Nat.le_refl _) dX5_isOfLane_16 ?_
    exact QR.r (by first | exact b1_t (by assumption) | exact b1_f (by assumption))
set_option maxRecDepth 100000 in
set_option maxHeartbeats 4000000 in
theorem c_hasItems {I : pm_I} {L : pm_L} {q e : Nat} {i n : Int32} (hq : q < 4) (hs : I (32 + 2 * q) 2 = nI e) (he : e ≤ 24) : PC 0 0 0 yX5_hasItems cX5_hasItems 3 (some (.boolean)) [.ref (32 + 2 * q), .int i, .int n] GG I L (QR GG I L (b1 (inRow e i n))) := by
  refine PC.of [some (.ref (32 + 2 * q)), some (.int i), some (.int n)] (by decide) (Nat.le_of_ble_eq_true rfl) rfl (fun l P => ?_)
  refine pm_iload_n (pc := 0) dX5_hasItems_0 rfl ?_
  refine pm_if_lt (pc := 1) (tgt := 22) dX5_hasItems_1 rfl (fun h1 => ?_) (fun h1 => ?_)
  · refine pm_iconst (pc := 22) (v := nI 0) dX5_hasItems_22 (by decide) ?_
    refine pm_zret (pc := 23) (by decide) rfl (Nat.le_refl _) (Nat.le_refl _) dX5_hasItems_23 ?_
    refine QR.r ?_
    have t := nI_toInt (n := e) (by omega)
    have mx : Int32.maxValue.toInt = 2147483647 := by decide
    simp only [pm_ltI, pm_t0] at *
    first
      | exact b1_f (fun z => by have := z.1; omega)
      | exact b1_f (fun z => by have := z.2.1; omega)
      | exact b1_f (fun z => by rw [hs] at h15; have z1 := z.1; have z3 := z.2.2; have := Int32.toInt_le n; rw [fb_subI (by omega) (by omega)] at h15; omega)
      | exact b1_t (by rw [hs] at h15; have := Int32.toInt_le n; rw [fb_subI (by omega) (by omega)] at h15; exact ⟨by omega, by omega, by omega⟩)
  · refine pm_iload_n (pc := 4) dX5_hasItems_4 rfl ?_
    refine pm_if_lt (pc := 5) (tgt := 22) dX5_hasItems_5 rfl (fun h5 => ?_) (fun h5 => ?_)
    · refine pm_iconst (pc := 22) (v := nI 0) dX5_hasItems_22 (by decide) ?_
      refine pm_zret (pc := 23) (by decide) rfl (Nat.le_refl _) (Nat.le_refl _) dX5_hasItems_23 ?_
      refine QR.r ?_
      have t := nI_toInt (n := e) (by omega)
      have mx : Int32.maxValue.toInt = 2147483647 := by decide
      simp only [pm_ltI, pm_t0] at *
      first
        | exact b1_f (fun z => by have := z.1; omega)
        | exact b1_f (fun z => by have := z.2.1; omega)
        | exact b1_f (fun z => by rw [hs] at h15; have z1 := z.1; have z3 := z.2.2; have := Int32.toInt_le n; rw [fb_subI (by omega) (by omega)] at h15; omega)
        | exact b1_t (by rw [hs] at h15; have := Int32.toInt_le n; rw [fb_subI (by omega) (by omega)] at h15; exact ⟨by omega, by omega, by omega⟩)
    · refine pm_iload_n (pc := 8) dX5_hasItems_8 rfl ?_
      refine pm_aload_n (pc := 9) dX5_hasItems_9 rfl ?_
      refine pm_get (pc := 10) (ci := 3) (C0 := RX5) (T := TX5) (N := 3) (j := 2) (gg_sheet hq) rfl in_X5 (by decide) wf_X5_15 rfl dX5_hasItems_10 ?_
      refine pm_iload_n (pc := 13) dX5_hasItems_13 rfl ?_
      refine pm_isub (pc := 14) dX5_hasItems_14 ?_
      refine pm_icmp_gt (pc := 15) (tgt := 22) dX5_hasItems_15 rfl (fun h15 => ?_) (fun h15 => ?_)
      · refine pm_iconst (pc := 22) (v := nI 0) dX5_hasItems_22 (by decide) ?_
        refine pm_zret (pc := 23) (by decide) rfl (Nat.le_refl _) (Nat.le_refl _) dX5_hasItems_23 ?_
        refine QR.r ?_
        have t := nI_toInt (n := e) (by omega)
        have mx : Int32.maxValue.toInt = 2147483647 := by decide
        simp only [pm_ltI, pm_t0] at *
        first
          | exact b1_f (fun z => by have := z.1; omega)
          | exact b1_f (fun z => by have := z.2.1; omega)
          | exact b1_f (fun z => by rw [hs] at h15; have z1 := z.1; have z3 := z.2.2; have := Int32.toInt_le n; rw [fb_subI (by omega) (by omega)] at h15; omega)
          | exact b1_t (by rw [hs] at h15; have := Int32.toInt_le n; rw [fb_subI (by omega) (by omega)] at h15; exact ⟨by omega, by omega, by omega⟩)
      · refine pm_iconst (pc := 18) (v := nI 1) dX5_hasItems_18 (by decide) ?_
        refine pm_goto (pc := 19) (tgt := 23) dX5_hasItems_19 rfl ?_
        refine pm_zret (pc := 23) (by decide) rfl (Nat.le_refl _) (Nat.le_refl _) dX5_hasItems_23 ?_
        refine QR.r ?_
        have t := nI_toInt (n := e) (by omega)
        have mx : Int32.maxValue.toInt = 2147483647 := by decide
        simp only [pm_ltI, pm_t0] at *
        first
          | exact b1_f (fun z => by have := z.1; omega)
          | exact b1_f (fun z => by have := z.2.1; omega)
          | exact b1_f (fun z => by rw [hs] at h15; have z1 := z.1; have z3 := z.2.2; have := Int32.toInt_le n; rw [fb_subI (by omega) (by omega)] at h15; omega)
          | exact b1_t (by rw [hs] at h15; have := Int32.toInt_le n; rw [fb_subI (by omega) (by omega)] at h15; exact ⟨by omega, by omega, by omega⟩)
set_option maxRecDepth 100000 in
set_option maxHeartbeats 4000000 in
theorem c_refusal {I : pm_I} {L : pm_L} {q b : Nat} {i n : Int32} {o : Option (Nat × Nat)} (hq : q < 4) (hS : XS I q o) (ho : ∀ a b, o = some (a, b) → a ≤ 2 ∧ b ≤ 24) (hb : b < 3) : PC 1 0 0 yX5_refusal cX5_refusal 4 (some (.int)) [.ref (32 + 2 * q), .int (nI b), .int i, .int n] GG I L (QR GG I L (refuse o b i n)) := by
  refine PC.of [some (.ref (32 + 2 * q)), some (.int (nI b)), some (.int i), some (.int n)] (by decide) (Nat.le_of_ble_eq_true rfl) rfl (fun l P => ?_)
  refine pm_aload_n (pc := 0) dX5_refusal_0 rfl ?_
  refine pm_cVR (pc := 1) dX5_refusal_1 (c_holds_ hq hS ho) wq_X5_holdsRow wm_X5_22 wi_X5_holdsRow ws_X5_holdsRow (gg_sheet hq) rfl ⟨Nat.le_of_ble_eq_true rfl, Nat.le_of_ble_eq_true rfl⟩ ⟨Nat.le_of_ble_eq_true rfl, Nat.le_of_ble_eq_true rfl⟩ rfl (Nat.le_of_ble_eq_true rfl) ?_
  refine pm_if_ne (pc := 4) (tgt := 10) dX5_refusal_4 rfl (fun h4 => ?_) (fun h4 => ?_)
  · obtain ⟨e, rfl⟩ := Option.isSome_iff_exists.mp (b1_nt h4)
    have hb2 := ho e.1 e.2 rfl
    have hS1 : I (32 + 2 * q) 1 = nI e.1 := hS.1
    have hS2 : I (32 + 2 * q) 2 = nI e.2 := hS.2
    have heq : nI e.1 = nI b ↔ e.1 = b := nI_eq (by omega) (by omega)
    refine pm_aload_n (pc := 10) dX5_refusal_10 rfl ?_
    refine pm_get (pc := 11) (ci := 3) (C0 := RX5) (T := TX5) (N := 3) (j := 1) (gg_sheet hq) rfl in_X5 (by decide) wf_X5_19 rfl dX5_refusal_11 ?_
    refine pm_iload_n (pc := 14) dX5_refusal_14 rfl ?_
    refine pm_icmp_eq (pc := 15) (tgt := 21) dX5_refusal_15 rfl (fun h15 => ?_) (fun h15 => ?_)
    · refine pm_aload_n (pc := 21) dX5_refusal_21 rfl ?_
      refine pm_iload_n (pc := 22) dX5_refusal_22 rfl ?_
      refine pm_iload_n (pc := 23) dX5_refusal_23 rfl ?_
      refine pm_cVR (pc := 24) dX5_refusal_24 (c_hasItems hq hS2 hb2.2) wq_X5_hasItems wm_X5_26 wi_X5_hasItems ws_X5_hasItems (gg_sheet hq) rfl ⟨Nat.le_of_ble_eq_true rfl, Nat.le_of_ble_eq_true rfl⟩ ⟨Nat.le_of_ble_eq_true rfl, Nat.le_of_ble_eq_true rfl⟩ rfl (Nat.le_of_ble_eq_true rfl) ?_
      refine pm_if_eq (pc := 27) (tgt := 34) dX5_refusal_27 rfl (fun h27 => ?_) (fun h27 => ?_)
      · refine pm_bipush (pc := 34) (v := (-13)) dX5_refusal_34 (by decide) ?_
        refine pm_iret (pc := 36) rfl (Nat.le_refl _) (Nat.le_refl _) dX5_refusal_36 ?_
        exact QR.r (by show _ = (if ¬ e.1 = b then (-12 : Int32) else if inRow e.2 i n then 0 else -13); rw [if_neg (not_not_intro (heq.mp (by rw [← hS1]; exact h15)))]; first | exact (if_pos (b1_nt h27)).symm | exact (if_neg (b1_nf h27)).symm)
      · refine pm_iconst (pc := 30) (v := nI 0) dX5_refusal_30 (by decide) ?_
        refine pm_goto (pc := 31) (tgt := 36) dX5_refusal_31 rfl ?_
        refine pm_iret (pc := 36) rfl (Nat.le_refl _) (Nat.le_refl _) dX5_refusal_36 ?_
        exact QR.r (by show _ = (if ¬ e.1 = b then (-12 : Int32) else if inRow e.2 i n then 0 else -13); rw [if_neg (not_not_intro (heq.mp (by rw [← hS1]; exact h15)))]; first | exact (if_pos (b1_nt h27)).symm | exact (if_neg (b1_nf h27)).symm)
    · refine pm_bipush (pc := 18) (v := (-12)) dX5_refusal_18 (by decide) ?_
      refine pm_iret (pc := 20) rfl (Nat.le_refl _) (Nat.le_refl _) dX5_refusal_20 ?_
      exact QR.r (by unfold refuse; exact (if_pos (fun z => h15 (by rw [hS1]; exact heq.mpr z))).symm)
  · refine pm_bipush (pc := 7) (v := (-11)) dX5_refusal_7 (by decide) ?_
    refine pm_iret (pc := 9) rfl (Nat.le_refl _) (Nat.le_refl _) dX5_refusal_9 ?_
    have e : o = none := by cases o with
      | none => rfl
      | some e => exact absurd (show (some e).isSome = true from rfl) (b1_nf h4)
    subst e
    exact QR.r rfl
set_option maxRecDepth 100000 in
set_option maxHeartbeats 4000000 in
theorem c_clear {I : pm_I} {L : pm_L} {q : Nat} (hq : q < 4) : PC 0 0 0 yX5_clear cX5_clear 2 (some (.int)) [.ref (32 + 2 * q)] GG I L (QI GG (fun r I' L' => r = I (32 + 2 * q) 2 ∧ I' = pm_u I (32 + 2 * q) (upd (I (32 + 2 * q)) 2 (-1)) ∧ L' = L)) := by
  refine PC.of [some (.ref (32 + 2 * q)), none] (by decide) (Nat.le_of_ble_eq_true rfl) rfl (fun l P => ?_)
  refine pm_aload_n (pc := 0) dX5_clear_0 rfl ?_
  refine pm_get (pc := 1) (ci := 3) (C0 := RX5) (T := TX5) (N := 3) (j := 2) (gg_sheet hq) rfl in_X5 (by decide) wf_X5_15 rfl dX5_clear_1 ?_
  refine pm_istore_n (pc := 4) dX5_clear_4 (by decide) rfl ?_
  refine pm_aload_n (pc := 5) dX5_clear_5 rfl ?_
  refine pm_iconst (pc := 6) (v := (-1)) dX5_clear_6 (by decide) ?_
  refine pm_put (pc := 7) (ci := 3) (C0 := RX5) (T := TX5) (N := 3) (j := 2) (ty := .int) (gg_sheet hq) rfl in_X5 tyX5 tyX5_ok nmX5 (by decide) wf_X5_15 rfl rfl (by decide +kernel) rfl rfl dX5_clear_7 ?_
  refine pm_iload_n (pc := 10) dX5_clear_10 rfl ?_
  refine pm_iret (pc := 11) rfl (Nat.le_refl _) (Nat.le_refl _) dX5_clear_11 ?_
  exact QI.r ⟨rfl, rfl, rfl⟩
set_option maxRecDepth 100000 in
set_option maxHeartbeats 4000000 in
theorem c_renew {I : pm_I} {L : pm_L} {q b n : Nat} (hq : q < 4) (hn : n ≤ 24) : PC 1 0 0 yX5_renew cX5_renew 3 none [.ref (32 + 2 * q), .int (nI b), .int (nI n)] GG I L (QV GG (fun I' L' => ((∀ a : Nat, a ≠ 32 + 2 * q → I' a = I a) ∧ I' (32 + 2 * q) 1 = nI b ∧ I' (32 + 2 * q) 2 = nI n) ∧ L' = pm_u L (33 + 2 * q) (fa_fill (fun _ => 0) (L (33 + 2 * q)) 24))) := by
  refine PC.of [some (.ref (32 + 2 * q)), some (.int (nI b)), some (.int (nI n))] (by decide) (Nat.le_of_ble_eq_true rfl) rfl (fun l P => ?_)
  refine pm_aload_n (pc := 0) dX5_renew_0 rfl ?_
  refine pm_iload_n (pc := 1) dX5_renew_1 rfl ?_
  refine pm_put (pc := 2) (ci := 3) (C0 := RX5) (T := TX5) (N := 3) (j := 1) (ty := .int) (gg_sheet hq) rfl in_X5 tyX5 tyX5_ok nmX5 (by decide) wf_X5_19 rfl rfl (by decide +kernel) rfl rfl dX5_renew_2 ?_
  refine pm_aload_n (pc := 5) dX5_renew_5 rfl ?_
  refine pm_iload_n (pc := 6) dX5_renew_6 rfl ?_
  refine pm_bipush (pc := 7) (v := nI 24) dX5_renew_7 (by decide) ?_
  refine pm_mmin (pc := 9) wm_X5_30 wt_mmin wz_math wo_mmin ⟨Nat.le_of_ble_eq_true rfl, Nat.le_of_ble_eq_true rfl, Nat.le_of_ble_eq_true rfl, Nat.le_of_ble_eq_true rfl⟩ (Nat.le_of_ble_eq_true rfl) dX5_renew_9 ?_
  refine pm_top (x' := nI n) (by exact if_neg (by rw [pm_ltI, nI_toInt (by omega), nI_toInt (by omega)]; omega)) ?_
  refine pm_put (pc := 12) (ci := 3) (C0 := RX5) (T := TX5) (N := 3) (j := 2) (ty := .int) (gg_sheet hq) rfl in_X5 tyX5 tyX5_ok nmX5 (by decide) wf_X5_15 rfl rfl (by decide +kernel) rfl rfl dX5_renew_12 ?_
  refine pm_aload_n (pc := 15) dX5_renew_15 rfl ?_
  refine pm_getr (pc := 16) (ci := 3) (C0 := RX5) (T := TX5) (N := 3) (j := 0) (gg_sheet hq) rfl in_X5 (by decide) wf_X5_9 rfl dX5_renew_16 ?_
  refine pm_lconst (pc := 19) (v := 0) dX5_renew_19 (by decide) ?_
  refine pm_cSV (pc := 20) dX5_renew_20 (c_fillL (gg_row hq) (by decide)) wq_J7_fill_d0a16 wm_X5_36 wt_J7_fill_d0a16 ⟨Nat.le_of_ble_eq_true rfl, Nat.le_of_ble_eq_true rfl⟩ ⟨Nat.le_of_ble_eq_true rfl, Nat.le_of_ble_eq_true rfl⟩ rfl (Nat.le_of_ble_eq_true rfl) (fun I20 L20 q20 => ?_)
  obtain ⟨q1, q2⟩ := q20
  subst q1 q2
  refine pm_vret (pc := 23) rfl (Nat.le_refl _) (Nat.le_refl _) dX5_renew_23 ?_
  exact QV.r ⟨⟨fun a ha => (pm_un ha).trans (pm_un ha), by simp (disch := omega) only [pm_us, pk_un, pk_us], by simp (disch := omega) only [pm_us, pk_us]⟩, rfl⟩
set_option maxRecDepth 100000 in
set_option maxHeartbeats 4000000 in
theorem c_itemAt {I : pm_I} {L : pm_L} {q i : Nat} (hq : q < 4) (hi : i < 24) : PC 0 0 0 yX5_itemAt cX5_itemAt 2 (some (.long)) [.ref (32 + 2 * q), .int (nI i)] GG I L (QL GG I L (L (33 + 2 * q) i)) := by
  refine PC.of [some (.ref (32 + 2 * q)), some (.int (nI i))] (by decide) (Nat.le_of_ble_eq_true rfl) rfl (fun l P => ?_)
  refine pm_iload_n (pc := 0) dX5_itemAt_0 rfl ?_
  refine pm_if_lt (pc := 1) (tgt := 19) dX5_itemAt_1 rfl (fun h1 => (by simp (disch := omega) only [pm_eqI, pm_ltI, pm_leI, nI_toInt, pm_t0, pm_t1, pm_tm1] at h1; omega)) (fun h1 => ?_)
  refine pm_iload_n (pc := 4) dX5_itemAt_4 rfl ?_
  refine pm_bipush (pc := 5) (v := nI 24) dX5_itemAt_5 (by decide) ?_
  refine pm_icmp_ge (pc := 7) (tgt := 19) dX5_itemAt_7 rfl (fun h7 => (by simp (disch := omega) only [pm_eqI, pm_ltI, pm_leI, nI_toInt, pm_t0, pm_t1, pm_tm1] at h7; omega)) (fun h7 => ?_)
  refine pm_aload_n (pc := 10) dX5_itemAt_10 rfl ?_
  refine pm_getr (pc := 11) (ci := 3) (C0 := RX5) (T := TX5) (N := 3) (j := 0) (gg_sheet hq) rfl in_X5 (by decide) wf_X5_9 rfl dX5_itemAt_11 ?_
  refine pm_iload_n (pc := 14) dX5_itemAt_14 rfl ?_
  refine pm_lald (pc := 15) (gg_row hq) (by omega) (by decide) dX5_itemAt_15 ?_
  refine pm_goto (pc := 16) (tgt := 20) dX5_itemAt_16 rfl ?_
  refine pm_lret (pc := 20) rfl (Nat.le_refl _) (Nat.le_refl _) dX5_itemAt_20 ?_
  exact QL.r rfl
set_option maxRecDepth 100000 in
set_option maxHeartbeats 4000000 in
theorem c_becomeAt0 {I : pm_I} {L : pm_L} {q i : Nat} {v : Int64} (hq : q < 4) (hi : i < 24) (hb : I (32 + 2 * q) 1 = nI 0) : PC 0 0 0 yX5_becomeAt cX5_becomeAt 4 none [.ref (32 + 2 * q), .int (nI i), .long v] GG I L (QV GG (fun I' L' => I' = I ∧ L' = pm_u L (33 + 2 * q) (vp_updL (L (33 + 2 * q)) i (low 0 v)))) := by
  refine PC.of [some (.ref (32 + 2 * q)), some (.int (nI i)), some (.long v), none] (by decide) (Nat.le_of_ble_eq_true rfl) rfl (fun l P => ?_)
  refine pm_iload_n (pc := 0) dX5_becomeAt_0 rfl ?_
  refine pm_if_lt (pc := 1) (tgt := 10) dX5_becomeAt_1 rfl (fun h1 => (by simp (disch := omega) only [pm_eqI, pm_ltI, pm_leI, nI_toInt, pm_t0, pm_t1, pm_tm1] at h1; omega)) (fun h1 => ?_)
  refine pm_iload_n (pc := 4) dX5_becomeAt_4 rfl ?_
  refine pm_bipush (pc := 5) (v := nI 24) dX5_becomeAt_5 (by decide) ?_
  refine pm_icmp_lt (pc := 7) (tgt := 11) dX5_becomeAt_7 rfl (fun h7 => ?_) (fun h7 => (by simp (disch := omega) only [pm_eqI, pm_ltI, pm_leI, nI_toInt, pm_t0, pm_t1, pm_tm1] at h7; omega))
  refine pm_aload_n (pc := 11) dX5_becomeAt_11 rfl ?_
  refine pm_get (pc := 12) (ci := 3) (C0 := RX5) (T := TX5) (N := 3) (j := 1) (gg_sheet hq) rfl in_X5 (by decide) wf_X5_19 rfl dX5_becomeAt_12 ?_
  rw [hb]
  refine pm_lookup (pc := 15) (off := 25) (tgt := 40) dX5_becomeAt_15 (by decide) (by decide) rfl ?_
  refine pm_aload_n (pc := 40) dX5_becomeAt_40 rfl ?_
  refine pm_getr (pc := 41) (ci := 3) (C0 := RX5) (T := TX5) (N := 3) (j := 0) (gg_sheet hq) rfl in_X5 (by decide) wf_X5_9 rfl dX5_becomeAt_41 ?_
  refine pm_iload_n (pc := 44) dX5_becomeAt_44 rfl ?_
  refine pm_lload_n (pc := 45) dX5_becomeAt_45 rfl ?_
  refine pm_l2i (pc := 46) dX5_becomeAt_46 ?_
  refine pm_i2b (pc := 47) dX5_becomeAt_47 ?_
  refine pm_i2l (pc := 48) dX5_becomeAt_48 ?_
  refine pm_last (pc := 49) (gg_row hq) (by omega) (by decide) dX5_becomeAt_49 ?_
  refine pm_goto (pc := 50) (tgt := 72) dX5_becomeAt_50 rfl ?_
  refine pm_vret (pc := 72) rfl (Nat.le_refl _) (Nat.le_refl _) dX5_becomeAt_72 ?_
  exact QV.r ⟨rfl, rfl⟩
set_option maxRecDepth 100000 in
set_option maxHeartbeats 4000000 in
theorem c_becomeAt1 {I : pm_I} {L : pm_L} {q i : Nat} {v : Int64} (hq : q < 4) (hi : i < 24) (hb : I (32 + 2 * q) 1 = nI 1) : PC 0 0 0 yX5_becomeAt cX5_becomeAt 4 none [.ref (32 + 2 * q), .int (nI i), .long v] GG I L (QV GG (fun I' L' => I' = I ∧ L' = pm_u L (33 + 2 * q) (vp_updL (L (33 + 2 * q)) i (low 1 v)))) := by
  refine PC.of [some (.ref (32 + 2 * q)), some (.int (nI i)), some (.long v), none] (by decide) (Nat.le_of_ble_eq_true rfl) rfl (fun l P => ?_)
  refine pm_iload_n (pc := 0) dX5_becomeAt_0 rfl ?_
  refine pm_if_lt (pc := 1) (tgt := 10) dX5_becomeAt_1 rfl (fun h1 => (by simp (disch := omega) only [pm_eqI, pm_ltI, pm_leI, nI_toInt, pm_t0, pm_t1, pm_tm1] at h1; omega)) (fun h1 => ?_)
  refine pm_iload_n (pc := 4) dX5_becomeAt_4 rfl ?_
  refine pm_bipush (pc := 5) (v := nI 24) dX5_becomeAt_5 (by decide) ?_
  refine pm_icmp_lt (pc := 7) (tgt := 11) dX5_becomeAt_7 rfl (fun h7 => ?_) (fun h7 => (by simp (disch := omega) only [pm_eqI, pm_ltI, pm_leI, nI_toInt, pm_t0, pm_t1, pm_tm1] at h7; omega))
  refine pm_aload_n (pc := 11) dX5_becomeAt_11 rfl ?_
  refine pm_get (pc := 12) (ci := 3) (C0 := RX5) (T := TX5) (N := 3) (j := 1) (gg_sheet hq) rfl in_X5 (by decide) wf_X5_19 rfl dX5_becomeAt_12 ?_
  rw [hb]
  refine pm_lookup (pc := 15) (off := 38) (tgt := 53) dX5_becomeAt_15 (by decide) (by decide) rfl ?_
  refine pm_aload_n (pc := 53) dX5_becomeAt_53 rfl ?_
  refine pm_getr (pc := 54) (ci := 3) (C0 := RX5) (T := TX5) (N := 3) (j := 0) (gg_sheet hq) rfl in_X5 (by decide) wf_X5_9 rfl dX5_becomeAt_54 ?_
  refine pm_iload_n (pc := 57) dX5_becomeAt_57 rfl ?_
  refine pm_lload_n (pc := 58) dX5_becomeAt_58 rfl ?_
  refine pm_l2i (pc := 59) dX5_becomeAt_59 ?_
  refine pm_i2l (pc := 60) dX5_becomeAt_60 ?_
  refine pm_last (pc := 61) (gg_row hq) (by omega) (by decide) dX5_becomeAt_61 ?_
  refine pm_goto (pc := 62) (tgt := 72) dX5_becomeAt_62 rfl ?_
  refine pm_vret (pc := 72) rfl (Nat.le_refl _) (Nat.le_refl _) dX5_becomeAt_72 ?_
  exact QV.r ⟨rfl, rfl⟩
set_option maxRecDepth 100000 in
set_option maxHeartbeats 4000000 in
theorem c_becomeAt2 {I : pm_I} {L : pm_L} {q i : Nat} {v : Int64} (hq : q < 4) (hi : i < 24) (hb : I (32 + 2 * q) 1 = nI 2) : PC 0 0 0 yX5_becomeAt cX5_becomeAt 4 none [.ref (32 + 2 * q), .int (nI i), .long v] GG I L (QV GG (fun I' L' => I' = I ∧ L' = pm_u L (33 + 2 * q) (vp_updL (L (33 + 2 * q)) i (low 2 v)))) := by
  refine PC.of [some (.ref (32 + 2 * q)), some (.int (nI i)), some (.long v), none] (by decide) (Nat.le_of_ble_eq_true rfl) rfl (fun l P => ?_)
  refine pm_iload_n (pc := 0) dX5_becomeAt_0 rfl ?_
  refine pm_if_lt (pc := 1) (tgt := 10) dX5_becomeAt_1 rfl (fun h1 => (by simp (disch := omega) only [pm_eqI, pm_ltI, pm_leI, nI_toInt, pm_t0, pm_t1, pm_tm1] at h1; omega)) (fun h1 => ?_)
  refine pm_iload_n (pc := 4) dX5_becomeAt_4 rfl ?_
  refine pm_bipush (pc := 5) (v := nI 24) dX5_becomeAt_5 (by decide) ?_
  refine pm_icmp_lt (pc := 7) (tgt := 11) dX5_becomeAt_7 rfl (fun h7 => ?_) (fun h7 => (by simp (disch := omega) only [pm_eqI, pm_ltI, pm_leI, nI_toInt, pm_t0, pm_t1, pm_tm1] at h7; omega))
  refine pm_aload_n (pc := 11) dX5_becomeAt_11 rfl ?_
  refine pm_get (pc := 12) (ci := 3) (C0 := RX5) (T := TX5) (N := 3) (j := 1) (gg_sheet hq) rfl in_X5 (by decide) wf_X5_19 rfl dX5_becomeAt_12 ?_
  rw [hb]
  refine pm_lookup (pc := 15) (off := 50) (tgt := 65) dX5_becomeAt_15 (by decide) (by decide) rfl ?_
  refine pm_aload_n (pc := 65) dX5_becomeAt_65 rfl ?_
  refine pm_getr (pc := 66) (ci := 3) (C0 := RX5) (T := TX5) (N := 3) (j := 0) (gg_sheet hq) rfl in_X5 (by decide) wf_X5_9 rfl dX5_becomeAt_66 ?_
  refine pm_iload_n (pc := 69) dX5_becomeAt_69 rfl ?_
  refine pm_lload_n (pc := 70) dX5_becomeAt_70 rfl ?_
  refine pm_last (pc := 71) (gg_row hq) (by omega) (by decide) dX5_becomeAt_71 ?_
  refine pm_vret (pc := 72) rfl (Nat.le_refl _) (Nat.le_refl _) dX5_becomeAt_72 ?_
  exact QV.r ⟨rfl, rfl⟩
theorem c_becomeAt {I : pm_I} {L : pm_L} {q i b : Nat} {v : Int64} (hq : q < 4) (hi : i < 24) (hb : I (32 + 2 * q) 1 = nI b) (h3 : b < 3) : PC 0 0 0 yX5_becomeAt cX5_becomeAt 4 none [.ref (32 + 2 * q), .int (nI i), .long v] GG I L (QV GG (fun I' L' => I' = I ∧ L' = pm_u L (33 + 2 * q) (vp_updL (L (33 + 2 * q)) i (low b v)))) := by
  rcases (show b = 0 ∨ b = 1 ∨ b = 2 by omega) with rfl | rfl | rfl
  · exact c_becomeAt0 hq hi hb
  · exact c_becomeAt1 hq hi hb
  · exact c_becomeAt2 hq hi hb
set_option maxRecDepth 100000 in
set_option maxHeartbeats 4000000 in
theorem c_takeItems {I : pm_I} {L : pm_L} {q p e f : Nat} {i j n : Int32} (hq : q < 4) (hp : p < 4) (hs : I (32 + 2 * q) 2 = nI e) (he : e ≤ 24) (ht : I (32 + 2 * p) 2 = nI f) (hf : f ≤ 24) (h1 : inRow e i n) (h2 : inRow f j n) : PC 1 0 0 yX5_takeItems cX5_takeItems 5 none [.ref (32 + 2 * p), .int j, .ref (32 + 2 * q), .int i, .int n] GG I L (QV GG (fun I' L' => I' = I ∧ L' = pm_u L (33 + 2 * p) (va_cpy (L (33 + 2 * q)) (L (33 + 2 * p)) (nt i) (nt j) (nt n)))) := by
  refine PC.of [some (.ref (32 + 2 * p)), some (.int j), some (.ref (32 + 2 * q)), some (.int i), some (.int n)] (by decide) (Nat.le_of_ble_eq_true rfl) rfl (fun l P => ?_)
  refine pm_aload_n (pc := 0) dX5_takeItems_0 rfl ?_
  refine pm_iload_n (pc := 1) dX5_takeItems_1 rfl ?_
  refine pm_iload (pc := 2) dX5_takeItems_2 rfl ?_
  refine pm_cVR (pc := 4) dX5_takeItems_4 (c_hasItems hp ht hf) wq_X5_hasItems wm_X5_26 wi_X5_hasItems ws_X5_hasItems (gg_sheet hp) rfl ⟨Nat.le_of_ble_eq_true rfl, Nat.le_of_ble_eq_true rfl⟩ ⟨Nat.le_of_ble_eq_true rfl, Nat.le_of_ble_eq_true rfl⟩ rfl (Nat.le_of_ble_eq_true rfl) ?_
  refine pm_if_eq (pc := 7) (tgt := 35) dX5_takeItems_7 rfl (fun h7 => absurd h2 (b1_nf h7)) (fun h7 => ?_)
  refine pm_aload_n (pc := 10) dX5_takeItems_10 rfl ?_
  refine pm_iload_n (pc := 11) dX5_takeItems_11 rfl ?_
  refine pm_iload (pc := 12) dX5_takeItems_12 rfl ?_
  refine pm_cVR (pc := 14) dX5_takeItems_14 (c_hasItems hq hs he) wq_X5_hasItems wm_X5_26 wi_X5_hasItems ws_X5_hasItems (gg_sheet hq) rfl ⟨Nat.le_of_ble_eq_true rfl, Nat.le_of_ble_eq_true rfl⟩ ⟨Nat.le_of_ble_eq_true rfl, Nat.le_of_ble_eq_true rfl⟩ rfl (Nat.le_of_ble_eq_true rfl) ?_
  refine pm_if_eq (pc := 17) (tgt := 35) dX5_takeItems_17 rfl (fun h17 => absurd h1 (b1_nf h17)) (fun h17 => ?_)
  refine pm_aload_n (pc := 20) dX5_takeItems_20 rfl ?_
  refine pm_getr (pc := 21) (ci := 3) (C0 := RX5) (T := TX5) (N := 3) (j := 0) (gg_sheet hq) rfl in_X5 (by decide) wf_X5_9 rfl dX5_takeItems_21 ?_
  refine pm_iload_n (pc := 24) dX5_takeItems_24 rfl ?_
  refine pm_aload_n (pc := 25) dX5_takeItems_25 rfl ?_
  refine pm_getr (pc := 26) (ci := 3) (C0 := RX5) (T := TX5) (N := 3) (j := 0) (gg_sheet hp) rfl in_X5 (by decide) wf_X5_9 rfl dX5_takeItems_26 ?_
  refine pm_iload_n (pc := 29) dX5_takeItems_29 rfl ?_
  refine pm_iload (pc := 30) dX5_takeItems_30 rfl ?_
  refine pm_copyl (pc := 32) wm_X5_42 wna wta wz_sys (gg_row hq) (gg_row hp) (by rw [pm_ltI, pm_t0]; have := h1.2.1; omega) (by rw [pm_ltI, pm_t0]; have := h2.2.1; omega) (by rw [pm_ltI, pm_t0]; have := h1.1; omega) (by have a := h1.1; have b := h1.2.1; have c := h1.2.2; simp only [Int32.toNatClampNeg]; omega) (by have a := h2.1; have b := h2.2.1; have c := h2.2.2; simp only [Int32.toNatClampNeg]; omega) ⟨Nat.le_of_ble_eq_true rfl, Nat.le_of_ble_eq_true rfl⟩ (Nat.le_of_ble_eq_true rfl) dX5_takeItems_32 ?_
  refine pm_vret (pc := 35) rfl (Nat.le_refl _) (Nat.le_refl _) dX5_takeItems_35 ?_
  exact QV.r ⟨rfl, rfl⟩
