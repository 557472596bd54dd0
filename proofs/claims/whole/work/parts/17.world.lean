/-! the whole state: the pieces, the image, the tape, the sheets (lane, how many items; the rows) -/
abbrev xS : Type := gS × Option gS × List Nat × (Nat → Option (Nat × Nat)) × (Nat → Nat → Int64)
def x_g (X : xS) : gS := X.1
def x_i (X : xS) : Option gS := X.2.1
def x_t (X : xS) : List Nat := X.2.2.1
def x_s (X : xS) : Nat → Option (Nat × Nat) := X.2.2.2.1
def x_r (X : xS) : Nat → Nat → Int64 := X.2.2.2.2
def xg (X : xS) (s : gS) : xS := (s, x_i X, x_t X, x_s X, x_r X)
def xi (X : xS) (s : gS) : xS := (x_g X, some s, x_t X, x_s X, x_r X)
def xt (X : xS) (t : List Nat) : xS := (x_g X, x_i X, t, x_s X, x_r X)
def xsh (X : xS) (q : Nat) (o : Option (Nat × Nat)) : xS := (x_g X, x_i X, x_t X, fun a => if a = q then o else x_s X a, x_r X)
def xr (X : xS) (q : Nat) (f : Nat → Int64) : xS := (x_g X, x_i X, x_t X, x_s X, fun a => if a = q then f else x_r X a)
def xInv (X : xS) : Prop := gInv (x_g X) ∧ (∀ s, x_i X = some s → gInv s) ∧ ((x_t X).length ≤ 120 ∧ ∀ b, b ∈ x_t X → 32 ≤ b ∧ b ≤ 126) ∧ ∀ q, q < 4 → ∀ a b, x_s X q = some (a, b) → a ≤ 2 ∧ b ≤ 24
/-- the class' cells hold X -/
def XI (I : pm_I) (o : Option gS) : Prop := match o with
  | none => I 0 2 = nI 0
  | some s => I 0 2 = nI 1 ∧ GR I 9 s
def XT (I : pm_I) (t : List Nat) : Prop := I 22 1 = nI t.length ∧ I 22 2 = nI 0 ∧ ∀ k, k < t.length → I 23 k = nI (t.getD k 0)
def XS (I : pm_I) (q : Nat) (o : Option (Nat × Nat)) : Prop := match o with
  | none => I (32 + 2 * q) 2 = -1
  | some e => I (32 + 2 * q) 1 = nI e.1 ∧ I (32 + 2 * q) 2 = nI e.2
def XR (I : pm_I) (L : pm_L) (X : xS) : Prop := GR I 1 (x_g X) ∧ XI I (x_i X) ∧ XT I (x_t X) ∧ ∀ q, q < 4 → XS I q (x_s X q) ∧ ∀ k, k < 24 → L (33 + 2 * q) k = x_r X q k
/-- the reference's cells hold X -/
def MI (I : pm_I) (s : gS) : Prop := I 40 27 = nI (g_n s) ∧ I 40 28 = g_aw s ∧ (∀ j, j < g_n s → I 60 j = nI (g_kd s j) ∧ I 60 (12 + j) = nI (g_wt s j) ∧ I 60 (24 + j) = nI (g_tw s j) ∧ I 60 (36 + j) = nI (g_wh s j)) ∧ ∀ p, p < 6 → I 60 (48 + p) = nI (g_st s p).length ∧ I 60 (54 + p) = nI (g_sn s p) ∧ ∀ k, k < (g_st s p).length → I 60 (60 + (12 * p + k)) = nI (m_pl s p k)
def MO (I : pm_I) (o : Option gS) : Prop := match o with
  | none => I 40 26 = nI 0
  | some s => I 40 26 = nI 1 ∧ MI I s
def MT_ (I : pm_I) (t : List Nat) : Prop := I 40 10 = nI t.length ∧ ∀ k, k < t.length → I 48 k = nI (t.getD k 0)
def MS (I : pm_I) (q : Nat) (o : Option (Nat × Nat)) : Prop := match o with
  | none => I 61 q = -1
  | some e => I 61 q = nI e.1 ∧ I 62 q = nI e.2
def MR (I : pm_I) (L : pm_L) (X : xS) : Prop := MG I (x_g X) ∧ MO I (x_i X) ∧ MT_ I (x_t X) ∧ ∀ q, q < 4 → MS I q (x_s X q) ∧ ∀ k, k < 24 → L 63 (24 * q + k) = x_r X q k
/-- the class leaves the reference's cells, and the other way round -/
def xF (I I' : pm_I) (L L' : pm_L) : Prop := ∀ a : Nat, 40 ≤ a → I' a = I a ∧ L' a = L a
def yF (I I' : pm_I) (L L' : pm_L) : Prop := ∀ a : Nat, a < 40 → I' a = I a ∧ L' a = L a
theorem xF.rf {I : pm_I} {L : pm_L} : xF I I L L := fun _ _ => ⟨rfl, rfl⟩
theorem yF.rf {I : pm_I} {L : pm_L} : yF I I L L := fun _ _ => ⟨rfl, rfl⟩
theorem xF.tr {I I' I'' : pm_I} {L L' L'' : pm_L} (h : xF I I' L L') (h2 : xF I' I'' L' L'') : xF I I'' L L'' := fun a ha => ⟨(h2 a ha).1.trans (h a ha).1, (h2 a ha).2.trans (h a ha).2⟩
theorem yF.tr {I I' I'' : pm_I} {L L' L'' : pm_L} (h : yF I I' L L') (h2 : yF I' I'' L' L'') : yF I I'' L L'' := fun a ha => ⟨(h2 a ha).1.trans (h a ha).1, (h2 a ha).2.trans (h a ha).2⟩
theorem gF.x {I I' : pm_I} {L : pm_L} (h : gF I I') : xF I I' L L := fun a ha => ⟨h a (by omega), rfl⟩
theorem mF.y {I I' : pm_I} {L : pm_L} (h : mF I I') : yF I I' L L := fun a ha => ⟨h.1 a (Or.inl ha), rfl⟩
/-- an answer and the state behind it, on either side -/
def XQ (I : pm_I) (L : pm_L) (r : Int32) (X' : xS) : pm_QT := QI GG (fun r' I' L' => r' = r ∧ XR I' L' X' ∧ xF I I' L L')
def YQ (I : pm_I) (L : pm_L) (r : Int32) (X' : xS) : pm_QT := QI GG (fun r' I' L' => r' = r ∧ MR I' L' X' ∧ yF I I' L L')
theorem XQ.r {I I' : pm_I} {L L' : pm_L} {r r' : Int32} {X' : xS} (h : r' = r) (h1 : XR I' L' X') (h2 : xF I I' L L') : XQ I L r X' (some (.int r')) GG I' L' := QI.r ⟨h, h1, h2⟩
theorem YQ.r {I I' : pm_I} {L L' : pm_L} {r r' : Int32} {X' : xS} (h : r' = r) (h1 : MR I' L' X') (h2 : yF I I' L L') : YQ I L r X' (some (.int r')) GG I' L' := QI.r ⟨h, h1, h2⟩
/-- the pieces of the class changed, all else as it was -/
theorem XR.g {I I' : pm_I} {L : pm_L} {X : xS} {s : gS} (h : XR I L X) (hx : gX I s I') : XR I' L (xg X s) := by
  have e : ∀ a : Nat, a = 0 ∨ 9 ≤ a → I' a = I a := hx.2
  refine ⟨hx.1, ?_, ?_, fun q hq => ⟨?_, (h.2.2.2 q hq).2⟩⟩
  · have h1 := h.2.1
    show XI I' (x_i X)
    unfold XI at h1 ⊢
    split
    · rename_i hz; rw [hz] at h1; rw [e 0 (Or.inl rfl)]; exact h1
    · rename_i s' hz
      rw [hz] at h1
      refine ⟨by rw [e 0 (Or.inl rfl)]; exact h1.1, ?_⟩
      have h2 := h1.2
      unfold GR at h2 ⊢
      simp only [e 9 (by omega), e (9 + 1) (by omega), e (9 + 2) (by omega), e (9 + 3) (by omega), e (9 + 4) (by omega), e (9 + 5) (by omega), e (9 + 6) (by omega), e (9 + 7) (by omega)]
      exact h2
  · have h1 := h.2.2.1
    show XT I' (x_t X)
    unfold XT at h1 ⊢
    rw [e 22 (by omega), e 23 (by omega)]; exact h1
  · have h1 := (h.2.2.2 q hq).1
    show XS I' q (x_s X q)
    unfold XS at h1 ⊢
    rw [e (32 + 2 * q) (by omega)]; exact h1
theorem MR.g {I I' : pm_I} {L : pm_L} {X : xS} {s : gS} (h : MR I L X) (hx : mX I s I') : MR I' L (xg X s) := by
  have e : ∀ a : Nat, 48 ≤ a → I' a = I a := fun a ha => hx.2.1 a (Or.inr ha)
  have f : ∀ k : Nat, k ≠ 0 → k ≠ 8 → I' 40 k = I 40 k := hx.2.2
  refine ⟨hx.1, ?_, ?_, fun q hq => ⟨?_, (h.2.2.2 q hq).2⟩⟩
  · have h1 := h.2.1
    show MO I' (x_i X)
    unfold MO at h1 ⊢
    split
    · rename_i hz; rw [hz] at h1; rw [f 26 (by decide) (by decide)]; exact h1
    · rename_i s' hz
      rw [hz] at h1
      refine ⟨by rw [f 26 (by decide) (by decide)]; exact h1.1, ?_⟩
      have h2 := h1.2
      unfold MI at h2 ⊢
      rw [f 27 (by decide) (by decide), f 28 (by decide) (by decide), e 60 (by decide)]
      exact h2
  · have h1 := h.2.2.1
    show MT_ I' (x_t X)
    unfold MT_ at h1 ⊢
    rw [f 10 (by decide) (by decide), e 48 (by decide)]; exact h1
  · have h1 := (h.2.2.2 q hq).1
    show MS I' q (x_s X q)
    unfold MS at h1 ⊢
    rw [e 61 (by decide), e 62 (by decide)]; exact h1
theorem xInv.g {X : xS} {s : gS} (h : xInv X) (hs : gInv s) : xInv (xg X s) := ⟨hs, h.2⟩
theorem xInv.s {X : xS} (h : xInv X) : gInv (x_g X) := h.1
/-! the numbers of the document -/
theorem iR_of {x : Int32} {b : Nat} (hb : b < 2 ^ 31) (h : iR x 0 b) : ∃ j : Nat, j ≤ b ∧ x = nI j := by
  obtain ⟨h1, h2⟩ := h
  refine ⟨x.toInt.toNat, by omega, ?_⟩
  rw [pm_eqI, nI_toInt (by omega)]; omega
theorem iR_nI {j b : Nat} (hj : j < 2 ^ 31) : iR (nI j) 0 b ↔ j ≤ b := by
  unfold iR
  rw [nI_toInt hj]; omega
theorem nI_nat {j : Nat} (hj : j < 2 ^ 31) : (nI j).toInt.toNat = j := by rw [nI_toInt hj]; omega
/-- a number as a natural one -/
def nt (x : Int32) : Nat := x.toInt.toNat
theorem nt_nI {j : Nat} (hj : j < 2 ^ 31) : nt (nI j) = j := nI_nat hj
theorem g_cnt_len {s : gS} (h : gInv s) {p : Nat} (hp : p < 6) : g_cnt s p = (g_st s p).length := by
  have := fb_stack (fun _ => 1) (h.2.2 p hp).2.1 (h.2.2 p hp).2.2
  rw [fb_sm_const, Nat.mul_one] at this
  exact this.symm
theorem g_tot_n {s : gS} (h : gInv s) : g_tot s + g_cnt s 6 + g_cnt s 7 = g_n s := by
  rw [g_tot_eq h, g_cnt, g_cnt, ← fb_sm_add, ← fb_sm_add]
  have e : fb_sm (fun j => (if g_wh s j < 6 then 1 else 0) + (if g_wh s j = 6 then 1 else 0) + (if g_wh s j = 7 then 1 else 0)) (g_n s) = fb_sm (fun _ => 1) (g_n s) := by
    refine fb_sm_cong (fun k hk => ?_)
    have := (h.2.1 k hk).2.2.2.2
    rcases (show g_wh s k < 6 ∨ g_wh s k = 6 ∨ g_wh s k = 7 by omega) with q | q | q
    · rw [if_pos q, if_neg (by omega), if_neg (by omega)]
    · rw [if_neg (by omega), if_pos q, if_neg (by omega)]
    · rw [if_neg (by omega), if_neg (by omega), if_pos q]
  rw [e, fb_sm_const, Nat.mul_one]
def d_told (s : gS) (j : Nat) (w : Int32) : Int32 := if w = nI 0 then nI (g_kd s j) else if w = nI 1 then nI (g_w s j) else if w = nI 2 then nI (g_ow s j) else if w = nI 3 then nI (g_wh s j) else if w = nI 4 then nI (g_off s j) else -1
def d_of (s : gS) (p : Nat) (w : Int32) : Int32 := if w = nI 0 then nI (g_load s p) else if w = nI 1 then nI (g_st s p).length else if w = nI 2 then nI (g_sn s p) else if w = nI 3 then nI (g_top s p) else -1
def d_count (s : gS) (w : Int32) : Int32 := if w = nI 0 then nI (g_n s) else if w = nI 1 then nI (g_cnt s 6) else if w = nI 2 then nI (g_cnt s 7) else if w = nI 3 then g_aw s else if w = nI 4 then nI (g_loads s) else if w = nI 5 then nI (g_load s 6) else -1
abbrev isPc (X : xS) (x : Int32) : Prop := iR x 0 ((g_n (x_g X) : Int) - 1)
abbrev isPl (x : Int32) : Prop := iR x 0 5
def sp_piece (X : xS) (k w t p : Int32) : Int32 × xS := if ¬ (iR k 0 3 ∧ iR w 1 99 ∧ iR t 0 3 ∧ iR p 0 6) then (-1, X) else if g_n (x_g X) = 12 then (-3, X) else (nI (g_n (x_g X)), xg X (s_add (x_g X) (nt k) (nt w) (nt t) (nt p)))
def sp_told (X : xS) (x w : Int32) : Int32 × xS := if isPc X x then (d_told (x_g X) (nt x) w, X) else (-1, X)
def sp_of (X : xS) (p w : Int32) : Int32 × xS := if isPl p then (d_of (x_g X) (nt p) w, X) else (-1, X)
def sp_sense (X : xS) (p v : Int32) : Int32 × xS := if isPl p ∧ iR v 0 99 then (nI (g_sn (x_g X) (nt p)), xg X (s_sense (x_g X) (nt p) (nt v))) else (-1, X)
def sp_count (X : xS) (w : Int32) : Int32 × xS := (d_count (x_g X) w, X)
def sp_act (X : xS) (c : Nat) : Int32 × xS := (m_try (x_g X) c, xg X (s_try (x_g X) c).2)
def sp_lift (X : xS) (p : Int32) : Int32 × xS := if isPl p then sp_act X (100 * nt p) else (-1, X)
def sp_lay (X : xS) (i p : Int32) : Int32 × xS := if isPc X i ∧ isPl p then (if (s_try (x_g X) (1000 + 100 * nt p + nt i)).1 = 0 then nI (g_load (s_try (x_g X) (1000 + 100 * nt p + nt i)).2 (nt p)) else (s_try (x_g X) (1000 + 100 * nt p + nt i)).1, xg X (s_try (x_g X) (1000 + 100 * nt p + nt i)).2) else (-1, X)
def sp_swap (X : xS) (p i : Int32) : Int32 × xS := if isPc X i ∧ isPl p then sp_act X (2000 + 100 * nt p + nt i) else (-1, X)
def sp_push (X : xS) (p q : Int32) : Int32 × xS := if isPl p ∧ isPl q ∧ p ≠ q then sp_act X (3000 + 100 * nt p + nt q) else (-1, X)
def sp_turn (X : xS) : Int32 × xS := (nI (g_tot (x_g X)), xg X (s_turn (x_g X)))
def sp_image (X : xS) : Int32 × xS := (nI 1, xi X (x_g X))
def sp_restore (X : xS) : Int32 × xS := match x_i X with
  | none => (-4, X)
  | some s => (nI 1, xg X s)
