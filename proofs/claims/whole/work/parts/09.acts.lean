/-! what acts do to the pieces -/
def s_put (s : gS) (a p : Nat) : gS := (g_n s, g_kd s, g_wt s, g_tw s, fun j => if j = a then p else g_wh s j, fun q => if q = p then a :: g_st s q else g_st s q, g_sn s, g_aw s)
def s_take (s : gS) (p : Nat) : gS := (g_n s, g_kd s, g_wt s, g_tw s, fun j => if j = g_top s p then 6 else g_wh s j, fun q => if q = p then (g_st s q).tail else g_st s q, g_sn s, g_aw s)
abbrev a_h (c : Nat) : Nat := c / 1000
abbrev a_p (c : Nat) : Nat := c / 100 % 10
abbrev a_o (c : Nat) : Nat := c % 100
abbrev a_can (s : gS) (c : Nat) : Prop := (a_h c = 1 ∨ g_st s (a_p c) ≠ []) ∧ (a_h c = 0 ∨ a_h c = 3 ∨ g_wh s (a_o c) = 6)
def a_out (s : gS) (c : Nat) : Nat := if a_h c = 1 then 0 else g_w s (g_top s (a_p c))
def a_in (s : gS) (c : Nat) : Nat := if a_h c = 1 ∨ a_h c = 2 then g_w s (a_o c) else 0
abbrev a_felt (s : gS) (c : Nat) : Prop := g_sn s (a_p c) < (a_in s c - a_out s c) + (a_out s c - a_in s c) ∨ a_h c = 3 ∧ g_sn s (a_o c) < a_out s c
def s_do (s : gS) (c : Nat) : gS := if a_h c = 0 then s_take s (a_p c) else if a_h c = 1 then s_put s (a_o c) (a_p c) else if a_h c = 2 then s_put (s_take s (a_p c)) (a_o c) (a_p c) else s_put (s_take s (a_p c)) (g_top s (a_p c)) (a_o c)
/-- the act is told as it must be -/
def a_ok (s : gS) (c : Nat) : Prop := a_h c < 4 ∧ a_p c < 6 ∧ (a_h c = 1 ∨ a_h c = 2 → a_o c < g_n s) ∧ (a_h c = 3 → a_o c < 6 ∧ a_o c ≠ a_p c)
/-- what is eaten among the first pieces; 12: nothing -/
def s_eat (s : gS) : Nat → Nat
  | 0 => 12
  | i + 1 => if g_wh s i = 6 ∧ g_kd s i ≠ 3 ∧ (s_eat s i = 12 ∨ g_w s i < g_w s (s_eat s i)) then i else s_eat s i
def s_wake (s : gS) : gS := (g_n s, g_kd s, g_wt s, g_tw s, fun j => if j = s_eat s (g_n s) ∧ j < g_n s then 7 else g_wh s j, g_st s, g_sn s, g_aw s + 1)
def s_try (s : gS) (c : Nat) : Int32 × gS := if ¬ a_can s c then (-2, s) else if a_felt s c then (-3, s_wake s) else (0, s_do s c)
def s_add0 (s : gS) (k w t : Nat) : gS := (g_n s + 1, fun j => if j = g_n s then k else g_kd s j, fun j => if j = g_n s then w else g_wt s j, fun j => if j = g_n s then t else g_tw s j, fun j => if j = g_n s then 6 else g_wh s j, g_st s, g_sn s, g_aw s)
def s_add (s : gS) (k w t p : Nat) : gS := if p < 6 then s_put (s_add0 s k w t) (g_n s) p else s_add0 s k w t
def s_clear (s : gS) : gS := (0, g_kd s, g_wt s, g_tw s, g_wh s, fun _ => [], g_sn s, g_aw s)
def s_sense (s : gS) (p v : Nat) : gS := (g_n s, g_kd s, g_wt s, g_tw s, g_wh s, g_st s, fun q => if q = p then v else g_sn s q, g_aw s)
def s_turn (s : gS) : gS := (g_n s, g_kd s, g_wt s, g_tw s, fun j => if g_wh s j < 6 then 5 - g_wh s j else g_wh s j, fun p => (g_st s (5 - p)).reverse, g_sn s, g_aw s)
theorem gInv.top {s : gS} (h : gInv s) {p : Nat} (hp : p < 6) (hs : g_st s p ≠ []) : g_top s p < g_n s ∧ g_wh s (g_top s p) = p ∧ g_st s p = g_top s p :: (g_st s p).tail := by
  cases hl : g_st s p with
  | nil => exact absurd hl hs
  | cons a l =>
    have h1 := (h.mem hp).mp (show a ∈ g_st s p by rw [hl]; exact List.mem_cons_self)
    have e : g_top s p = a := by rw [g_top, hl]; rfl
    rw [e]; exact ⟨h1.1, h1.2, rfl⟩
theorem g_top12 {s : gS} {p : Nat} (hs : g_st s p = []) : g_top s p = 12 := by rw [g_top, hs]; rfl
theorem gInv_put {s : gS} (h : gInv s) {a p : Nat} (ha : a < g_n s) (hw : 6 ≤ g_wh s a) (hp : p < 6) : gInv (s_put s a p) := by
  refine ⟨h.1, fun j hj => ?_, fun q hq => ?_⟩
  · obtain ⟨h1, h2, h3, h4, h5⟩ := h.2.1 j hj
    refine ⟨h1, h2, h3, h4, ?_⟩
    show (if j = a then p else g_wh s j) ≤ 7
    split <;> omega
  · obtain ⟨h1, h2, h3⟩ := h.2.2 q hq
    refine ⟨h1, ?_, fun x => ?_⟩
    · show (if q = p then a :: g_st s q else g_st s q).Nodup
      by_cases e : q = p
      · rw [if_pos e]
        exact List.nodup_cons.mpr ⟨fun z => by have := ((h3 a).mp z).2; omega, h2⟩
      · rw [if_neg e]; exact h2
    · show x ∈ (if q = p then a :: g_st s q else g_st s q) ↔ x < g_n s ∧ (if x = a then p else g_wh s x) = q
      by_cases e : q = p
      · rw [if_pos e, List.mem_cons, h3]
        by_cases e2 : x = a
        · rw [if_pos e2, e2]; exact ⟨fun _ => ⟨ha, e.symm⟩, fun _ => Or.inl rfl⟩
        · rw [if_neg e2]; exact ⟨fun z => z.resolve_left e2, fun z => Or.inr z⟩
      · rw [if_neg e, h3]
        by_cases e2 : x = a
        · rw [if_pos e2, e2]; exact ⟨fun z => by omega, fun z => absurd z.2.symm e⟩
        · rw [if_neg e2]
theorem gInv_take {s : gS} (h : gInv s) {p : Nat} (hp : p < 6) (hs : g_st s p ≠ []) : gInv (s_take s p) := by
  obtain ⟨t1, t2, t3⟩ := h.top hp hs
  refine ⟨h.1, fun j hj => ?_, fun q hq => ?_⟩
  · obtain ⟨h1, h2, h3, h4, h5⟩ := h.2.1 j hj
    refine ⟨h1, h2, h3, h4, ?_⟩
    show (if j = g_top s p then 6 else g_wh s j) ≤ 7
    split <;> omega
  · obtain ⟨h1, h2, h3⟩ := h.2.2 q hq
    refine ⟨h1, ?_, fun x => ?_⟩
    · show (if q = p then (g_st s q).tail else g_st s q).Nodup
      split
      · exact List.Nodup.sublist (List.tail_sublist _) h2
      · exact h2
    · show x ∈ (if q = p then (g_st s q).tail else g_st s q) ↔ x < g_n s ∧ (if x = g_top s p then 6 else g_wh s x) = q
      by_cases e : q = p
      · subst e
        rw [if_pos rfl]
        have h4 := h3 x
        rw [t3] at h2 h4
        have h5 := List.nodup_cons.mp h2
        rw [List.mem_cons] at h4
        by_cases e2 : x = g_top s q
        · rw [if_pos e2, e2]; exact ⟨fun z => absurd z h5.1, fun z => by omega⟩
        · rw [if_neg e2]; exact ⟨fun z => h4.mp (Or.inr z), fun z => (h4.mpr z).resolve_left e2⟩
      · rw [if_neg e, h3]
        by_cases e2 : x = g_top s p
        · rw [if_pos e2, e2, t2]; exact ⟨fun z => absurd z.2.symm e, fun z => by omega⟩
        · rw [if_neg e2]
theorem s_take_wh {s : gS} (h : gInv s) {p : Nat} (hp : p < 6) (hs : g_st s p ≠ []) {o : Nat} (ho : 6 ≤ g_wh s o) : 6 ≤ g_wh (s_take s p) o := by
  show 6 ≤ if o = g_top s p then 6 else g_wh s o
  split <;> omega
theorem s_take_top {s : gS} {p : Nat} : g_wh (s_take s p) (g_top s p) = 6 := by
  show (if g_top s p = g_top s p then 6 else _) = 6
  rw [if_pos rfl]
theorem gInv_do {s : gS} (h : gInv s) {c : Nat} (ho : a_ok s c) (hc : a_can s c) : gInv (s_do s c) := by
  obtain ⟨o1, o2, o3, o4⟩ := ho
  obtain ⟨c1, c2⟩ := hc
  unfold s_do
  split
  · exact gInv_take h o2 (c1.resolve_left (by omega))
  · split
    · rename_i a b
      have : g_wh s (a_o c) = 6 := by omega
      exact gInv_put h (o3 (Or.inl b)) (by omega) o2
    · have hs : g_st s (a_p c) ≠ [] := c1.resolve_left (by assumption)
      split
      · rename_i a b d
        have : g_wh s (a_o c) = 6 := by omega
        exact gInv_put (gInv_take h o2 hs) (o3 (Or.inr d)) (s_take_wh h o2 hs (by omega)) o2
      · exact gInv_put (gInv_take h o2 hs) (h.top o2 hs).1 (by rw [s_take_top]; exact Nat.le_refl 6) (o4 (by omega)).1
theorem s_eat_in {s : gS} : ∀ i, s_eat s i = 12 ∨ (s_eat s i < i ∧ g_wh s (s_eat s i) = 6 ∧ g_kd s (s_eat s i) ≠ 3)
  | 0 => Or.inl rfl
  | i + 1 => by
    have ih := s_eat_in (s := s) i
    rw [s_eat]
    split
    · rename_i h; exact Or.inr ⟨by omega, h.1, h.2.1⟩
    · rcases ih with h | h
      · exact Or.inl h
      · exact Or.inr ⟨by omega, h.2⟩
theorem gInv_wake {s : gS} (h : gInv s) : gInv (s_wake s) := by
  refine ⟨h.1, fun j hj => ?_, fun q hq => ?_⟩
  · obtain ⟨h1, h2, h3, h4, h5⟩ := h.2.1 j hj
    refine ⟨h1, h2, h3, h4, ?_⟩
    show (if j = s_eat s (g_n s) ∧ j < g_n s then 7 else g_wh s j) ≤ 7
    split <;> omega
  · obtain ⟨h1, h2, h3⟩ := h.2.2 q hq
    refine ⟨h1, h2, fun x => ?_⟩
    show x ∈ g_st s q ↔ x < g_n s ∧ (if x = s_eat s (g_n s) ∧ x < g_n s then 7 else g_wh s x) = q
    rw [h3]
    by_cases e : x = s_eat s (g_n s) ∧ x < g_n s
    · rw [if_pos e]
      have := s_eat_in (s := s) (g_n s)
      have h12 := h.1
      refine ⟨fun z => ?_, fun z => by omega⟩
      rcases this with q1 | q1
      · omega
      · rw [← e.1] at q1; omega
    · rw [if_neg e]
theorem gInv_try {s : gS} (h : gInv s) {c : Nat} (ho : a_ok s c) : gInv (s_try s c).2 := by
  unfold s_try
  split
  · exact h
  · rename_i hc
    split
    · exact gInv_wake h
    · exact gInv_do h ho (Decidable.not_not.mp hc)
theorem gInv_add0 {s : gS} (h : gInv s) (hn : g_n s < 12) {k w t : Nat} (hk : k < 4) (hw : 1 ≤ w ∧ w ≤ 99) (ht : t < 4) : gInv (s_add0 s k w t) := by
  refine ⟨hn, fun j hj => ?_, fun q hq => ?_⟩
  · show (if j = g_n s then k else g_kd s j) < 4 ∧ 1 ≤ (if j = g_n s then w else g_wt s j) ∧ (if j = g_n s then w else g_wt s j) ≤ 99 ∧ (if j = g_n s then t else g_tw s j) < 4 ∧ (if j = g_n s then 6 else g_wh s j) ≤ 7
    have hj' : j < g_n s + 1 := hj
    by_cases e : j = g_n s
    · simp only [if_pos e]; exact ⟨hk, hw.1, hw.2, ht, by decide⟩
    · simp only [if_neg e]; exact h.2.1 j (by omega)
  · obtain ⟨h1, h2, h3⟩ := h.2.2 q hq
    refine ⟨h1, h2, fun x => ?_⟩
    show x ∈ g_st s q ↔ x < g_n s + 1 ∧ (if x = g_n s then 6 else g_wh s x) = q
    rw [h3]
    by_cases e : x = g_n s
    · rw [if_pos e]; exact ⟨fun z => by omega, fun z => by omega⟩
    · rw [if_neg e]; exact ⟨fun z => ⟨by omega, z.2⟩, fun z => ⟨by omega, z.2⟩⟩
theorem gInv_add {s : gS} (h : gInv s) (hn : g_n s < 12) {k w t p : Nat} (hk : k < 4) (hw : 1 ≤ w ∧ w ≤ 99) (ht : t < 4) : gInv (s_add s k w t p) := by
  unfold s_add
  split
  · exact gInv_put (gInv_add0 h hn hk hw ht) (show g_n s < g_n s + 1 by omega) (show 6 ≤ (if g_n s = g_n s then 6 else _) by rw [if_pos rfl]; exact Nat.le_refl 6) (by assumption)
  · exact gInv_add0 h hn hk hw ht
theorem gInv_clear {s : gS} (h : gInv s) : gInv (s_clear s) := by
  refine ⟨Nat.zero_le _, fun j hj => absurd hj (Nat.not_lt_zero j), fun q hq => ⟨(h.2.2 q hq).1, List.nodup_nil, fun a => ⟨fun z => absurd z List.not_mem_nil, fun z => absurd z.1 (Nat.not_lt_zero a)⟩⟩⟩
theorem gInv_sense {s : gS} (h : gInv s) {p v : Nat} (hv : v ≤ 99) : gInv (s_sense s p v) := by
  refine ⟨h.1, h.2.1, fun q hq => ⟨?_, (h.2.2 q hq).2⟩⟩
  show (if q = p then v else g_sn s q) ≤ 99
  split
  · exact hv
  · exact (h.2.2 q hq).1
theorem gInv_turn {s : gS} (h : gInv s) : gInv (s_turn s) := by
  refine ⟨h.1, fun j hj => ?_, fun q hq => ?_⟩
  · obtain ⟨h1, h2, h3, h4, h5⟩ := h.2.1 j hj
    refine ⟨h1, h2, h3, h4, ?_⟩
    show (if g_wh s j < 6 then 5 - g_wh s j else g_wh s j) ≤ 7
    split <;> omega
  · obtain ⟨h1, h2, h3⟩ := h.2.2 (5 - q) (by omega)
    refine ⟨(h.2.2 q hq).1, ?_, fun x => ?_⟩
    · show ((g_st s (5 - q)).reverse).Nodup
      rw [List.nodup_iff_pairwise_ne, List.pairwise_reverse]
      exact List.Pairwise.imp (fun z => Ne.symm z) h2
    · show x ∈ (g_st s (5 - q)).reverse ↔ x < g_n s ∧ (if g_wh s x < 6 then 5 - g_wh s x else g_wh s x) = q
      rw [List.mem_reverse, h3]
      constructor
      · intro z; refine ⟨z.1, ?_⟩; rw [if_pos (by omega)]; omega
      · intro z; refine ⟨z.1, ?_⟩
        by_cases e : g_wh s x < 6
        · rw [if_pos e] at z; omega
        · rw [if_neg e] at z; omega
/-! the same in the object Gold's rows -/
theorem gCh_congr {b b' : Nat → Int32} : ∀ {l : List Nat} {t : Int32}, (∀ x, x ∈ l → b' x = b x) → gCh b l t → gCh b' l t
  | [], _, _, hc => hc
  | a :: l, _, h, hc => ⟨hc.1, by rw [h a List.mem_cons_self]; exact gCh_congr (fun x hx => h x (List.mem_cons_of_mem _ hx)) hc.2⟩
def gF (I I' : pm_I) : Prop := ∀ a : Nat, a = 0 ∨ 9 ≤ a → I' a = I a
theorem gF.rf {I : pm_I} : gF I I := fun _ _ => rfl
theorem gF.tr {I I' I'' : pm_I} (h : gF I I') (h2 : gF I' I'') : gF I I'' := fun a ha => (h2 a ha).trans (h a ha)
theorem gF.u {I I' : pm_I} (h : gF I I') {k : Nat} (hk : 1 ≤ k ∧ k ≤ 8) (f : Nat → Int32) : gF I (pm_u I' k f) := fun a ha => by
  rw [pm_un (by omega)]; exact h a ha
/-- what a Gold at 1 is changed to, all else as it was -/
def gX (I : pm_I) (s' : gS) (I' : pm_I) : Prop := GR I' 1 s' ∧ gF I I'
theorem GR_put {I : pm_I} {s : gS} (hG : GR I 1 s) (hI : gInv s) {a p : Nat} (ha : a < g_n s) (hw : 6 ≤ g_wh s a) (hp : p < 6) : gX I (s_put s a p) (pm_u (pm_u (pm_u I 6 (upd (I 6) a (I 7 p))) 7 (upd (I 7) p (nI a))) 5 (upd (I 5) a (nI p))) := by
  refine ⟨⟨hG.n, hG.aw, fun j hj => ⟨hG.kd hj, hG.wt hj, hG.tw hj, ?_⟩, fun q hq => ⟨?_, hG.sn hq⟩⟩, ((gF.rf.u ⟨by decide, by decide⟩ _).u ⟨by decide, by decide⟩ _).u ⟨by decide, by decide⟩ _⟩
  · show (if j = a then nI p else I 5 j) = nI (if j = a then p else g_wh s j)
    split
    · rfl
    · exact hG.wh hj
  · show gCh (upd (I 6) a (I 7 p)) (if q = p then a :: g_st s q else g_st s q) (if q = p then nI a else I 7 q)
    have na : ∀ q, q < 6 → a ∉ g_st s q := fun q hq z => by have := ((hI.mem hq).mp z).2; omega
    have up : ∀ q, q < 6 → ∀ x, x ∈ g_st s q → upd (I 6) a (I 7 p) x = I 6 x := fun q hq x hx => pk_un (fun z => na q hq (by rw [← z]; exact hx))
    by_cases e : q = p
    · rw [if_pos e, if_pos e]
      refine ⟨rfl, ?_⟩
      rw [pk_us, ← e]
      exact gCh_congr (by rw [e]; exact up p hp) (hG.ch hq)
    · rw [if_neg e, if_neg e]
      exact gCh_congr (up q hq) (hG.ch hq)
theorem GR_take {I : pm_I} {s : gS} (hG : GR I 1 s) (hI : gInv s) {p : Nat} (hp : p < 6) (hs : g_st s p ≠ []) : gX I (s_take s p) (pm_u (pm_u (pm_u I 7 (upd (I 7) p (I 6 (g_top s p)))) 6 (upd (I 6) (g_top s p) (nI 12))) 5 (upd (I 5) (g_top s p) (nI 6))) := by
  obtain ⟨t1, t2, t3⟩ := hI.top hp hs
  refine ⟨⟨hG.n, hG.aw, fun j hj => ⟨hG.kd hj, hG.wt hj, hG.tw hj, ?_⟩, fun q hq => ⟨?_, hG.sn hq⟩⟩, ((gF.rf.u ⟨by decide, by decide⟩ _).u ⟨by decide, by decide⟩ _).u ⟨by decide, by decide⟩ _⟩
  · show (if j = g_top s p then nI 6 else I 5 j) = nI (if j = g_top s p then 6 else g_wh s j)
    split
    · rfl
    · exact hG.wh hj
  · show gCh (upd (I 6) (g_top s p) (nI 12)) (if q = p then (g_st s q).tail else g_st s q) (if q = p then I 6 (g_top s p) else I 7 q)
    by_cases e : q = p
    · rw [if_pos e, if_pos e, e]
      have h1 := hG.ch hp
      have h2 := (hI.2.2 p hp).2.1
      rw [t3] at h1 h2
      have h3 := List.nodup_cons.mp h2
      exact gCh_congr (fun x hx => pk_un (fun z => h3.1 (by rw [← z]; exact hx))) h1.2
    · rw [if_neg e, if_neg e]
      exact gCh_congr (fun x hx => pk_un (fun z => by have := ((hI.mem hq).mp hx).2; rw [z, t2] at this; exact e this.symm)) (hG.ch hq)
theorem GR_wake {I : pm_I} {s : gS} (hG : GR I 1 s) (hI : gInv s) (he : s_eat s (g_n s) ≠ 12) : gX I (s_wake s) (pm_u (pm_u I 1 (upd (I 1) 8 (I 1 8 + nI 1))) 5 (upd (I 5) (s_eat s (g_n s)) (nI 7))) := by
  have hlt : s_eat s (g_n s) < g_n s := by rcases s_eat_in (s := s) (g_n s) with q | q; exact absurd q he; exact q.1
  refine ⟨⟨hG.n, ?_, fun j hj => ⟨hG.kd hj, hG.wt hj, hG.tw hj, ?_⟩, fun q hq => ⟨hG.ch hq, hG.sn hq⟩⟩, (gF.rf.u ⟨by decide, by decide⟩ _).u ⟨by decide, by decide⟩ _⟩
  · show I 1 8 + nI 1 = g_aw s + 1
    rw [hG.aw]; rfl
  · show (if j = s_eat s (g_n s) then nI 7 else I 5 j) = nI (if j = s_eat s (g_n s) ∧ j < g_n s then 7 else g_wh s j)
    by_cases e : j = s_eat s (g_n s)
    · rw [if_pos e, if_pos ⟨e, hj⟩]
    · rw [if_neg e, if_neg (fun z => e z.1)]; exact hG.wh hj
theorem GR_wake0 {I : pm_I} {s : gS} (hG : GR I 1 s) (hI : gInv s) (he : s_eat s (g_n s) = 12) : gX I (s_wake s) (pm_u I 1 (upd (I 1) 8 (I 1 8 + nI 1))) := by
  refine ⟨⟨hG.n, ?_, fun j hj => ⟨hG.kd hj, hG.wt hj, hG.tw hj, ?_⟩, fun q hq => ⟨hG.ch hq, hG.sn hq⟩⟩, gF.rf.u ⟨by decide, by decide⟩ _⟩
  · show I 1 8 + nI 1 = g_aw s + 1
    rw [hG.aw]; rfl
  · show I 5 j = nI (if j = s_eat s (g_n s) ∧ j < g_n s then 7 else g_wh s j)
    rw [if_neg (fun z => by have := hI.1; omega)]; exact hG.wh hj
theorem GR_sense {I : pm_I} {s : gS} (hG : GR I 1 s) {p v : Nat} : gX I (s_sense s p v) (pm_u I 8 (upd (I 8) p (nI v))) := by
  refine ⟨⟨hG.n, hG.aw, fun j hj => ⟨hG.kd hj, hG.wt hj, hG.tw hj, hG.wh hj⟩, fun q hq => ⟨hG.ch hq, ?_⟩⟩, gF.rf.u ⟨by decide, by decide⟩ _⟩
  show (if q = p then nI v else I 8 q) = nI (if q = p then v else g_sn s q)
  split
  · rfl
  · exact hG.sn hq
theorem GR_add0 {I : pm_I} {s : gS} (hG : GR I 1 s) (hI : gInv s) {k w t : Nat} : gX I (s_add0 s k w t) (pm_u (pm_u (pm_u (pm_u (pm_u (pm_u I 1 (upd (I 1) 7 (nI (g_n s + 1)))) 2 (upd (I 2) (g_n s) (nI k))) 3 (upd (I 3) (g_n s) (nI w))) 4 (upd (I 4) (g_n s) (nI t))) 5 (upd (I 5) (g_n s) (nI 6))) 6 (upd (I 6) (g_n s) (nI 12))) := by
  refine ⟨⟨rfl, hG.aw, fun j hj => ⟨?_, ?_, ?_, ?_⟩, fun q hq => ⟨?_, hG.sn hq⟩⟩, (((((gF.rf.u ⟨by decide, by decide⟩ _).u ⟨by decide, by decide⟩ _).u ⟨by decide, by decide⟩ _).u ⟨by decide, by decide⟩ _).u ⟨by decide, by decide⟩ _).u ⟨by decide, by decide⟩ _⟩
  · have hj' : j < g_n s + 1 := hj
    show (if j = g_n s then nI k else I 2 j) = nI (if j = g_n s then k else g_kd s j)
    split
    · rfl
    · exact hG.kd (by omega)
  · have hj' : j < g_n s + 1 := hj
    show (if j = g_n s then nI w else I 3 j) = nI (if j = g_n s then w else g_wt s j)
    split
    · rfl
    · exact hG.wt (by omega)
  · have hj' : j < g_n s + 1 := hj
    show (if j = g_n s then nI t else I 4 j) = nI (if j = g_n s then t else g_tw s j)
    split
    · rfl
    · exact hG.tw (by omega)
  · have hj' : j < g_n s + 1 := hj
    show (if j = g_n s then nI 6 else I 5 j) = nI (if j = g_n s then 6 else g_wh s j)
    split
    · rfl
    · exact hG.wh (by omega)
  · exact gCh_congr (b := I 6) (fun x hx => pk_un (fun z => by have := ((hI.mem hq).mp hx).1; omega)) (hG.ch hq)
