/-! the reference's rows (40 the object, 41 kind 42 weight 43 town 44 where 45 many 46 pile 47 sense) hold the pieces s -/
def m_pl (s : gS) (p k : Nat) : Nat := (g_st s p).reverse.getD k 0
def MG (I : pm_I) (s : gS) : Prop := I 40 0 = nI (g_n s) ∧ I 40 8 = g_aw s ∧ (∀ j, j < g_n s → I 41 j = nI (g_kd s j) ∧ I 42 j = nI (g_wt s j) ∧ I 43 j = nI (g_tw s j) ∧ I 44 j = nI (g_wh s j)) ∧ ∀ p, p < 6 → I 45 p = nI (g_st s p).length ∧ I 47 p = nI (g_sn s p) ∧ ∀ k, k < (g_st s p).length → I 46 (12 * p + k) = nI (m_pl s p k)
theorem MG.n {I : pm_I} {s : gS} (h : MG I s) : I 40 0 = nI (g_n s) := h.1
theorem MG.aw {I : pm_I} {s : gS} (h : MG I s) : I 40 8 = g_aw s := h.2.1
theorem MG.kd {I : pm_I} {s : gS} (h : MG I s) {j : Nat} (hj : j < g_n s) : I 41 j = nI (g_kd s j) := (h.2.2.1 j hj).1
theorem MG.wt {I : pm_I} {s : gS} (h : MG I s) {j : Nat} (hj : j < g_n s) : I 42 j = nI (g_wt s j) := (h.2.2.1 j hj).2.1
theorem MG.tw {I : pm_I} {s : gS} (h : MG I s) {j : Nat} (hj : j < g_n s) : I 43 j = nI (g_tw s j) := (h.2.2.1 j hj).2.2.1
theorem MG.wh {I : pm_I} {s : gS} (h : MG I s) {j : Nat} (hj : j < g_n s) : I 44 j = nI (g_wh s j) := (h.2.2.1 j hj).2.2.2
theorem MG.mn {I : pm_I} {s : gS} (h : MG I s) {p : Nat} (hp : p < 6) : I 45 p = nI (g_st s p).length := (h.2.2.2 p hp).1
theorem MG.sn {I : pm_I} {s : gS} (h : MG I s) {p : Nat} (hp : p < 6) : I 47 p = nI (g_sn s p) := (h.2.2.2 p hp).2.1
theorem MG.pl {I : pm_I} {s : gS} (h : MG I s) {p k : Nat} (hp : p < 6) (hk : k < (g_st s p).length) : I 46 (12 * p + k) = nI (m_pl s p k) := (h.2.2.2 p hp).2.2 k hk
theorem m_pl_in {s : gS} {p k : Nat} (hk : k < (g_st s p).length) : m_pl s p k ∈ g_st s p := by
  unfold m_pl
  have h1 : k < (g_st s p).reverse.length := by rw [List.length_reverse]; exact hk
  rw [List.getD_eq_getElem?_getD, List.getElem?_eq_getElem h1]
  exact List.mem_reverse.mp (List.getElem_mem h1)
theorem m_pl_lt {s : gS} (h : gInv s) {p k : Nat} (hp : p < 6) (hk : k < (g_st s p).length) : m_pl s p k < g_n s ∧ g_wh s (m_pl s p k) = p := (h.mem hp).mp (m_pl_in hk)
theorem m_pl_top {s : gS} {p : Nat} (hs : g_st s p ≠ []) : m_pl s p ((g_st s p).length - 1) = g_top s p := by
  unfold m_pl g_top
  cases hl : g_st s p with
  | nil => exact absurd hl hs
  | cons a l =>
    rw [List.reverse_cons, List.getD_eq_getElem?_getD, List.length_cons, Nat.add_sub_cancel]
    rw [List.getElem?_append_right (by rw [List.length_reverse]; exact Nat.le_refl _), List.length_reverse, Nat.sub_self]
    rfl
/-- an old cell of the reference changes only among its pieces' rows -/
def mF (I I' : pm_I) : Prop := (∀ a : Nat, a < 40 ∨ 48 ≤ a → I' a = I a) ∧ ∀ k : Nat, k ≠ 0 → k ≠ 8 → I' 40 k = I 40 k
theorem mF.rf {I : pm_I} : mF I I := ⟨fun _ _ => rfl, fun _ _ _ => rfl⟩
theorem mF.tr {I I' I'' : pm_I} (h : mF I I') (h2 : mF I' I'') : mF I I'' := ⟨fun a ha => (h2.1 a ha).trans (h.1 a ha), fun k h0 h8 => (h2.2 k h0 h8).trans (h.2 k h0 h8)⟩
theorem mF.u {I I' : pm_I} (h : mF I I') {k : Nat} (hk : 41 ≤ k ∧ k ≤ 47) (f : Nat → Int32) : mF I (pm_u I' k f) := ⟨fun a ha => by rw [pm_un (by omega)]; exact h.1 a ha, fun j h0 h8 => by rw [pm_un (by omega)]; exact h.2 j h0 h8⟩
theorem mF.f {I I' : pm_I} (h : mF I I') {k : Nat} (hk : k = 0 ∨ k = 8) (x : Int32) : mF I (pm_u I' 40 (upd (I' 40) k x)) := ⟨fun a ha => by rw [pm_un (by omega)]; exact h.1 a ha, fun j h0 h8 => by rw [pm_us, pk_un (by omega)]; exact h.2 j h0 h8⟩
def mX (I : pm_I) (s' : gS) (I' : pm_I) : Prop := MG I' s' ∧ mF I I'
theorem mX.tr {I I' I'' : pm_I} {s s' : gS} (h : mX I s I') (h2 : mX I' s' I'') : mX I s' I'' := ⟨h2.1, h.2.tr h2.2⟩
theorem put_len {s : gS} (h : gInv s) {a p : Nat} (ha : a < g_n s) (hw : 6 ≤ g_wh s a) (hp : p < 6) : (g_st s p).length + 1 ≤ 12 := by
  have h1 := (gInv_put h ha hw hp).len hp
  have h2 : (g_st (s_put s a p) p) = a :: g_st s p := if_pos rfl
  rw [h2, List.length_cons] at h1
  have : g_n (s_put s a p) = g_n s := rfl
  have := h.1
  omega
theorem MG_put {I : pm_I} {s : gS} (hG : MG I s) (hI : gInv s) {a p : Nat} (ha : a < g_n s) (hw : 6 ≤ g_wh s a) (hp : p < 6) : mX I (s_put s a p) (pm_u (pm_u (pm_u I 44 (upd (I 44) a (nI p))) 46 (upd (I 46) (12 * p + (g_st s p).length) (nI a))) 45 (upd (I 45) p (nI ((g_st s p).length + 1)))) := by
  have hl := put_len hI ha hw hp
  refine ⟨⟨hG.n, hG.aw, fun j hj => ⟨hG.kd hj, hG.wt hj, hG.tw hj, ?_⟩, fun q hq => ⟨?_, hG.sn hq, fun k hk => ?_⟩⟩, ((mF.rf.u ⟨by decide, by decide⟩ _).u ⟨by decide, by decide⟩ _).u ⟨by decide, by decide⟩ _⟩
  · show (if j = a then nI p else I 44 j) = nI (if j = a then p else g_wh s j)
    split
    · rfl
    · exact hG.wh hj
  · show (if q = p then nI ((g_st s p).length + 1) else I 45 q) = nI (if q = p then a :: g_st s q else g_st s q).length
    by_cases e : q = p
    · rw [if_pos e, if_pos e, e]; rfl
    · rw [if_neg e, if_neg e]; exact hG.mn hq
  · have hk' : k < (if q = p then a :: g_st s q else g_st s q).length := hk
    show (if 12 * q + k = 12 * p + (g_st s p).length then nI a else I 46 (12 * q + k)) = nI ((if q = p then a :: g_st s q else g_st s q).reverse.getD k 0)
    by_cases e : q = p
    · subst e
      rw [if_pos rfl] at hk' ⊢
      rw [List.length_cons] at hk'
      rw [List.reverse_cons, List.getD_eq_getElem?_getD]
      by_cases e2 : k = (g_st s q).length
      · subst e2
        rw [if_pos rfl, List.getElem?_append_right (by rw [List.length_reverse]; exact Nat.le_refl _), List.length_reverse, Nat.sub_self]; rfl
      · rw [if_neg (by omega), List.getElem?_append_left (by rw [List.length_reverse]; omega), ← List.getD_eq_getElem?_getD]
        exact hG.pl hq (by omega)
    · rw [if_neg e] at hk' ⊢
      have := hI.len hq
      have := hI.1
      rw [if_neg (by omega)]
      exact hG.pl hq hk'
theorem MG_take {I : pm_I} {s : gS} (hG : MG I s) (hI : gInv s) {p : Nat} (hp : p < 6) (hs : g_st s p ≠ []) : mX I (s_take s p) (pm_u (pm_u I 45 (upd (I 45) p (nI ((g_st s p).length - 1)))) 44 (upd (I 44) (g_top s p) (nI 6))) := by
  obtain ⟨t1, t2, t3⟩ := hI.top hp hs
  refine ⟨⟨hG.n, hG.aw, fun j hj => ⟨hG.kd hj, hG.wt hj, hG.tw hj, ?_⟩, fun q hq => ⟨?_, hG.sn hq, fun k hk => ?_⟩⟩, (mF.rf.u ⟨by decide, by decide⟩ _).u ⟨by decide, by decide⟩ _⟩
  · show (if j = g_top s p then nI 6 else I 44 j) = nI (if j = g_top s p then 6 else g_wh s j)
    split
    · rfl
    · exact hG.wh hj
  · show (if q = p then nI ((g_st s p).length - 1) else I 45 q) = nI (if q = p then (g_st s q).tail else g_st s q).length
    by_cases e : q = p
    · rw [if_pos e, if_pos e, e, List.length_tail]
    · rw [if_neg e, if_neg e]; exact hG.mn hq
  · have hk' : k < (if q = p then (g_st s q).tail else g_st s q).length := hk
    show I 46 (12 * q + k) = nI ((if q = p then (g_st s q).tail else g_st s q).reverse.getD k 0)
    by_cases e : q = p
    · subst e
      rw [if_pos rfl] at hk' ⊢
      rw [List.length_tail] at hk'
      have h1 := hG.pl hq (k := k) (by omega)
      rw [h1]
      unfold m_pl
      rw [List.getD_eq_getElem?_getD, List.getD_eq_getElem?_getD]
      have e3 : (g_st s q).reverse = (g_st s q).tail.reverse ++ [g_top s q] := by rw [← List.reverse_cons, ← t3]
      rw [e3, List.getElem?_append_left (by rw [List.length_reverse, List.length_tail]; exact hk')]
    · rw [if_neg e] at hk' ⊢
      exact hG.pl hq hk'
theorem MG_awk {I : pm_I} {s : gS} (hG : MG I s) : mX I (s_awk s) (pm_u I 40 (upd (I 40) 8 (I 40 8 + nI 1))) := by
  refine ⟨⟨hG.n, ?_, fun j hj => ⟨hG.kd hj, hG.wt hj, hG.tw hj, hG.wh hj⟩, fun q hq => ⟨hG.mn hq, hG.sn hq, fun k hk => hG.pl hq hk⟩⟩, mF.rf.f (Or.inr rfl) _⟩
  show I 40 8 + nI 1 = g_aw s + 1
  rw [hG.aw]; rfl
theorem MG_wake {I : pm_I} {s : gS} (hG : MG I s) (hI : gInv s) (he : s_eat s (g_n s) ≠ 12) : mX I (s_wake s) (pm_u (pm_u I 40 (upd (I 40) 8 (I 40 8 + nI 1))) 44 (upd (I 44) (s_eat s (g_n s)) (nI 7))) := by
  refine ⟨⟨hG.n, ?_, fun j hj => ⟨hG.kd hj, hG.wt hj, hG.tw hj, ?_⟩, fun q hq => ⟨hG.mn hq, hG.sn hq, fun k hk => hG.pl hq hk⟩⟩, (mF.rf.f (Or.inr rfl) _).u ⟨by decide, by decide⟩ _⟩
  · show I 40 8 + nI 1 = g_aw s + 1
    rw [hG.aw]; rfl
  · show (if j = s_eat s (g_n s) then nI 7 else I 44 j) = nI (if j = s_eat s (g_n s) ∧ j < g_n s then 7 else g_wh s j)
    by_cases e : j = s_eat s (g_n s)
    · rw [if_pos e, if_pos ⟨e, hj⟩]
    · rw [if_neg e, if_neg (fun z => e z.1)]; exact hG.wh hj
theorem MG_wake0 {I : pm_I} {s : gS} (hG : MG I s) (hI : gInv s) (he : s_eat s (g_n s) = 12) : mX I (s_wake s) (pm_u I 40 (upd (I 40) 8 (I 40 8 + nI 1))) := by
  refine ⟨⟨hG.n, ?_, fun j hj => ⟨hG.kd hj, hG.wt hj, hG.tw hj, ?_⟩, fun q hq => ⟨hG.mn hq, hG.sn hq, fun k hk => hG.pl hq hk⟩⟩, mF.rf.f (Or.inr rfl) _⟩
  · show I 40 8 + nI 1 = g_aw s + 1
    rw [hG.aw]; rfl
  · show I 44 j = nI (if j = s_eat s (g_n s) ∧ j < g_n s then 7 else g_wh s j)
    rw [if_neg (fun z => by have := hI.1; omega)]; exact hG.wh hj
theorem MG_sense {I : pm_I} {s : gS} (hG : MG I s) {p v : Nat} : mX I (s_sense s p v) (pm_u I 47 (upd (I 47) p (nI v))) := by
  refine ⟨⟨hG.n, hG.aw, fun j hj => ⟨hG.kd hj, hG.wt hj, hG.tw hj, hG.wh hj⟩, fun q hq => ⟨hG.mn hq, ?_, fun k hk => hG.pl hq hk⟩⟩, mF.rf.u ⟨by decide, by decide⟩ _⟩
  show (if q = p then nI v else I 47 q) = nI (if q = p then v else g_sn s q)
  split
  · rfl
  · exact hG.sn hq
theorem MG_add0 {I : pm_I} {s : gS} (hG : MG I s) {k w t : Nat} : mX I (s_add0 s k w t) (pm_u (pm_u (pm_u (pm_u (pm_u I 41 (upd (I 41) (g_n s) (nI k))) 42 (upd (I 42) (g_n s) (nI w))) 43 (upd (I 43) (g_n s) (nI t))) 44 (upd (I 44) (g_n s) (nI 6))) 40 (upd (I 40) 0 (nI (g_n s + 1)))) := by
  refine ⟨⟨rfl, hG.aw, fun j hj => ⟨?_, ?_, ?_, ?_⟩, fun q hq => ⟨hG.mn hq, hG.sn hq, fun k hk => hG.pl hq hk⟩⟩, ((((mF.rf.u ⟨by decide, by decide⟩ _).u ⟨by decide, by decide⟩ _).u ⟨by decide, by decide⟩ _).u ⟨by decide, by decide⟩ _).f (Or.inl rfl) _⟩
  · have hj' : j < g_n s + 1 := hj
    show (if j = g_n s then nI k else I 41 j) = nI (if j = g_n s then k else g_kd s j)
    split
    · rfl
    · exact hG.kd (by omega)
  · have hj' : j < g_n s + 1 := hj
    show (if j = g_n s then nI w else I 42 j) = nI (if j = g_n s then w else g_wt s j)
    split
    · rfl
    · exact hG.wt (by omega)
  · have hj' : j < g_n s + 1 := hj
    show (if j = g_n s then nI t else I 43 j) = nI (if j = g_n s then t else g_tw s j)
    split
    · rfl
    · exact hG.tw (by omega)
  · have hj' : j < g_n s + 1 := hj
    show (if j = g_n s then nI 6 else I 44 j) = nI (if j = g_n s then 6 else g_wh s j)
    split
    · rfl
    · exact hG.wh (by omega)
/-! sums over a stack -/
theorem fb_list (f : Nat → Nat) : ∀ (l : List Nat), fb_sm (fun k => f (l.getD k 0)) l.length = (l.map f).sum := by
  intro l
  have h : ∀ (l : List Nat) (g : Nat → Nat), (∀ k (hk : k < l.length), g k = f l[k]) → fb_sm g l.length = (l.map f).sum := by
    intro l
    induction l with
    | nil => intro g _; rfl
    | cons a l ih =>
      intro g hg
      have e := fb_sm_split g 1 l.length
      rw [Nat.add_comm 1] at e
      rw [List.length_cons, e, ih (fun k => g (1 + k)) (fun k hk => by rw [hg (1 + k) (by rw [List.length_cons]; omega)]; congr 1; rw [List.getElem_cons]; simp [show 1 + k ≠ 0 by omega]), List.map_cons, List.sum_cons]
      show 0 + g 0 + _ = _
      rw [hg 0 (by simp)]; simp
  exact h l _ (fun k hk => by rw [List.getD_eq_getElem?_getD, List.getElem?_eq_getElem hk]; rfl)
theorem fb_filter (f : Nat → Nat) (c : Nat → Prop) [DecidablePred c] : ∀ n, fb_sm (fun j => if c j then f j else 0) n = (((List.range n).filter (fun j => decide (c j))).map f).sum
  | 0 => rfl
  | n + 1 => by
    rw [fb_sm_succ, fb_filter f c n, List.range_succ, List.filter_append, List.map_append, List.sum_append]
    by_cases h : c n
    · simp [h]
    · simp [h]
theorem fb_stack {l : List Nat} {n : Nat} {c : Nat → Prop} [DecidablePred c] (f : Nat → Nat) (hn : l.Nodup) (hm : ∀ a, a ∈ l ↔ a < n ∧ c a) : fb_sm (fun k => f (l.reverse.getD k 0)) l.length = fb_sm (fun j => if c j then f j else 0) n := by
  have h1 := fb_list f l.reverse
  rw [List.length_reverse] at h1
  rw [h1, fb_filter]
  have hp : l.reverse.Perm ((List.range n).filter (fun j => decide (c j))) := by
    rw [List.perm_ext_iff_of_nodup]
    · intro a
      rw [List.mem_reverse, hm, List.mem_filter, List.mem_range]
      simp
    · rw [List.nodup_iff_pairwise_ne, List.pairwise_reverse]
      exact List.Pairwise.imp (fun z => Ne.symm z) hn
    · exact List.Nodup.sublist List.filter_sublist List.nodup_range
  exact (hp.map f).sum_nat
theorem m_load {s : gS} (h : gInv s) {p : Nat} (hp : p < 6) : fb_sm (fun k => g_w s (m_pl s p k)) (g_st s p).length = g_load s p := fb_stack (g_w s) (h.2.2 p hp).2.1 (h.2.2 p hp).2.2
