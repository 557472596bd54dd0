/-! in how few acts a piece can be had unfelt -/
abbrev h_V (s : gS) (c : Nat) : Prop := a_h c < 4 ∧ a_p c < 6 ∧ (a_h c = 1 ∨ a_h c = 2 → a_o c < g_n s) ∧ (a_h c = 3 → a_o c < 6 ∧ a_o c ≠ a_p c) ∧ (a_h c = 0 → a_o c = 0) ∧ a_can s c ∧ ¬ a_felt s c
abbrev h_B (s : gS) (i c : Nat) : Prop := h_V s c ∧ (a_h c = 0 ∨ a_h c = 2) ∧ g_wh s i < 6 ∧ a_p c = g_wh s i ∧ g_top s (g_wh s i) = i
def h_fst (f : Nat → Option (List Nat)) : Nat → Nat → Option (List Nat)
  | 0, _ => none
  | k + 1, c => match f c with
    | some q => some (c :: q)
    | none => h_fst f k (c + 1)
def h_f (i : Nat) : Nat → gS → Option (List Nat)
  | 0, s => h_fst (fun c => if h_B s i c then some [] else none) 3600 0
  | r + 1, s => h_fst (fun c => if h_V s c then h_f i r (s_do s c) else none) 3600 0
def h_at (i : Nat) (r : Nat) (s : gS) (c : Nat) : Option (List Nat) := match r with
  | 0 => if h_B s i c then some [] else none
  | r + 1 => if h_V s c then h_f i r (s_do s c) else none
theorem h_f_eq (i : Nat) : ∀ (r : Nat) (s : gS), h_f i r s = h_fst (h_at i r s) (3600 - 0) 0
  | 0, _ => rfl
  | _ + 1, _ => rfl
theorem h_V.ok {s : gS} {c : Nat} (h : h_V s c) : a_ok s c := ⟨h.1, h.2.1, h.2.2.1, h.2.2.2.1⟩
theorem h_V.can {s : gS} {c : Nat} (h : h_V s c) : a_can s c := h.2.2.2.2.2.1
theorem h_V.o12 {s : gS} {c : Nat} (hI : gInv s) (h : h_V s c) : a_o c < 12 := by
  have h12 := hI.n12
  obtain ⟨h1, h2, h3, h4, h5, _⟩ := h
  rcases (show a_h c = 0 ∨ a_h c = 1 ∨ a_h c = 2 ∨ a_h c = 3 by omega) with e | e | e | e
  · rw [h5 e]; decide
  · have := h3 (Or.inl e); omega
  · have := h3 (Or.inr e); omega
  · have := (h4 e).1; omega
theorem h_V.lt {s : gS} {c : Nat} (hI : gInv s) (h : h_V s c) : c < 3600 := by
  have h0 := h.o12 hI
  have h1 := h.1
  have h2 := h.2.1
  have h3 : c / 1000 < 4 := h1
  have h4 : c / 100 % 10 < 6 := h2
  have h5 : c % 100 < 12 := h0
  omega
theorem h_at_V {i r : Nat} {s : gS} {c : Nat} (h : ¬ h_V s c) : h_at i r s c = none := by
  cases r with
  | zero => exact if_neg (fun z => h z.1)
  | succ r => exact if_neg h
theorem h_at_0 {i : Nat} {s : gS} {c : Nat} (h : ¬ h_B s i c) : h_at i 0 s c = none := if_neg h
theorem h_at_1 {i : Nat} {s : gS} {c : Nat} (h : h_B s i c) : h_at i 0 s c = some [] := if_pos h
theorem h_at_s {i r : Nat} {s : gS} {c : Nat} (h : h_V s c) : h_at i (r + 1) s c = h_f i r (s_do s c) := if_pos h
theorem h_code {h p o : Nat} (hp : p < 10) (ho : o < 100) : a_h (1000 * h + 100 * p + o) = h ∧ a_p (1000 * h + 100 * p + o) = p ∧ a_o (1000 * h + 100 * p + o) = o := by
  show (1000 * h + 100 * p + o) / 1000 = h ∧ (1000 * h + 100 * p + o) / 100 % 10 = p ∧ (1000 * h + 100 * p + o) % 100 = o
  omega
theorem h_decode (c : Nat) (h : a_h c < 10) : c = 1000 * a_h c + 100 * a_p c + a_o c := by
  have h1 : c / 1000 < 10 := h
  show c = 1000 * (c / 1000) + 100 * (c / 100 % 10) + c % 100
  omega
theorem h_fst_some {f : Nat → Option (List Nat)} {c : Nat} {q : List Nat} (hc : c < 3600) (h : f c = some q) : h_fst f (3600 - c) c = some (c :: q) := by
  obtain ⟨k, hk⟩ : ∃ k, 3600 - c = k + 1 := ⟨3600 - c - 1, by omega⟩
  rw [hk]
  show (match f c with | some q => some (c :: q) | none => h_fst f k (c + 1)) = _
  rw [h]
theorem h_fst_1 {f : Nat → Option (List Nat)} {c : Nat} (h : f c = none) : h_fst f (3600 - c) c = h_fst f (3600 - (c + 1)) (c + 1) := by
  by_cases hc : c < 3600
  · obtain ⟨k, hk⟩ : ∃ k, 3600 - c = k + 1 := ⟨3600 - c - 1, by omega⟩
    rw [hk, show 3600 - (c + 1) = k by omega]
    show (match f c with | some q => some (c :: q) | none => h_fst f k (c + 1)) = _
    rw [h]
  · rw [show 3600 - c = 0 by omega, show 3600 - (c + 1) = 0 by omega]; rfl
theorem h_fst_skip {f : Nat → Option (List Nat)} : ∀ (m a : Nat), (∀ c, a ≤ c → c < a + m → f c = none) → h_fst f (3600 - a) a = h_fst f (3600 - (a + m)) (a + m)
  | 0, a, _ => rfl
  | m + 1, a, h => by
    rw [h_fst_1 (h a (Nat.le_refl _) (by omega)), h_fst_skip m (a + 1) (fun c h1 h2 => h c (by omega) (by omega)), show a + 1 + m = a + (m + 1) by omega]
theorem h_fst_to {f : Nat → Option (List Nat)} {a b : Nat} (hab : a ≤ b) (h : ∀ c, a ≤ c → c < b → f c = none) : h_fst f (3600 - a) a = h_fst f (3600 - b) b := by
  have := h_fst_skip (f := f) (b - a) a (fun c h1 h2 => h c h1 (by omega))
  rw [this, show a + (b - a) = b by omega]
theorem h_fst_end {f : Nat → Option (List Nat)} {a : Nat} (h : 3600 ≤ a) : h_fst f (3600 - a) a = none := by
  rw [show 3600 - a = 0 by omega]; rfl
theorem h_fst_none {f : Nat → Option (List Nat)} : ∀ (k a : Nat), h_fst f k a = none → ∀ c, a ≤ c → c < a + k → f c = none
  | 0, a, _, c, h1, h2 => by omega
  | k + 1, a, h, c, h1, h2 => by
    have h0 : (match f a with | some q => some (a :: q) | none => h_fst f k (a + 1)) = none := h
    cases e : f a with
    | some q => rw [e] at h0; exact absurd h0 (by simp)
    | none =>
      rw [e] at h0
      rcases (show c = a ∨ a + 1 ≤ c by omega) with z | z
      · rw [z]; exact e
      · exact h_fst_none k (a + 1) h0 c z (by omega)
theorem h_fst_get {f : Nat → Option (List Nat)} : ∀ (k a : Nat) (q : List Nat), h_fst f k a = some q → ∃ c t, c < a + k ∧ f c = some t ∧ q = c :: t
  | 0, a, q, h => absurd h (by show ¬ none = some q; simp)
  | k + 1, a, q, h => by
    have h0 : (match f a with | some q => some (a :: q) | none => h_fst f k (a + 1)) = some q := h
    cases e : f a with
    | some t => rw [e] at h0; exact ⟨a, t, by omega, e, (Option.some.inj h0).symm⟩
    | none =>
      rw [e] at h0
      obtain ⟨c, t, hc, h2⟩ := h_fst_get k (a + 1) q h0
      exact ⟨c, t, by omega, h2⟩
theorem h_f_none {i r : Nat} {s : gS} (hI : gInv s) (h : h_f i r s = none) (c : Nat) : h_at i r s c = none := by
  by_cases v : h_V s c
  · rw [h_f_eq] at h
    exact h_fst_none _ _ h c (Nat.zero_le _) (by have := v.lt hI; omega)
  · exact h_at_V v
theorem h_f_len {i : Nat} : ∀ (r : Nat) (s : gS) (q : List Nat), h_f i r s = some q → q.length = r + 1
  | 0, s, q, h => by
    rw [h_f_eq] at h
    obtain ⟨c, t, _, ht, e⟩ := h_fst_get _ _ _ h
    by_cases v : h_B s i c
    · rw [h_at_1 v] at ht; rw [e, ← Option.some.inj ht]; rfl
    · rw [h_at_0 v] at ht; exact absurd ht (by simp)
  | r + 1, s, q, h => by
    rw [h_f_eq] at h
    obtain ⟨c, t, _, ht, e⟩ := h_fst_get _ _ _ h
    by_cases v : h_V s c
    · rw [h_at_s v] at ht; rw [e, List.length_cons, h_f_len r _ t ht]
    · rw [h_at_V v] at ht; exact absurd ht (by simp)
/-! acts and what they leave -/
theorem h_put_take {s : gS} (hI : gInv s) {p : Nat} (hp : p < 6) (hs : g_st s p ≠ []) : s_put (s_take s p) (g_top s p) p = s := by
  obtain ⟨h1, h2, h3⟩ := hI.top hp hs
  have e1 : (fun j => if j = g_top s p then p else (if j = g_top s p then 6 else g_wh s j)) = g_wh s := by
    funext j
    by_cases e : j = g_top s p
    · rw [if_pos e, e, h2]
    · rw [if_neg e, if_neg e]
  have e2 : (fun q => if q = p then g_top s p :: (if q = p then (g_st s q).tail else g_st s q) else (if q = p then (g_st s q).tail else g_st s q)) = g_st s := by
    funext q
    by_cases e : q = p
    · rw [if_pos e, if_pos e, e]; exact h3.symm
    · rw [if_neg e, if_neg e]
  show (g_n s, g_kd s, g_wt s, g_tw s, (fun j => if j = g_top s p then p else (if j = g_top s p then 6 else g_wh s j)), (fun q => if q = p then g_top s p :: (if q = p then (g_st s q).tail else g_st s q) else (if q = p then (g_st s q).tail else g_st s q)), g_sn s, g_aw s) = s
  rw [e1, e2]; rfl
theorem h_top_put {s : gS} {o p : Nat} : g_top (s_put s o p) p = o := by
  show ((if p = p then o :: g_st s p else g_st s p).headD 12) = o
  rw [if_pos rfl]; rfl
theorem h_take_put {s : gS} {o p : Nat} (hw : g_wh s o = 6) : s_take (s_put s o p) p = s := by
  have et : g_top (s_put s o p) p = o := h_top_put
  have e1 : (fun j => if j = g_top (s_put s o p) p then 6 else (if j = o then p else g_wh s j)) = g_wh s := by
    funext j
    rw [et]
    by_cases e : j = o
    · rw [if_pos e, e, hw]
    · rw [if_neg e, if_neg e]
  have e2 : (fun q => if q = p then (if q = p then o :: g_st s q else g_st s q).tail else (if q = p then o :: g_st s q else g_st s q)) = g_st s := by
    funext q
    by_cases e : q = p
    · rw [if_pos e, if_pos e]; rfl
    · rw [if_neg e, if_neg e]
  show (g_n s, g_kd s, g_wt s, g_tw s, (fun j => if j = g_top (s_put s o p) p then 6 else (if j = o then p else g_wh s j)), (fun q => if q = p then (if q = p then o :: g_st s q else g_st s q).tail else (if q = p then o :: g_st s q else g_st s q)), g_sn s, g_aw s) = s
  rw [e1, e2]; rfl
def h_back (s : gS) (c : Nat) : Nat := if a_h c = 0 then 1000 * 1 + 100 * a_p c + g_top s (a_p c) else if a_h c = 1 then 1000 * 0 + 100 * a_p c + 0 else if a_h c = 2 then 1000 * 2 + 100 * a_p c + g_top s (a_p c) else 1000 * 3 + 100 * a_o c + a_p c
theorem s_do_0 {s : gS} {c : Nat} (h : a_h c = 0) : s_do s c = s_take s (a_p c) := if_pos h
theorem s_do_1 {s : gS} {c : Nat} (h : a_h c = 1) : s_do s c = s_put s (a_o c) (a_p c) := by unfold s_do; rw [if_neg (by omega), if_pos h]
theorem s_do_2 {s : gS} {c : Nat} (h : a_h c = 2) : s_do s c = s_put (s_take s (a_p c)) (a_o c) (a_p c) := by unfold s_do; rw [if_neg (by omega), if_neg (by omega), if_pos h]
theorem s_do_3 {s : gS} {c : Nat} (h : a_h c = 3) : s_do s c = s_put (s_take s (a_p c)) (g_top s (a_p c)) (a_o c) := by unfold s_do; rw [if_neg (by omega), if_neg (by omega), if_neg (by omega)]
theorem h_undo {s : gS} (hI : gInv s) {c : Nat} (ho : a_ok s c) (hc : a_can s c) : a_ok (s_do s c) (h_back s c) ∧ a_can (s_do s c) (h_back s c) ∧ s_do (s_do s c) (h_back s c) = s := by
  have h12 := hI.n12
  obtain ⟨o1, o2, o3, o4⟩ := ho
  obtain ⟨c1, c2⟩ := hc
  rcases (show a_h c = 0 ∨ a_h c = 1 ∨ a_h c = 2 ∨ a_h c = 3 by omega) with e | e | e | e
  · have hs : g_st s (a_p c) ≠ [] := c1.resolve_left (by omega)
    obtain ⟨t1, t2, t3⟩ := hI.top o2 hs
    have eb : h_back s c = 1000 * 1 + 100 * a_p c + g_top s (a_p c) := if_pos e
    obtain ⟨k1, k2, k3⟩ := h_code (h := 1) (p := a_p c) (o := g_top s (a_p c)) (by omega) (by omega)
    rw [eb, s_do_0 e]
    refine ⟨⟨by omega, by omega, fun _ => by rw [k3]; exact t1, fun z => by omega⟩, ⟨Or.inl k1, Or.inr (Or.inr (by rw [k3]; exact s_take_top))⟩, ?_⟩
    rw [s_do_1 k1, k2, k3]
    exact h_put_take hI o2 hs
  · have hw : g_wh s (a_o c) = 6 := (c2.resolve_left (by omega)).resolve_left (by omega)
    have eb : h_back s c = 1000 * 0 + 100 * a_p c + 0 := by unfold h_back; rw [if_neg (by omega), if_pos e]
    obtain ⟨k1, k2, k3⟩ := h_code (h := 0) (p := a_p c) (o := 0) (by omega) (by omega)
    rw [eb, s_do_1 e]
    refine ⟨⟨by omega, by omega, fun _ => by omega, fun z => by omega⟩, ⟨Or.inr ?_, Or.inl k1⟩, ?_⟩
    · rw [k2]
      show (if a_p c = a_p c then a_o c :: g_st s (a_p c) else g_st s (a_p c)) ≠ []
      rw [if_pos rfl]; simp
    · rw [s_do_0 k1, k2]
      exact h_take_put hw
  · have hs : g_st s (a_p c) ≠ [] := c1.resolve_left (by omega)
    obtain ⟨t1, t2, t3⟩ := hI.top o2 hs
    have hw : g_wh s (a_o c) = 6 := (c2.resolve_left (by omega)).resolve_left (by omega)
    have hne : a_o c ≠ g_top s (a_p c) := fun z => by rw [z] at hw; omega
    have hw2 : g_wh (s_take s (a_p c)) (a_o c) = 6 := by
      show (if a_o c = g_top s (a_p c) then 6 else g_wh s (a_o c)) = 6
      rw [if_neg hne]; exact hw
    have eb : h_back s c = 1000 * 2 + 100 * a_p c + g_top s (a_p c) := by unfold h_back; rw [if_neg (by omega), if_neg (by omega), if_pos e]
    obtain ⟨k1, k2, k3⟩ := h_code (h := 2) (p := a_p c) (o := g_top s (a_p c)) (by omega) (by omega)
    rw [eb, s_do_2 e]
    refine ⟨⟨by omega, by omega, fun _ => by rw [k3]; exact t1, fun z => by omega⟩, ⟨Or.inr ?_, Or.inr (Or.inr ?_)⟩, ?_⟩
    · rw [k2]
      show (if a_p c = a_p c then a_o c :: g_st (s_take s (a_p c)) (a_p c) else g_st (s_take s (a_p c)) (a_p c)) ≠ []
      rw [if_pos rfl]; simp
    · rw [k3]
      show (if g_top s (a_p c) = a_o c then a_p c else (if g_top s (a_p c) = g_top s (a_p c) then 6 else _)) = 6
      rw [if_neg (fun z => hne z.symm), if_pos rfl]
    · rw [s_do_2 k1, k2, k3, h_take_put hw2]
      exact h_put_take hI o2 hs
  · have hs : g_st s (a_p c) ≠ [] := c1.resolve_left (by omega)
    obtain ⟨t1, t2, t3⟩ := hI.top o2 hs
    obtain ⟨q1, q2⟩ := o4 e
    have eb : h_back s c = 1000 * 3 + 100 * a_o c + a_p c := by unfold h_back; rw [if_neg (by omega), if_neg (by omega), if_neg (by omega)]
    obtain ⟨k1, k2, k3⟩ := h_code (h := 3) (p := a_o c) (o := a_p c) (by omega) (by omega)
    rw [eb, s_do_3 e]
    refine ⟨⟨by omega, by omega, fun z => by omega, fun _ => ⟨by omega, by omega⟩⟩, ⟨Or.inr ?_, Or.inr (Or.inl k1)⟩, ?_⟩
    · rw [k2]
      show (if a_o c = a_o c then g_top s (a_p c) :: g_st (s_take s (a_p c)) (a_o c) else g_st (s_take s (a_p c)) (a_o c)) ≠ []
      rw [if_pos rfl]; simp
    · rw [s_do_3 k1, k2, k3, h_top_put, h_take_put s_take_top]
      exact h_put_take hI o2 hs
/-- what an act that can be does to a piece in a place: it is the top of its place, or stays where it is, and no more than one comes off it -/
theorem h_eff {s : gS} (hI : gInv s) {c i : Nat} (ho : a_ok s c) (hc : a_can s c) (hi : i < g_n s) (hw : g_wh s i < 6) : (a_p c = g_wh s i ∧ g_top s (g_wh s i) = i ∧ a_h c ≠ 1) ∨ (g_wh (s_do s c) i = g_wh s i ∧ ∃ l, g_st (s_do s c) (g_wh s i) = l ∧ (l = g_st s (g_wh s i) ∨ (∃ x, x ≠ i ∧ l = x :: g_st s (g_wh s i) ∧ (a_h c = 1 ∨ a_h c = 3)) ∨ (a_p c = g_wh s i ∧ a_h c ≠ 1 ∧ (g_st s (g_wh s i)).head? ≠ some i ∧ (l = (g_st s (g_wh s i)).tail ∨ ∃ x, x ≠ i ∧ l = x :: (g_st s (g_wh s i)).tail)))) := by
  obtain ⟨o1, o2, o3, o4⟩ := ho
  obtain ⟨c1, c2⟩ := hc
  have top : g_st s (a_p c) ≠ [] → a_p c = g_wh s i → (g_top s (g_wh s i) = i) ∨ ((g_st s (g_wh s i)).head? ≠ some i ∧ i ≠ g_top s (g_wh s i)) := fun hs hp => by
    by_cases q : g_top s (g_wh s i) = i
    · exact Or.inl q
    · refine Or.inr ⟨fun z => q ?_, fun z => q z.symm⟩
      unfold g_top
      cases hl : g_st s (g_wh s i) with
      | nil => rw [hl] at z; exact absurd z (by simp)
      | cons a l => rw [hl] at z; exact Option.some.inj z
  rcases (show a_h c = 0 ∨ a_h c = 1 ∨ a_h c = 2 ∨ a_h c = 3 by omega) with e | e | e | e
  · have hs : g_st s (a_p c) ≠ [] := c1.resolve_left (by omega)
    obtain ⟨t1, t2, t3⟩ := hI.top o2 hs
    rw [s_do_0 e]
    by_cases hp : a_p c = g_wh s i
    · rcases top hs hp with q | ⟨q, q2⟩
      · exact Or.inl ⟨hp, q, by omega⟩
      · refine Or.inr ⟨?_, _, rfl, Or.inr (Or.inr ⟨hp, by omega, q, Or.inl ?_⟩)⟩
        · show (if i = g_top s (a_p c) then 6 else g_wh s i) = g_wh s i
          rw [hp, if_neg q2]
        · show (if g_wh s i = a_p c then (g_st s (g_wh s i)).tail else g_st s (g_wh s i)) = _
          rw [if_pos hp.symm]
    · refine Or.inr ⟨?_, _, rfl, Or.inl ?_⟩
      · show (if i = g_top s (a_p c) then 6 else g_wh s i) = g_wh s i
        rw [if_neg (fun z => hp (by rw [z]; exact t2.symm))]
      · show (if g_wh s i = a_p c then (g_st s (g_wh s i)).tail else g_st s (g_wh s i)) = _
        rw [if_neg (fun z => hp z.symm)]
  · have h6 : g_wh s (a_o c) = 6 := (c2.resolve_left (by omega)).resolve_left (by omega)
    have hne : a_o c ≠ i := fun z => by rw [z] at h6; omega
    rw [s_do_1 e]
    refine Or.inr ⟨?_, _, rfl, ?_⟩
    · show (if i = a_o c then a_p c else g_wh s i) = g_wh s i
      rw [if_neg (fun z => hne z.symm)]
    · show ((if g_wh s i = a_p c then a_o c :: g_st s (g_wh s i) else g_st s (g_wh s i)) = _) ∨ _
      by_cases hp : g_wh s i = a_p c
      · refine Or.inr (Or.inl ⟨a_o c, hne, ?_, Or.inl e⟩)
        show (if g_wh s i = a_p c then a_o c :: g_st s (g_wh s i) else g_st s (g_wh s i)) = _
        rw [if_pos hp]
      · exact Or.inl (if_neg hp)
  · have hs : g_st s (a_p c) ≠ [] := c1.resolve_left (by omega)
    obtain ⟨t1, t2, t3⟩ := hI.top o2 hs
    have h6 : g_wh s (a_o c) = 6 := (c2.resolve_left (by omega)).resolve_left (by omega)
    have hne : a_o c ≠ i := fun z => by rw [z] at h6; omega
    rw [s_do_2 e]
    by_cases hp : a_p c = g_wh s i
    · rcases top hs hp with q | ⟨q, q2⟩
      · exact Or.inl ⟨hp, q, by omega⟩
      · refine Or.inr ⟨?_, _, rfl, Or.inr (Or.inr ⟨hp, by omega, q, Or.inr ⟨a_o c, hne, ?_⟩⟩)⟩
        · show (if i = a_o c then a_p c else (if i = g_top s (a_p c) then 6 else g_wh s i)) = g_wh s i
          rw [if_neg (fun z => hne z.symm), hp, if_neg q2]
        · show (if g_wh s i = a_p c then a_o c :: (if g_wh s i = a_p c then (g_st s (g_wh s i)).tail else g_st s (g_wh s i)) else _) = _
          rw [if_pos hp.symm, if_pos hp.symm]
    · refine Or.inr ⟨?_, _, rfl, Or.inl ?_⟩
      · show (if i = a_o c then a_p c else (if i = g_top s (a_p c) then 6 else g_wh s i)) = g_wh s i
        rw [if_neg (fun z => hne z.symm), if_neg (fun z => hp (by rw [z]; exact t2.symm))]
      · show (if g_wh s i = a_p c then a_o c :: (if g_wh s i = a_p c then (g_st s (g_wh s i)).tail else g_st s (g_wh s i)) else (if g_wh s i = a_p c then (g_st s (g_wh s i)).tail else g_st s (g_wh s i))) = _
        rw [if_neg (fun z => hp z.symm), if_neg (fun z => hp z.symm)]
  · have hs : g_st s (a_p c) ≠ [] := c1.resolve_left (by omega)
    obtain ⟨t1, t2, t3⟩ := hI.top o2 hs
    obtain ⟨q1, q3⟩ := o4 e
    rw [s_do_3 e]
    by_cases hp : a_p c = g_wh s i
    · rcases top hs hp with q | ⟨q, q2⟩
      · exact Or.inl ⟨hp, q, by omega⟩
      · refine Or.inr ⟨?_, _, rfl, Or.inr (Or.inr ⟨hp, by omega, q, Or.inl ?_⟩)⟩
        · show (if i = g_top s (a_p c) then a_o c else (if i = g_top s (a_p c) then 6 else g_wh s i)) = g_wh s i
          rw [hp, if_neg q2, if_neg q2]
        · show (if g_wh s i = a_o c then g_top s (a_p c) :: (if g_wh s i = a_p c then (g_st s (g_wh s i)).tail else g_st s (g_wh s i)) else (if g_wh s i = a_p c then (g_st s (g_wh s i)).tail else g_st s (g_wh s i))) = _
          rw [if_neg (fun z => q3 (by rw [← z, hp])), if_pos hp.symm]
    · have hx : i ≠ g_top s (a_p c) := fun z => hp (by rw [z]; exact t2.symm)
      refine Or.inr ⟨?_, _, rfl, ?_⟩
      · show (if i = g_top s (a_p c) then a_o c else (if i = g_top s (a_p c) then 6 else g_wh s i)) = g_wh s i
        rw [if_neg hx, if_neg hx]
      · by_cases hq : g_wh s i = a_o c
        · refine Or.inr (Or.inl ⟨g_top s (a_p c), fun z => hx z.symm, ?_, Or.inr e⟩)
          show (if g_wh s i = a_o c then g_top s (a_p c) :: (if g_wh s i = a_p c then (g_st s (g_wh s i)).tail else g_st s (g_wh s i)) else _) = _
          rw [if_pos hq, if_neg (fun z => hp z.symm)]
        · refine Or.inl ?_
          show (if g_wh s i = a_o c then g_top s (a_p c) :: (if g_wh s i = a_p c then (g_st s (g_wh s i)).tail else g_st s (g_wh s i)) else (if g_wh s i = a_p c then (g_st s (g_wh s i)).tail else g_st s (g_wh s i))) = _
          rw [if_neg hq, if_neg (fun z => hp z.symm)]
