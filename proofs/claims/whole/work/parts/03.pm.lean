/-! A PURE MACHINE over the kit's rows. The heap of the run is named by small numbers (ids): the cell id lies at pm_z P + id; the shapes G say what each is (an object: its class' place in vwCl and its fields: a reference that is told, or a number; an array: 0 int, 1 char, 2 long, or references that are told); I holds the numbers (of fields and of arrays), L the longs. PW is the walk's judgement over it, PC a method's contract. -/
abbrev pm_S : Type := (Nat × List (Option (Option Nat))) ⊕ ((Nat × Nat) ⊕ List (Option Nat))
abbrev pm_I : Type := Nat → Nat → Int32
abbrev pm_L : Type := Nat → Nat → Int64
abbrev pm_E : Type := Nat × va_G × (Nat → ClassId) × ((Nat → Nat) × (Nat → Nat)) × (Nat × Nat × (Nat → Int32))
def pm_z (P : pm_E) : Nat := P.1
def pm_D (P : pm_E) : va_G := P.2.1
def pm_cs (P : pm_E) : Nat → ClassId := P.2.2.1
def pm_aK (P : pm_E) : Nat → Nat := P.2.2.2.1.1
def pm_aV (P : pm_E) : Nat → Nat := P.2.2.2.1.2
def pm_b (P : pm_E) : Nat := P.2.2.2.2.1
def pm_n (P : pm_E) : Nat := P.2.2.2.2.2.1
def pm_xs (P : pm_E) : Nat → Int32 := P.2.2.2.2.2.2
/-- the cells that may change -/
def pm_A (P : pm_E) : Nat → Prop := fun q => pm_z P ≤ q
def pm_ad (P : pm_E) (id : Nat) : Nat := if id < 1000 then pm_z P + id else if id < 2000 then pm_aK P (id - 1000) else if id < 3000 then pm_b P else pm_aV P (id - 3000)
def pm_v (P : pm_E) (v : Value) : Value := match v with
  | .ref id => .ref (pm_ad P id)
  | w => w
theorem pm_v_cat (P : pm_E) (v : Value) : (pm_v P v).category = v.category := by cases v <;> rfl
theorem pm_ad_lt {P : pm_E} {id : Nat} (h : id < 1000) : pm_ad P id = pm_z P + id := if_pos h
def pm_f (P : pm_E) (f : Nat → Int32) (q : Option (Option Nat) × Nat) : Value := match q.1 with
  | some (some r) => .ref (pm_ad P r)
  | some none => .null
  | none => .int (f q.2)
def pm_c (P : pm_E) (f : Nat → Int32) (g : Nat → Int64) (sh : pm_S) : va_E := match sh with
  | .inl o => .inr (o.1, o.2.zipIdx.map (pm_f P f))
  | .inr (.inl a) => if a.1 = 2 then .inl (pm_cs P 2, (a.2, .inr (.inl g))) else .inl (pm_cs P a.1, (a.2, .inl f))
  | .inr (.inr r) => .inl (pm_cs P 3, (r.length, .inr (.inr (.inr (.inr (fun k => (r.getD k none).map (pm_ad P)))))))
def pm_W (P : pm_E) (G : List pm_S) (I : pm_I) (L : pm_L) : va_W := G.zipIdx.map (fun q => (pm_z P + q.2, pm_c P (I q.2) (L q.2) q.1))
theorem pm_W_get {P : pm_E} {G : List pm_S} {I : pm_I} {L : pm_L} {id : Nat} {sh : pm_S} (h : G[id]? = some sh) : (pm_W P G I L)[id]? = some (pm_z P + id, pm_c P (I id) (L id) sh) := by
  simp [pm_W, List.getElem?_map, List.getElem?_zipIdx, h]
theorem pm_W_some {P : pm_E} {G : List pm_S} {I : pm_I} {L : pm_L} {k : Nat} {q : Nat × va_E} (h : (pm_W P G I L)[k]? = some q) : ∃ sh, G[k]? = some sh ∧ q = (pm_z P + k, pm_c P (I k) (L k) sh) := by
  rw [pm_W, List.getElem?_map, List.getElem?_zipIdx] at h
  cases hg : G[k]? with
  | none => rw [hg] at h; cases h
  | some sh =>
    rw [hg] at h
    refine ⟨sh, rfl, ?_⟩
    have h1 := Option.some.inj h
    rw [← h1]
    simp
theorem pm_W_len {P : pm_E} {G : List pm_S} {I : pm_I} {L : pm_L} : (pm_W P G I L).length = G.length := by simp [pm_W]
theorem pm_DD {P : pm_E} {G : List pm_S} {I : pm_I} {L : pm_L} : va_D (pm_A P) (pm_W P G I L) := by
  refine ⟨fun i j p q hi hj e => ?_, fun k q hk => ?_⟩
  · obtain ⟨s1, -, rfl⟩ := pm_W_some hi
    obtain ⟨s2, -, rfl⟩ := pm_W_some hj
    have : pm_z P + i = pm_z P + j := e
    omega
  · obtain ⟨s1, -, rfl⟩ := pm_W_some hk
    exact Nat.le_add_right _ _
/-- the heap holds the memory -/
def pm_H (P : pm_E) (G : List pm_S) (I : pm_I) (L : pm_L) (H : Heap) : Prop := va_P (pm_D P) vwCl (pm_W P G I L) H ∧ H.size = pm_z P + G.length ∧ G.length ≤ 1000
theorem pm_H.lt {P : pm_E} {G : List pm_S} {I : pm_I} {L : pm_L} {H : Heap} (h : pm_H P G I L H) {id : Nat} {sh : pm_S} (hg : G[id]? = some sh) : id < 1000 := Nat.lt_of_lt_of_le (List.getElem?_eq_some_iff.mp hg).1 h.2.2
theorem pm_H.ad {P : pm_E} {G : List pm_S} {I : pm_I} {L : pm_L} {H : Heap} (h : pm_H P G I L H) {id : Nat} {sh : pm_S} (hg : G[id]? = some sh) : pm_ad P id = pm_z P + id := pm_ad_lt (h.lt hg)
theorem pm_H.at {P : pm_E} {G : List pm_S} {I : pm_I} {L : pm_L} {H : Heap} (h : pm_H P G I L H) {id : Nat} {sh : pm_S} (hg : G[id]? = some sh) : (pm_W P G I L)[id]? = some (pm_ad P id, pm_c P (I id) (L id) sh) := by
  rw [h.ad hg]; exact pm_W_get hg
/-- another row in the place of one -/
def pm_u {α : Type} (I : Nat → Nat → α) (id : Nat) (f : Nat → α) : Nat → Nat → α := fun a => if a = id then f else I a
theorem pm_us {α : Type} {I : Nat → Nat → α} {id : Nat} {f : Nat → α} : pm_u I id f id = f := if_pos rfl
theorem pm_un {α : Type} {I : Nat → Nat → α} {id a : Nat} {f : Nat → α} (h : a ≠ id) : pm_u I id f a = I a := if_neg h
theorem pm_uu {α : Type} (I : Nat → Nat → α) (id : Nat) : pm_u I id (I id) = I := by
  funext a; by_cases h : a = id
  · subst h; exact pm_us
  · exact pm_un h
theorem pm_H.set {P : pm_E} {G : List pm_S} {I : pm_I} {L : pm_L} {H H1 : Heap} (h : pm_H P G I L H) {id : Nat} {sh : pm_S} (hg : G[id]? = some sh) (sh' : pm_S) (f : Nat → Int32) (g : Nat → Int64) (he : va_at (pm_D P) vwCl (pm_ad P id, pm_c P f g sh') H1) (hz : H1.size = H.size) (oq : ∀ q : Nat, q ≠ pm_ad P id → H1[q]? = H[q]?) : pm_H P (G.set id sh') (pm_u I id f) (pm_u L id g) H1 := by
  refine ⟨fun k q hk => ?_, by rw [hz, h.2.1, List.length_set], by rw [List.length_set]; exact h.2.2⟩
  obtain ⟨s1, h1, rfl⟩ := pm_W_some hk
  rw [h.ad hg] at he oq
  by_cases e : k = id
  · subst e
    rw [List.getElem?_set, if_pos rfl, if_pos (List.getElem?_eq_some_iff.mp hg).1] at h1
    cases h1
    rw [pm_us, pm_us]; exact he
  · rw [List.getElem?_set, if_neg (Ne.symm e)] at h1
    rw [pm_un e, pm_un e]
    exact (h.1 k _ (pm_W_get h1)).kept (oq _ (by show pm_z P + k ≠ _; omega))
theorem pm_H.set0 {P : pm_E} {G : List pm_S} {I : pm_I} {L : pm_L} {H H1 : Heap} (h : pm_H P G I L H) {id : Nat} {sh : pm_S} (hg : G[id]? = some sh) (f : Nat → Int32) (g : Nat → Int64) (he : va_at (pm_D P) vwCl (pm_ad P id, pm_c P f g sh) H1) (hz : H1.size = H.size) (oq : ∀ q : Nat, q ≠ pm_ad P id → H1[q]? = H[q]?) : pm_H P G (pm_u I id f) (pm_u L id g) H1 := by
  have h1 := h.set hg sh f g he hz oq
  have e : G.set id sh = G := by
    apply List.ext_getElem?
    intro i
    rw [List.getElem?_set]
    by_cases q : id = i
    · subst q; rw [if_pos rfl, if_pos (List.getElem?_eq_some_iff.mp hg).1, hg]
    · rw [if_neg q]
  rw [e] at h1; exact h1
theorem pm_H.push {P : pm_E} {G : List pm_S} {I : pm_I} {L : pm_L} {H H1 : Heap} (h : pm_H P G I L H) (hl : G.length < 1000) (sh : pm_S) (f : Nat → Int32) (g : Nat → Int64) (he : va_at (pm_D P) vwCl (H.size, pm_c P f g sh) H1) (hz : H1.size = H.size + 1) (oq : ∀ q : Nat, q < H.size → H1[q]? = H[q]?) : pm_H P (G ++ [sh]) (pm_u I G.length f) (pm_u L G.length g) H1 := by
  refine ⟨fun k q hk => ?_, by rw [hz, h.2.1, List.length_append]; rfl, by rw [List.length_append]; exact hl⟩
  obtain ⟨s1, h1, rfl⟩ := pm_W_some hk
  by_cases e : k < G.length
  · rw [List.getElem?_append_left e] at h1
    rw [pm_un (by omega), pm_un (by omega)]
    exact (h.1 k _ (pm_W_get h1)).kept (oq _ (by show pm_z P + k < _; rw [h.2.1]; omega))
  · rw [List.getElem?_append_right (by omega)] at h1
    have hk1 : k - G.length < 1 := (List.getElem?_eq_some_iff.mp h1).1
    have e1 : k = G.length := by omega
    subst e1
    rw [show G.length - G.length = 0 by omega] at h1
    cases h1
    rw [pm_us, pm_us, ← h.2.1]; exact he
/-! what lies round the memory and never changes: the tables, the constants' texts, the script -/
def pm_ty (P : pm_E) : List (ClassId × FieldType) := [(pm_cs P 0, .int), (pm_cs P 1, .char), (pm_cs P 2, .long), (pm_cs P 3, .object RX5)]
def NW : List (String × Nat × MethodName × String) := [(RX9, 21, yX7_init, RX9), (RX9, 28, yX8_init, RX9), (RX9, 35, yX6_init, RX9), (RX9, 42, yX3_init, RX9), (RX9, 49, yX4_init, RX9), (RX9, 60, yX5_init, RX9), (RX2, 57, yX9_isPlace, RX9), (RX6, 15, yX9_isIn, RX9), (RX8, 71, yX9_isPlace, RX9), (RX2, 80, yX9_holds, RX9)]
/-- the texts: class, entry, text, which of the different ones -/
def NT : List (String × Nat × String × Nat) := [(RX3, 24, ",", 0), (RX3, 44, "cklr", 1), (RX3, 49, "t", 2), (RX3, 51, "0123", 3), (RX3, 53, "@", 4), (RX3, 55, "012345", 5), (RX4, 17, ";", 6), (RX4, 35, "ldsp", 7), (RX4, 39, "abcdefghijkl", 8), (RX4, 44, ">", 9), (RX4, 46, "012345", 5), (RX4, 52, "=", 10)]
def NB : List (List Int32) := [[44], [99, 107, 108, 114], [116], [48, 49, 50, 51], [64], [48, 49, 50, 51, 52, 53], [59], [108, 100, 115, 112], [97, 98, 99, 100, 101, 102, 103, 104, 105, 106, 107, 108], [62], [61]]
def NL : List Nat := [1, 4, 1, 4, 1, 6, 1, 4, 12, 1, 1]
def pm_T (P : pm_E) (U : State) : Prop := va_K (pm_D P) vwCl (pm_ty P) U ∧ (∀ q ∈ NW, va_Nw (.methodLinkNest q.1 q.2.1 q.2.2.1 q.2.2.2) U) ∧ (∀ q ∈ NT, vk_R q.1 q.2.1 q.2.2.1 (pm_aK P q.2.2.2) U) ∧ va_AO RX5 U
theorem pm_T.warm {P : pm_E} {s U : State} (hW : s.WarmedH U.vm) (h : pm_T P s) : pm_T P U := ⟨va_K.moved hW.alike h.1, fun q hq => va_Nw.warmM hW (h.2.1 q hq), fun q hq => vk_R.warm hW (h.2.2.1 q hq), va_AO.moved hW.alike h.2.2.2⟩
theorem pm_T.same {P : pm_E} {s U : State} (hv : U.vm = s.vm) (h : pm_T P s) : pm_T P U := ⟨va_K.moved (by rw [hv]; exact Vm.Alike.refl s.vm) h.1, fun q hq => va_Nw.same rfl hv.symm (h.2.1 q hq), fun q hq => vk_R.same hv (h.2.2.1 q hq), va_AO.moved (by rw [hv]; exact Vm.Alike.refl s.vm) h.2.2.2⟩
def pm_X (P : pm_E) (U : State) (H : Heap) : Prop := vk_S 11 NL NB (pm_aK P) (pm_aV P) (pm_A P) U H ∧ va_Z "java/lang/String" "COMPACT_STRINGS" "Z" (.int 1) (pm_A P) U H ∧ va_X (pm_b P) (pm_n P) (pm_xs P) U H ∧ pm_b P < pm_z P ∧ pm_z P ≤ H.size
theorem pm_X.moved {P : pm_E} {u U : State} {H : Heap} (hvm : u.vm.Alike U.vm) (h : pm_X P u H) : pm_X P U H := ⟨h.1.moved hvm, h.2.1.moved hvm, h.2.2.1.moved hvm, h.2.2.2⟩
theorem pm_X.kept {P : pm_E} {U : State} {H H1 : Heap} (h : pm_X P U H) (hz : H.size ≤ H1.size) (hq : ∀ q : Nat, q < H.size → ¬ pm_A P q → H1[q]? = H[q]?) : pm_X P U H1 :=
  ⟨h.1.kept hq, h.2.1.kept hq, h.2.2.1.kept (hq _ (Nat.lt_of_lt_of_le h.2.2.2.1 h.2.2.2.2) (fun z => Nat.not_lt.mpr z h.2.2.2.1)), h.2.2.2.1, Nat.le_trans h.2.2.2.2 hz⟩
/-! the locals -/
def pm_LR (P : pm_E) (nL : Nat) (ls : List (Option Value)) (a : Array Slot) : Prop := a.size = nL ∧ lv_wf a ∧ ∀ (i : Nat) (v : Value), ls[i]? = some (some v) → a[i]? = some (.val (pm_v P v))
def pm_prs (P : pm_E) (ls : List (Option Value)) : List (Nat × Value) := ls.zipIdx.filterMap (fun q => q.1.map (fun v => (q.2, pm_v P v)))
theorem pm_prs_in {P : pm_E} {ls : List (Option Value)} {i : Nat} {v : Value} (h : ls[i]? = some (some v)) : (i, pm_v P v) ∈ pm_prs P ls := by
  refine List.mem_filterMap.mpr ⟨(some v, i), List.mem_of_getElem? (i := i) ?_, rfl⟩
  simp [List.getElem?_zipIdx, h]
theorem pm_LR.has {P : pm_E} {nL : Nat} {ls : List (Option Value)} {a : Array Slot} (h : pm_LR P nL ls a) : lv_has a nL (pm_prs P ls) := by
  refine ⟨h.1, h.2.1, fun q hq => ?_⟩
  obtain ⟨⟨o, j⟩, h1, h2⟩ := List.mem_filterMap.mp hq
  obtain ⟨k, hk⟩ := List.getElem?_of_mem h1
  rw [List.getElem?_zipIdx] at hk
  cases hl : ls[k]? with
  | none => rw [hl] at hk; cases hk
  | some o' =>
    rw [hl] at hk
    have h3 := Option.some.inj hk
    simp at h3
    obtain ⟨e1, e2⟩ := h3
    subst e1; subst e2
    cases o' with
    | none => cases h2
    | some v =>
      have h4 : (k, pm_v P v) = q := Option.some.inj h2
      rw [← h4]
      exact h.2.2 k v hl
/-- no long lies just ahead of a place -/
def pm_fr (ls : List (Option Value)) (i : Nat) : Bool := match i with
  | 0 => true
  | j + 1 => match ls.getD j none with
    | some v => v.category == 1
    | none => true
theorem pm_fr_ok {ls : List (Option Value)} {i j : Nat} {v : Value} (h : pm_fr ls i = true) (hj : ls[j]? = some (some v)) (e : j + 1 = i) : ¬ v.category = 2 := by
  subst e
  have h1 : pm_fr ls (j + 1) = (v.category == 1) := by simp [pm_fr, List.getD_eq_getElem?_getD, hj]
  rw [h1] at h
  have h2 : v.category = 1 := by simpa using h
  omega
theorem pm_st1 {P : pm_E} {nL : Nat} {ls : List (Option Value)} {i : Nat} {v : Value} (hf : pm_fr ls i = true) {a' : Array Slot} (h' : lv_has a' nL ((i, pm_v P v) :: (pm_prs P ls).filter (fun q => !(q.1 == i) && !(q.1 + 1 == i && q.2.category == 2)))) : pm_LR P nL (ls.set i (some v)) a' := by
  refine ⟨h'.1, h'.2.1, fun j w hj => ?_⟩
  rw [List.getElem?_set] at hj
  by_cases e : i = j
  · subst e
    rw [if_pos rfl] at hj
    split at hj
    · cases hj
      exact h'.2.2 (i, _) List.mem_cons_self
    · cases hj
  · rw [if_neg e] at hj
    refine h'.2.2 (j, _) (List.mem_cons_of_mem _ (List.mem_filter.mpr ⟨pm_prs_in hj, ?_⟩))
    have h1 : (j == i) = false := by simp; omega
    have h2 : (j + 1 == i && (pm_v P w).category == 2) = false := by
      by_cases e2 : j + 1 = i
      · rw [pm_v_cat]; simp; intro _; exact pm_fr_ok hf hj e2
      · simp; intro q; exact absurd q e2
    show (!(j == i) && !(j + 1 == i && (pm_v P w).category == 2)) = true
    rw [h1, h2]; rfl
theorem pm_st2 {P : pm_E} {nL : Nat} {ls : List (Option Value)} {i : Nat} {v : Value} (hf : pm_fr ls i = true) {a' : Array Slot} (h' : lv_has a' nL ((i, pm_v P v) :: (pm_prs P ls).filter (fun q => !(q.1 == i) && (!(q.1 == i + 1) && !(q.1 + 1 == i && q.2.category == 2))))) : pm_LR P nL ((ls.set i (some v)).set (i + 1) none) a' := by
  refine ⟨h'.1, h'.2.1, fun j w hj => ?_⟩
  rw [List.getElem?_set] at hj
  by_cases e0 : i + 1 = j
  · subst e0
    rw [if_pos rfl] at hj
    split at hj <;> cases hj
  · rw [if_neg e0, List.getElem?_set] at hj
    by_cases e : i = j
    · subst e
      rw [if_pos rfl] at hj
      split at hj
      · cases hj
        exact h'.2.2 (i, _) List.mem_cons_self
      · cases hj
    · rw [if_neg e] at hj
      refine h'.2.2 (j, _) (List.mem_cons_of_mem _ (List.mem_filter.mpr ⟨pm_prs_in hj, ?_⟩))
      have h1 : (j == i) = false := by simp; omega
      have h3 : (j == i + 1) = false := by simp; omega
      have h2 : (j + 1 == i && (pm_v P w).category == 2) = false := by
        by_cases e2 : j + 1 = i
        · rw [pm_v_cat]; simp; intro _; exact pm_fr_ok hf hj e2
        · simp; intro q; exact absurd q e2
      show (!(j == i) && (!(j == i + 1) && !(j + 1 == i && (pm_v P w).category == 2))) = true
      rw [h1, h2, h3]; rfl
/-! the judgement -/
def pm_C (y : MethodName) (cc : ByteArray) (nL : Nat) (ret : Option FieldType) (p : Program) (s : State) (m : MethodId) (args : Array Value) (meth : Method) (c : Code) : Prop :=
  p.tables.exec = Jvm.exec ∧ c.code = cc ∧ c.maxLocals = nL ∧ s.vm.findClass y.cls = some m.cls ∧ meth.name = y.name ∧ meth.sig.returnType = ret ∧ meth.locks = false ∧ ∀ w ∈ TB, w.before args s = true
def PW (l : Launch) (P : pm_E) (y : MethodName) (cc : ByteArray) (nL : Nat) (ret : Option FieldType) (R : Room) (Tg : List Frame → Array Value → State → State → Prop) (k n pc : Nat) (ls : List (Option Value)) (st : List Value) (G : List pm_S) (I : pm_I) (L : pm_L) : Prop :=
  ∀ (p : Program) (e : Env) (s : State) (m : MethodId) (args : Array Value) (below : List Frame) (meth : Method) (c : Code) (H : Heap) (locs : List Loc) (a : Array Slot),
    pm_C y cc nL ret p s m args meth c → pm_T P s → pm_X P s s.heap → pm_H P G I L H → va_S (pm_A P) s.heap H locs → pm_LR P nL ls a →
    W p l e R s m args below meth c H locs k n (Tg below args s) (F0 m pc a (st.map (pm_v P)))
def pm_rm (d K N : Nat) : Room := { frames := d, cells := K, slots := N, locals := 64 * d }
def pm_w (y : MethodName) (cc : ByteArray) (nL : Nat) (ret : Option FieldType) : List Cond := .code y cc nL ret :: TB
def pm_Pre (P : pm_E) (args : List Value) (G : List pm_S) (I : pm_I) (L : pm_L) : Array Value → State → Prop := fun v U => v = (args.map (pm_v P)).toArray ∧ pm_H P G I L U.heap ∧ pm_T P U ∧ pm_X P U U.heap
def pm_Q (P : pm_E) (Q : Option Value → List pm_S → pm_I → pm_L → Prop) : Array Value → State → Outcome → State → Prop := fun _ st o t => (∃ (v : Option Value) (G' : List pm_S) (I' : pm_I) (L' : pm_L), o = .returned (v.map (pm_v P)) ∧ Q v G' I' L' ∧ pm_H P G' I' L' t.heap) ∧ va_F (pm_A P) st t
/-- A METHOD'S CONTRACT: from the memory G, I, L and these arguments it returns v with the memory G', I', L' of which Q holds; depth d, K cells of N slots at most are made -/
def PC (d K N : Nat) (y : MethodName) (cc : ByteArray) (nL : Nat) (ret : Option FieldType) (args : List Value) (G : List pm_S) (I : pm_I) (L : pm_L) (Q : Option Value → List pm_S → pm_I → pm_L → Prop) : Prop :=
  ∀ (l : Launch) (P : pm_E), Met l y (pm_w y cc nL ret) (pm_rm d K N) (pm_Pre P args G I L) (pm_Q P Q) K N (pm_A P)
def pm_Tg (P : pm_E) (Q : Option Value → List pm_S → pm_I → pm_L → Prop) (K N : Nat) : List Frame → Array Value → State → State → Prop := fun below args s => MQ below (pm_Q P Q) args s K N (pm_A P)
/-- the locals of an entry -/
def pm_ent : List Value → List (Option Value)
  | [] => []
  | v :: vs => if v.category = 2 then some v :: none :: pm_ent vs else some v :: pm_ent vs
theorem pm_ent_in (P : pm_E) : ∀ (vs : List Value) (k i : Nat) (v : Value), (pm_ent vs)[i]? = some (some v) → (k + i, pm_v P v) ∈ lv_args k (vs.map (pm_v P))
  | [], k, i, v, h => by cases h
  | w :: vs, k, i, v, h => by
    rw [pm_ent] at h
    rw [List.map_cons, lv_args, pm_v_cat]
    by_cases hc : w.category = 2
    · rw [if_pos hc] at h ⊢
      match i, h with
      | 0, h => cases h; exact List.mem_cons_self
      | 1, h => cases h
      | j + 2, h =>
        have h2 := pm_ent_in P vs (k + 2) j v h
        rw [show k + (j + 2) = k + 2 + j by omega]
        exact List.mem_cons_of_mem _ h2
    · rw [if_neg hc] at h ⊢
      match i, h with
      | 0, h => cases h; exact List.mem_cons_self
      | j + 1, h =>
        have h2 := pm_ent_in P vs (k + 1) j v h
        rw [show k + (j + 1) = k + 1 + j by omega]
        exact List.mem_cons_of_mem _ h2
theorem pm_sl_len : ∀ (vs : List Value), (lg_sl vs).length = (pm_ent vs).length
  | [] => rfl
  | v :: vs => by
    have ih := pm_sl_len vs
    rw [pm_ent]
    by_cases hc : v.category = 2
    · rw [if_pos hc]; simp only [lg_sl, List.flatMap_cons, List.length_append] at ih ⊢; rw [ih, if_pos hc]; simp; omega
    · rw [if_neg hc]; simp only [lg_sl, List.flatMap_cons, List.length_append] at ih ⊢; rw [ih, if_neg hc]; simp; omega
theorem pm_ent_len (P : pm_E) : ∀ (vs : List Value), (pm_ent (vs.map (pm_v P))).length = (pm_ent vs).length
  | [] => rfl
  | v :: vs => by
    have ih := pm_ent_len P vs
    rw [List.map_cons, pm_ent, pm_ent, pm_v_cat]
    by_cases hc : v.category = 2
    · rw [if_pos hc, if_pos hc]; simp [ih]
    · rw [if_neg hc, if_neg hc]; simp [ih]
theorem pm_plain {y : MethodName} (h : plainName y.cls = true) : plainName y.cls = true := h
theorem PC.of {d K N : Nat} {y : MethodName} {cc : ByteArray} {nL : Nat} {ret : Option FieldType} {args : List Value} {G : List pm_S} {I : pm_I} {L : pm_L} {Q : Option Value → List pm_S → pm_I → pm_L → Prop} (ls : List (Option Value)) (hy : plainName y.cls = true) (hl : (pm_ent args).length ≤ nL) (he : pm_ent args ++ List.replicate (nL - (pm_ent args).length) none = ls)
    (body : ∀ (l : Launch) (P : pm_E), PW l P y cc nL ret (pm_rm d K N) (pm_Tg P Q K N) 0 0 0 ls [] G I L) : PC d K N y cc nL ret args G I L Q := by
  intro l P
  refine Met.ofW (cc := cc) (maxL := nL) (ret := ret) hy rfl ?_
  intro p e s m av below meth c s₁ B hml hv
  obtain ⟨rfl, hH, hT, hX⟩ := hv
  have hts := atoms_spec (ws := pm_w y cc nL ret) B.pre
  have hl2 : (lg_sl (args.map (pm_v P))).length ≤ nL := by rw [pm_sl_len, pm_ent_len]; exact hl
  have hh := lv_entry (args.map (pm_v P)) (n := nL) hl2
  rw [lg_entry_eq]
  refine body l P p e s m _ below meth c s.heap [] _ ⟨B.exec, B.bytes, hml, findClass_of_methodNamed B.named, (name_of_methodNamed B.named B.method).1, B.returns, B.notSynchronized, fun w hw => hts w (List.mem_cons_of_mem _ hw)⟩ hT hX hH va_S.rf ⟨hh.1, hh.2.1, fun i v hi => ?_⟩
  rw [← he] at hi
  have hi2 : (pm_ent args)[i]? = some (some v) := by
    by_cases h : i < (pm_ent args).length
    · rw [List.getElem?_append_left h] at hi; exact hi
    · rw [List.getElem?_append_right (by omega)] at hi
      have h2 := List.mem_of_getElem? hi
      have h3 := (List.mem_replicate.mp h2).2
      cases h3
  have h4 := pm_ent_in P args 0 i v hi2
  rw [Nat.zero_add] at h4
  exact hh.2.2 _ h4
section PMR
variable {l : Launch} {P : pm_E} {y : MethodName} {cc : ByteArray} {nL : Nat} {ret : Option FieldType} {R : Room} {Tg : List Frame → Array Value → State → State → Prop} {k n pc : Nat} {ls : List (Option Value)} {st : List Value} {G : List pm_S} {I : pm_I} {L : pm_L}
/-- fewer known locals -/
theorem pm_sub (ls' : List (Option Value)) (h : ∀ (i : Nat) (v : Value), ls'[i]? = some (some v) → ls[i]? = some (some v)) (kk : PW l P y cc nL ret R Tg k n pc ls' st G I L) : PW l P y cc nL ret R Tg k n pc ls st G I L := by
  intro p e s m args below meth c H locs a C hT hX hH hS hL
  exact kk p e s m args below meth c H locs a C hT hX hH hS ⟨hL.1, hL.2.1, fun i v hi => hL.2.2 i v (h i v hi)⟩
theorem pm_kill (j : Nat) (kk : PW l P y cc nL ret R Tg k n pc (ls.set j none) st G I L) : PW l P y cc nL ret R Tg k n pc ls st G I L := by
  refine pm_sub _ (fun i v hi => ?_) kk
  rw [List.getElem?_set] at hi
  split at hi
  · split at hi <;> cases hi
  · exact hi
theorem pm_eq {ls' : List (Option Value)} {st' : List Value} {G' : List pm_S} {I' : pm_I} {L' : pm_L} (h1 : ls = ls') (h2 : st = st') (h3 : G = G') (h4 : I = I') (h5 : L = L') (kk : PW l P y cc nL ret R Tg k n pc ls' st' G' I' L') : PW l P y cc nL ret R Tg k n pc ls st G I L := by subst h1; subst h2; subst h3; subst h4; subst h5; exact kk
theorem pm_widen {k' n' : Nat} (h1 : k ≤ k') (h2 : n ≤ n') (kk : PW l P y cc nL ret R Tg k' n' pc ls st G I L) : PW l P y cc nL ret R Tg k n pc ls st G I L := by
  intro p e s m args below meth c H locs a C hT hX hH hS hL
  exact W.widen h1 h2 (kk p e s m args below meth c H locs a C hT hX hH hS hL)
/-- fewer known longs, numbers: another memory that the heap holds as well -/
theorem pm_mem {G' : List pm_S} {I' : pm_I} {L' : pm_L} (h : ∀ H, pm_H P G I L H → pm_H P G' I' L' H) (kk : PW l P y cc nL ret R Tg k n pc ls st G' I' L') : PW l P y cc nL ret R Tg k n pc ls st G I L := by
  intro p e s m args below meth c H locs a C hT hX hH hS hL
  exact kk p e s m args below meth c H locs a C hT hX (h H hH) hS hL
theorem pm_iadd {x w : Int32} (hd : decode cc pc = .ok (.iadd, 1)) (kk : PW l P y cc nL ret R Tg k n (pc + 1) ls (.int (x + w) :: st) G I L) : PW l P y cc nL ret R Tg k n pc ls (.int w :: .int x :: st) G I L := by
  intro p e s m args below meth c H locs a C hT hX hH hS hL
  exact lv_iadd C.1 C.2.1 hd (kk p e s m args below meth c H locs a C hT hX hH hS hL)
theorem pm_isub {x w : Int32} (hd : decode cc pc = .ok (.isub, 1)) (kk : PW l P y cc nL ret R Tg k n (pc + 1) ls (.int (x - w) :: st) G I L) : PW l P y cc nL ret R Tg k n pc ls (.int w :: .int x :: st) G I L := by
  intro p e s m args below meth c H locs a C hT hX hH hS hL
  exact lv_isub C.1 C.2.1 hd (kk p e s m args below meth c H locs a C hT hX hH hS hL)
theorem pm_imul {x w : Int32} (hd : decode cc pc = .ok (.imul, 1)) (kk : PW l P y cc nL ret R Tg k n (pc + 1) ls (.int (x * w) :: st) G I L) : PW l P y cc nL ret R Tg k n pc ls (.int w :: .int x :: st) G I L := by
  intro p e s m args below meth c H locs a C hT hX hH hS hL
  exact lv_imul C.1 C.2.1 hd (kk p e s m args below meth c H locs a C hT hX hH hS hL)
theorem pm_iand {x w : Int32} (hd : decode cc pc = .ok (.iand, 1)) (kk : PW l P y cc nL ret R Tg k n (pc + 1) ls (.int (x &&& w) :: st) G I L) : PW l P y cc nL ret R Tg k n pc ls (.int w :: .int x :: st) G I L := by
  intro p e s m args below meth c H locs a C hT hX hH hS hL
  exact lv_iand C.1 C.2.1 hd (kk p e s m args below meth c H locs a C hT hX hH hS hL)
theorem pm_ior {x w : Int32} (hd : decode cc pc = .ok (.ior, 1)) (kk : PW l P y cc nL ret R Tg k n (pc + 1) ls (.int (x ||| w) :: st) G I L) : PW l P y cc nL ret R Tg k n pc ls (.int w :: .int x :: st) G I L := by
  intro p e s m args below meth c H locs a C hT hX hH hS hL
  exact lv_ior C.1 C.2.1 hd (kk p e s m args below meth c H locs a C hT hX hH hS hL)
theorem pm_ixor {x w : Int32} (hd : decode cc pc = .ok (.ixor, 1)) (kk : PW l P y cc nL ret R Tg k n (pc + 1) ls (.int (x ^^^ w) :: st) G I L) : PW l P y cc nL ret R Tg k n pc ls (.int w :: .int x :: st) G I L := by
  intro p e s m args below meth c H locs a C hT hX hH hS hL
  exact lv_ixor C.1 C.2.1 hd (kk p e s m args below meth c H locs a C hT hX hH hS hL)
theorem pm_ishl {x w : Int32} (hd : decode cc pc = .ok (.ishl, 1)) (kk : PW l P y cc nL ret R Tg k n (pc + 1) ls (.int (x <<< (w &&& 31)) :: st) G I L) : PW l P y cc nL ret R Tg k n pc ls (.int w :: .int x :: st) G I L := by
  intro p e s m args below meth c H locs a C hT hX hH hS hL
  exact lv_ishl C.1 C.2.1 hd (kk p e s m args below meth c H locs a C hT hX hH hS hL)
theorem pm_ishr {x w : Int32} (hd : decode cc pc = .ok (.ishr, 1)) (kk : PW l P y cc nL ret R Tg k n (pc + 1) ls (.int (x >>> (w &&& 31)) :: st) G I L) : PW l P y cc nL ret R Tg k n pc ls (.int w :: .int x :: st) G I L := by
  intro p e s m args below meth c H locs a C hT hX hH hS hL
  exact lv_ishr C.1 C.2.1 hd (kk p e s m args below meth c H locs a C hT hX hH hS hL)
theorem pm_idiv {x w : Int32} (hd : decode cc pc = .ok (.idiv, 1)) (hne : ¬ w = 0) (kk : PW l P y cc nL ret R Tg k n (pc + 1) ls (.int (x / w) :: st) G I L) : PW l P y cc nL ret R Tg k n pc ls (.int w :: .int x :: st) G I L := by
  intro p e s m args below meth c H locs a C hT hX hH hS hL
  exact lv_idiv C.1 C.2.1 hd hne (kk p e s m args below meth c H locs a C hT hX hH hS hL)
theorem pm_irem {x w : Int32} (hd : decode cc pc = .ok (.irem, 1)) (hne : ¬ w = 0) (kk : PW l P y cc nL ret R Tg k n (pc + 1) ls (.int (x - x / w * w) :: st) G I L) : PW l P y cc nL ret R Tg k n pc ls (.int w :: .int x :: st) G I L := by
  intro p e s m args below meth c H locs a C hT hX hH hS hL
  exact lv_irem C.1 C.2.1 hd hne (kk p e s m args below meth c H locs a C hT hX hH hS hL)
theorem pm_ineg {x : Int32} (hd : decode cc pc = .ok (.ineg, 1)) (kk : PW l P y cc nL ret R Tg k n (pc + 1) ls (.int (-x) :: st) G I L) : PW l P y cc nL ret R Tg k n pc ls (.int x :: st) G I L := by
  intro p e s m args below meth c H locs a C hT hX hH hS hL
  exact lv_ineg C.1 C.2.1 hd (kk p e s m args below meth c H locs a C hT hX hH hS hL)
theorem pm_land {x w : Int64} (hd : decode cc pc = .ok (.land, 1)) (kk : PW l P y cc nL ret R Tg k n (pc + 1) ls (.long (x &&& w) :: st) G I L) : PW l P y cc nL ret R Tg k n pc ls (.long w :: .long x :: st) G I L := by
  intro p e s m args below meth c H locs a C hT hX hH hS hL
  exact lv_land C.1 C.2.1 hd (kk p e s m args below meth c H locs a C hT hX hH hS hL)
theorem pm_lor {x w : Int64} (hd : decode cc pc = .ok (.lor, 1)) (kk : PW l P y cc nL ret R Tg k n (pc + 1) ls (.long (x ||| w) :: st) G I L) : PW l P y cc nL ret R Tg k n pc ls (.long w :: .long x :: st) G I L := by
  intro p e s m args below meth c H locs a C hT hX hH hS hL
  exact lv_lor C.1 C.2.1 hd (kk p e s m args below meth c H locs a C hT hX hH hS hL)
theorem pm_lsub {x w : Int64} (hd : decode cc pc = .ok (.lsub, 1)) (kk : PW l P y cc nL ret R Tg k n (pc + 1) ls (.long (x - w) :: st) G I L) : PW l P y cc nL ret R Tg k n pc ls (.long w :: .long x :: st) G I L := by
  intro p e s m args below meth c H locs a C hT hX hH hS hL
  exact lv_lsub C.1 C.2.1 hd (kk p e s m args below meth c H locs a C hT hX hH hS hL)
theorem pm_lxor {x w : Int64} (hd : decode cc pc = .ok (.lxor, 1)) (kk : PW l P y cc nL ret R Tg k n (pc + 1) ls (.long (x ^^^ w) :: st) G I L) : PW l P y cc nL ret R Tg k n pc ls (.long w :: .long x :: st) G I L := by
  intro p e s m args below meth c H locs a C hT hX hH hS hL
  exact lv_lxor C.1 C.2.1 hd (kk p e s m args below meth c H locs a C hT hX hH hS hL)
theorem pm_ladd {x w : Int64} (hd : decode cc pc = .ok (.ladd, 1)) (kk : PW l P y cc nL ret R Tg k n (pc + 1) ls (.long (x + w) :: st) G I L) : PW l P y cc nL ret R Tg k n pc ls (.long w :: .long x :: st) G I L := by
  intro p e s m args below meth c H locs a C hT hX hH hS hL
  exact lv_ladd C.1 C.2.1 hd (kk p e s m args below meth c H locs a C hT hX hH hS hL)
theorem pm_lcmp {x w : Int64} (hd : decode cc pc = .ok (.lcmp, 1)) (kk : PW l P y cc nL ret R Tg k n (pc + 1) ls (.int (lg_cmp x w) :: st) G I L) : PW l P y cc nL ret R Tg k n pc ls (.long w :: .long x :: st) G I L := by
  intro p e s m args below meth c H locs a C hT hX hH hS hL
  exact W.lcmp C.1 C.2.1 hd (kk p e s m args below meth c H locs a C hT hX hH hS hL)
theorem pm_lshl {x : Int64} {y1 : Int32} (hd : decode cc pc = .ok (.lshl, 1)) (kk : PW l P y cc nL ret R Tg k n (pc + 1) ls (.long (x <<< (y1.toInt64 &&& 63)) :: st) G I L) : PW l P y cc nL ret R Tg k n pc ls (.int y1 :: .long x :: st) G I L := by
  intro p e s m args below meth c H locs a C hT hX hH hS hL
  exact lv_lshl C.1 C.2.1 hd rfl (kk p e s m args below meth c H locs a C hT hX hH hS hL)
theorem pm_lshr {x : Int64} {y1 : Int32} (hd : decode cc pc = .ok (.lshr, 1)) (kk : PW l P y cc nL ret R Tg k n (pc + 1) ls (.long (x >>> (y1.toInt64 &&& 63)) :: st) G I L) : PW l P y cc nL ret R Tg k n pc ls (.int y1 :: .long x :: st) G I L := by
  intro p e s m args below meth c H locs a C hT hX hH hS hL
  exact lv_lshr C.1 C.2.1 hd rfl (kk p e s m args below meth c H locs a C hT hX hH hS hL)
theorem pm_i2l {x : Int32} (hd : decode cc pc = .ok (.i2l, 1)) (kk : PW l P y cc nL ret R Tg k n (pc + 1) ls (.long x.toInt64 :: st) G I L) : PW l P y cc nL ret R Tg k n pc ls (.int x :: st) G I L := by
  intro p e s m args below meth c H locs a C hT hX hH hS hL
  exact lv_i2l C.1 C.2.1 hd rfl (kk p e s m args below meth c H locs a C hT hX hH hS hL)
theorem pm_l2i {x : Int64} (hd : decode cc pc = .ok (.l2i, 1)) (kk : PW l P y cc nL ret R Tg k n (pc + 1) ls (.int x.toInt32 :: st) G I L) : PW l P y cc nL ret R Tg k n pc ls (.long x :: st) G I L := by
  intro p e s m args below meth c H locs a C hT hX hH hS hL
  exact lv_l2i C.1 C.2.1 hd rfl (kk p e s m args below meth c H locs a C hT hX hH hS hL)
theorem pm_i2b {x : Int32} (hd : decode cc pc = .ok (.i2b, 1)) (kk : PW l P y cc nL ret R Tg k n (pc + 1) ls (.int x.toInt8.toInt32 :: st) G I L) : PW l P y cc nL ret R Tg k n pc ls (.int x :: st) G I L := by
  intro p e s m args below meth c H locs a C hT hX hH hS hL
  exact lv_i2b C.1 C.2.1 hd rfl (kk p e s m args below meth c H locs a C hT hX hH hS hL)
theorem pm_i2c {x : Int32} (hd : decode cc pc = .ok (.i2c, 1)) (kk : PW l P y cc nL ret R Tg k n (pc + 1) ls (.int (x.toUInt32 % 65536).toInt32 :: st) G I L) : PW l P y cc nL ret R Tg k n pc ls (.int x :: st) G I L := by
  intro p e s m args below meth c H locs a C hT hX hH hS hL
  exact lv_i2c C.1 C.2.1 hd rfl (kk p e s m args below meth c H locs a C hT hX hH hS hL)
theorem pm_iconst {j : Int} {v : Int32} (hd : decode cc pc = .ok (.iconst j, 1)) (hv : Int32.ofInt j = v) (kk : PW l P y cc nL ret R Tg k n (pc + 1) ls (.int v :: st) G I L) : PW l P y cc nL ret R Tg k n pc ls (st) G I L := by
  intro p e s m args below meth c H locs a C hT hX hH hS hL
  exact lv_iconst C.1 C.2.1 hd hv (kk p e s m args below meth c H locs a C hT hX hH hS hL)
theorem pm_bipush {j : Int} {v : Int32} (hd : decode cc pc = .ok (.bipush j, 2)) (hv : (Int8.ofInt j).toInt32 = v) (kk : PW l P y cc nL ret R Tg k n (pc + 2) ls (.int v :: st) G I L) : PW l P y cc nL ret R Tg k n pc ls (st) G I L := by
  intro p e s m args below meth c H locs a C hT hX hH hS hL
  exact lv_bipush C.1 C.2.1 hd hv (kk p e s m args below meth c H locs a C hT hX hH hS hL)
theorem pm_sipush {j : Int} {v : Int32} (hd : decode cc pc = .ok (.sipush j, 3)) (hv : (Int16.ofInt j).toInt32 = v) (kk : PW l P y cc nL ret R Tg k n (pc + 3) ls (.int v :: st) G I L) : PW l P y cc nL ret R Tg k n pc ls (st) G I L := by
  intro p e s m args below meth c H locs a C hT hX hH hS hL
  exact lv_sipush C.1 C.2.1 hd hv (kk p e s m args below meth c H locs a C hT hX hH hS hL)
theorem pm_lconst {j : Fin 2} {v : Int64} (hd : decode cc pc = .ok (.lconst j, 1)) (hv : Int64.ofNat (j : Nat) = v) (kk : PW l P y cc nL ret R Tg k n (pc + 1) ls (.long v :: st) G I L) : PW l P y cc nL ret R Tg k n pc ls (st) G I L := by
  intro p e s m args below meth c H locs a C hT hX hH hS hL
  exact lv_lconst C.1 C.2.1 hd hv (kk p e s m args below meth c H locs a C hT hX hH hS hL)
theorem pm_null {u : Unit} (hd : decode cc pc = .ok (.aconst_null, 1)) (kk : PW l P y cc nL ret R Tg k n (pc + 1) ls (.null :: st) G I L) : PW l P y cc nL ret R Tg k n pc ls (st) G I L := by
  intro p e s m args below meth c H locs a C hT hX hH hS hL
  exact lv_null C.1 C.2.1 hd (kk p e s m args below meth c H locs a C hT hX hH hS hL)
theorem pm_pop {v : Value} (hd : decode cc pc = .ok (.pop, 1)) (hc : v.category = 1) (kk : PW l P y cc nL ret R Tg k n (pc + 1) ls (st) G I L) : PW l P y cc nL ret R Tg k n pc ls (v :: st) G I L := by
  intro p e s m args below meth c H locs a C hT hX hH hS hL
  exact lv_pop C.1 C.2.1 hd (by rw [pm_v_cat]; exact hc) (kk p e s m args below meth c H locs a C hT hX hH hS hL)
theorem pm_dup {v : Value} (hd : decode cc pc = .ok (.dup, 1)) (hc : v.category = 1) (kk : PW l P y cc nL ret R Tg k n (pc + 1) ls (v :: v :: st) G I L) : PW l P y cc nL ret R Tg k n pc ls (v :: st) G I L := by
  intro p e s m args below meth c H locs a C hT hX hH hS hL
  exact lv_dup C.1 C.2.1 hd (by rw [pm_v_cat]; exact hc) (kk p e s m args below meth c H locs a C hT hX hH hS hL)
theorem pm_dup2 {v w : Value} (hd : decode cc pc = .ok (.dup2, 1)) (hc : v.category = 1) (hc2 : w.category = 1) (kk : PW l P y cc nL ret R Tg k n (pc + 1) ls (v :: w :: v :: w :: st) G I L) : PW l P y cc nL ret R Tg k n pc ls (v :: w :: st) G I L := by
  intro p e s m args below meth c H locs a C hT hX hH hS hL
  exact lv_dup2_11 C.1 C.2.1 hd (by rw [pm_v_cat]; exact hc) (by rw [pm_v_cat]; exact hc2) (kk p e s m args below meth c H locs a C hT hX hH hS hL)
theorem pm_iload_n {j : Fin 4} {x : Int32} (hd : decode cc pc = .ok (.iload_n j, 1)) (hl : ls[(j : Nat)]? = some (some (.int x))) (kk : PW l P y cc nL ret R Tg k n (pc + 1) ls (.int x :: st) G I L) : PW l P y cc nL ret R Tg k n pc ls (st) G I L := by
  intro p e s m args below meth c H locs a C hT hX hH hS hL
  exact lv_iload_n C.1 C.2.1 hd rfl (hL.2.2 _ _ hl) (kk p e s m args below meth c H locs a C hT hX hH hS hL)
theorem pm_iload {j : Nat} {x : Int32} (hd : decode cc pc = .ok (.iload j, 2)) (hl : ls[j]? = some (some (.int x))) (kk : PW l P y cc nL ret R Tg k n (pc + 2) ls (.int x :: st) G I L) : PW l P y cc nL ret R Tg k n pc ls (st) G I L := by
  intro p e s m args below meth c H locs a C hT hX hH hS hL
  exact lv_iload C.1 C.2.1 hd (hL.2.2 _ _ hl) (kk p e s m args below meth c H locs a C hT hX hH hS hL)
theorem pm_lload_n {j : Fin 4} {x : Int64} (hd : decode cc pc = .ok (.lload_n j, 1)) (hl : ls[(j : Nat)]? = some (some (.long x))) (kk : PW l P y cc nL ret R Tg k n (pc + 1) ls (.long x :: st) G I L) : PW l P y cc nL ret R Tg k n pc ls (st) G I L := by
  intro p e s m args below meth c H locs a C hT hX hH hS hL
  exact lv_lload_n C.1 C.2.1 hd rfl (hL.2.2 _ _ hl) (kk p e s m args below meth c H locs a C hT hX hH hS hL)
theorem pm_lload {j : Nat} {x : Int64} (hd : decode cc pc = .ok (.lload j, 2)) (hl : ls[j]? = some (some (.long x))) (kk : PW l P y cc nL ret R Tg k n (pc + 2) ls (.long x :: st) G I L) : PW l P y cc nL ret R Tg k n pc ls (st) G I L := by
  intro p e s m args below meth c H locs a C hT hX hH hS hL
  exact lv_lload C.1 C.2.1 hd (hL.2.2 _ _ hl) (kk p e s m args below meth c H locs a C hT hX hH hS hL)
theorem pm_aload_n {j : Fin 4} {x : Nat} (hd : decode cc pc = .ok (.aload_n j, 1)) (hl : ls[(j : Nat)]? = some (some (.ref x))) (kk : PW l P y cc nL ret R Tg k n (pc + 1) ls (.ref x :: st) G I L) : PW l P y cc nL ret R Tg k n pc ls (st) G I L := by
  intro p e s m args below meth c H locs a C hT hX hH hS hL
  exact lv_aload_n C.1 C.2.1 hd rfl (hL.2.2 _ _ hl) (kk p e s m args below meth c H locs a C hT hX hH hS hL)
theorem pm_aload {j : Nat} {x : Nat} (hd : decode cc pc = .ok (.aload j, 2)) (hl : ls[j]? = some (some (.ref x))) (kk : PW l P y cc nL ret R Tg k n (pc + 2) ls (.ref x :: st) G I L) : PW l P y cc nL ret R Tg k n pc ls (st) G I L := by
  intro p e s m args below meth c H locs a C hT hX hH hS hL
  exact lv_aload C.1 C.2.1 hd (hL.2.2 _ _ hl) (kk p e s m args below meth c H locs a C hT hX hH hS hL)
theorem pm_aload_nN {j : Fin 4} (hd : decode cc pc = .ok (.aload_n j, 1)) (hl : ls[(j : Nat)]? = some (some .null)) (kk : PW l P y cc nL ret R Tg k n (pc + 1) ls (.null :: st) G I L) : PW l P y cc nL ret R Tg k n pc ls (st) G I L := by
  intro p e s m args below meth c H locs a C hT hX hH hS hL
  exact lv_aload_nN C.1 C.2.1 hd rfl (hL.2.2 _ _ hl) (kk p e s m args below meth c H locs a C hT hX hH hS hL)
theorem pm_aloadN {j : Nat} (hd : decode cc pc = .ok (.aload j, 2)) (hl : ls[j]? = some (some .null)) (kk : PW l P y cc nL ret R Tg k n (pc + 2) ls (.null :: st) G I L) : PW l P y cc nL ret R Tg k n pc ls (st) G I L := by
  intro p e s m args below meth c H locs a C hT hX hH hS hL
  exact lv_aloadN C.1 C.2.1 hd (hL.2.2 _ _ hl) (kk p e s m args below meth c H locs a C hT hX hH hS hL)
theorem pm_istore_n {j : Fin 4} {x : Int32} (hd : decode cc pc = .ok (.istore_n j, 1)) (hn : (j : Nat) < nL) (hf : pm_fr ls (j : Nat) = true) (kk : PW l P y cc nL ret R Tg k n (pc + 1) (ls.set (j : Nat) (some (.int x))) st G I L) : PW l P y cc nL ret R Tg k n pc ls (.int x :: st) G I L := by
  intro p e s m args below meth c H locs a C hT hX hH hS hL
  exact lv_istore_n C.1 C.2.1 hd rfl (hL.has) hn rfl (fun a' h' => kk p e s m args below meth c H locs a' C hT hX hH hS (pm_st1 (v := .int x) hf h'))
theorem pm_istore {j : Nat} {x : Int32} (hd : decode cc pc = .ok (.istore j, 2)) (hn : j < nL) (hf : pm_fr ls j = true) (kk : PW l P y cc nL ret R Tg k n (pc + 2) (ls.set j (some (.int x))) st G I L) : PW l P y cc nL ret R Tg k n pc ls (.int x :: st) G I L := by
  intro p e s m args below meth c H locs a C hT hX hH hS hL
  exact lv_istore C.1 C.2.1 hd (hL.has) hn rfl (fun a' h' => kk p e s m args below meth c H locs a' C hT hX hH hS (pm_st1 (v := .int x) hf h'))
theorem pm_astore_n {j : Fin 4} {x : Nat} (hd : decode cc pc = .ok (.astore_n j, 1)) (hn : (j : Nat) < nL) (hf : pm_fr ls (j : Nat) = true) (kk : PW l P y cc nL ret R Tg k n (pc + 1) (ls.set (j : Nat) (some (.ref x))) st G I L) : PW l P y cc nL ret R Tg k n pc ls (.ref x :: st) G I L := by
  intro p e s m args below meth c H locs a C hT hX hH hS hL
  exact lv_astore_n C.1 C.2.1 hd rfl (hL.has) hn rfl (fun a' h' => kk p e s m args below meth c H locs a' C hT hX hH hS (pm_st1 (v := .ref x) hf h'))
theorem pm_astore {j : Nat} {x : Nat} (hd : decode cc pc = .ok (.astore j, 2)) (hn : j < nL) (hf : pm_fr ls j = true) (kk : PW l P y cc nL ret R Tg k n (pc + 2) (ls.set j (some (.ref x))) st G I L) : PW l P y cc nL ret R Tg k n pc ls (.ref x :: st) G I L := by
  intro p e s m args below meth c H locs a C hT hX hH hS hL
  exact lv_astore C.1 C.2.1 hd (hL.has) hn rfl (fun a' h' => kk p e s m args below meth c H locs a' C hT hX hH hS (pm_st1 (v := .ref x) hf h'))
theorem pm_astore_nN {j : Fin 4} (hd : decode cc pc = .ok (.astore_n j, 1)) (hn : (j : Nat) < nL) (hf : pm_fr ls (j : Nat) = true) (kk : PW l P y cc nL ret R Tg k n (pc + 1) (ls.set (j : Nat) (some .null)) st G I L) : PW l P y cc nL ret R Tg k n pc ls (.null :: st) G I L := by
  intro p e s m args below meth c H locs a C hT hX hH hS hL
  exact lv_astore_nN C.1 C.2.1 hd rfl (hL.has) hn rfl (fun a' h' => kk p e s m args below meth c H locs a' C hT hX hH hS (pm_st1 (v := .null) hf h'))
theorem pm_lstore_n {j : Fin 4} {x : Int64} (hd : decode cc pc = .ok (.lstore_n j, 1)) (hn : (j : Nat) + 1 < nL) (hf : pm_fr ls (j : Nat) = true) (kk : PW l P y cc nL ret R Tg k n (pc + 1) ((ls.set (j : Nat) (some (.long x))).set ((j : Nat) + 1) none) st G I L) : PW l P y cc nL ret R Tg k n pc ls (.long x :: st) G I L := by
  intro p e s m args below meth c H locs a C hT hX hH hS hL
  exact lv_lstore_n C.1 C.2.1 hd rfl (hL.has) hn rfl (fun a' h' => kk p e s m args below meth c H locs a' C hT hX hH hS (pm_st2 (v := .long x) hf h'))
theorem pm_astoreN {j : Nat} (hd : decode cc pc = .ok (.astore j, 2)) (hn : j < nL) (hf : pm_fr ls j = true) (kk : PW l P y cc nL ret R Tg k n (pc + 2) (ls.set j (some .null)) st G I L) : PW l P y cc nL ret R Tg k n pc ls (.null :: st) G I L := by
  intro p e s m args below meth c H locs a C hT hX hH hS hL
  exact lv_astoreN C.1 C.2.1 hd (hL.has) hn rfl (fun a' h' => kk p e s m args below meth c H locs a' C hT hX hH hS (pm_st1 (v := .null) hf h'))
theorem pm_lstore {j : Nat} {x : Int64} (hd : decode cc pc = .ok (.lstore j, 2)) (hn : j + 1 < nL) (hf : pm_fr ls j = true) (kk : PW l P y cc nL ret R Tg k n (pc + 2) ((ls.set j (some (.long x))).set (j + 1) none) st G I L) : PW l P y cc nL ret R Tg k n pc ls (.long x :: st) G I L := by
  intro p e s m args below meth c H locs a C hT hX hH hS hL
  exact lv_lstore C.1 C.2.1 hd (hL.has) hn rfl (fun a' h' => kk p e s m args below meth c H locs a' C hT hX hH hS (pm_st2 (v := .long x) hf h'))
theorem pm_iinc {j : Nat} {q : Int} {x v : Int32} (hd : decode cc pc = .ok (.iinc j q, 3)) (hl : ls[j]? = some (some (.int x))) (hv : x + Int32.ofInt q = v) (hn : j < nL) (hf : pm_fr ls j = true) (kk : PW l P y cc nL ret R Tg k n (pc + 3) (ls.set j (some (.int v))) st G I L) : PW l P y cc nL ret R Tg k n pc ls st G I L := by
  intro p e s m args below meth c H locs a C hT hX hH hS hL
  obtain ⟨i9, h9⟩ := List.getElem?_of_mem (pm_prs_in (P := P) hl)
  exact lv_iinc C.1 C.2.1 hd (hL.has) h9 hv hn rfl (fun a' h' => kk p e s m args below meth c H locs a' C hT hX hH hS (pm_st1 (v := .int v) hf h'))
theorem pm_if_eq {x : Int32} {off : Int} {tgt : Nat} (hd : decode cc pc = .ok (.ifCond .eq off, 3)) (ht : (pc : Int) + off = (tgt : Int)) (kt : x = 0 → PW l P y cc nL ret R Tg k n tgt ls st G I L) (kf : ¬ x = 0 → PW l P y cc nL ret R Tg k n (pc + 3) ls st G I L) : PW l P y cc nL ret R Tg k n pc ls (.int x :: st) G I L := by
  intro p e s m args below meth c H locs a C hT hX hH hS hL
  exact lv_if_eq C.1 C.2.1 hd ht (fun q => kt q p e s m args below meth c H locs a C hT hX hH hS hL) (fun q => kf q p e s m args below meth c H locs a C hT hX hH hS hL)
theorem pm_if_ne {x : Int32} {off : Int} {tgt : Nat} (hd : decode cc pc = .ok (.ifCond .ne off, 3)) (ht : (pc : Int) + off = (tgt : Int)) (kt : ¬ x = 0 → PW l P y cc nL ret R Tg k n tgt ls st G I L) (kf : x = 0 → PW l P y cc nL ret R Tg k n (pc + 3) ls st G I L) : PW l P y cc nL ret R Tg k n pc ls (.int x :: st) G I L := by
  intro p e s m args below meth c H locs a C hT hX hH hS hL
  exact lv_if_ne C.1 C.2.1 hd ht (fun q => kt q p e s m args below meth c H locs a C hT hX hH hS hL) (fun q => kf q p e s m args below meth c H locs a C hT hX hH hS hL)
theorem pm_if_lt {x : Int32} {off : Int} {tgt : Nat} (hd : decode cc pc = .ok (.ifCond .lt off, 3)) (ht : (pc : Int) + off = (tgt : Int)) (kt : x < 0 → PW l P y cc nL ret R Tg k n tgt ls st G I L) (kf : ¬ x < 0 → PW l P y cc nL ret R Tg k n (pc + 3) ls st G I L) : PW l P y cc nL ret R Tg k n pc ls (.int x :: st) G I L := by
  intro p e s m args below meth c H locs a C hT hX hH hS hL
  exact lv_if_lt C.1 C.2.1 hd ht (fun q => kt q p e s m args below meth c H locs a C hT hX hH hS hL) (fun q => kf q p e s m args below meth c H locs a C hT hX hH hS hL)
theorem pm_if_ge {x : Int32} {off : Int} {tgt : Nat} (hd : decode cc pc = .ok (.ifCond .ge off, 3)) (ht : (pc : Int) + off = (tgt : Int)) (kt : 0 ≤ x → PW l P y cc nL ret R Tg k n tgt ls st G I L) (kf : ¬ 0 ≤ x → PW l P y cc nL ret R Tg k n (pc + 3) ls st G I L) : PW l P y cc nL ret R Tg k n pc ls (.int x :: st) G I L := by
  intro p e s m args below meth c H locs a C hT hX hH hS hL
  exact lv_if_ge C.1 C.2.1 hd ht (fun q => kt q p e s m args below meth c H locs a C hT hX hH hS hL) (fun q => kf q p e s m args below meth c H locs a C hT hX hH hS hL)
theorem pm_if_gt {x : Int32} {off : Int} {tgt : Nat} (hd : decode cc pc = .ok (.ifCond .gt off, 3)) (ht : (pc : Int) + off = (tgt : Int)) (kt : 0 < x → PW l P y cc nL ret R Tg k n tgt ls st G I L) (kf : ¬ 0 < x → PW l P y cc nL ret R Tg k n (pc + 3) ls st G I L) : PW l P y cc nL ret R Tg k n pc ls (.int x :: st) G I L := by
  intro p e s m args below meth c H locs a C hT hX hH hS hL
  exact lv_if_gt C.1 C.2.1 hd ht (fun q => kt q p e s m args below meth c H locs a C hT hX hH hS hL) (fun q => kf q p e s m args below meth c H locs a C hT hX hH hS hL)
theorem pm_if_le {x : Int32} {off : Int} {tgt : Nat} (hd : decode cc pc = .ok (.ifCond .le off, 3)) (ht : (pc : Int) + off = (tgt : Int)) (kt : x ≤ 0 → PW l P y cc nL ret R Tg k n tgt ls st G I L) (kf : ¬ x ≤ 0 → PW l P y cc nL ret R Tg k n (pc + 3) ls st G I L) : PW l P y cc nL ret R Tg k n pc ls (.int x :: st) G I L := by
  intro p e s m args below meth c H locs a C hT hX hH hS hL
  exact lv_if_le C.1 C.2.1 hd ht (fun q => kt q p e s m args below meth c H locs a C hT hX hH hS hL) (fun q => kf q p e s m args below meth c H locs a C hT hX hH hS hL)
theorem pm_icmp_eq {x y1 : Int32} {off : Int} {tgt : Nat} (hd : decode cc pc = .ok (.if_icmp .eq off, 3)) (ht : (pc : Int) + off = (tgt : Int)) (kt : x = y1 → PW l P y cc nL ret R Tg k n tgt ls st G I L) (kf : ¬ x = y1 → PW l P y cc nL ret R Tg k n (pc + 3) ls st G I L) : PW l P y cc nL ret R Tg k n pc ls (.int y1 :: .int x :: st) G I L := by
  intro p e s m args below meth c H locs a C hT hX hH hS hL
  exact lv_icmp_eq C.1 C.2.1 hd ht (fun q => kt q p e s m args below meth c H locs a C hT hX hH hS hL) (fun q => kf q p e s m args below meth c H locs a C hT hX hH hS hL)
theorem pm_icmp_ne {x y1 : Int32} {off : Int} {tgt : Nat} (hd : decode cc pc = .ok (.if_icmp .ne off, 3)) (ht : (pc : Int) + off = (tgt : Int)) (kt : ¬ x = y1 → PW l P y cc nL ret R Tg k n tgt ls st G I L) (kf : x = y1 → PW l P y cc nL ret R Tg k n (pc + 3) ls st G I L) : PW l P y cc nL ret R Tg k n pc ls (.int y1 :: .int x :: st) G I L := by
  intro p e s m args below meth c H locs a C hT hX hH hS hL
  exact lv_icmp_ne C.1 C.2.1 hd ht (fun q => kt q p e s m args below meth c H locs a C hT hX hH hS hL) (fun q => kf q p e s m args below meth c H locs a C hT hX hH hS hL)
theorem pm_icmp_lt {x y1 : Int32} {off : Int} {tgt : Nat} (hd : decode cc pc = .ok (.if_icmp .lt off, 3)) (ht : (pc : Int) + off = (tgt : Int)) (kt : x < y1 → PW l P y cc nL ret R Tg k n tgt ls st G I L) (kf : ¬ x < y1 → PW l P y cc nL ret R Tg k n (pc + 3) ls st G I L) : PW l P y cc nL ret R Tg k n pc ls (.int y1 :: .int x :: st) G I L := by
  intro p e s m args below meth c H locs a C hT hX hH hS hL
  exact lv_icmp_lt C.1 C.2.1 hd ht (fun q => kt q p e s m args below meth c H locs a C hT hX hH hS hL) (fun q => kf q p e s m args below meth c H locs a C hT hX hH hS hL)
theorem pm_icmp_ge {x y1 : Int32} {off : Int} {tgt : Nat} (hd : decode cc pc = .ok (.if_icmp .ge off, 3)) (ht : (pc : Int) + off = (tgt : Int)) (kt : y1 ≤ x → PW l P y cc nL ret R Tg k n tgt ls st G I L) (kf : ¬ y1 ≤ x → PW l P y cc nL ret R Tg k n (pc + 3) ls st G I L) : PW l P y cc nL ret R Tg k n pc ls (.int y1 :: .int x :: st) G I L := by
  intro p e s m args below meth c H locs a C hT hX hH hS hL
  exact lv_icmp_ge C.1 C.2.1 hd ht (fun q => kt q p e s m args below meth c H locs a C hT hX hH hS hL) (fun q => kf q p e s m args below meth c H locs a C hT hX hH hS hL)
theorem pm_icmp_gt {x y1 : Int32} {off : Int} {tgt : Nat} (hd : decode cc pc = .ok (.if_icmp .gt off, 3)) (ht : (pc : Int) + off = (tgt : Int)) (kt : y1 < x → PW l P y cc nL ret R Tg k n tgt ls st G I L) (kf : ¬ y1 < x → PW l P y cc nL ret R Tg k n (pc + 3) ls st G I L) : PW l P y cc nL ret R Tg k n pc ls (.int y1 :: .int x :: st) G I L := by
  intro p e s m args below meth c H locs a C hT hX hH hS hL
  exact lv_icmp_gt C.1 C.2.1 hd ht (fun q => kt q p e s m args below meth c H locs a C hT hX hH hS hL) (fun q => kf q p e s m args below meth c H locs a C hT hX hH hS hL)
theorem pm_icmp_le {x y1 : Int32} {off : Int} {tgt : Nat} (hd : decode cc pc = .ok (.if_icmp .le off, 3)) (ht : (pc : Int) + off = (tgt : Int)) (kt : x ≤ y1 → PW l P y cc nL ret R Tg k n tgt ls st G I L) (kf : ¬ x ≤ y1 → PW l P y cc nL ret R Tg k n (pc + 3) ls st G I L) : PW l P y cc nL ret R Tg k n pc ls (.int y1 :: .int x :: st) G I L := by
  intro p e s m args below meth c H locs a C hT hX hH hS hL
  exact lv_icmp_le C.1 C.2.1 hd ht (fun q => kt q p e s m args below meth c H locs a C hT hX hH hS hL) (fun q => kf q p e s m args below meth c H locs a C hT hX hH hS hL)
theorem pm_goto {off : Int} {tgt : Nat} (hd : decode cc pc = .ok (.goto off, 3)) (ht : (pc : Int) + off = (tgt : Int)) (kk : PW l P y cc nL ret R Tg k n tgt ls st G I L) : PW l P y cc nL ret R Tg k n pc ls st G I L := by
  intro p e s m args below meth c H locs a C hT hX hH hS hL
  exact lv_goto C.1 C.2.1 hd ht (kk p e s m args below meth c H locs a C hT hX hH hS hL)
theorem pm_ifnull {x : Nat} {off : Int} (hd : decode cc pc = .ok (.ifnull off, 3)) (kk : PW l P y cc nL ret R Tg k n (pc + 3) ls (st) G I L) : PW l P y cc nL ret R Tg k n pc ls (.ref x :: st) G I L := by
  intro p e s m args below meth c H locs a C hT hX hH hS hL
  exact lv_ifnull C.1 C.2.1 hd (kk p e s m args below meth c H locs a C hT hX hH hS hL)
theorem pm_ifnonnullN {off : Int} (hd : decode cc pc = .ok (.ifnonnull off, 3)) (kk : PW l P y cc nL ret R Tg k n (pc + 3) ls (st) G I L) : PW l P y cc nL ret R Tg k n pc ls (.null :: st) G I L := by
  intro p e s m args below meth c H locs a C hT hX hH hS hL
  exact lv_ifnonnullN C.1 C.2.1 hd (kk p e s m args below meth c H locs a C hT hX hH hS hL)
theorem pm_ifnonnull {x : Nat} {off : Int} {tgt : Nat} (hd : decode cc pc = .ok (.ifnonnull off, 3)) (ht : (pc : Int) + off = (tgt : Int)) (kk : PW l P y cc nL ret R Tg k n tgt ls st G I L) : PW l P y cc nL ret R Tg k n pc ls (.ref x :: st) G I L := by
  intro p e s m args below meth c H locs a C hT hX hH hS hL
  exact lv_ifnonnull C.1 C.2.1 hd ht (kk p e s m args below meth c H locs a C hT hX hH hS hL)
theorem pm_ifnullN {x : Nat} {off : Int} {tgt : Nat} (hd : decode cc pc = .ok (.ifnull off, 3)) (ht : (pc : Int) + off = (tgt : Int)) (kk : PW l P y cc nL ret R Tg k n tgt ls st G I L) : PW l P y cc nL ret R Tg k n pc ls (.null :: st) G I L := by
  intro p e s m args below meth c H locs a C hT hX hH hS hL
  exact lv_ifnullN C.1 C.2.1 hd ht (kk p e s m args below meth c H locs a C hT hX hH hS hL)
theorem pm_tableOut {dflt lo hi : Int} {offs : Array Int} {len : Nat} {x : Int32} {tgt : Nat} (hd : decode cc pc = .ok (.tableswitch dflt lo hi offs, len)) (h : x.toInt < lo ∨ hi < x.toInt) (ht : (pc : Int) + dflt = (tgt : Int)) (kk : PW l P y cc nL ret R Tg k n tgt ls st G I L) : PW l P y cc nL ret R Tg k n pc ls (.int x :: st) G I L := by
  intro p e s m args below meth c H locs a C hT hX hH hS hL
  exact lv_tableOut C.1 C.2.1 hd h ht (kk p e s m args below meth c H locs a C hT hX hH hS hL)
theorem pm_tableIn {dflt lo hi : Int} {offs : Array Int} {len : Nat} {x : Int32} {off : Int} {tgt : Nat} (hd : decode cc pc = .ok (.tableswitch dflt lo hi offs, len)) (h1 : ¬ x.toInt < lo) (h2 : ¬ hi < x.toInt) (ho : offs[(x.toInt - lo).toNat]? = some off) (ht : (pc : Int) + off = (tgt : Int)) (kk : PW l P y cc nL ret R Tg k n tgt ls st G I L) : PW l P y cc nL ret R Tg k n pc ls (.int x :: st) G I L := by
  intro p e s m args below meth c H locs a C hT hX hH hS hL
  exact lv_tableIn C.1 C.2.1 hd h1 h2 ho ht (kk p e s m args below meth c H locs a C hT hX hH hS hL)
theorem pm_lookup {dflt : Int} {ps : Array (Int × Int)} {len : Nat} {x : Int32} {off : Int} {tgt : Nat} (hd : decode cc pc = .ok (.lookupswitch dflt ps, len)) (hp : (ps.toList.zip (ps.toList.drop 1)).all (fun (a, next) => a.1 < next.1) = true) (ho : Op.lookupswitch.offset ps.toList dflt x.toInt = off) (ht : (pc : Int) + off = (tgt : Int)) (kk : PW l P y cc nL ret R Tg k n tgt ls st G I L) : PW l P y cc nL ret R Tg k n pc ls (.int x :: st) G I L := by
  intro p e s m args below meth c H locs a C hT hX hH hS hL
  exact lv_lookup C.1 C.2.1 hd hp ho ht (kk p e s m args below meth c H locs a C hT hX hH hS hL)
theorem pm_ldc {ix : Nat} {v : Int32} (hc : Cond.constant y.cls ix v ∈ TB) (hd : decode cc pc = .ok (.ldc ix, 2)) (kk : PW l P y cc nL ret R Tg k n (pc + 2) ls (.int v :: st) G I L) : PW l P y cc nL ret R Tg k n pc ls st G I L := by
  intro p e s m args below meth c H locs a C hT hX hH hS hL
  exact lv_ldc C.1 C.2.1 C.2.2.2.1 (C.2.2.2.2.2.2.2 _ hc) hd (kk p e s m args below meth c H locs a C hT hX hH hS hL)
theorem pm_ldcw {ix : Nat} {v : Int32} (hc : Cond.constant y.cls ix v ∈ TB) (hd : decode cc pc = .ok (.ldc_w ix, 3)) (kk : PW l P y cc nL ret R Tg k n (pc + 3) ls (.int v :: st) G I L) : PW l P y cc nL ret R Tg k n pc ls st G I L := by
  intro p e s m args below meth c H locs a C hT hX hH hS hL
  exact lv_ldcw C.1 C.2.1 C.2.2.2.1 (C.2.2.2.2.2.2.2 _ hc) hd (kk p e s m args below meth c H locs a C hT hX hH hS hL)
theorem pm_ldc2 {ix : Nat} {v : Int64} (hc : Cond.constantLong y.cls ix v ∈ TB) (hd : decode cc pc = .ok (.ldc2_w ix, 3)) (kk : PW l P y cc nL ret R Tg k n (pc + 3) ls (.long v :: st) G I L) : PW l P y cc nL ret R Tg k n pc ls st G I L := by
  intro p e s m args below meth c H locs a C hT hX hH hS hL
  exact lv_ldc2 C.1 C.2.1 C.2.2.2.1 (C.2.2.2.2.2.2.2 _ hc) hd (kk p e s m args below meth c H locs a C hT hX hH hS hL)
theorem pm_ldcS {ix : Nat} (q : String × Nat × String × Nat) (hq : q ∈ NT) (h1 : q.1 = y.cls) (h2 : q.2.1 = ix) (h3 : q.2.2.2 < 1000) (hd : decode cc pc = .ok (.ldc ix, 2)) (kk : PW l P y cc nL ret R Tg k n (pc + 2) ls (.ref (1000 + q.2.2.2) :: st) G I L) : PW l P y cc nL ret R Tg k n pc ls st G I L := by
  intro p e s m args below meth c H locs a C hT hX hH hS hL
  have hz := hT.2.2.1 q hq
  rw [h1, h2] at hz
  refine va_ldcS C.1 C.2.1 C.2.2.2.1 hz hd ?_
  have e1 : pm_ad P (1000 + q.2.2.2) = pm_aK P q.2.2.2 := by
    rw [pm_ad, if_neg (by omega), if_pos (by omega), Nat.add_sub_cancel_left]
  have k1 := kk p e s m args below meth c H locs a C hT hX hH hS hL
  rw [List.map_cons] at k1
  show W p l e R s m args below meth c H locs k n (Tg below args s) (F0 m (pc + 2) a (.ref (pm_aK P q.2.2.2) :: st.map (pm_v P)))
  rw [← e1]
  exact k1
theorem pm_fget {P : pm_E} {f : Nat → Int32} {fs : List (Option (Option Nat))} {j : Nat} {o : Option (Option Nat)} (h : fs[j]? = some o) : (fs.zipIdx.map (pm_f P f))[j]? = some (pm_f P f (o, j)) := by
  simp [List.getElem?_map, List.getElem?_zipIdx, h]
/-- a field of numbers -/
theorem pm_get {o ci j N ix : Nat} {C0 : String} {T : u_T} {fs : List (Option (Option Nat))} (hg : G[o]? = some (.inl (ci, fs))) (hc : vwCl[ci]? = some (C0, T, N)) (hin : ∀ w ∈ u_ws C0 T N, w ∈ TB) (hj : j < N) (hl : Cond.fieldLink y.cls ix (T j).1 (T j).2.1 (T j).2.2.1 ∈ TB) (hf : fs[j]? = some none) (hd : decode cc pc = .ok (.getfield ix, 3)) (kk : PW l P y cc nL ret R Tg k n (pc + 3) ls (.int (I o j) :: st) G I L) : PW l P y cc nL ret R Tg k n pc ls (.ref o :: st) G I L := by
  intro p e s m args below meth c H locs a C hT hX hH hS hL
  exact va_get (ref := (T j).1) (ci := ci) (C := C0) (T := T) (N := N) (v := .int (I o j)) C.1 C.2.1 C.2.2.2.2.2.2.2 hin C.2.2.2.1 hT.1 hH.1 o (hH.at hg) hc j hj (C.2.2.2.2.2.2.2 _ hl) (fun _ h => h) (pm_fget hf) hd (kk p e s m args below meth c H locs a C hT hX hH hS hL)
/-- a field that is a told reference -/
theorem pm_getr {o ci j N ix r : Nat} {C0 : String} {T : u_T} {fs : List (Option (Option Nat))} (hg : G[o]? = some (.inl (ci, fs))) (hc : vwCl[ci]? = some (C0, T, N)) (hin : ∀ w ∈ u_ws C0 T N, w ∈ TB) (hj : j < N) (hl : Cond.fieldLink y.cls ix (T j).1 (T j).2.1 (T j).2.2.1 ∈ TB) (hf : fs[j]? = some (some (some r))) (hd : decode cc pc = .ok (.getfield ix, 3)) (kk : PW l P y cc nL ret R Tg k n (pc + 3) ls (.ref r :: st) G I L) : PW l P y cc nL ret R Tg k n pc ls (.ref o :: st) G I L := by
  intro p e s m args below meth c H locs a C hT hX hH hS hL
  exact va_get (ref := (T j).1) (ci := ci) (C := C0) (T := T) (N := N) (v := .ref (pm_ad P r)) C.1 C.2.1 C.2.2.2.2.2.2.2 hin C.2.2.2.1 hT.1 hH.1 o (hH.at hg) hc j hj (C.2.2.2.2.2.2.2 _ hl) (fun _ h => h) (pm_fget hf) hd (kk p e s m args below meth c H locs a C hT hX hH hS hL)
theorem pm_fset {P : pm_E} {f : Nat → Int32} {fs : List (Option (Option Nat))} {j : Nat} {x : Int32} (h : fs[j]? = some none) : (fs.zipIdx.map (pm_f P f)).set j (.int x) = fs.zipIdx.map (pm_f P (upd f j x)) := by
  apply List.ext_getElem?
  intro i
  rw [List.getElem?_set, List.getElem?_map, List.getElem?_map, List.getElem?_zipIdx]
  by_cases e : j = i
  · subst e
    rw [if_pos rfl, if_pos (by simp; exact (List.getElem?_eq_some_iff.mp h).1), h]
    simp [pm_f, upd]
  · rw [if_neg e]
    cases hi : fs[i]? with
    | none => rfl
    | some o =>
      have : ¬ i = j := fun q => e q.symm
      cases o with
      | none => simp [pm_f, upd, this]
      | some r => cases r <;> simp [pm_f]
theorem pm_fsetr {P : pm_E} {f : Nat → Int32} {fs : List (Option (Option Nat))} {j r : Nat} (h : j < fs.length) : (fs.zipIdx.map (pm_f P f)).set j (.ref (pm_ad P r)) = (fs.set j (some (some r))).zipIdx.map (pm_f P f) := by
  apply List.ext_getElem?
  intro i
  rw [List.getElem?_set, List.getElem?_map, List.getElem?_map, List.getElem?_zipIdx, List.getElem?_zipIdx, List.getElem?_set]
  by_cases e : j = i
  · subst e
    rw [if_pos rfl, if_pos (by simp; exact h), if_pos rfl, if_pos h]
    simp [pm_f]
  · rw [if_neg e, if_neg e]
/-- behind a store into a cell of the world -/
theorem pm_S_put {P : pm_E} {H0 H H1 : Heap} {locs : List Loc} {G : List pm_S} {I : pm_I} {L : pm_L} (hH : pm_H P G I L H) {id i : Nat} {sh : pm_S} (hg : G[id]? = some sh) (h : va_S (pm_A P) H0 H locs) (z : H1.size = H.size) (oq : ∀ q : Nat, q ≠ pm_ad P id → H1[q]? = H[q]?) : va_S (pm_A P) H0 H1 (locs ++ [⟨pm_ad P id, i⟩]) := h.put z oq (by rw [hH.ad hg]; exact Nat.le_add_right _ _)
theorem pm_put {o ci j N ix : Nat} {C0 : String} {T : u_T} {fs : List (Option (Option Nat))} {x : Int32} {ty : FieldType} (hg : G[o]? = some (.inl (ci, fs))) (hc : vwCl[ci]? = some (C0, T, N)) (hin : ∀ w ∈ u_ws C0 T N, w ∈ TB) (ty0 : Nat → FieldType) (hty : ∀ k, k < N → parseFieldDescriptor (T k).2.2.1 = some (ty0 k)) (hnm : ∀ a, a < N → ∀ b, b < N → a ≠ b → (T a).2.1 ≠ (T b).2.1) (hj : j < N) (hl : Cond.fieldLink y.cls ix (T j).1 (T j).2.1 (T j).2.2.1 ∈ TB) (hf : fs[j]? = some none) (hfin : (T j).2.2.2 = false) (hdt : parseFieldDescriptor (T j).2.2.1 = some ty) (hn : narrow ty (.int x) = .int x) (hfit : fits ty (.int x) = true) (hd : decode cc pc = .ok (.putfield ix, 3)) (kk : PW l P y cc nL ret R Tg k n (pc + 3) ls st G (pm_u I o (upd (I o) j x)) L) : PW l P y cc nL ret R Tg k n pc ls (.int x :: .ref o :: st) G I L := by
  intro p e s m args below meth c H locs a C hT hX hH hS hL
  have hts := C.2.2.2.2.2.2.2
  have hK := hT.1
  have hown := C.2.2.2.1
  have hap := va_apart (own := y.cls) hts hin ty0 hty hnm hK hc
  have he := hH.at hg
  obtain ⟨r, h1, cell, q1, q2, q3, q4⟩ := hH.1 o _ he
  have hr : r = (C0, T, N) := Option.some.inj (h1.symm.trans hc)
  subst hr
  obtain ⟨hS1, hfc, kC, hkC, hkind⟩ := hK.1 ci _ hc
  obtain ⟨cf, kf, fi, f, hi, hsl⟩ := hS1 j hj
  have hlay := hts _ (hin _ (u_in_lay hj))
  unfold u_lay at hlay
  rw [if_neg (by rw [hfin]; decide)] at hlay
  have hst := (u_facts hfc hkC (u_lays hts hin hj) hi).1
  have h6 := u_store hfc hkC hkind hlay hi hdt hn hfit
  refine W.putK C.1 C.2.1 (f := f) (a := pm_ad P o) (v := .int x) ⟨hown, hts _ hl, ⟨_, _, _, hi⟩, hst⟩ (by rw [q2]; exact h6) q1 q3 (by rw [hsl]; exact k2_hasslot (q4 j hj)) rfl rfl hd fun H' e1 e2 e3 => ?_
  rw [hsl] at e1
  have hl9 : j < (fs.zipIdx.map (pm_f P (I o))).length := by simp; exact (List.getElem?_eq_some_iff.mp hf).1
  have hv : va_at (pm_D P) vwCl (pm_ad P o, pm_c P (upd (I o) j x) (L o) (.inl (ci, fs))) H' := by
    refine ⟨_, hc, ?_⟩
    have h7 := t_OB.to (V := updV (vp_V (fs.zipIdx.map (pm_f P (I o)))) j (.int x)) ⟨_, e1, q2, q3, t_set q4 hap hj (.int x)⟩ (fun i _ => vp_updV_set hl9 (.int x) i)
    rw [pm_fset hf] at h7
    exact h7
  have h8 := hH.set0 hg (upd (I o) j x) (L o) hv e2 e3
  rw [pm_uu] at h8
  exact kk p e s m args below meth c H' _ a C hT hX h8 (pm_S_put hH hg hS e2 e3) hL
theorem pm_iaload {o N : Nat} {i : Int32} (hg : G[o]? = some (.inr (.inl (0, N)))) (hi : vp_in i N) (hd : decode cc pc = .ok (.iaload, 1)) (kk : PW l P y cc nL ret R Tg k n (pc + 1) ls (.int (I o i.toNatClampNeg) :: st) G I L) : PW l P y cc nL ret R Tg k n pc ls (.int i :: .ref o :: st) G I L := by
  intro p e s m args below meth c H locs a C hT hX hH hS hL
  exact va_iald C.1 C.2.1 hT.1 hH.1 o 0 (hH.at hg) rfl hi hd (kk p e s m args below meth c H locs a C hT hX hH hS hL)
theorem pm_caload {o N : Nat} {i : Int32} (hg : G[o]? = some (.inr (.inl (1, N)))) (hi : vp_in i N) (hd : decode cc pc = .ok (.caload, 1)) (kk : PW l P y cc nL ret R Tg k n (pc + 1) ls (.int (I o i.toNatClampNeg) :: st) G I L) : PW l P y cc nL ret R Tg k n pc ls (.int i :: .ref o :: st) G I L := by
  intro p e s m args below meth c H locs a C hT hX hH hS hL
  exact va_cald C.1 C.2.1 hT.1 hH.1 o 1 (hH.at hg) rfl hi hd (kk p e s m args below meth c H locs a C hT hX hH hS hL)
theorem pm_laload {o N : Nat} {i : Int32} (hg : G[o]? = some (.inr (.inl (2, N)))) (hi : vp_in i N) (hd : decode cc pc = .ok (.laload, 1)) (kk : PW l P y cc nL ret R Tg k n (pc + 1) ls (.long (L o i.toNatClampNeg) :: st) G I L) : PW l P y cc nL ret R Tg k n pc ls (.int i :: .ref o :: st) G I L := by
  intro p e s m args below meth c H locs a C hT hX hH hS hL
  exact va_lald C.1 C.2.1 hT.1 hH.1 o 2 (hH.at hg) rfl hi hd (kk p e s m args below meth c H locs a C hT hX hH hS hL)
theorem pm_iastore {o N : Nat} {i : Int32} {x : Int32} (hg : G[o]? = some (.inr (.inl (0, N)))) (hi : vp_in i N) (hd : decode cc pc = .ok (.iastore, 1)) (kk : PW l P y cc nL ret R Tg k n (pc + 1) ls st G (pm_u I o (upd (I o) i.toNatClampNeg (x))) L) : PW l P y cc nL ret R Tg k n pc ls (.int x :: .int i :: .ref o :: st) G I L := by
  intro p e s m args below meth c H locs a C hT hX hH hS hL
  refine W.iast C.1 C.2.1 (a := pm_ad P o) (hH.1 o _ (hH.at hg)) ((hT.1.2 0 _ rfl).1 N (fun j => .int ((I o) j))) (fun q => by cases q) (by show ¬ (i < 0 ∨ (arrV _ _ _).slots.size ≤ _); rw [arrV_size]; exact hi) rfl rfl hd fun H1 e1 z oq => ?_
  have hv : va_at (pm_D P) vwCl (pm_ad P o, pm_c P (upd (I o) i.toNatClampNeg (x)) (L o) (.inr (.inl (0, N)))) H1 := by
    show H1[pm_ad P o]? = some (vp_cell _ _)
    rw [e1]
    show some ((vp_cell _ (N, .inl (I o))).setSlot _ _) = some (vp_cell _ _)
    rw [vp_cell_i, vp_cell_i, arrV_store]
    congr 2
    funext q
    by_cases hq : q = i.toNatClampNeg
    · subst hq
      simp [updV, upd]
    · simp [updV, upd, hq]
  have h8 := hH.set0 hg (upd (I o) i.toNatClampNeg (x)) (L o) hv z oq
  rw [pm_uu] at h8
  exact kk p e s m args below meth c H1 _ a C hT hX h8 (pm_S_put hH hg hS z oq) hL
theorem pm_castore {o N : Nat} {i : Int32} {x : Int32} (hg : G[o]? = some (.inr (.inl (1, N)))) (hi : vp_in i N) (hd : decode cc pc = .ok (.castore, 1)) (kk : PW l P y cc nL ret R Tg k n (pc + 1) ls st G (pm_u I o (upd (I o) i.toNatClampNeg (vp_nar .char x))) L) : PW l P y cc nL ret R Tg k n pc ls (.int x :: .int i :: .ref o :: st) G I L := by
  intro p e s m args below meth c H locs a C hT hX hH hS hL
  refine W.cast C.1 C.2.1 (a := pm_ad P o) (hH.1 o _ (hH.at hg)) ((hT.1.2 1 _ rfl).1 N (fun j => .int ((I o) j))) (fun q => by cases q) (by show ¬ (i < 0 ∨ (arrV _ _ _).slots.size ≤ _); rw [arrV_size]; exact hi) rfl rfl hd fun H1 e1 z oq => ?_
  have hv : va_at (pm_D P) vwCl (pm_ad P o, pm_c P (upd (I o) i.toNatClampNeg (vp_nar .char x)) (L o) (.inr (.inl (1, N)))) H1 := by
    show H1[pm_ad P o]? = some (vp_cell _ _)
    rw [e1]
    show some ((vp_cell _ (N, .inl (I o))).setSlot _ _) = some (vp_cell _ _)
    rw [vp_cell_i, vp_cell_i, arrV_store]
    congr 2
    funext q
    by_cases hq : q = i.toNatClampNeg
    · subst hq
      simp [updV, upd]
      rfl
    · simp [updV, upd, hq]
  have h8 := hH.set0 hg (upd (I o) i.toNatClampNeg (vp_nar .char x)) (L o) hv z oq
  rw [pm_uu] at h8
  exact kk p e s m args below meth c H1 _ a C hT hX h8 (pm_S_put hH hg hS z oq) hL
theorem pm_lastore {o N : Nat} {i : Int32} {x : Int64} (hg : G[o]? = some (.inr (.inl (2, N)))) (hi : vp_in i N) (hd : decode cc pc = .ok (.lastore, 1)) (kk : PW l P y cc nL ret R Tg k n (pc + 1) ls st G I (pm_u L o (vp_updL (L o) i.toNatClampNeg x))) : PW l P y cc nL ret R Tg k n pc ls (.long x :: .int i :: .ref o :: st) G I L := by
  intro p e s m args below meth c H locs a C hT hX hH hS hL
  refine W.last C.1 C.2.1 (a := pm_ad P o) (hH.1 o _ (hH.at hg)) ((hT.1.2 2 _ rfl).1 N (fun j => .long ((L o) j))) (fun q => by cases q) (by show ¬ (i < 0 ∨ (arrV _ _ _).slots.size ≤ _); rw [arrV_size]; exact hi) rfl rfl hd fun H1 e1 z oq => ?_
  have hv : va_at (pm_D P) vwCl (pm_ad P o, pm_c P (I o) (vp_updL (L o) i.toNatClampNeg x) (.inr (.inl (2, N)))) H1 := by
    show H1[pm_ad P o]? = some (vp_cell _ _)
    rw [e1]
    show some ((vp_cell _ (N, .inr (.inl (L o)))).setSlot _ _) = some (vp_cell _ _)
    rw [vp_cell_l, vp_cell_l, arrV_store]
    congr 2
    funext q
    by_cases hq : q = i.toNatClampNeg
    · subst hq
      simp [updV, vp_updL]
    · simp [updV, vp_updL, hq]
  have h8 := hH.set0 hg (I o) (vp_updL (L o) i.toNatClampNeg x) hv z oq
  rw [pm_uu] at h8
  exact kk p e s m args below meth c H1 _ a C hT hX h8 (pm_S_put hH hg hS z oq) hL
theorem pm_alen {o t N : Nat} {v : Int32} (hg : G[o]? = some (.inr (.inl (t, N)))) (ht : t < 3) (hv : Int32.ofNat N = v) (hd : decode cc pc = .ok (.arraylength, 1)) (kk : PW l P y cc nL ret R Tg k n (pc + 1) ls (.int v :: st) G I L) : PW l P y cc nL ret R Tg k n pc ls (.ref o :: st) G I L := by
  intro p e s m args below meth c H locs a C hT hX hH hS hL
  have h9 := hH.at hg
  rcases (show t = 0 ∨ t = 1 ∨ t = 2 by omega) with rfl | rfl | rfl
  · exact va_alen C.1 C.2.1 hT.1 hH.1 o 0 h9 rfl hv hd (kk p e s m args below meth c H locs a C hT hX hH hS hL)
  · exact va_alen C.1 C.2.1 hT.1 hH.1 o 1 h9 rfl hv hd (kk p e s m args below meth c H locs a C hT hX hH hS hL)
  · exact va_alen C.1 C.2.1 hT.1 hH.1 o 2 h9 rfl hv hd (kk p e s m args below meth c H locs a C hT hX hH hS hL)
theorem pm_alenR {o : Nat} {rs : List (Option Nat)} {v : Int32} (hg : G[o]? = some (.inr (.inr rs))) (hv : Int32.ofNat rs.length = v) (hd : decode cc pc = .ok (.arraylength, 1)) (kk : PW l P y cc nL ret R Tg k n (pc + 1) ls (.int v :: st) G I L) : PW l P y cc nL ret R Tg k n pc ls (.ref o :: st) G I L := by
  intro p e s m args below meth c H locs a C hT hX hH hS hL
  exact va_alen C.1 C.2.1 hT.1 hH.1 o 3 (hH.at hg) rfl hv hd (kk p e s m args below meth c H locs a C hT hX hH hS hL)
theorem pm_aaload {o r : Nat} {rs : List (Option Nat)} {i : Int32} (hg : G[o]? = some (.inr (.inr rs))) (hi : vp_in i rs.length) (hr : rs[i.toNatClampNeg]? = some (some r)) (hd : decode cc pc = .ok (.aaload, 1)) (kk : PW l P y cc nL ret R Tg k n (pc + 1) ls (.ref r :: st) G I L) : PW l P y cc nL ret R Tg k n pc ls (.int i :: .ref o :: st) G I L := by
  intro p e s m args below meth c H locs a C hT hX hH hS hL
  refine va_aldq C.1 C.2.1 hT.1 hH.1 o 3 (hH.at hg) rfl hi hd ?_
  have e1 : (rs.getD i.toNatClampNeg none).map (pm_ad P) = some (pm_ad P r) := by rw [List.getD_eq_getElem?_getD, hr]; rfl
  rw [e1]
  exact kk p e s m args below meth c H locs a C hT hX hH hS hL
/-- the script -/
theorem pm_sld {i : Int32} (hi : vp_in i (pm_n P)) (hd : decode cc pc = .ok (.iaload, 1)) (kk : PW l P y cc nL ret R Tg k n (pc + 1) ls (.int (pm_xs P i.toNatClampNeg) :: st) G I L) : PW l P y cc nL ret R Tg k n pc ls (.int i :: .ref 2000 :: st) G I L := by
  intro p e s m args below meth c H locs a C hT hX hH hS hL
  exact va_sld (b := pm_b P) C.1 C.2.1 hX.2.2.1 (Nat.lt_of_lt_of_le hX.2.2.2.1 hX.2.2.2.2) (fun z => Nat.not_lt.mpr z hX.2.2.2.1) hS hi hd (kk p e s m args below meth c H locs a C hT hX hH hS hL)
theorem pm_slen (hd : decode cc pc = .ok (.arraylength, 1)) (kk : PW l P y cc nL ret R Tg k n (pc + 1) ls (.int (Int32.ofNat (pm_n P)) :: st) G I L) : PW l P y cc nL ret R Tg k n pc ls (.ref 2000 :: st) G I L := by
  intro p e s m args below meth c H locs a C hT hX hH hS hL
  exact va_slen C.1 C.2.1 hX.2.2.1 (Nat.lt_of_lt_of_le hX.2.2.2.1 hX.2.2.2.2) (fun z => Nat.not_lt.mpr z hX.2.2.2.1) hS hd (kk p e s m args below meth c H locs a C hT hX hH hS hL)
theorem pm_iret {Q : Option Value → List pm_S → pm_I → pm_L → Prop} {K N : Nat} {x : Int32} (hr : ret = some .int) (hk : k ≤ K) (hn : n ≤ N) (hd : decode cc pc = .ok (.ireturn, 1)) (hQ : Q (some (.int x)) G I L) : PW l P y cc nL ret R (pm_Tg P Q K N) k n pc ls ([.int x]) G I L := by
  subst hr
  intro p e s m args below meth c H locs a C hT hX hH hS hL
  have hq : ∀ t : State, t.heap = H → s.WarmedH t.vm → pm_Q P Q args s (.returned (some (.int x))) t := fun t ht hW => ⟨⟨some (.int x), G, I, L, rfl, hQ, by rw [ht]; exact hH⟩, hS.F ht⟩
  refine W.widen hk hn ?_
  exact W.iret C.1 C.2.1 C.2.2.2.2.2.1 hq (fun q h => hS.2.2 q h) hd C.2.2.2.2.2.2.1
theorem pm_zret {Q : Option Value → List pm_S → pm_I → pm_L → Prop} {K N : Nat} {x : Int32} (hx : narrow .boolean (.int x) = .int x) (hr : ret = some .boolean) (hk : k ≤ K) (hn : n ≤ N) (hd : decode cc pc = .ok (.ireturn, 1)) (hQ : Q (some (.int x)) G I L) : PW l P y cc nL ret R (pm_Tg P Q K N) k n pc ls ([.int x]) G I L := by
  subst hr
  intro p e s m args below meth c H locs a C hT hX hH hS hL
  have hq : ∀ t : State, t.heap = H → s.WarmedH t.vm → pm_Q P Q args s (.returned (some (.int x))) t := fun t ht hW => ⟨⟨some (.int x), G, I, L, rfl, hQ, by rw [ht]; exact hH⟩, hS.F ht⟩
  refine W.widen hk hn ?_
  exact W.zret C.1 C.2.1 C.2.2.2.2.2.1 hx hq (fun q h => hS.2.2 q h) hd C.2.2.2.2.2.2.1
theorem pm_lret {Q : Option Value → List pm_S → pm_I → pm_L → Prop} {K N : Nat} {x : Int64} (hr : ret = some .long) (hk : k ≤ K) (hn : n ≤ N) (hd : decode cc pc = .ok (.lreturn, 1)) (hQ : Q (some (.long x)) G I L) : PW l P y cc nL ret R (pm_Tg P Q K N) k n pc ls ([.long x]) G I L := by
  subst hr
  intro p e s m args below meth c H locs a C hT hX hH hS hL
  have hq : ∀ t : State, t.heap = H → s.WarmedH t.vm → pm_Q P Q args s (.returned (some (.long x))) t := fun t ht hW => ⟨⟨some (.long x), G, I, L, rfl, hQ, by rw [ht]; exact hH⟩, hS.F ht⟩
  refine W.widen hk hn ?_
  exact W.lret C.1 C.2.1 C.2.2.2.2.2.1 hq (fun q h => hS.2.2 q h) hd C.2.2.2.2.2.2.1
theorem pm_vret {Q : Option Value → List pm_S → pm_I → pm_L → Prop} {K N : Nat} (hr : ret = none) (hk : k ≤ K) (hn : n ≤ N) (hd : decode cc pc = .ok (.return_, 1)) (hQ : Q (none) G I L) : PW l P y cc nL ret R (pm_Tg P Q K N) k n pc ls ([]) G I L := by
  subst hr
  intro p e s m args below meth c H locs a C hT hX hH hS hL
  have hq : ∀ t : State, t.heap = H → s.WarmedH t.vm → pm_Q P Q args s (.returned (none)) t := fun t ht hW => ⟨⟨none, G, I, L, rfl, hQ, by rw [ht]; exact hH⟩, hS.F ht⟩
  refine W.widen hk hn ?_
  exact W.vret C.1 C.2.1 C.2.2.2.2.2.1 hq (fun q h => hS.2.2 q h) hd C.2.2.2.2.2.2.1
theorem pm_aret {Q : Option Value → List pm_S → pm_I → pm_L → Prop} {K N : Nat} {x : Nat} {rt : FieldType} (hrt : (∃ n, rt = .object n) ∨ ∃ t, rt = .array t) (hr : ret = some rt) (hk : k ≤ K) (hn : n ≤ N) (hd : decode cc pc = .ok (.areturn, 1)) (hQ : Q (some (.ref x)) G I L) : PW l P y cc nL ret R (pm_Tg P Q K N) k n pc ls ([.ref x]) G I L := by
  subst hr
  intro p e s m args below meth c H locs a C hT hX hH hS hL
  have hq : ∀ t : State, t.heap = H → s.WarmedH t.vm → pm_Q P Q args s (.returned (some (.ref (pm_ad P x)))) t := fun t ht hW => ⟨⟨some (.ref x), G, I, L, rfl, hQ, by rw [ht]; exact hH⟩, hS.F ht⟩
  refine W.widen hk hn ?_
  exact W.aret C.1 C.2.1 C.2.2.2.2.2.1 hrt (Or.inr ⟨_, rfl⟩) hq (fun q h => hS.2.2 q h) hd C.2.2.2.2.2.2.1
theorem pm_aretN {Q : Option Value → List pm_S → pm_I → pm_L → Prop} {K N : Nat} {rt : FieldType} (hrt : (∃ n, rt = .object n) ∨ ∃ t, rt = .array t) (hr : ret = some rt) (hk : k ≤ K) (hn : n ≤ N) (hd : decode cc pc = .ok (.areturn, 1)) (hQ : Q (some .null) G I L) : PW l P y cc nL ret R (pm_Tg P Q K N) k n pc ls ([.null]) G I L := by
  subst hr
  intro p e s m args below meth c H locs a C hT hX hH hS hL
  have hq : ∀ t : State, t.heap = H → s.WarmedH t.vm → pm_Q P Q args s (.returned (some .null)) t := fun t ht hW => ⟨⟨some .null, G, I, L, rfl, hQ, by rw [ht]; exact hH⟩, hS.F ht⟩
  refine W.widen hk hn ?_
  exact W.aret C.1 C.2.1 C.2.2.2.2.2.1 hrt (Or.inl rfl) hq (fun q h => hS.2.2 q h) hd C.2.2.2.2.2.2.1
end PMR
