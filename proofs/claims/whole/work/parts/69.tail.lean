/-! THE CLAIM OUT OF ONE WALK OF THE LAW'S BODY. Your part is whole_start (and what it stands on); all else here is the same for every law, but numbers. -/
def R_law : String := "WormHeapLaw"
def lw_P (b : Addr) (xs : List Int32) (args : Array Value) (s : State) : Prop := args = #[.ref b] ∧ s.IntsAt b xs ∧ xs.length ≤ 384 ∧ (Jvm.Cond.and given_1 narrow_1).before args s = true
def lw_Q (_ : Array Value) (s : State) (o : Outcome) (t : State) : Prop := o = .returned (some (.int 1)) ∧ Framed s o t [] 600000 7302250
def lw_Z (below : List Frame) (a : Array Value) (s : State) : State → Prop := fun t => ∃ o, t.status = .running ∧ Ended t below o ∧ lw_Q a s o t
/-- the law's own end, with 1 on the stack, nothing written that was there before, its room as the claim has it -/
theorem lw_ret {p : Program} {l : Launch} {e : Env} {s : State} {m : MethodId} {below : List Frame} {meth : Method} {c : Code} {b : Nat} (hx : p.tables.exec = Jvm.exec) (hb : c.code = code) (hr : meth.sig.returnType = ret) (hlocks : meth.locks = false) {pc : Nat} {H : Heap} {ls : Array Slot} (hdg : decode code pc = .ok (.ireturn, 1)) : W p l e room_1 s m #[Value.ref b] below meth c H [] 600000 7302250 (lw_Z below #[Value.ref b] s) (F0 m pc ls [.int 1]) := by
  intro T hT X
  obtain ⟨fs, hret, hrun, hended, hW, hframe⟩ := X.leave (v := some (.int 1)) (hlocks := hlocks) (fun h => by rw [hr] at h; cases h)
  have hmeth' : T.vm.method? m = some meth := X.method'
  refine ⟨T.setFrames fs, ?_, .returned (some (.int 1)), hrun, hended, rfl, ⟨_, rfl⟩, hW, hframe⟩
  jvm_step X.here [X.here.top, hx, hb, hdg, hmeth', hr, ret, narrow_b1]
  (try refine ⟨rfl, ?_⟩); (try refine ⟨rfl, ?_⟩)
  first | (intro acts; rw [hret _ acts rfl rfl rfl]) | rw [hret _ _ rfl rfl rfl]
  exact Steps.refl _
/-- what holds at the law's entry: the machine, the code, the tables' words (any of lw_tbl by 'hts w (by decide +kernel)'), the script of L ints xs at the cell b, what the Statement gives of the start (any of its parts by flat_of_before) -/
def lw_At (p : Program) (s : State) (m : MethodId) (meth : Method) (c : Code) (b L : Nat) (xs : Nat → Int32) : Prop :=
  p.tables.exec = Jvm.exec ∧ c.code = code ∧ meth.sig.returnType = ret ∧ c.maxLocals = 4 ∧ s.vm.findClass R_law = some m.cls ∧ (∀ w ∈ lw_tbl, w.before #[Value.ref b] s = true) ∧ va_X b L xs s s.heap ∧ b < s.heap.size ∧ meth.locks = false ∧ (Jvm.Cond.and given_1 narrow_1).before #[Value.ref b] s = true
theorem mt1 {w : Cond} (i : Nat) (h : tables_1_1[i]? = some w) : w ∈ tables_1 := List.mem_append_left _ (List.mem_of_getElem? h)
theorem mt2 {w : Cond} (i : Nat) (h : tables_1_2[i]? = some w) : w ∈ tables_1 := List.mem_append_right _ (List.mem_append_left _ (List.mem_of_getElem? h))
theorem mt3 {w : Cond} (i : Nat) (h : tables_1_3[i]? = some w) : w ∈ tables_1 := List.mem_append_right _ (List.mem_append_right _ (List.mem_append_left _ (List.mem_of_getElem? h)))
def tmL : List Term := [.string RX3 24, .string RX3 44, .string RX3 49, .string RX3 51, .string RX3 53, .string RX3 55, .string RX4 17, .string RX4 35, .string RX4 39, .string RX4 44, .string RX4 52]
def tmS (i : Nat) : Term := tmL.getD i (.arg 0)
/-- the law's target -/
def l_Tg (P : pm_E) : List Frame → Array Value → State → State → Prop := fun below args s t => (args = #[Value.ref (pm_b P)] ∧ s.heap.size = pm_z P) → lw_Z below args s t
theorem l_end {l : Launch} {P : pm_E} {nm : String} (G : List pm_S) (I : pm_I) (L : pm_L) (ls : List (Option Value)) : PW l P (yLaw nm) code 4 ret room_1 (l_Tg P) 65 1568 1134 ls [.int (nI 1)] G I L := by
  intro p e s m args below meth c H locs a C hT hX hH hS hL
  by_cases h : args = #[Value.ref (pm_b P)] ∧ s.heap.size = pm_z P
  · obtain ⟨h1, h2⟩ := h
    subst h1
    have k : W p l e room_1 s m #[Value.ref (pm_b P)] below meth c H locs 65 1568 (lw_Z below #[Value.ref (pm_b P)] s) (F0 m 1134 a [.int 1]) := by
      refine va_forget (fun q hq => by rw [h2]; exact hS.2.2 q hq) ?_
      refine W.widen (k := 600000) (n := 7302250) (Nat.le_of_ble_eq_true rfl) (Nat.le_of_ble_eq_true rfl) ?_
      exact lw_ret C.1 C.2.1 C.2.2.2.2.2.1 C.2.2.2.2.2.2.1 dL_law_1134
    intro T hT2 X
    obtain ⟨t, st, q⟩ := k T hT2 X
    exact ⟨t, st, fun _ => q⟩
  · intro T hT2 X
    exact ⟨_, Steps.refl _, fun z => absurd z h⟩
set_option maxHeartbeats 4000000 in
set_option maxRecDepth 100000 in
theorem whole_start {p : Program} {e : Env} {s : State} {m : MethodId} {below : List Frame} {meth : Method} {c : Code} (l : Launch) (hflags : l.flags = flags0) {b L : Nat} {xs : Nat → Int32} (hL : L ≤ 384) (C0 : lw_At p s m meth c b L xs) : W p l e room_1 s m #[Value.ref b] below meth c s.heap [] 0 0 (lw_Z below #[Value.ref b] s) (entryFrame m ([Value.ref b] : List Value).toArray 4) := by
  obtain ⟨hx, hb, hr, hml, hown, hts, hXs, hbl, hlocks, hgv⟩ := id C0
  have hs := flat_of_before _ hgv
  have hTB : ∀ w ∈ TB, w.before #[Value.ref b] s = true := fun w hw => hts w (List.mem_filter.mp hw).1
  have hT1 : ∀ w ∈ tables_1, w.before #[Value.ref b] s = true := fun w hw => hts w (List.mem_append_right _ hw)
  have hA : ∀ a : Nat, a < s.heap.size → ¬ (fun q : Nat => s.heap.size ≤ q) a := fun a ha z => absurd z (Nat.not_le.mpr ha)
  obtain ⟨cX2, iX2, KX2⟩ := u_known (C := RX2) (T := TX2) (N := 9) (n := 9) hTB in_X2 (hTB _ wn_X2)
  obtain ⟨cX3, iX3, KX3⟩ := u_known (C := RX3) (T := TX3) (N := 4) (n := 4) hTB in_X3 (hTB _ wn_X3)
  obtain ⟨cX4, iX4, KX4⟩ := u_known (C := RX4) (T := TX4) (N := 1) (n := 1) hTB in_X4 (hTB _ wn_X4)
  obtain ⟨cX5, iX5, KX5⟩ := u_known (C := RX5) (T := TX5) (N := 3) (n := 3) hTB in_X5 (hTB _ wn_X5)
  obtain ⟨cX6, iX6, KX6⟩ := u_known (C := RX6) (T := TX6) (N := 3) (n := 3) hTB in_X6 (hTB _ wn_X6)
  obtain ⟨cX7, iX7, KX7⟩ := u_known (C := RX7) (T := TX7) (N := 1) (n := 1) hTB in_X7 (hTB _ wn_X7)
  obtain ⟨cX8, iX8, KX8⟩ := u_known (C := RX8) (T := TX8) (N := 2) (n := 2) hTB in_X8 (hTB _ wn_X8)
  obtain ⟨cX9, iX9, KX9⟩ := u_known (C := RX9) (T := TX9) (N := 9) (n := 9) hTB in_X9 (hTB _ wn_X9)
  obtain ⟨cX10, iX10, KX10⟩ := u_known (C := RX10) (T := TX10) (N := 34) (n := 34) hTB in_X10 (hTB _ wn_X10)
  obtain ⟨dC, dI, hKc⟩ : ∃ (dC : Nat → ClassId) (dI : Nat → Nat → Nat), ∀ (k : Nat) (q : vw_C), vwCl[k]? = some q → u_Kn s q.1 q.2.1 q.2.2 (dC k) (dI k) := by
    refine ⟨fun k => if k = 0 then cX2 else if k = 1 then cX3 else if k = 2 then cX4 else if k = 3 then cX5 else if k = 4 then cX6 else if k = 5 then cX7 else if k = 6 then cX8 else if k = 7 then cX9 else cX10, fun k => if k = 0 then iX2 else if k = 1 then iX3 else if k = 2 then iX4 else if k = 3 then iX5 else if k = 4 then iX6 else if k = 5 then iX7 else if k = 6 then iX8 else if k = 7 then iX9 else iX10, ?_⟩
    intro k q hq
    match k, hq with
    | 0, hq => have hq2 : some ((RX2, TX2, 9) : vw_C) = some q := hq; cases hq2; exact KX2
    | 1, hq => have hq2 : some ((RX3, TX3, 4) : vw_C) = some q := hq; cases hq2; exact KX3
    | 2, hq => have hq2 : some ((RX4, TX4, 1) : vw_C) = some q := hq; cases hq2; exact KX4
    | 3, hq => have hq2 : some ((RX5, TX5, 3) : vw_C) = some q := hq; cases hq2; exact KX5
    | 4, hq => have hq2 : some ((RX6, TX6, 3) : vw_C) = some q := hq; cases hq2; exact KX6
    | 5, hq => have hq2 : some ((RX7, TX7, 1) : vw_C) = some q := hq; cases hq2; exact KX7
    | 6, hq => have hq2 : some ((RX8, TX8, 2) : vw_C) = some q := hq; cases hq2; exact KX8
    | 7, hq => have hq2 : some ((RX9, TX9, 9) : vw_C) = some q := hq; cases hq2; exact KX9
    | 8, hq => have hq2 : some ((RX10, TX10, 34) : vw_C) = some q := hq; cases hq2; exact KX10
    | k + 9, hq => simp [vwCl] at hq
  obtain ⟨aI, kI, oI, I1, I2, I3⟩ := Cond.arrayClass_spec (hTB _ wa_int)
  obtain ⟨aC, kC, oC, C1, C2, C3⟩ := Cond.arrayClass_spec (hTB _ wa_char)
  obtain ⟨aL, kL, oL, L1, L2, L3⟩ := Cond.arrayClass_spec (hTB _ wa_long)
  have hover := hT1 (.arrayOver (.object RX5)) (mt1 137 (by decide +kernel))
  obtain ⟨oO, aO, kO, O1, _, O2, O3, O4⟩ := Cond.arrayOver_spec hover
  have hlen : ∀ i : Nat, i < 11 → NL.getD i 0 < 2 ^ 31 := by decide
  have hex : ∀ i : Nat, i < 11 → (Cond.exactly (tmS i) "java/lang/String") ∈ flatC (Jvm.Cond.and given_1 narrow_1) := by decide +kernel
  have hco : ∀ i : Nat, i < 11 → (Cond.eq (.field (tmS i) "java/lang/String" "coder" "B") (.int 0)) ∈ flatC (Jvm.Cond.and given_1 narrow_1) := by decide +kernel
  have har : ∀ i : Nat, i < 11 → (Cond.arrayOf (.field (tmS i) "java/lang/String" "value" "[B") .byte) ∈ flatC (Jvm.Cond.and given_1 narrow_1) := by decide +kernel
  have hle : ∀ i : Nat, i < 11 → (Cond.eq (.length (.field (tmS i) "java/lang/String" "value" "[B")) (.int (Int32.ofNat (NL.getD i 0)))) ∈ flatC (Jvm.Cond.and given_1 narrow_1) := by decide +kernel
  have hel : ∀ i : Nat, i < 11 → ∀ j : Nat, j < NL.getD i 0 → (Cond.eq (.elem (.field (tmS i) "java/lang/String" "value" "[B") (.int (Int32.ofNat j))) (.int ((NB.getD i []).getD j 0))) ∈ flatC (Jvm.Cond.and given_1 narrow_1) := by decide +kernel
  have hne : ∀ i : Nat, i < 11 → ∀ j : Nat, j < 11 → i ≠ j → (Cond.not (Cond.eq (tmS i) (tmS j))) ∈ flatC (Jvm.Cond.and given_1 narrow_1) ∨ (Cond.not (Cond.eq (tmS j) (tmS i))) ∈ flatC (Jvm.Cond.and given_1 narrow_1) := by decide +kernel
  obtain ⟨adK, adV, hSS, hev⟩ := vk_Sof (args := #[Value.ref b]) (s := s) (N := 11) (tm := tmS) (len := NL) (byt := NB) (A := fun q : Nat => s.heap.size ≤ q) hlen (fun i hi => hs _ (hex i hi)) (fun i hi => hs _ (hco i hi)) (fun i hi => hs _ (har i hi)) (fun i hi => hs _ (hle i hi)) (fun i hi j hj => hs _ (hel i hi j hj)) (fun i j hi hj hij => (hne i hi j hj hij).imp (fun z => hs _ z) (fun z => hs _ z)) hA
  have hev46 : (Term.string RX4 46).eval #[Value.ref b] s none [] s = some (.ref (adK 5)) := va_eqR (hs _ (by decide +kernel : (Cond.eq (.string RX3 55) (.string RX4 46)) ∈ flatC (Jvm.Cond.and given_1 narrow_1))) (hev 5 (by decide))
  have hZ := va_Zof (A := fun q : Nat => s.heap.size ≤ q) (hT1 (.laysStatic "java/lang/String" "COMPACT_STRINGS" "Z") (mt2 69 (by decide +kernel))) (hT1 (.initialized "java/lang/String") (mt1 12 (by decide +kernel))) (va_eqi (hs _ (by decide +kernel : (Cond.eq (.static "java/lang/String" "COMPACT_STRINGS" "Z") (.int 1)) ∈ flatC (Jvm.Cond.and given_1 narrow_1)))) hA
  obtain ⟨P, hP⟩ : ∃ P : pm_E, P = (s.heap.size, (dC, dI), (fun k => if k = 0 then aI else if k = 1 then aC else if k = 2 then aL else aO), (adK, adV), (b, L, xs)) := ⟨_, rfl⟩
  have hTT : pm_T P s := by
    rw [hP]
    refine ⟨⟨hKc, ?_⟩, ?_, ?_, va_AO.of hover⟩
    · intro k q hq
      match k, hq with
      | 0, hq => have hq2 : some ((aI, FieldType.int) : ClassId × FieldType) = some q := hq; cases hq2; exact ⟨fun n z => ⟨fun k h => (by cases h), kI, I2, oI, I3⟩, I1⟩
      | 1, hq => have hq2 : some ((aC, FieldType.char) : ClassId × FieldType) = some q := hq; cases hq2; exact ⟨fun n z => ⟨fun k h => (by cases h), kC, C2, oC, C3⟩, C1⟩
      | 2, hq => have hq2 : some ((aL, FieldType.long) : ClassId × FieldType) = some q := hq; cases hq2; exact ⟨fun n z => ⟨fun k h => (by cases h), kL, L2, oL, L3⟩, L1⟩
      | 3, hq => have hq2 : some ((aO, FieldType.object RX5) : ClassId × FieldType) = some q := hq; cases hq2; exact ⟨fun n z => ⟨fun k h => (by cases h), kO, O2, oO, O3⟩, kO, oO, O2, O3, O1, O4⟩
      | k + 4, hq => simp [pm_ty] at hq
    · exact List.forall_mem_cons.mpr ⟨va_Nw.of rfl (hT1 _ (mt1 69 (by decide +kernel))), List.forall_mem_cons.mpr ⟨va_Nw.of rfl (hT1 _ (mt1 79 (by decide +kernel))), List.forall_mem_cons.mpr ⟨va_Nw.of rfl (hT1 _ (mt1 92 (by decide +kernel))), List.forall_mem_cons.mpr ⟨va_Nw.of rfl (hT1 _ (mt1 109 (by decide +kernel))), List.forall_mem_cons.mpr ⟨va_Nw.of rfl (hT1 _ (mt1 128 (by decide +kernel))), List.forall_mem_cons.mpr ⟨va_Nw.of rfl (hT1 _ (mt1 139 (by decide +kernel))), List.forall_mem_cons.mpr ⟨va_Nw.of rfl (hT1 _ (mt1 204 (by decide +kernel))), List.forall_mem_cons.mpr ⟨va_Nw.of rfl (hT1 _ (mt2 42 (by decide +kernel))), List.forall_mem_cons.mpr ⟨va_Nw.of rfl (hT1 _ (mt3 152 (by decide +kernel))), List.forall_mem_cons.mpr ⟨va_Nw.of rfl (hT1 _ (mt3 232 (by decide +kernel))), fun _ h => absurd h List.not_mem_nil⟩⟩⟩⟩⟩⟩⟩⟩⟩⟩
    · exact List.forall_mem_cons.mpr ⟨vk_R.of (hT1 _ (mt2 55 (by decide +kernel))) (hev 0 (by decide)), List.forall_mem_cons.mpr ⟨vk_R.of (hT1 _ (mt2 159 (by decide +kernel))) (hev 1 (by decide)), List.forall_mem_cons.mpr ⟨vk_R.of (hT1 _ (mt2 165 (by decide +kernel))) (hev 2 (by decide)), List.forall_mem_cons.mpr ⟨vk_R.of (hT1 _ (mt2 166 (by decide +kernel))) (hev 3 (by decide)), List.forall_mem_cons.mpr ⟨vk_R.of (hT1 _ (mt2 167 (by decide +kernel))) (hev 4 (by decide)), List.forall_mem_cons.mpr ⟨vk_R.of (hT1 _ (mt2 168 (by decide +kernel))) (hev 5 (by decide)), List.forall_mem_cons.mpr ⟨vk_R.of (hT1 _ (mt2 203 (by decide +kernel))) (hev 6 (by decide)), List.forall_mem_cons.mpr ⟨vk_R.of (hT1 _ (mt2 208 (by decide +kernel))) (hev 7 (by decide)), List.forall_mem_cons.mpr ⟨vk_R.of (hT1 _ (mt2 209 (by decide +kernel))) (hev 8 (by decide)), List.forall_mem_cons.mpr ⟨vk_R.of (hT1 _ (mt2 211 (by decide +kernel))) (hev 9 (by decide)), List.forall_mem_cons.mpr ⟨vk_R.of (hT1 _ (mt2 212 (by decide +kernel))) (hev46), List.forall_mem_cons.mpr ⟨vk_R.of (hT1 _ (mt2 216 (by decide +kernel))) (hev 10 (by decide)), fun _ h => absurd h List.not_mem_nil⟩⟩⟩⟩⟩⟩⟩⟩⟩⟩⟩⟩
  have hXX : pm_X P s s.heap := by
    rw [hP]
    exact ⟨hSS, hZ, hXs, hbl, Nat.le_refl _⟩
  have hHH : pm_H P [] (fun _ _ => 0) (fun _ _ => 0) s.heap := by
    rw [hP]
    exact ⟨fun k q h => by simp [pm_W] at h, rfl, by decide⟩
  have e1 : pm_b P = b := by rw [hP]; rfl
  have e2 : pm_z P = s.heap.size := by rw [hP]; rfl
  have e3 : pm_n P = L := by rw [hP]; rfl
  have hl := lv_entry ([.ref b]) (n := 4) (Nat.le_of_ble_eq_true rfl)
  rw [lg_entry_eq]
  generalize (lg_sl ([.ref b]) ++ List.replicate (4 - (lg_sl ([.ref b])).length) Slot.unset).toArray = ls at hl ⊢
  have hl : lv_has ls 4 [(0, .ref b)] := hl
  have hLR : pm_LR P 4 [some (.ref 2000), none, none, none] ls := by
    refine ⟨hl.1, hl.2.1, fun i v hi => ?_⟩
    match i, hi with
    | 0, hi =>
      have hi2 : some (some (Value.ref 2000)) = some (some v) := hi
      cases hi2
      have e4 : pm_v P (.ref 2000) = .ref b := by
        show Value.ref (pm_ad P 2000) = _
        rw [← e1]; rfl
      rw [e4]; exact lv_at hl 0 rfl
    | 1, hi => exact absurd hi (by simp)
    | 2, hi => exact absurd hi (by simp)
    | 3, hi => exact absurd hi (by simp)
    | k + 4, hi => exact absurd hi (by simp)
  have k := l_law0 (la := l) (P := P) (nm := meth.name) (Tg := l_Tg P) (by rw [e3]; exact hL) (fun G I L ls => l_end G I L ls) (I := fun _ _ => 0) (L := fun _ _ => 0) p e s m #[Value.ref b] below meth c s.heap [] ls ⟨hx, hb, hml, hown, rfl, hr, hlocks, hTB⟩ hTT hXX hHH va_S.rf hLR
  intro T hT2 X
  obtain ⟨t, st, q⟩ := k T hT2 X
  exact ⟨t, st, q ⟨by rw [e1], by rw [e2]⟩⟩
-- ===== YOUR PART ENDS =====
set_option maxHeartbeats 4000000 in
theorem lw_walk (l : Launch) (hflags : l.flags = flags0) (b : Addr) (xs : List Int32) : MetFree l x (headSpec (Jvm.Cond.code x code maxLocals ret :: tables_1) room_1) (lw_P b xs) (fun _ _ _ _ _ => True) lw_Q := by
  refine MetFree.of_bodyS (code := code) (maxLocals := maxLocals) (ret := ret) (by decide) ?_ ?_
  · intro args s m h hn
    obtain ⟨meth, c, h1, h2, h3, h4, h5, h6, -, -⟩ := Cond.code_spec hn (atoms_spec (ws := Jvm.Cond.code x code maxLocals ret :: tables_1) h _ List.mem_cons_self)
    exact ⟨meth, c, h1, h2, h3, h4, h5, h6⟩
  · intro p e s m args below meth c s₁ B hml0 hP _
    obtain ⟨rfl, hx, hbd, hgv⟩ := hP
    obtain ⟨scr, harrAt, hlist, hof, hsmall⟩ := hx
    obtain ⟨hcb, hkn, -, -⟩ := State.arrayAt?_spec harrAt
    have hown : s.vm.findClass R_law = some m.cls := findClass_of_methodNamed B.named
    have hts0 : ∀ c ∈ (Jvm.Cond.code x code maxLocals ret :: tables_1), c.before #[Value.ref b] s = true := atoms_spec (ws := Jvm.Cond.code x code maxLocals ret :: tables_1) B.pre
    have hts : ∀ w ∈ lw_tbl, w.before #[Value.ref b] s = true := k2_hts_sels lw_privs (fun w hw => hts0 w (List.mem_cons_of_mem _ hw)) lw_privs_ok
    have hml : c.maxLocals = 4 := B.maxLocals_eq (hts0 _ List.mem_cons_self)
    have X₀ : Stand p l e room_1 s m #[Value.ref b] below meth c s₁ [] 0 0 := Stand.of_body B
    have hh0 : s₁.heap = s.heap := by rw [B.state]; rfl
    have hsz : scr.slots.size = xs.length := by rw [← Array.length_toList, hlist, List.length_map]
    have hval : ∀ j : Nat, j < xs.length → scr.slots[j]? = some (.int (xs.getD j 0)) := fun j hj => by
      rw [← Array.getElem?_toList, hlist]
      simp [hj]
    have hbl : b < s.heap.size := (Array.getElem?_eq_some_iff.mp hcb).1
    have hX : va_X b xs.length (fun j => xs.getD j 0) s s.heap := ⟨scr, hcb, hof, hkn, hsz, hval⟩
    have K : W p l e room_1 s m #[Value.ref b] below meth c s₁.heap [] 0 0 (lw_Z below #[Value.ref b] s) (entryFrame m ([Value.ref b] : List Value).toArray 4) := by
      rw [hh0]
      exact whole_start l hflags hbd ⟨B.exec, B.bytes, B.returns, hml, hown, hts, hX, hbl, B.notSynchronized, hgv⟩
    obtain ⟨t, a1, o, b1, b2, b3⟩ := K s₁ rfl X₀
    exact ⟨t, o, a1, b1, b2, b3⟩
theorem lw_pre_spec {args : Array Value} {s : State} (h : (Jvm.Cond.and given_1 narrow_1).before args s = true) (hr : rest_1_c.before args s = true) : ∃ (b : Addr) (xs : List Int32), lw_P b xs args s := by
  have hs := flat_of_before _ h
  have hq := flat_of_before _ hr
  have hc : (Cond.count 1).before args s = true := hs _ (by decide +kernel)
  have harr : (Cond.arrayOf (.arg 0) .int).before args s = true := hs _ (by decide +kernel)
  have hle : (Cond.le (.length (.arg 0)) (.int 384)).before args s = true := hs _ (by decide +kernel)
  have hlen : (Cond.isInt (.length (.arg 0))).before args s = true := hq _ (by decide +kernel)
  have hall : (Cond.all (.arg 0) (.isInt (.elem (.arg 0) (.index 0)))).before args s = true := hq _ (by decide +kernel)
  obtain ⟨b, xs, hb, hx⟩ := State.ints_of_pre rfl harr hlen hall
  have hsm : xs.length < 2 ^ 31 := hx.choose_spec.2.2.2
  have hev : (Term.length (.arg 0)).eval args s none [] s = some (.int xs.length.toInt32) := hx.length_eval hb
  have hv := Cond.le_ints hev (show (Term.int 384).eval args s none [] s = some (.int 384) from rfl)
  have hd : xs.length.toInt32 ≤ 384 := by
    simpa [Cond.before, Cond.holds, hv] using hle
  have hN : xs.length ≤ 384 := (Int32.ofNat_le_ofNat hsm (by decide)).mp (show Int32.ofNat xs.length ≤ Int32.ofNat 384 from hd)
  exact ⟨b, xs, Cond.one_arg hc (show args[0]? = some (.ref b) from hb), hx, hN, h⟩
theorem lw_comes (l : Launch) (hflags : l.flags = flags0) : Comes l x (Jvm.Cond.code x code maxLocals ret :: tables_1) room_1 (fun tb e args s => Calls_1 tb e args s ∧ rest_1 tb e args s ∧ Pre_1 tb e args s)
    (fun _ _ args s o t => lw_Q args s o t) := by
  intro p e ha hc hk s m args below hf hfit hheap happ hpre
  obtain ⟨b, xs, hP⟩ := lw_pre_spec hpre.2.2 hpre.2.1
  obtain ⟨k, o, h1, h2, h3, hQ⟩ := lw_walk l hflags b xs p e ha hc hk s m args below hf ((Spec.applies_iff_loose hf).mp happ).1 hP trivial
  exact ⟨k, o, h1, h2, h3, hQ⟩
theorem lw_frame {s t : State} {o : Outcome} {args : Array Value} (h : Framed s o t [] 600000 7302250) :
    Framed s o t (fieldLocs frame_1_writes args s ++ arrayLocs frame_1_arrays args s ++ staticLocs frame_1_statics s) 600000 7302250 := h
theorem lw_limb (L : Cond) (hL : ∀ (args : Array Value) (s t : State), L.after args s (.returned (some (.int 1))) t = true) :
    ArmFor flags0 classFile x code maxLocals ret World_1 tables_1 room_1 Calls_1 rest_1 Pre_1
      (fun tb e a s o t => postC L tb e a s o t ∧ Framed s o t (fieldLocs frame_1_writes a s ++ arrayLocs frame_1_arrays a s ++ staticLocs frame_1_statics s) 600000 7302250) := by
  intro l hflags _ _ p e ha hc hk s m args below hf hfit hheap happ hpre
  obtain ⟨k, o, h1, h2, h3, rfl, hF⟩ := lw_comes l hflags p e ha hc hk s m args below hf hfit hheap happ hpre
  exact ⟨k, _, h1, h2, h3, hL args s _, lw_frame hF⟩
theorem i_vc : Claimed_1_1 ∧ Claimed_1_2 := ⟨lw_limb limb_1_1 (fun args s t => by simp [limb_1_1, Cond.after, Cond.holds, Cond.value]), lw_limb limb_1_2 (fun args s t => Cond.after_iff.mpr (by
  first | (rw [show limb_1_2 = Cond.eq .result (.int 1) from rfl, Cond.eq_ints (x := 1) (y := 1) rfl rfl]; simp; done) | (simp [limb_1_2, Cond.value, Term.eval]; done)))⟩
