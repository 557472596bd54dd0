/-! calls -/
theorem pm_wG {y : MethodName} {cc : ByteArray} {nL : Nat} {ret : Option FieldType} (h : Cond.code y cc nL ret ∈ TB) : GoodIn TB (pm_w y cc nL ret) := by
  intro w hw
  rcases List.mem_cons.mp hw with rfl | hw
  · exact ⟨h, TB_good _ h⟩
  · exact ⟨hw, TB_good _ hw⟩
/-- what the tables say of a callee: its code, its class, its number of arguments -/
def pm_k (y : MethodName) (cc : ByteArray) (nL : Nat) (ret : Option FieldType) (q : Nat) : Prop := Cond.code y cc nL ret ∈ TB ∧ Cond.initialized y.cls ∈ TB ∧ (y.cls ≠ "java/lang/invoke/MethodHandle" ∧ y.cls ≠ "java/lang/invoke/VarHandle" ∧ (parseMethodDescriptor y.desc).map (fun d => d.parameters.length) = some q)
theorem pm_blind {P : pm_E} {as : List Value} {G : List pm_S} {I : pm_I} {L : pm_L} : FrameBlind (pm_Pre P as G I L) := fun a U g mk q => ⟨q.1, q.2.1, pm_T.same rfl q.2.2.1, pm_X.moved (u := U) (Vm.Alike.refl U.vm) q.2.2.2⟩
theorem pm_X.now {P : pm_E} {s : State} {H : Heap} {locs : List Loc} (h : pm_X P s s.heap) (hS : va_S (pm_A P) s.heap H locs) : pm_X P s H := h.kept hS.1 hS.2.1
section PMC
variable {l : Launch} {P : pm_E} {y : MethodName} {cc : ByteArray} {nL : Nat} {ret : Option FieldType} {R : Room} {Tg : List Frame → Array Value → State → State → Prop} {k n pc : Nat} {ls : List (Option Value)} {st : List Value} {G : List pm_S} {I : pm_I} {L : pm_L}
/-- behind a call -/
theorem pm_back {p : Program} {e : Env} {s : State} {m : MethodId} {args : Array Value} {below : List Frame} {meth : Method} {c : Code} {H : Heap} {locs : List Loc} {a : Array Slot} {K N : Nat} {stk : List Value} {x : Array Value} {Q' : Option Value → List pm_S → pm_I → pm_L → Prop}
    (hr : va_Run p l e R s m args below meth c H locs k n K N (F0 m pc a stk) (st.map (pm_v P)) (pm_Q P Q' x) (pm_A P)) (C : pm_C y cc nL ret p s m args meth c) (hT : pm_T P s) (hX : pm_X P s s.heap) (hS : va_S (pm_A P) s.heap H locs) (hL : pm_LR P nL ls a)
    (kk : ∀ (v : Option Value) (G' : List pm_S) (I' : pm_I) (L' : pm_L), Q' v G' I' L' → PW l P y cc nL ret R Tg (k + K) (n + N) (pc + 3) ls (v.toList ++ st) G' I' L') : W p l e R s m args below meth c H locs k n (Tg below args s) (F0 m pc a stk) := by
  intro T hT' X
  obtain ⟨v, st₀, t, T', L0, h0, X', hL0, e1, e2, ⟨⟨v', G', I', L', hv, hq, hH'⟩, hF⟩, st9⟩ := hr T hT' X
  cases hv
  rw [← h0] at hS
  have hS' : va_S (pm_A P) s.heap t.heap (locs ++ L0) := ⟨Nat.le_trans hS.1 hF.1, fun q h1 h2 => by rw [hF.2 q (Nat.lt_of_lt_of_le h1 hS.1) h2]; exact hS.2.1 q h1 h2, fun q hq => by
    rcases List.mem_append.mp hq with h | h
    · exact hS.2.2 q h
    · exact hL0 q h⟩
  have k1 := kk v' G' I' L' hq p e s m args below meth c t.heap (locs ++ L0) a C hT hX hH' hS' hL T' e1 X'
  obtain ⟨t2, a1, b1⟩ := k1
  refine ⟨t2, st9 t2 ?_, b1⟩
  have e3 : (v'.toList ++ st).map (pm_v P) = (v'.map (pm_v P)).toList ++ st.map (pm_v P) := by cases v' <;> simp
  rw [e3] at a1
  exact a1
theorem pm_sum13 {st : List Value} (P : pm_E) (h : (st.map (·.category)).sum ≤ 8) : ((st.map (pm_v P)).map fun v => v.category).sum ≤ 8 := by
  have e1 : ((st.map (pm_v P)).map fun v => v.category) = st.map (·.category) := by
    rw [List.map_map]; apply List.map_congr_left; intro v _; exact pm_v_cat P v
  rw [e1]; exact h
theorem pm_pre {s : State} {H : Heap} {locs : List Loc} {as : List Value} (hT : pm_T P s) (hX : pm_X P s s.heap) (hH : pm_H P G I L H) (hS : va_S (pm_A P) s.heap H locs) : ∀ U : State, U.heap = H → s.WarmedH U.vm → pm_Pre P as G I L (as.map (pm_v P)).toArray U := fun U hU hW => ⟨rfl, by rw [hU]; exact hH, hT.warm hW, by rw [hU]; exact (hX.now hS).moved hW.alike⟩
variable {d K N ix : Nat} {y' : MethodName} {cc' : ByteArray} {nL' : Nat} {ret' : Option FieldType} {o : Nat} {as stk : List Value} {Q' : Option Value → List pm_S → pm_I → pm_L → Prop}
theorem pm_CB {p : Program} {s : State} {m : MethodId} {args : Array Value} {meth : Method} {c : Code} {q : Nat} (C : pm_C y cc nL ret p s m args meth c) (hw : pm_k y' cc' nL' ret' q) (hl : Cond.methodLink y.cls ix y' ∈ TB) (hR : d + 1 ≤ R.frames ∧ 8 + (nL' + 11) + 64 * d ≤ R.locals) : CallB R s args y.cls ix y' cc' nL' ret' (pm_w y' cc' nL' ret') (pm_rm d K N) K N q :=
  callB_of q C.2.2.2.2.2.2.2 (pm_wG hw.1) rfl rfl rfl (C.2.2.2.2.2.2.2 _ hw.2.1) (C.2.2.2.2.2.2.2 _ hl) hw.2.2 hR
/-- invokevirtual -/
theorem pm_cV (hd : decode cc pc = .ok (.invokevirtual ix, 3)) (hM : PC d K N y' cc' nL' ret' (.ref o :: as) G I L Q') (hw : pm_k y' cc' nL' ret' as.length) (hl : Cond.methodLink y.cls ix y' ∈ TB) (hi : Cond.instanceMethod y' ∈ TB) (hse : Cond.selects y'.cls y' y' ∈ TB)
    {ci N0 : Nat} {T : u_T} {fs : List (Option (Option Nat))} (hg : G[o]? = some (.inl (ci, fs))) (hc : vwCl[ci]? = some (y'.cls, T, N0)) (hR : d + 1 ≤ R.frames ∧ 8 + (nL' + 11) + 64 * d ≤ R.locals) (hk : k + K ≤ R.cells ∧ n + N ≤ R.slots) (hs : stk = as.reverse ++ .ref o :: st) (hcat : (st.map (·.category)).sum ≤ 8)
    (kk : ∀ (v : Option Value) (G' : List pm_S) (I' : pm_I) (L' : pm_L), Q' v G' I' L' → PW l P y cc nL ret R Tg (k + K) (n + N) (pc + 3) ls (v.toList ++ st) G' I' L') : PW l P y cc nL ret R Tg k n pc ls stk G I L := by
  intro p e s m args below meth c H locs a C hT hX hH hS hL
  have cb : CallB R s args y.cls ix y' cc' nL' ret' (pm_w y' cc' nL' ret') (pm_rm d K N) K N as.length := pm_CB C hw hl hR
  refine pm_back (va_runV (C := y'.cls) (As := as.map (pm_v P)) ⟨C.1, C.2.1, C.2.2.1, C.2.2.2.1, C.2.2.2.2.2.2.2⟩ (hM l P) ⟨cb, C.2.2.2.2.2.2.2 _ hi, C.2.2.2.2.2.2.2 _ hse⟩ ⟨pm_blind, va_recv hT.1 hH.1 hc (hH.at hg), pm_pre hT hX hH hS⟩ rfl (by simp) hL.1 ?_ (lv_room (pm_sum13 P hcat)) hd hk) C hT hX hS hL kk
  rw [hs]; simp; rfl
/-- invokestatic -/
theorem pm_cS (hd : decode cc pc = .ok (.invokestatic ix, 3)) (hM : PC d K N y' cc' nL' ret' as G I L Q') (hw : pm_k y' cc' nL' ret' as.length) (hl : Cond.methodLink y.cls ix y' ∈ TB) (hi : Cond.static y' ∈ TB)
    (hR : d + 1 ≤ R.frames ∧ 8 + (nL' + 11) + 64 * d ≤ R.locals) (hk : k + K ≤ R.cells ∧ n + N ≤ R.slots) (hs : stk = as.reverse ++ st) (hcat : (st.map (·.category)).sum ≤ 8)
    (kk : ∀ (v : Option Value) (G' : List pm_S) (I' : pm_I) (L' : pm_L), Q' v G' I' L' → PW l P y cc nL ret R Tg (k + K) (n + N) (pc + 3) ls (v.toList ++ st) G' I' L') : PW l P y cc nL ret R Tg k n pc ls stk G I L := by
  intro p e s m args below meth c H locs a C hT hX hH hS hL
  have cb : CallB R s args y.cls ix y' cc' nL' ret' (pm_w y' cc' nL' ret') (pm_rm d K N) K N as.length := pm_CB C hw hl hR
  refine pm_back (va_runS (As := as.map (pm_v P)) ⟨C.1, C.2.1, C.2.2.1, C.2.2.2.1, C.2.2.2.2.2.2.2⟩ (hM l P) ⟨cb, C.2.2.2.2.2.2.2 _ hi⟩ ⟨pm_blind, pm_pre hT hX hH hS⟩ rfl (by simp) hL.1 ?_ (lv_room (pm_sum13 P hcat)) hd hk) C hT hX hS hL kk
  rw [hs]; simp
/-- invokestatic of a nest mate's private method -/
theorem pm_cSN {hst : String} (hd : decode cc pc = .ok (.invokestatic ix, 3)) (hM : PC d K N y' cc' nL' ret' as G I L Q') (hw : pm_k y' cc' nL' ret' as.length) (hl : (y.cls, ix, y', hst) ∈ NW) (hi : Cond.static y' ∈ TB)
    (hR : d + 1 ≤ R.frames ∧ 8 + (nL' + 11) + 64 * d ≤ R.locals) (hk : k + K ≤ R.cells ∧ n + N ≤ R.slots) (hs : stk = as.reverse ++ st) (hcat : (st.map (·.category)).sum ≤ 8)
    (kk : ∀ (v : Option Value) (G' : List pm_S) (I' : pm_I) (L' : pm_L), Q' v G' I' L' → PW l P y cc nL ret R Tg (k + K) (n + N) (pc + 3) ls (v.toList ++ st) G' I' L') : PW l P y cc nL ret R Tg k n pc ls stk G I L := by
  intro p e s m args below meth c H locs a C hT hX hH hS hL
  have cb : va_CN R s args y.cls ix y' hst cc' nL' ret' (pm_w y' cc' nL' ret') (pm_rm d K N) K N as.length := va_cnB as.length C.2.2.2.2.2.2.2 (pm_wG hw.1) rfl rfl rfl (hT.2.1 _ hl) (C.2.2.2.2.2.2.2 _ hw.2.1) hw.2.2 hR
  refine pm_back (va_runSN (As := as.map (pm_v P)) ⟨C.1, C.2.1, C.2.2.1, C.2.2.2.1, C.2.2.2.2.2.2.2⟩ (hM l P) ⟨cb, C.2.2.2.2.2.2.2 _ hi, trivial⟩ ⟨pm_blind, pm_pre hT hX hH hS⟩ rfl (by simp) hL.1 ?_ (lv_room (pm_sum13 P hcat)) hd hk) C hT hX hS hL kk
  rw [hs]; simp
/-- invokespecial of a constructor -/
theorem pm_cI (hd : decode cc pc = .ok (.invokespecial ix, 3)) (hM : PC d K N y' cc' nL' none (.ref o :: as) G I L Q') (hw : pm_k y' cc' nL' none as.length) (hl : Cond.methodLink y.cls ix y' ∈ TB) (hi : Cond.instanceMethod y' ∈ TB) (hy : y'.name = "<init>")
    (hR : d + 1 ≤ R.frames ∧ 8 + (nL' + 11) + 64 * d ≤ R.locals) (hk : k + K ≤ R.cells ∧ n + N ≤ R.slots) (hs : stk = as.reverse ++ .ref o :: st) (hcat : (st.map (·.category)).sum ≤ 8)
    (kk : ∀ (v : Option Value) (G' : List pm_S) (I' : pm_I) (L' : pm_L), Q' v G' I' L' → PW l P y cc nL ret R Tg (k + K) (n + N) (pc + 3) ls (v.toList ++ st) G' I' L') : PW l P y cc nL ret R Tg k n pc ls stk G I L := by
  intro p e s m args below meth c H locs a C hT hX hH hS hL
  have cb : CallB R s args y.cls ix y' cc' nL' none (pm_w y' cc' nL' none) (pm_rm d K N) K N as.length := pm_CB C hw hl hR
  refine pm_back (va_runI (b := pm_ad P o) (As := as.map (pm_v P)) ⟨C.1, C.2.1, C.2.2.1, C.2.2.2.1, C.2.2.2.2.2.2.2⟩ (hM l P) ⟨cb, hy, C.2.2.2.2.2.2.2 _ hi⟩ ⟨pm_blind, pm_pre (as := .ref o :: as) hT hX hH hS⟩ rfl (by simp) hL.1 ?_ (lv_room (pm_sum13 P hcat)) hd hk) C hT hX hS hL kk
  rw [hs]; simp; rfl
/-- invokespecial of a nest mate's private constructor -/
theorem pm_cIN {hst : String} (hd : decode cc pc = .ok (.invokespecial ix, 3)) (hM : PC d K N y' cc' nL' none (.ref o :: as) G I L Q') (hw : pm_k y' cc' nL' none as.length) (hl : (y.cls, ix, y', hst) ∈ NW) (hi : Cond.instanceMethod y' ∈ TB) (hy : y'.name = "<init>")
    (hR : d + 1 ≤ R.frames ∧ 8 + (nL' + 11) + 64 * d ≤ R.locals) (hk : k + K ≤ R.cells ∧ n + N ≤ R.slots) (hs : stk = as.reverse ++ .ref o :: st) (hcat : (st.map (·.category)).sum ≤ 8)
    (kk : ∀ (v : Option Value) (G' : List pm_S) (I' : pm_I) (L' : pm_L), Q' v G' I' L' → PW l P y cc nL ret R Tg (k + K) (n + N) (pc + 3) ls (v.toList ++ st) G' I' L') : PW l P y cc nL ret R Tg k n pc ls stk G I L := by
  intro p e s m args below meth c H locs a C hT hX hH hS hL
  have cb : va_CN R s args y.cls ix y' hst cc' nL' none (pm_w y' cc' nL' none) (pm_rm d K N) K N as.length := va_cnB as.length C.2.2.2.2.2.2.2 (pm_wG hw.1) rfl rfl rfl (hT.2.1 _ hl) (C.2.2.2.2.2.2.2 _ hw.2.1) hw.2.2 hR
  refine pm_back (va_runIN (b := pm_ad P o) (As := as.map (pm_v P)) ⟨C.1, C.2.1, C.2.2.1, C.2.2.2.1, C.2.2.2.2.2.2.2⟩ (hM l P) ⟨cb, hy, C.2.2.2.2.2.2.2 _ hi⟩ ⟨pm_blind, pm_pre (as := .ref o :: as) hT hX hH hS⟩ rfl (by simp) hL.1 ?_ (lv_room (pm_sum13 P hcat)) hd hk) C hT hX hS hL kk
  rw [hs]; simp; rfl
/-- Object.<init> -/
theorem pm_obj (hd : decode cc pc = .ok (.invokespecial ix, 3)) (hl : Cond.methodLink y.cls ix objectInit ∈ TB) (hi : Cond.instanceMethod objectInit ∈ TB) (hc : Cond.code objectInit ⟨#[0xb1]⟩ 1 none ∈ TB) (hR : 1 ≤ R.frames ∧ 20 ≤ R.locals) (hcat : (st.map (·.category)).sum ≤ 8)
    (kk : PW l P y cc nL ret R Tg k n (pc + 3) ls st G I L) : PW l P y cc nL ret R Tg k n pc ls (.ref o :: st) G I L := by
  intro p e s m args below meth c H locs a C hT hX hH hS hL
  have hts := C.2.2.2.2.2.2.2
  have h2 := pm_sum13 P hcat
  refine W.objInit C.1 C.2.1 C.2.2.2.1 (hts _ hl) (hts _ hi) (hts _ hc) (a := pm_ad P o) (rest := st.map (pm_v P)) rfl (by rw [C.2.2.1]; exact hL.1) rfl hd hR.1 (by show 2 * 0 + _ + 12 ≤ _; omega) (kk p e s m args below meth c H locs a C hT hX hH hS hL)
/-! what is made -/
def pm_df (fs : List (Option (Option Nat))) (j : Nat) : Value := match fs.getD j (some none) with
  | none => .int 0
  | some _ => .null
theorem pm_new {ci M : Nat} {C0 : String} {T : u_T} {fs : List (Option (Option Nat))} (hc : vwCl[ci]? = some (C0, T, M)) (hin : ∀ w ∈ u_ws C0 T M, w ∈ TB) (ty0 : Nat → FieldType) (hty : ∀ k, k < M → parseFieldDescriptor (T k).2.2.1 = some (ty0 k)) (hcl : Cond.classLink y.cls ix C0 ∈ TB) (hins : Cond.instantiable C0 M ∈ TB) (hini : Cond.initialized C0 ∈ TB)
    (hfs : ∀ j, j < M → defaultValue (ty0 j) = pm_df fs j) (hfn : fs.all (fun q => decide (q = none ∨ q = some none)) = true) (hG : G.length < 1000) (hk : k + 1 ≤ R.cells ∧ n + M ≤ R.slots) (hd : decode cc pc = .ok (.new ix, 3))
    (kk : PW l P y cc nL ret R Tg (k + 1) (n + M) (pc + 3) ls (.ref G.length :: st) (G ++ [.inl (ci, fs)]) (pm_u I G.length (fun _ => 0)) (pm_u L G.length (fun _ => 0))) : PW l P y cc nL ret R Tg k n pc ls st G I L := by
  intro p e s m args below meth c H locs a C hT hX hH hS hL
  have hts := C.2.2.2.2.2.2.2
  have hKn := hT.1.1 ci _ hc
  refine W.newcK C.1 C.2.1 C.2.2.2.1 (hts _ hcl) (hts _ hins) (hts _ hini) rfl hd hk.1 hk.2 hKn.2.1 rfl fun H1 kC hkC e1 z1 o1 => ?_
  have he : va_at (pm_D P) vwCl (H.size, pm_c P (fun _ => 0) (fun _ => 0) (.inl (ci, fs))) H1 := by
    refine ⟨_, hc, (u_born ty0 hts hin hKn hkC e1 hty).to fun j hj => ?_⟩
    rw [hfs j hj, pm_df, vp_V, List.getD_eq_getElem?_getD, List.getD_eq_getElem?_getD, List.getElem?_map, List.getElem?_zipIdx]
    cases hj2 : fs[j]? with
    | none => rfl
    | some q =>
      have h1 := List.all_eq_true.mp hfn q (List.mem_of_getElem? hj2)
      rcases of_decide_eq_true h1 with rfl | rfl <;> rfl
  have h8 := hH.push hG _ _ _ he z1 o1
  have k1 := kk p e s m args below meth c H1 locs a C hT hX h8 ⟨Nat.le_trans hS.1 (by omega), fun x h1 h2 => (o1 x (Nat.lt_of_lt_of_le h1 hS.1)).trans (hS.2.1 x h1 h2), hS.2.2⟩ hL
  have e2 : pm_v P (.ref G.length) = .ref H.size := by
    show Value.ref (pm_ad P G.length) = _
    rw [pm_ad_lt hG, hH.2.1]
  rw [List.map_cons, e2] at k1
  exact k1
theorem pm_newa {at_ : ArrayType} {t M : Nat} {v : Int32} {ty : FieldType} (hty : newarray.typeOf at_ = ty) (ht : t = 0 ∧ ty = .int ∨ t = 1 ∧ ty = .char ∨ t = 2 ∧ ty = .long) (har : Cond.arrayClass ty ∈ TB) (hv : ¬ v < 0) (hM : v.toNatClampNeg = M) (hb : M * componentBytes ty ≤ 536870912) (hG : G.length < 1000) (hk : k + 1 ≤ R.cells ∧ n + M ≤ R.slots) (hd : decode cc pc = .ok (.newarray at_, 2))
    (kk : PW l P y cc nL ret R Tg (k + 1) (n + M) (pc + 2) ls (.ref G.length :: st) (G ++ [.inr (.inl (t, M))]) (pm_u I G.length (fun _ => 0)) (pm_u L G.length (fun _ => 0))) : PW l P y cc nL ret R Tg k n pc ls (.int v :: st) G I L := by
  subst hty
  intro p e s m args below meth c H locs a C hT hX hH hS hL
  have hts := C.2.2.2.2.2.2.2
  refine va_newaK C.1 C.2.1 (hts _ har) rfl hd rfl hv hM hb hk.1 hk.2 rfl fun H1 cA e1 z1 o1 hAr hNm => ?_
  have he : va_at (pm_D P) vwCl (H.size, pm_c P (fun _ => 0) (fun _ => 0) (.inr (.inl (t, M)))) H1 := by
    rcases ht with ⟨rfl, h2⟩ | ⟨rfl, h2⟩ | ⟨rfl, h2⟩
    · have h3 : s.vm.findClass _ = some (pm_cs P 0) := (hT.1.2 0 _ rfl).2
      rw [h2] at hNm e1
      have : cA = pm_cs P 0 := Option.some.inj (hNm.symm.trans h3)
      subst this
      exact e1
    · have h3 : s.vm.findClass _ = some (pm_cs P 1) := (hT.1.2 1 _ rfl).2
      rw [h2] at hNm e1
      have : cA = pm_cs P 1 := Option.some.inj (hNm.symm.trans h3)
      subst this
      exact e1
    · have h3 : s.vm.findClass _ = some (pm_cs P 2) := (hT.1.2 2 _ rfl).2
      rw [h2] at hNm e1
      have : cA = pm_cs P 2 := Option.some.inj (hNm.symm.trans h3)
      subst this
      exact e1
  have h8 := hH.push hG _ _ _ he z1 o1
  have k1 := kk p e s m args below meth c H1 locs a C hT hX h8 ⟨Nat.le_trans hS.1 (by omega), fun x h1 h2 => (o1 x (Nat.lt_of_lt_of_le h1 hS.1)).trans (hS.2.1 x h1 h2), hS.2.2⟩ hL
  have e2 : pm_v P (.ref G.length) = .ref H.size := by
    show Value.ref (pm_ad P G.length) = _
    rw [pm_ad_lt hG, hH.2.1]
  rw [List.map_cons, e2] at k1
  exact k1
theorem pm_anew {M : Nat} {v : Int32} (hcl : Cond.classLink y.cls ix RX5 ∈ TB) (hv : ¬ v < 0) (hM : v.toNatClampNeg = M) (hb : M * 4 ≤ 536870912) (hG : G.length < 1000) (hk : k + 1 ≤ R.cells ∧ n + M ≤ R.slots) (hd : decode cc pc = .ok (.anewarray ix, 3))
    (kk : PW l P y cc nL ret R Tg (k + 1) (n + M) (pc + 3) ls (.ref G.length :: st) (G ++ [.inr (.inr (List.replicate M none))]) (pm_u I G.length (fun _ => 0)) (pm_u L G.length (fun _ => 0))) : PW l P y cc nL ret R Tg k n pc ls (.int v :: st) G I L := by
  subst hM
  intro p e s m args below meth c H locs a C hT hX hH hS hL
  have hts := C.2.2.2.2.2.2.2
  refine W.anew C.1 C.2.1 C.2.2.2.1 (hts _ hcl) (va_AO.use hT.2.2.2) rfl hd rfl hv hb hk.1 hk.2 fun cA kA comp f1 f2 f3 f4 => ?_
  generalize hH1 : H.push ({ cls := cA, slots := Array.replicate v.toNatClampNeg .null, vm := .none } : Cell) = H1
  have z1 : H1.size = H.size + 1 := by rw [← hH1, Array.size_push]
  have e1 : H1[H.size]? = some (arrV cA v.toNatClampNeg (fun _ => .null)) := by rw [← hH1, Array.getElem?_push_size, ← arrV_new]
  have o1 : ∀ q : Nat, q < H.size → H1[q]? = H[q]? := fun q hq => by rw [← hH1, Array.getElem?_push, if_neg (Nat.ne_of_lt hq)]
  have he : va_at (pm_D P) vwCl (H.size, pm_c P (fun _ => 0) (fun _ => 0) (.inr (.inr (List.replicate v.toNatClampNeg none)))) H1 := by
    obtain ⟨_, _, -, -, -, h3⟩ := (hT.1.2 3 _ rfl).2
    have h4 : cA = pm_cs P 3 := Option.some.inj (f1.symm.trans h3)
    subst h4
    show H1[H.size]? = some (vp_cell _ _)
    rw [vp_cell_q, e1, List.length_replicate]
    congr 2
    funext j
    rw [List.getD_eq_getElem?_getD, List.getElem?_replicate]
    split <;> rfl
  have h8 := hH.push hG _ _ _ he z1 o1
  have k1 := kk p e s m args below meth c H1 locs a C hT hX h8 ⟨Nat.le_trans hS.1 (by omega), fun x h1 h2 => (o1 x (Nat.lt_of_lt_of_le h1 hS.1)).trans (hS.2.1 x h1 h2), hS.2.2⟩ hL
  have e2 : pm_v P (.ref G.length) = .ref H.size := by
    show Value.ref (pm_ad P G.length) = _
    rw [pm_ad_lt hG, hH.2.1]
  rw [List.map_cons, e2] at k1
  exact k1
theorem pm_aastore {r ci : Nat} {rs : List (Option Nat)} {fs : List (Option (Option Nat))} {i : Int32} {T : u_T} {M : Nat} (hg : G[o]? = some (.inr (.inr rs))) (hr : G[r]? = some (.inl (ci, fs))) (hc : vwCl[ci]? = some (RX5, T, M)) (hi : vp_in i rs.length) (hd : decode cc pc = .ok (.aastore, 1))
    (kk : PW l P y cc nL ret R Tg k n (pc + 1) ls st (G.set o (.inr (.inr (rs.set i.toNatClampNeg (some r))))) I L) : PW l P y cc nL ret R Tg k n pc ls (.ref r :: .int i :: .ref o :: st) G I L := by
  intro p e s m args below meth c H locs a C hT hX hH hS hL
  have hlt : i.toNatClampNeg < rs.length := Nat.not_le.mp fun q => hi (Or.inr q)
  have h0 : ¬ i < 0 := fun q => hi (Or.inl q)
  obtain ⟨r', hr', cellV, g1, g2, g3, -⟩ := hH.1 r _ (hH.at hr)
  have hcls := (hT.1.1 ci _ hc).2
  obtain ⟨kA, comp, k1, k2, k3, -⟩ := (hT.1.2 3 _ rfl).2
  have hcomp : comp = (pm_D P).1 ci := Option.some.inj (k3.symm.trans hcls.1)
  subst hcomp
  obtain ⟨kC, hkC, -⟩ := hcls.2
  refine W.aast C.1 C.2.1 (a := pm_ad P o) (v := pm_ad P r) (hH.1 o _ (hH.at hg)) (fun q h => by cases h) (fun h => by cases h) k1 k2 rfl hkC ⟨h0, by show _ < (arrV _ _ _).slots.size; rw [arrV_size]; exact hlt⟩ g1 (fun q h => by rw [g3] at h; cases h) (by rw [g2]; exact hkC) (by rw [g2]; exact va_assign hcls) rfl rfl hd fun H1 e1 z oq => ?_
  have hv : va_at (pm_D P) vwCl (pm_ad P o, pm_c P (I o) (L o) (.inr (.inr (rs.set i.toNatClampNeg (some r))))) H1 := by
    show H1[pm_ad P o]? = some (vp_cell _ _)
    rw [e1]
    show some ((vp_cell _ (rs.length, .inr (.inr (.inr (.inr (fun k => (rs.getD k none).map (pm_ad P))))))).setSlot _ _) = some (vp_cell _ _)
    rw [vp_cell_q, vp_cell_q, arrV_store, List.length_set]
    congr 2
    funext q
    by_cases hq : q = i.toNatClampNeg
    · subst hq
      simp [updV, va_rf, hlt, List.getD_eq_getElem?_getD, List.getElem?_set]
    · simp [updV, hq, Ne.symm hq, List.getD_eq_getElem?_getD, List.getElem?_set]
  have h8 := hH.set hg _ (I o) (L o) hv z oq
  rw [pm_uu, pm_uu] at h8
  exact kk p e s m args below meth c H1 _ a C hT hX h8 (pm_S_put hH hg hS z oq) hL
/-- a final field of the class itself, in its constructor: a reference -/
theorem pm_putr {ci j M r : Nat} {T : u_T} {fs : List (Option (Option Nat))} {ty : FieldType} (hg : G[o]? = some (.inl (ci, fs))) (hc : vwCl[ci]? = some (y.cls, T, M)) (hin : ∀ w ∈ u_ws y.cls T M, w ∈ TB) (ty0 : Nat → FieldType) (hty : ∀ k, k < M → parseFieldDescriptor (T k).2.2.1 = some (ty0 k)) (hnm : ∀ a, a < M → ∀ b, b < M → a ≠ b → (T a).2.1 ≠ (T b).2.1) (hj : j < M) (hl : Cond.fieldLink y.cls ix (T j).1 (T j).2.1 (T j).2.2.1 ∈ TB) (hjl : j < fs.length) (hfin : (T j).2.2.2 = true) (hy : y.name = "<init>") (hdecl : (T j).1 = y.cls) (hdt : parseFieldDescriptor (T j).2.2.1 = some ty) (hn : ∀ q : Nat, narrow ty (.ref q) = .ref q ∧ fits ty (.ref q) = true) (hd : decode cc pc = .ok (.putfield ix, 3))
    (kk : PW l P y cc nL ret R Tg k n (pc + 3) ls st (G.set o (.inl (ci, fs.set j (some (some r))))) I L) : PW l P y cc nL ret R Tg k n pc ls (.ref r :: .ref o :: st) G I L := by
  intro p e s m args below meth c H locs a C hT hX hH hS hL
  have hts := C.2.2.2.2.2.2.2
  have hK := hT.1
  have hown := C.2.2.2.1
  have hap := va_apart (own := y.cls) hts hin ty0 hty hnm hK hc
  have he := hH.at hg
  obtain ⟨r1, h1, cell, q1, q2, q3, q4⟩ := hH.1 o _ he
  have hr : r1 = (y.cls, T, M) := Option.some.inj (h1.symm.trans hc)
  subst hr
  obtain ⟨hS1, hfc, kC, hkC, hkind⟩ := hK.1 ci _ hc
  obtain ⟨cf, kf, fi, f, hi, hsl⟩ := hS1 j hj
  have hlay := hts _ (hin _ (u_in_lay hj))
  unfold u_lay at hlay
  rw [if_pos hfin] at hlay
  have hst := (u_facts hfc hkC (u_lays hts hin hj) hi).1
  have hcf : m.cls = cf := by
    obtain ⟨_, _, c', _, _, _, -, -, hf', -, -, -, hown2, -⟩ := Cond.laysFinal_spec hlay
    have e1 : c' = cf := by have := hi.symm.trans hf'; simp at this; exact this.1.symm
    rw [hdecl] at hown2
    rw [← e1]; exact Option.some.inj (hown.symm.trans hown2)
  have h6 := u_fits hfc hkC hkind (Or.inr hlay) hi hdt (hn (pm_ad P r)).1 (hn (pm_ad P r)).2
  refine W.putFinK C.1 C.2.1 (a := pm_ad P o) (v := .ref (pm_ad P r)) hown (hts _ hl) hi hst hcf (C.2.2.2.2.1.trans hy) (by rw [q2]; exact h6) q1 q3 (by rw [hsl]; exact k2_hasslot (q4 j hj)) rfl rfl hd fun H' e1 e2 e3 => ?_
  rw [hsl] at e1
  have hl9 : j < (fs.zipIdx.map (pm_f P (I o))).length := by simp; exact hjl
  have hv : va_at (pm_D P) vwCl (pm_ad P o, pm_c P (I o) (L o) (.inl (ci, fs.set j (some (some r))))) H' := by
    refine ⟨_, hc, ?_⟩
    have h7 := t_OB.to (V := updV (vp_V (fs.zipIdx.map (pm_f P (I o)))) j (.ref (pm_ad P r))) ⟨_, e1, q2, q3, t_set q4 hap hj (.ref (pm_ad P r))⟩ (fun i _ => vp_updV_set hl9 (.ref (pm_ad P r)) i)
    rw [pm_fsetr hjl] at h7
    exact h7
  have h8 := hH.set hg _ (I o) (L o) hv e2 e3
  rw [pm_uu, pm_uu] at h8
  exact kk p e s m args below meth c H' _ a C hT hX h8 (pm_S_put hH hg hS e2 e3) hL
/-! Math -/
def pm_RM (R : Room) (k n : Nat) : Prop := 1 ≤ R.frames ∧ 40 ≤ R.locals ∧ k ≤ R.cells ∧ n ≤ R.slots
theorem pm_mmax {x w : Int32} (hl : Cond.methodLink y.cls ix Lib.Math.max.name ∈ TB) (hs : Cond.static Lib.Math.max.name ∈ TB) (hi : Cond.initialized "java/lang/Math" ∈ TB) (hc : Cond.code Lib.Math.max.name Lib.Math.max.code 2 (some .int) ∈ TB) (hR : pm_RM R k n) (hcat : (st.map (·.category)).sum ≤ 8) (hd : decode cc pc = .ok (.invokestatic ix, 3))
    (kk : PW l P y cc nL ret R Tg k n (pc + 3) ls (.int (if x < w then w else x) :: st) G I L) : PW l P y cc nL ret R Tg k n pc ls (.int w :: .int x :: st) G I L := by
  intro p e s m args below meth c H locs a C hT hX hH hS hL
  have hts := C.2.2.2.2.2.2.2
  have h2 := pm_sum13 P hcat
  obtain ⟨r1, r2, r3, r4⟩ := hR
  exact va_mmax C.1 C.2.1 (C.2.2.1.trans hL.1.symm) C.2.2.2.1 (hts _ hl) (hts _ hs) (hts _ hi) (hts _ hc) r1 (by omega) r3 r4 hd (kk p e s m args below meth c H locs a C hT hX hH hS hL)
theorem pm_mmin {x w : Int32} (hl : Cond.methodLink y.cls ix Lib.Math.min.name ∈ TB) (hs : Cond.static Lib.Math.min.name ∈ TB) (hi : Cond.initialized "java/lang/Math" ∈ TB) (hc : Cond.code Lib.Math.min.name Lib.Math.min.code 2 (some .int) ∈ TB) (hR : pm_RM R k n) (hcat : (st.map (·.category)).sum ≤ 8) (hd : decode cc pc = .ok (.invokestatic ix, 3))
    (kk : PW l P y cc nL ret R Tg k n (pc + 3) ls (.int (if w < x then w else x) :: st) G I L) : PW l P y cc nL ret R Tg k n pc ls (.int w :: .int x :: st) G I L := by
  intro p e s m args below meth c H locs a C hT hX hH hS hL
  have hts := C.2.2.2.2.2.2.2
  have h2 := pm_sum13 P hcat
  obtain ⟨r1, r2, r3, r4⟩ := hR
  exact va_mmin C.1 C.2.1 (C.2.2.1.trans hL.1.symm) C.2.2.2.1 (hts _ hl) (hts _ hs) (hts _ hi) (hts _ hc) r1 (by omega) r3 r4 hd (kk p e s m args below meth c H locs a C hT hX hH hS hL)
theorem pm_mabs {x : Int32} (hl : Cond.methodLink y.cls ix Lib.Math.abs.name ∈ TB) (hs : Cond.static Lib.Math.abs.name ∈ TB) (hi : Cond.initialized "java/lang/Math" ∈ TB) (hc : Cond.code Lib.Math.abs.name Lib.Math.abs.code 1 (some .int) ∈ TB) (hR : pm_RM R k n) (hcat : (st.map (·.category)).sum ≤ 8) (hd : decode cc pc = .ok (.invokestatic ix, 3))
    (kk : PW l P y cc nL ret R Tg k n (pc + 3) ls (.int (if 0 ≤ x then x else 0 - x) :: st) G I L) : PW l P y cc nL ret R Tg k n pc ls (.int x :: st) G I L := by
  intro p e s m args below meth c H locs a C hT hX hH hS hL
  have hts := C.2.2.2.2.2.2.2
  have h2 := pm_sum13 P hcat
  obtain ⟨r1, r2, r3, r4⟩ := hR
  exact va_mabs C.1 C.2.1 (C.2.2.1.trans hL.1.symm) C.2.2.2.1 (hts _ hl) (hts _ hs) (hts _ hi) (hts _ hc) r1 (by omega) r3 r4 hd (kk p e s m args below meth c H locs a C hT hX hH hS hL)
theorem pm_copyi {o0 n0 n1 : Nat} {sp dp v : Int32} (hl : Cond.methodLink y.cls ix arraycopyName ∈ TB) (hnat : Cond.native arraycopyName ∈ TB) (hstat : Cond.static arraycopyName ∈ TB) (hini : Cond.initialized "java/lang/System" ∈ TB) (hg0 : G[o0]? = some (.inr (.inl (0, n0)))) (hg : G[o]? = some (.inr (.inl (0, n1)))) (h1 : ¬ sp < 0) (h2 : ¬ dp < 0) (h3 : ¬ v < 0) (h4 : sp.toNatClampNeg + v.toNatClampNeg ≤ n0) (h5 : dp.toNatClampNeg + v.toNatClampNeg ≤ n1) (hR : 1 ≤ R.frames ∧ 8 + (nativeFrameWords "java/lang/System" "arraycopy" 5 + 11) ≤ R.locals) (hcat : (st.map (·.category)).sum ≤ 8) (hd : decode cc pc = .ok (.invokestatic ix, 3))
    (kk : PW l P y cc nL ret R Tg k n (pc + 3) ls st G (pm_u I o (va_cpy (I o0) (I o) sp.toNatClampNeg dp.toNatClampNeg v.toNatClampNeg)) L) : PW l P y cc nL ret R Tg k n pc ls (.int v :: .int dp :: .ref o :: .int sp :: .ref o0 :: st) G I L := by
  intro p e s m args below meth c H locs a C hT hX hH hS hL
  have hts := C.2.2.2.2.2.2.2
  have hcat2 := pm_sum13 P hcat
  have nn : ∀ z : Int32, ¬ z < 0 → z.toInt = (z.toNatClampNeg : Int) := by
    intro z hz
    have hz0 : (0 : Int) ≤ z.toInt := by
      have := Int32.not_lt.mp hz
      simpa using Int32.le_iff_toInt_le.mp this
    show z.toInt = ((z.toInt.toNat : Nat) : Int)
    omega
  intro T hT' X
  have hc0 : H[pm_ad P o0]? = some (vp_cell (pm_cs P 0) (n0, .inl (I o0))) := hH.1 o0 _ (hH.at hg0)
  have hc1 : H[pm_ad P o]? = some (vp_cell (pm_cs P 0) (n1, .inl (I o))) := hH.1 o _ (hH.at hg)
  obtain ⟨-, k0, hk0, cm0, hkk0⟩ := (hT.1.2 0 _ rfl).1 n0 (fun j => .int ((I o0) j))
  obtain ⟨-, k1, hk1, cm1, hkk1⟩ := (hT.1.2 0 _ rfl).1 n1 (fun j => .int ((I o) j))
  obtain ⟨vm', X', step⟩ := X.arraycopy C.1 C.2.2.2.1 (hts _ hl) (hts _ hnat) (hts _ hstat) (hts _ hini) (src := pm_ad P o0) (dst := pm_ad P o) (cs := vp_cell (pm_cs P 0) (n0, .inl (I o0))) (cd := vp_cell (pm_cs P 0) (n1, .inl (I o))) (srcPos := sp) (destPos := dp) (n := v) (by rw [hT']; exact hc0) (by rw [hT']; exact hc1)
    (fun _ h => by cases h) (fun _ h => by cases h) (fun h => by cases h) (fun h => by cases h) hk0 hk1 hkk0 hkk1 (by simp [refKind]) h1 h2 h3
    (by rw [nn sp h1, nn v h3]; show ¬ _ > ((arrV (pm_cs P 0) n0 (fun j => .int ((I o0) j))).slots.size : Int); rw [arrV_size]; omega)
    (by rw [nn dp h2, nn v h3]; show ¬ _ > ((arrV (pm_cs P 0) n1 (fun j => .int ((I o) j))).slots.size : Int); rw [arrV_size]; omega)
    (fun vm₁ _ i hi => by
      have e : (vp_cell (pm_cs P 0) (n0, .inl (I o0))).slots.getD (sp.toNatClampNeg + i) .null = .int ((I o0) (sp.toNatClampNeg + i)) := by
        show (arrV (pm_cs P 0) n0 (fun j => .int ((I o0) j))).slots.getD _ _ = _
        rw [Array.getD_eq_getD_getElem?, arrV_read _ _ (by omega)]
        rfl
      refine ⟨?_, ?_⟩
      · rw [e]; rfl
      · rw [e]; exact trivial)
    (g := F0 m pc a (.int v :: .int dp :: .ref (pm_ad P o) :: .int sp :: .ref (pm_ad P o0) :: st.map (pm_v P))) rfl (by rw [C.2.2.1]; exact hL.1) (rest := st.map (pm_v P)) rfl (by rw [C.2.1]; exact hd) hR.1 (by have := hR.2; show 2 * 0 + _ + _ ≤ _; omega)
  have e1 : copied (vp_cell (pm_cs P 0) (n0, .inl (I o0))) (vp_cell (pm_cs P 0) (n1, .inl (I o))) sp dp v = vp_cell (pm_cs P 0) (n1, .inl (va_cpy (I o0) (I o) sp.toNatClampNeg dp.toNatClampNeg v.toNatClampNeg)) := va_copied (fun z => .int z) (pm_cs P 0) (pm_cs P 0) (I o0) (I o) h4
  rw [e1] at X' step
  have hlt : pm_ad P o < H.size := (Array.getElem?_eq_some_iff.mp hc1).1
  have hheap : ((T.setVm vm').setCell (pm_ad P o) (vp_cell (pm_cs P 0) (n1, .inl (va_cpy (I o0) (I o) sp.toNatClampNeg dp.toNatClampNeg v.toNatClampNeg)))).heap = H.setIfInBounds (pm_ad P o) (vp_cell (pm_cs P 0) (n1, .inl (va_cpy (I o0) (I o) sp.toNatClampNeg dp.toNatClampNeg v.toNatClampNeg))) := by rw [← hT']; rfl
  have oq : ∀ q : Nat, q ≠ pm_ad P o → (H.setIfInBounds (pm_ad P o) (vp_cell (pm_cs P 0) (n1, .inl (va_cpy (I o0) (I o) sp.toNatClampNeg dp.toNatClampNeg v.toNatClampNeg))))[q]? = H[q]? := fun q hq => by simp [Array.getElem?_setIfInBounds, Ne.symm hq]
  have hv : va_at (pm_D P) vwCl (pm_ad P o, pm_c P (va_cpy (I o0) (I o) sp.toNatClampNeg dp.toNatClampNeg v.toNatClampNeg) (L o) (.inr (.inl (0, n1)))) (H.setIfInBounds (pm_ad P o) (vp_cell (pm_cs P 0) (n1, .inl (va_cpy (I o0) (I o) sp.toNatClampNeg dp.toNatClampNeg v.toNatClampNeg)))) := by
    show (H.setIfInBounds _ _)[_]? = some (vp_cell _ _)
    simp [Array.getElem?_setIfInBounds, hlt]
  have h8 := hH.set0 hg (va_cpy (I o0) (I o) sp.toNatClampNeg dp.toNatClampNeg v.toNatClampNeg) (L o) hv (by simp) oq
  rw [pm_uu] at h8
  obtain ⟨t, a1, b1⟩ := kk p e s m args below meth c _ _ a C hT hX h8 ⟨by simp; exact hS.1, fun q g1 g2 => by
      rw [oq q (fun e => g2 (by rw [e, hH.ad hg]; exact Nat.le_add_right _ _))]
      exact hS.2.1 q g1 g2, fun q hq => by
      rcases List.mem_append.mp hq with h | h
      · exact hS.2.2 q h
      · obtain ⟨z, -, hz⟩ := List.mem_map.mp h
        rw [← hz, hH.ad hg]
        exact Nat.le_add_right _ _⟩ hL _ hheap X'
  exact ⟨t, step t a1, b1⟩
theorem pm_copyl {o0 n0 n1 : Nat} {sp dp v : Int32} (hl : Cond.methodLink y.cls ix arraycopyName ∈ TB) (hnat : Cond.native arraycopyName ∈ TB) (hstat : Cond.static arraycopyName ∈ TB) (hini : Cond.initialized "java/lang/System" ∈ TB) (hg0 : G[o0]? = some (.inr (.inl (2, n0)))) (hg : G[o]? = some (.inr (.inl (2, n1)))) (h1 : ¬ sp < 0) (h2 : ¬ dp < 0) (h3 : ¬ v < 0) (h4 : sp.toNatClampNeg + v.toNatClampNeg ≤ n0) (h5 : dp.toNatClampNeg + v.toNatClampNeg ≤ n1) (hR : 1 ≤ R.frames ∧ 8 + (nativeFrameWords "java/lang/System" "arraycopy" 5 + 11) ≤ R.locals) (hcat : (st.map (·.category)).sum ≤ 8) (hd : decode cc pc = .ok (.invokestatic ix, 3))
    (kk : PW l P y cc nL ret R Tg k n (pc + 3) ls st G I (pm_u L o (va_cpy (L o0) (L o) sp.toNatClampNeg dp.toNatClampNeg v.toNatClampNeg))) : PW l P y cc nL ret R Tg k n pc ls (.int v :: .int dp :: .ref o :: .int sp :: .ref o0 :: st) G I L := by
  intro p e s m args below meth c H locs a C hT hX hH hS hL
  have hts := C.2.2.2.2.2.2.2
  have hcat2 := pm_sum13 P hcat
  have nn : ∀ z : Int32, ¬ z < 0 → z.toInt = (z.toNatClampNeg : Int) := by
    intro z hz
    have hz0 : (0 : Int) ≤ z.toInt := by
      have := Int32.not_lt.mp hz
      simpa using Int32.le_iff_toInt_le.mp this
    show z.toInt = ((z.toInt.toNat : Nat) : Int)
    omega
  intro T hT' X
  have hc0 : H[pm_ad P o0]? = some (vp_cell (pm_cs P 2) (n0, .inr (.inl (L o0)))) := hH.1 o0 _ (hH.at hg0)
  have hc1 : H[pm_ad P o]? = some (vp_cell (pm_cs P 2) (n1, .inr (.inl (L o)))) := hH.1 o _ (hH.at hg)
  obtain ⟨-, k0, hk0, cm0, hkk0⟩ := (hT.1.2 2 _ rfl).1 n0 (fun j => .long ((L o0) j))
  obtain ⟨-, k1, hk1, cm1, hkk1⟩ := (hT.1.2 2 _ rfl).1 n1 (fun j => .long ((L o) j))
  obtain ⟨vm', X', step⟩ := X.arraycopy C.1 C.2.2.2.1 (hts _ hl) (hts _ hnat) (hts _ hstat) (hts _ hini) (src := pm_ad P o0) (dst := pm_ad P o) (cs := vp_cell (pm_cs P 2) (n0, .inr (.inl (L o0)))) (cd := vp_cell (pm_cs P 2) (n1, .inr (.inl (L o)))) (srcPos := sp) (destPos := dp) (n := v) (by rw [hT']; exact hc0) (by rw [hT']; exact hc1)
    (fun _ h => by cases h) (fun _ h => by cases h) (fun h => by cases h) (fun h => by cases h) hk0 hk1 hkk0 hkk1 (by simp [refKind]) h1 h2 h3
    (by rw [nn sp h1, nn v h3]; show ¬ _ > ((arrV (pm_cs P 2) n0 (fun j => .long ((L o0) j))).slots.size : Int); rw [arrV_size]; omega)
    (by rw [nn dp h2, nn v h3]; show ¬ _ > ((arrV (pm_cs P 2) n1 (fun j => .long ((L o) j))).slots.size : Int); rw [arrV_size]; omega)
    (fun vm₁ _ i hi => by
      have e : (vp_cell (pm_cs P 2) (n0, .inr (.inl (L o0)))).slots.getD (sp.toNatClampNeg + i) .null = .long ((L o0) (sp.toNatClampNeg + i)) := by
        show (arrV (pm_cs P 2) n0 (fun j => .long ((L o0) j))).slots.getD _ _ = _
        rw [Array.getD_eq_getD_getElem?, arrV_read _ _ (by omega)]
        rfl
      refine ⟨?_, ?_⟩
      · rw [e]; rfl
      · rw [e]; exact trivial)
    (g := F0 m pc a (.int v :: .int dp :: .ref (pm_ad P o) :: .int sp :: .ref (pm_ad P o0) :: st.map (pm_v P))) rfl (by rw [C.2.2.1]; exact hL.1) (rest := st.map (pm_v P)) rfl (by rw [C.2.1]; exact hd) hR.1 (by have := hR.2; show 2 * 0 + _ + _ ≤ _; omega)
  have e1 : copied (vp_cell (pm_cs P 2) (n0, .inr (.inl (L o0)))) (vp_cell (pm_cs P 2) (n1, .inr (.inl (L o)))) sp dp v = vp_cell (pm_cs P 2) (n1, .inr (.inl (va_cpy (L o0) (L o) sp.toNatClampNeg dp.toNatClampNeg v.toNatClampNeg))) := va_copied (fun z => .long z) (pm_cs P 2) (pm_cs P 2) (L o0) (L o) h4
  rw [e1] at X' step
  have hlt : pm_ad P o < H.size := (Array.getElem?_eq_some_iff.mp hc1).1
  have hheap : ((T.setVm vm').setCell (pm_ad P o) (vp_cell (pm_cs P 2) (n1, .inr (.inl (va_cpy (L o0) (L o) sp.toNatClampNeg dp.toNatClampNeg v.toNatClampNeg))))).heap = H.setIfInBounds (pm_ad P o) (vp_cell (pm_cs P 2) (n1, .inr (.inl (va_cpy (L o0) (L o) sp.toNatClampNeg dp.toNatClampNeg v.toNatClampNeg)))) := by rw [← hT']; rfl
  have oq : ∀ q : Nat, q ≠ pm_ad P o → (H.setIfInBounds (pm_ad P o) (vp_cell (pm_cs P 2) (n1, .inr (.inl (va_cpy (L o0) (L o) sp.toNatClampNeg dp.toNatClampNeg v.toNatClampNeg)))))[q]? = H[q]? := fun q hq => by simp [Array.getElem?_setIfInBounds, Ne.symm hq]
  have hv : va_at (pm_D P) vwCl (pm_ad P o, pm_c P (I o) (va_cpy (L o0) (L o) sp.toNatClampNeg dp.toNatClampNeg v.toNatClampNeg) (.inr (.inl (2, n1)))) (H.setIfInBounds (pm_ad P o) (vp_cell (pm_cs P 2) (n1, .inr (.inl (va_cpy (L o0) (L o) sp.toNatClampNeg dp.toNatClampNeg v.toNatClampNeg))))) := by
    show (H.setIfInBounds _ _)[_]? = some (vp_cell _ _)
    simp [Array.getElem?_setIfInBounds, hlt]
  have h8 := hH.set0 hg (I o) (va_cpy (L o0) (L o) sp.toNatClampNeg dp.toNatClampNeg v.toNatClampNeg) hv (by simp) oq
  rw [pm_uu] at h8
  obtain ⟨t, a1, b1⟩ := kk p e s m args below meth c _ _ a C hT hX h8 ⟨by simp; exact hS.1, fun q g1 g2 => by
      rw [oq q (fun e => g2 (by rw [e, hH.ad hg]; exact Nat.le_add_right _ _))]
      exact hS.2.1 q g1 g2, fun q hq => by
      rcases List.mem_append.mp hq with h | h
      · exact hS.2.2 q h
      · obtain ⟨z, -, hz⟩ := List.mem_map.mp h
        rw [← hz, hH.ad hg]
        exact Nat.le_add_right _ _⟩ hL _ hheap X'
  exact ⟨t, step t a1, b1⟩
end PMC
