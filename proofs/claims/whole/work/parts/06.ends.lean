/-- the shapes of the whole system: 0 .. 39 the class, 40 .. 64 the reference -/
def GX : List pm_S := [.inl (7, [some (some 1), some (some 9), none, some (some 17), some (some 19), some (some 22), some (some 24), some (some 29), some (some 31)]),
  .inl (0, [some (some 2), some (some 3), some (some 4), some (some 5), some (some 6), some (some 7), some (some 8), none, none]),
  .inr (.inl (0, 12)),
  .inr (.inl (0, 12)),
  .inr (.inl (0, 12)),
  .inr (.inl (0, 12)),
  .inr (.inl (0, 12)),
  .inr (.inl (0, 6)),
  .inr (.inl (0, 6)),
  .inl (0, [some (some 10), some (some 11), some (some 12), some (some 13), some (some 14), some (some 15), some (some 16), none, none]),
  .inr (.inl (0, 12)),
  .inr (.inl (0, 12)),
  .inr (.inl (0, 12)),
  .inr (.inl (0, 12)),
  .inr (.inl (0, 12)),
  .inr (.inl (0, 6)),
  .inr (.inl (0, 6)),
  .inl (5, [some (some 18)]),
  .inr (.inl (0, 3)),
  .inl (6, [some (some 20), some (some 21)]),
  .inr (.inl (0, 16)),
  .inr (.inl (0, 16)),
  .inl (4, [some (some 23), none, none]),
  .inr (.inl (1, 120)),
  .inl (1, [some (some 25), some (some 26), some (some 27), some (some 28)]),
  .inr (.inl (0, 12)),
  .inr (.inl (0, 12)),
  .inr (.inl (0, 12)),
  .inr (.inl (0, 12)),
  .inl (2, [some (some 30)]),
  .inr (.inl (0, 60)),
  .inr (.inr [some 32, some 34, some 36, some 38]),
  .inl (3, [some (some 33), none, none]),
  .inr (.inl (2, 24)),
  .inl (3, [some (some 35), none, none]),
  .inr (.inl (2, 24)),
  .inl (3, [some (some 37), none, none]),
  .inr (.inl (2, 24)),
  .inl (3, [some (some 39), none, none]),
  .inr (.inl (2, 24))]
def GM : List pm_S := [.inl (8, [none, some (some 41), some (some 42), some (some 43), some (some 44), some (some 45), some (some 46), some (some 47), none, some (some 48), none, none, none, none, some (some 49), some (some 50), some (some 51), some (some 52), none, some (some 53), some (some 54), some (some 55), some (some 56), some (some 57), some (some 58), some (some 59), none, none, none, some (some 60), some (some 61), some (some 62), some (some 63), some (some 64)]),
  .inr (.inl (0, 12)),
  .inr (.inl (0, 12)),
  .inr (.inl (0, 12)),
  .inr (.inl (0, 12)),
  .inr (.inl (0, 6)),
  .inr (.inl (0, 72)),
  .inr (.inl (0, 6)),
  .inr (.inl (0, 120)),
  .inr (.inl (0, 12)),
  .inr (.inl (0, 12)),
  .inr (.inl (0, 12)),
  .inr (.inl (0, 12)),
  .inr (.inl (0, 60)),
  .inr (.inl (0, 72)),
  .inr (.inl (0, 6)),
  .inr (.inl (0, 36)),
  .inr (.inl (0, 18)),
  .inr (.inl (0, 216)),
  .inr (.inl (0, 3)),
  .inr (.inl (0, 138)),
  .inr (.inl (0, 4)),
  .inr (.inl (0, 4)),
  .inr (.inl (2, 96)),
  .inr (.inl (2, 24))]
def GG : List pm_S := [.inl (7, [some (some 1), some (some 9), none, some (some 17), some (some 19), some (some 22), some (some 24), some (some 29), some (some 31)]),
  .inl (0, [some (some 2), some (some 3), some (some 4), some (some 5), some (some 6), some (some 7), some (some 8), none, none]),
  .inr (.inl (0, 12)),
  .inr (.inl (0, 12)),
  .inr (.inl (0, 12)),
  .inr (.inl (0, 12)),
  .inr (.inl (0, 12)),
  .inr (.inl (0, 6)),
  .inr (.inl (0, 6)),
  .inl (0, [some (some 10), some (some 11), some (some 12), some (some 13), some (some 14), some (some 15), some (some 16), none, none]),
  .inr (.inl (0, 12)),
  .inr (.inl (0, 12)),
  .inr (.inl (0, 12)),
  .inr (.inl (0, 12)),
  .inr (.inl (0, 12)),
  .inr (.inl (0, 6)),
  .inr (.inl (0, 6)),
  .inl (5, [some (some 18)]),
  .inr (.inl (0, 3)),
  .inl (6, [some (some 20), some (some 21)]),
  .inr (.inl (0, 16)),
  .inr (.inl (0, 16)),
  .inl (4, [some (some 23), none, none]),
  .inr (.inl (1, 120)),
  .inl (1, [some (some 25), some (some 26), some (some 27), some (some 28)]),
  .inr (.inl (0, 12)),
  .inr (.inl (0, 12)),
  .inr (.inl (0, 12)),
  .inr (.inl (0, 12)),
  .inl (2, [some (some 30)]),
  .inr (.inl (0, 60)),
  .inr (.inr [some 32, some 34, some 36, some 38]),
  .inl (3, [some (some 33), none, none]),
  .inr (.inl (2, 24)),
  .inl (3, [some (some 35), none, none]),
  .inr (.inl (2, 24)),
  .inl (3, [some (some 37), none, none]),
  .inr (.inl (2, 24)),
  .inl (3, [some (some 39), none, none]),
  .inr (.inl (2, 24)),
  .inl (8, [none, some (some 41), some (some 42), some (some 43), some (some 44), some (some 45), some (some 46), some (some 47), none, some (some 48), none, none, none, none, some (some 49), some (some 50), some (some 51), some (some 52), none, some (some 53), some (some 54), some (some 55), some (some 56), some (some 57), some (some 58), some (some 59), none, none, none, some (some 60), some (some 61), some (some 62), some (some 63), some (some 64)]),
  .inr (.inl (0, 12)),
  .inr (.inl (0, 12)),
  .inr (.inl (0, 12)),
  .inr (.inl (0, 12)),
  .inr (.inl (0, 6)),
  .inr (.inl (0, 72)),
  .inr (.inl (0, 6)),
  .inr (.inl (0, 120)),
  .inr (.inl (0, 12)),
  .inr (.inl (0, 12)),
  .inr (.inl (0, 12)),
  .inr (.inl (0, 12)),
  .inr (.inl (0, 60)),
  .inr (.inl (0, 72)),
  .inr (.inl (0, 6)),
  .inr (.inl (0, 36)),
  .inr (.inl (0, 18)),
  .inr (.inl (0, 216)),
  .inr (.inl (0, 3)),
  .inr (.inl (0, 138)),
  .inr (.inl (0, 4)),
  .inr (.inl (0, 4)),
  .inr (.inl (2, 96)),
  .inr (.inl (2, 24))]
theorem GG_app : GX ++ GM = GG := rfl
theorem gg_sheet {s : Nat} (h : s < 4) : GG[32 + 2 * s]? = some (.inl (3, [some (some (33 + 2 * s)), none, none])) := by
  rcases (show s = 0 ∨ s = 1 ∨ s = 2 ∨ s = 3 by omega) with rfl | rfl | rfl | rfl <;> rfl
theorem gg_row {s : Nat} (h : s < 4) : GG[33 + 2 * s]? = some (.inr (.inl (2, 24))) := by
  rcases (show s = 0 ∨ s = 1 ∨ s = 2 ∨ s = 3 by omega) with rfl | rfl | rfl | rfl <;> rfl
/-! ends of calls: QR reads a number, QL a long, QA a cell; QI a number and another memory, QV another memory -/
abbrev pm_QT : Type := Option Value → List pm_S → pm_I → pm_L → Prop
def QR (G : List pm_S) (I : pm_I) (L : pm_L) (r : Int32) : pm_QT := fun v G' I' L' => v = some (.int r) ∧ G' = G ∧ I' = I ∧ L' = L
def QL (G : List pm_S) (I : pm_I) (L : pm_L) (r : Int64) : pm_QT := fun v G' I' L' => v = some (.long r) ∧ G' = G ∧ I' = I ∧ L' = L
def QA (G : List pm_S) (I : pm_I) (L : pm_L) (r : Value) : pm_QT := fun v G' I' L' => v = some r ∧ G' = G ∧ I' = I ∧ L' = L
def QI (G : List pm_S) (post : Int32 → pm_I → pm_L → Prop) : pm_QT := fun v G' I' L' => ∃ r, v = some (.int r) ∧ G' = G ∧ post r I' L'
def QV (G : List pm_S) (post : pm_I → pm_L → Prop) : pm_QT := fun v G' I' L' => v = none ∧ G' = G ∧ post I' L'
theorem QR.r {G : List pm_S} {I : pm_I} {L : pm_L} {r r' : Int32} (h : r' = r) : QR G I L r (some (.int r')) G I L := ⟨by rw [h], rfl, rfl, rfl⟩
theorem QI.r {G : List pm_S} {I : pm_I} {L : pm_L} {r : Int32} {post : Int32 → pm_I → pm_L → Prop} (h : post r I L) : QI G post (some (.int r)) G I L := ⟨r, rfl, rfl, h⟩
theorem QV.r {G : List pm_S} {I : pm_I} {L : pm_L} {post : pm_I → pm_L → Prop} (h : post I L) : QV G post none G I L := ⟨rfl, rfl, h⟩
theorem QL.r {G : List pm_S} {I : pm_I} {L : pm_L} {r r' : Int64} (h : r' = r) : QL G I L r (some (.long r')) G I L := ⟨by rw [h], rfl, rfl, rfl⟩
section PMV
variable {l : Launch} {P : pm_E} {y : MethodName} {cc : ByteArray} {nL : Nat} {ret : Option FieldType} {R : Room} {Tg : List Frame → Array Value → State → State → Prop} {k n pc : Nat} {ls : List (Option Value)} {st : List Value} {G : List pm_S} {I : pm_I} {L : pm_L}
variable {d ix : Nat} {y' : MethodName} {cc' : ByteArray} {nL' : Nat} {ret' : Option FieldType} {o : Nat} {as stk : List Value}
theorem pm_iald {N j : Nat} (hg : G[o]? = some (.inr (.inl (0, N)))) (hj : j < N) (hN : N < 2 ^ 31) (hd : decode cc pc = .ok (.iaload, 1)) (kk : PW l P y cc nL ret R Tg k n (pc + 1) ls (.int (I o j) :: st) G I L) : PW l P y cc nL ret R Tg k n pc ls (.int (nI j) :: .ref o :: st) G I L :=
  pm_iaload hg (vp_in_nI hj hN) hd (by rw [nI_clamp (Nat.lt_trans hj hN)]; exact kk)
theorem pm_cald {N j : Nat} (hg : G[o]? = some (.inr (.inl (1, N)))) (hj : j < N) (hN : N < 2 ^ 31) (hd : decode cc pc = .ok (.caload, 1)) (kk : PW l P y cc nL ret R Tg k n (pc + 1) ls (.int (I o j) :: st) G I L) : PW l P y cc nL ret R Tg k n pc ls (.int (nI j) :: .ref o :: st) G I L :=
  pm_caload hg (vp_in_nI hj hN) hd (by rw [nI_clamp (Nat.lt_trans hj hN)]; exact kk)
theorem pm_lald {N j : Nat} (hg : G[o]? = some (.inr (.inl (2, N)))) (hj : j < N) (hN : N < 2 ^ 31) (hd : decode cc pc = .ok (.laload, 1)) (kk : PW l P y cc nL ret R Tg k n (pc + 1) ls (.long (L o j) :: st) G I L) : PW l P y cc nL ret R Tg k n pc ls (.int (nI j) :: .ref o :: st) G I L :=
  pm_laload hg (vp_in_nI hj hN) hd (by rw [nI_clamp (Nat.lt_trans hj hN)]; exact kk)
theorem pm_iast {N j : Nat} {x : Int32} (hg : G[o]? = some (.inr (.inl (0, N)))) (hj : j < N) (hN : N < 2 ^ 31) (hd : decode cc pc = .ok (.iastore, 1)) (kk : PW l P y cc nL ret R Tg k n (pc + 1) ls st G (pm_u I o (upd (I o) j x)) L) : PW l P y cc nL ret R Tg k n pc ls (.int x :: .int (nI j) :: .ref o :: st) G I L :=
  pm_iastore hg (vp_in_nI hj hN) hd (by rw [nI_clamp (Nat.lt_trans hj hN)]; exact kk)
theorem pm_cast {N j : Nat} {x : Int32} (hg : G[o]? = some (.inr (.inl (1, N)))) (hj : j < N) (hN : N < 2 ^ 31) (hd : decode cc pc = .ok (.castore, 1)) (kk : PW l P y cc nL ret R Tg k n (pc + 1) ls st G (pm_u I o (upd (I o) j (vp_nar .char x))) L) : PW l P y cc nL ret R Tg k n pc ls (.int x :: .int (nI j) :: .ref o :: st) G I L :=
  pm_castore hg (vp_in_nI hj hN) hd (by rw [nI_clamp (Nat.lt_trans hj hN)]; exact kk)
theorem pm_last {N j : Nat} {x : Int64} (hg : G[o]? = some (.inr (.inl (2, N)))) (hj : j < N) (hN : N < 2 ^ 31) (hd : decode cc pc = .ok (.lastore, 1)) (kk : PW l P y cc nL ret R Tg k n (pc + 1) ls st G I (pm_u L o (vp_updL (L o) j x))) : PW l P y cc nL ret R Tg k n pc ls (.long x :: .int (nI j) :: .ref o :: st) G I L :=
  pm_lastore hg (vp_in_nI hj hN) hd (by rw [nI_clamp (Nat.lt_trans hj hN)]; exact kk)
theorem pm_cVR {r : Int32} (hd : decode cc pc = .ok (.invokevirtual ix, 3)) (hM : PC d 0 0 y' cc' nL' ret' (.ref o :: as) G I L (QR G I L r)) (hw : pm_k y' cc' nL' ret' as.length) (hl : Cond.methodLink y.cls ix y' ∈ TB) (hi : Cond.instanceMethod y' ∈ TB) (hse : Cond.selects y'.cls y' y' ∈ TB) {ci N0 : Nat} {T : u_T} {fs : List (Option (Option Nat))} (hg : G[o]? = some (.inl (ci, fs))) (hc : vwCl[ci]? = some (y'.cls, T, N0)) (hR : d + 1 ≤ R.frames ∧ 8 + (nL' + 11) + 64 * d ≤ R.locals) (hk : k ≤ R.cells ∧ n ≤ R.slots) (hs : stk = as.reverse ++ .ref o :: st) (hcat : (st.map (·.category)).sum ≤ 8) (kk : PW l P y cc nL ret R Tg k n (pc + 3) ls (.int r :: st) G I L) : PW l P y cc nL ret R Tg k n pc ls stk G I L :=
  pm_cV hd hM hw hl hi hse hg hc hR hk hs hcat (fun v G' I' L' h => by obtain ⟨rfl, rfl, rfl, rfl⟩ := h; exact kk)
theorem pm_cVL {r : Int64} (hd : decode cc pc = .ok (.invokevirtual ix, 3)) (hM : PC d 0 0 y' cc' nL' ret' (.ref o :: as) G I L (QL G I L r)) (hw : pm_k y' cc' nL' ret' as.length) (hl : Cond.methodLink y.cls ix y' ∈ TB) (hi : Cond.instanceMethod y' ∈ TB) (hse : Cond.selects y'.cls y' y' ∈ TB) {ci N0 : Nat} {T : u_T} {fs : List (Option (Option Nat))} (hg : G[o]? = some (.inl (ci, fs))) (hc : vwCl[ci]? = some (y'.cls, T, N0)) (hR : d + 1 ≤ R.frames ∧ 8 + (nL' + 11) + 64 * d ≤ R.locals) (hk : k ≤ R.cells ∧ n ≤ R.slots) (hs : stk = as.reverse ++ .ref o :: st) (hcat : (st.map (·.category)).sum ≤ 8) (kk : PW l P y cc nL ret R Tg k n (pc + 3) ls (.long r :: st) G I L) : PW l P y cc nL ret R Tg k n pc ls stk G I L :=
  pm_cV hd hM hw hl hi hse hg hc hR hk hs hcat (fun v G' I' L' h => by obtain ⟨rfl, rfl, rfl, rfl⟩ := h; exact kk)
theorem pm_cVA {r : Value} (hd : decode cc pc = .ok (.invokevirtual ix, 3)) (hM : PC d 0 0 y' cc' nL' ret' (.ref o :: as) G I L (QA G I L r)) (hw : pm_k y' cc' nL' ret' as.length) (hl : Cond.methodLink y.cls ix y' ∈ TB) (hi : Cond.instanceMethod y' ∈ TB) (hse : Cond.selects y'.cls y' y' ∈ TB) {ci N0 : Nat} {T : u_T} {fs : List (Option (Option Nat))} (hg : G[o]? = some (.inl (ci, fs))) (hc : vwCl[ci]? = some (y'.cls, T, N0)) (hR : d + 1 ≤ R.frames ∧ 8 + (nL' + 11) + 64 * d ≤ R.locals) (hk : k ≤ R.cells ∧ n ≤ R.slots) (hs : stk = as.reverse ++ .ref o :: st) (hcat : (st.map (·.category)).sum ≤ 8) (kk : PW l P y cc nL ret R Tg k n (pc + 3) ls (r :: st) G I L) : PW l P y cc nL ret R Tg k n pc ls stk G I L :=
  pm_cV hd hM hw hl hi hse hg hc hR hk hs hcat (fun v G' I' L' h => by obtain ⟨rfl, rfl, rfl, rfl⟩ := h; exact kk)
theorem pm_cVI {post : Int32 → pm_I → pm_L → Prop} (hd : decode cc pc = .ok (.invokevirtual ix, 3)) (hM : PC d 0 0 y' cc' nL' ret' (.ref o :: as) G I L (QI G post)) (hw : pm_k y' cc' nL' ret' as.length) (hl : Cond.methodLink y.cls ix y' ∈ TB) (hi : Cond.instanceMethod y' ∈ TB) (hse : Cond.selects y'.cls y' y' ∈ TB) {ci N0 : Nat} {T : u_T} {fs : List (Option (Option Nat))} (hg : G[o]? = some (.inl (ci, fs))) (hc : vwCl[ci]? = some (y'.cls, T, N0)) (hR : d + 1 ≤ R.frames ∧ 8 + (nL' + 11) + 64 * d ≤ R.locals) (hk : k ≤ R.cells ∧ n ≤ R.slots) (hs : stk = as.reverse ++ .ref o :: st) (hcat : (st.map (·.category)).sum ≤ 8) (kk : ∀ (r : Int32) (I' : pm_I) (L' : pm_L), post r I' L' → PW l P y cc nL ret R Tg k n (pc + 3) ls (.int r :: st) G I' L') : PW l P y cc nL ret R Tg k n pc ls stk G I L :=
  pm_cV hd hM hw hl hi hse hg hc hR hk hs hcat (fun v G' I' L' h => by obtain ⟨r, rfl, rfl, h⟩ := h; exact kk r I' L' h)
theorem pm_cVV {post : pm_I → pm_L → Prop} (hd : decode cc pc = .ok (.invokevirtual ix, 3)) (hM : PC d 0 0 y' cc' nL' ret' (.ref o :: as) G I L (QV G post)) (hw : pm_k y' cc' nL' ret' as.length) (hl : Cond.methodLink y.cls ix y' ∈ TB) (hi : Cond.instanceMethod y' ∈ TB) (hse : Cond.selects y'.cls y' y' ∈ TB) {ci N0 : Nat} {T : u_T} {fs : List (Option (Option Nat))} (hg : G[o]? = some (.inl (ci, fs))) (hc : vwCl[ci]? = some (y'.cls, T, N0)) (hR : d + 1 ≤ R.frames ∧ 8 + (nL' + 11) + 64 * d ≤ R.locals) (hk : k ≤ R.cells ∧ n ≤ R.slots) (hs : stk = as.reverse ++ .ref o :: st) (hcat : (st.map (·.category)).sum ≤ 8) (kk : ∀ (I' : pm_I) (L' : pm_L), post I' L' → PW l P y cc nL ret R Tg k n (pc + 3) ls st G I' L') : PW l P y cc nL ret R Tg k n pc ls stk G I L :=
  pm_cV hd hM hw hl hi hse hg hc hR hk hs hcat (fun v G' I' L' h => by obtain ⟨rfl, rfl, h⟩ := h; exact kk I' L' h)
theorem pm_cSR {r : Int32} (hd : decode cc pc = .ok (.invokestatic ix, 3)) (hM : PC d 0 0 y' cc' nL' ret' as G I L (QR G I L r)) (hw : pm_k y' cc' nL' ret' as.length) (hl : Cond.methodLink y.cls ix y' ∈ TB) (hi : Cond.static y' ∈ TB) (hR : d + 1 ≤ R.frames ∧ 8 + (nL' + 11) + 64 * d ≤ R.locals) (hk : k ≤ R.cells ∧ n ≤ R.slots) (hs : stk = as.reverse ++ st) (hcat : (st.map (·.category)).sum ≤ 8) (kk : PW l P y cc nL ret R Tg k n (pc + 3) ls (.int r :: st) G I L) : PW l P y cc nL ret R Tg k n pc ls stk G I L :=
  pm_cS hd hM hw hl hi hR hk hs hcat (fun v G' I' L' h => by obtain ⟨rfl, rfl, rfl, rfl⟩ := h; exact kk)
theorem pm_cSL {r : Int64} (hd : decode cc pc = .ok (.invokestatic ix, 3)) (hM : PC d 0 0 y' cc' nL' ret' as G I L (QL G I L r)) (hw : pm_k y' cc' nL' ret' as.length) (hl : Cond.methodLink y.cls ix y' ∈ TB) (hi : Cond.static y' ∈ TB) (hR : d + 1 ≤ R.frames ∧ 8 + (nL' + 11) + 64 * d ≤ R.locals) (hk : k ≤ R.cells ∧ n ≤ R.slots) (hs : stk = as.reverse ++ st) (hcat : (st.map (·.category)).sum ≤ 8) (kk : PW l P y cc nL ret R Tg k n (pc + 3) ls (.long r :: st) G I L) : PW l P y cc nL ret R Tg k n pc ls stk G I L :=
  pm_cS hd hM hw hl hi hR hk hs hcat (fun v G' I' L' h => by obtain ⟨rfl, rfl, rfl, rfl⟩ := h; exact kk)
theorem pm_cSA {r : Value} (hd : decode cc pc = .ok (.invokestatic ix, 3)) (hM : PC d 0 0 y' cc' nL' ret' as G I L (QA G I L r)) (hw : pm_k y' cc' nL' ret' as.length) (hl : Cond.methodLink y.cls ix y' ∈ TB) (hi : Cond.static y' ∈ TB) (hR : d + 1 ≤ R.frames ∧ 8 + (nL' + 11) + 64 * d ≤ R.locals) (hk : k ≤ R.cells ∧ n ≤ R.slots) (hs : stk = as.reverse ++ st) (hcat : (st.map (·.category)).sum ≤ 8) (kk : PW l P y cc nL ret R Tg k n (pc + 3) ls (r :: st) G I L) : PW l P y cc nL ret R Tg k n pc ls stk G I L :=
  pm_cS hd hM hw hl hi hR hk hs hcat (fun v G' I' L' h => by obtain ⟨rfl, rfl, rfl, rfl⟩ := h; exact kk)
theorem pm_cSI {post : Int32 → pm_I → pm_L → Prop} (hd : decode cc pc = .ok (.invokestatic ix, 3)) (hM : PC d 0 0 y' cc' nL' ret' as G I L (QI G post)) (hw : pm_k y' cc' nL' ret' as.length) (hl : Cond.methodLink y.cls ix y' ∈ TB) (hi : Cond.static y' ∈ TB) (hR : d + 1 ≤ R.frames ∧ 8 + (nL' + 11) + 64 * d ≤ R.locals) (hk : k ≤ R.cells ∧ n ≤ R.slots) (hs : stk = as.reverse ++ st) (hcat : (st.map (·.category)).sum ≤ 8) (kk : ∀ (r : Int32) (I' : pm_I) (L' : pm_L), post r I' L' → PW l P y cc nL ret R Tg k n (pc + 3) ls (.int r :: st) G I' L') : PW l P y cc nL ret R Tg k n pc ls stk G I L :=
  pm_cS hd hM hw hl hi hR hk hs hcat (fun v G' I' L' h => by obtain ⟨r, rfl, rfl, h⟩ := h; exact kk r I' L' h)
theorem pm_cSV {post : pm_I → pm_L → Prop} (hd : decode cc pc = .ok (.invokestatic ix, 3)) (hM : PC d 0 0 y' cc' nL' ret' as G I L (QV G post)) (hw : pm_k y' cc' nL' ret' as.length) (hl : Cond.methodLink y.cls ix y' ∈ TB) (hi : Cond.static y' ∈ TB) (hR : d + 1 ≤ R.frames ∧ 8 + (nL' + 11) + 64 * d ≤ R.locals) (hk : k ≤ R.cells ∧ n ≤ R.slots) (hs : stk = as.reverse ++ st) (hcat : (st.map (·.category)).sum ≤ 8) (kk : ∀ (I' : pm_I) (L' : pm_L), post I' L' → PW l P y cc nL ret R Tg k n (pc + 3) ls st G I' L') : PW l P y cc nL ret R Tg k n pc ls stk G I L :=
  pm_cS hd hM hw hl hi hR hk hs hcat (fun v G' I' L' h => by obtain ⟨rfl, rfl, h⟩ := h; exact kk I' L' h)
theorem pm_cSNR {r : Int32} (hd : decode cc pc = .ok (.invokestatic ix, 3)) (hM : PC d 0 0 y' cc' nL' ret' as G I L (QR G I L r)) (hw : pm_k y' cc' nL' ret' as.length) {hst : String} (hl : (y.cls, ix, y', hst) ∈ NW) (hi : Cond.static y' ∈ TB) (hR : d + 1 ≤ R.frames ∧ 8 + (nL' + 11) + 64 * d ≤ R.locals) (hk : k ≤ R.cells ∧ n ≤ R.slots) (hs : stk = as.reverse ++ st) (hcat : (st.map (·.category)).sum ≤ 8) (kk : PW l P y cc nL ret R Tg k n (pc + 3) ls (.int r :: st) G I L) : PW l P y cc nL ret R Tg k n pc ls stk G I L :=
  pm_cSN hd hM hw hl hi hR hk hs hcat (fun v G' I' L' h => by obtain ⟨rfl, rfl, rfl, rfl⟩ := h; exact kk)
theorem pm_cSNL {r : Int64} (hd : decode cc pc = .ok (.invokestatic ix, 3)) (hM : PC d 0 0 y' cc' nL' ret' as G I L (QL G I L r)) (hw : pm_k y' cc' nL' ret' as.length) {hst : String} (hl : (y.cls, ix, y', hst) ∈ NW) (hi : Cond.static y' ∈ TB) (hR : d + 1 ≤ R.frames ∧ 8 + (nL' + 11) + 64 * d ≤ R.locals) (hk : k ≤ R.cells ∧ n ≤ R.slots) (hs : stk = as.reverse ++ st) (hcat : (st.map (·.category)).sum ≤ 8) (kk : PW l P y cc nL ret R Tg k n (pc + 3) ls (.long r :: st) G I L) : PW l P y cc nL ret R Tg k n pc ls stk G I L :=
  pm_cSN hd hM hw hl hi hR hk hs hcat (fun v G' I' L' h => by obtain ⟨rfl, rfl, rfl, rfl⟩ := h; exact kk)
theorem pm_cSNA {r : Value} (hd : decode cc pc = .ok (.invokestatic ix, 3)) (hM : PC d 0 0 y' cc' nL' ret' as G I L (QA G I L r)) (hw : pm_k y' cc' nL' ret' as.length) {hst : String} (hl : (y.cls, ix, y', hst) ∈ NW) (hi : Cond.static y' ∈ TB) (hR : d + 1 ≤ R.frames ∧ 8 + (nL' + 11) + 64 * d ≤ R.locals) (hk : k ≤ R.cells ∧ n ≤ R.slots) (hs : stk = as.reverse ++ st) (hcat : (st.map (·.category)).sum ≤ 8) (kk : PW l P y cc nL ret R Tg k n (pc + 3) ls (r :: st) G I L) : PW l P y cc nL ret R Tg k n pc ls stk G I L :=
  pm_cSN hd hM hw hl hi hR hk hs hcat (fun v G' I' L' h => by obtain ⟨rfl, rfl, rfl, rfl⟩ := h; exact kk)
theorem pm_cSNI {post : Int32 → pm_I → pm_L → Prop} (hd : decode cc pc = .ok (.invokestatic ix, 3)) (hM : PC d 0 0 y' cc' nL' ret' as G I L (QI G post)) (hw : pm_k y' cc' nL' ret' as.length) {hst : String} (hl : (y.cls, ix, y', hst) ∈ NW) (hi : Cond.static y' ∈ TB) (hR : d + 1 ≤ R.frames ∧ 8 + (nL' + 11) + 64 * d ≤ R.locals) (hk : k ≤ R.cells ∧ n ≤ R.slots) (hs : stk = as.reverse ++ st) (hcat : (st.map (·.category)).sum ≤ 8) (kk : ∀ (r : Int32) (I' : pm_I) (L' : pm_L), post r I' L' → PW l P y cc nL ret R Tg k n (pc + 3) ls (.int r :: st) G I' L') : PW l P y cc nL ret R Tg k n pc ls stk G I L :=
  pm_cSN hd hM hw hl hi hR hk hs hcat (fun v G' I' L' h => by obtain ⟨r, rfl, rfl, h⟩ := h; exact kk r I' L' h)
theorem pm_cSNV {post : pm_I → pm_L → Prop} (hd : decode cc pc = .ok (.invokestatic ix, 3)) (hM : PC d 0 0 y' cc' nL' ret' as G I L (QV G post)) (hw : pm_k y' cc' nL' ret' as.length) {hst : String} (hl : (y.cls, ix, y', hst) ∈ NW) (hi : Cond.static y' ∈ TB) (hR : d + 1 ≤ R.frames ∧ 8 + (nL' + 11) + 64 * d ≤ R.locals) (hk : k ≤ R.cells ∧ n ≤ R.slots) (hs : stk = as.reverse ++ st) (hcat : (st.map (·.category)).sum ≤ 8) (kk : ∀ (I' : pm_I) (L' : pm_L), post I' L' → PW l P y cc nL ret R Tg k n (pc + 3) ls st G I' L') : PW l P y cc nL ret R Tg k n pc ls stk G I L :=
  pm_cSN hd hM hw hl hi hR hk hs hcat (fun v G' I' L' h => by obtain ⟨rfl, rfl, h⟩ := h; exact kk I' L' h)
theorem pm_iushr {x w : Int32} (hd : decode cc pc = .ok (.iushr, 1)) (kk : PW l P y cc nL ret R Tg k n (pc + 1) ls (.int (x.toUInt32 >>> (w.toUInt32 &&& Int32.toUInt32 31)).toInt32 :: st) G I L) : PW l P y cc nL ret R Tg k n pc ls (.int w :: .int x :: st) G I L := by
  intro p e s m args below meth c H locs a C hT hX hH hS hL
  exact lv_iushr C.1 C.2.1 hd rfl (kk p e s m args below meth c H locs a C hT hX hH hS hL)
/-- the same number on top, said otherwise -/
theorem pm_top {x x' : Int32} (h : x = x') (kk : PW l P y cc nL ret R Tg k n pc ls (.int x' :: st) G I L) : PW l P y cc nL ret R Tg k n pc ls (.int x :: st) G I L := by subst h; exact kk
theorem pm_topl {x x' : Int64} (h : x = x') (kk : PW l P y cc nL ret R Tg k n pc ls (.long x' :: st) G I L) : PW l P y cc nL ret R Tg k n pc ls (.long x :: st) G I L := by subst h; exact kk
end PMV
