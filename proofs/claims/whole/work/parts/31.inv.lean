/-! the state stays well formed -/
theorem xInv.u {X : xS} {q : Nat} {o : Option (Nat × Nat)} {f : Nat → Int64} (h : xInv X) (ho : ∀ a b, o = some (a, b) → a ≤ 2 ∧ b ≤ 24) : xInv (xu X q o f) := by
  refine ⟨h.1, h.2.1, h.2.2.1, fun p hp a b e => ?_⟩
  have e2 : (if p = q then o else x_s X p) = some (a, b) := e
  by_cases z : p = q
  · rw [if_pos z] at e2; exact ho a b e2
  · rw [if_neg z] at e2; exact h.2.2.2 p hp a b e2
theorem nt_r {x : Int32} {a b : Int} {c : Nat} (h : iR x a b) (hb : b ≤ c) : nt x ≤ c := by
  have h1 := h.1
  have h2 := h.2
  unfold nt; omega
theorem xi_piece {X : xS} {k w t p : Int32} (h : xInv X) : xInv (sp_piece X k w t p).2 := by
  unfold sp_piece
  split
  · exact h
  · rename_i h1
    have h1 := Decidable.not_not.mp h1
    split
    · exact h
    · rename_i h2
      have h12 := h.s.n12
      have a1 := nt_r (c := 3) h1.1 (by decide)
      have a2 := nt_r (c := 99) h1.2.1 (by decide)
      have a3 := nt_r (c := 3) h1.2.2.1 (by decide)
      have a4 : 1 ≤ nt w := by have := h1.2.1.1; unfold nt; omega
      exact h.g (gInv_add h.s (by omega) (by omega) ⟨a4, a2⟩ (by omega))
theorem xi_told {X : xS} {x w : Int32} (h : xInv X) : xInv (sp_told X x w).2 := by unfold sp_told; split <;> exact h
theorem xi_of {X : xS} {x w : Int32} (h : xInv X) : xInv (sp_of X x w).2 := by unfold sp_of; split <;> exact h
theorem xi_count {X : xS} {w : Int32} (h : xInv X) : xInv (sp_count X w).2 := h
theorem xi_sense {X : xS} {p v : Int32} (h : xInv X) : xInv (sp_sense X p v).2 := by
  unfold sp_sense
  split
  · rename_i h1
    exact h.g (gInv_sense h.s (nt_r (c := 99) h1.2 (by decide)))
  · exact h
theorem xi_lift {X : xS} {p : Int32} (h : xInv X) : xInv (sp_lift X p).2 := by
  by_cases h1 : isPl p
  · obtain ⟨j, hj, rfl⟩ := isPl_of h1
    rw [sp_lift_t hj]; exact h.g (gInv_try h.s (a_ok0 hj))
  · rw [show sp_lift X p = (-1, X) from if_neg h1]; exact h
theorem xi_lay {X : xS} {i p : Int32} (h : xInv X) : xInv (sp_lay X i p).2 := by
  by_cases h1 : isPc X i ∧ isPl p
  · obtain ⟨j, hj, _, rfl⟩ := isPc_of h h1.1
    obtain ⟨q, hq, rfl⟩ := isPl_of h1.2
    rw [sp_lay_t h hq hj]; exact h.g (gInv_try h.s (a_ok1 hq hj h.s.n12))
  · rw [show sp_lay X i p = (-1, X) from if_neg h1]; exact h
theorem xi_swap {X : xS} {i p : Int32} (h : xInv X) : xInv (sp_swap X p i).2 := by
  by_cases h1 : isPc X i ∧ isPl p
  · obtain ⟨j, hj, _, rfl⟩ := isPc_of h h1.1
    obtain ⟨q, hq, rfl⟩ := isPl_of h1.2
    rw [sp_swap_t h hq hj]; exact h.g (gInv_try h.s (a_ok2 hq hj h.s.n12))
  · rw [show sp_swap X p i = (-1, X) from if_neg h1]; exact h
theorem xi_push {X : xS} {p q : Int32} (h : xInv X) : xInv (sp_push X p q).2 := by
  by_cases h1 : isPl p ∧ isPl q ∧ p ≠ q
  · obtain ⟨a, ha, rfl⟩ := isPl_of h1.1
    obtain ⟨b, hb, rfl⟩ := isPl_of h1.2.1
    rw [sp_push_t ha hb h1.2.2]; exact h.g (gInv_try h.s (a_ok3 ha hb (fun z => h1.2.2 (by rw [z]))))
  · rw [show sp_push X p q = (-1, X) from if_neg h1]; exact h
theorem xi_turn {X : xS} (h : xInv X) : xInv (sp_turn X).2 := h.g (gInv_turn h.s)
theorem xi_image {X : xS} (h : xInv X) : xInv (sp_image X).2 := ⟨h.1, fun s e => by have e2 : some (x_g X) = some s := e; rw [← Option.some.inj e2]; exact h.1, h.2.2⟩
theorem xi_restore {X : xS} (h : xInv X) : xInv (sp_restore X).2 := by
  unfold sp_restore
  split
  · exact h
  · rename_i s e
    exact h.g (h.2.1 s e)
theorem xi_sheet {X : xS} {q b n : Int32} (h : xInv X) : xInv (sp_sheet X q b n).2 := by
  unfold sp_sheet
  split
  · exact h
  · rename_i h1
    have h1 := Decidable.not_not.mp h1
    split
    · exact h
    · refine h.u (fun a c e => ?_)
      have e2 := Option.some.inj e
      have e3 : nt b = a := congrArg Prod.fst e2
      have e4 : nt n = c := congrArg Prod.snd e2
      have a1 := nt_r (c := 2) h1.2.1 (by decide)
      have a2 : nt n ≤ 24 := by have := h1.2.2; unfold nt; omega
      omega
theorem xi_drop {X : xS} {q : Int32} (h : xInv X) : xInv (sp_drop X q).2 := by
  unfold sp_drop
  split
  · exact h
  · split
    · exact h
    · exact h.u (fun a c e => absurd e (by simp))
theorem xi_keep {X : xS} {q : Int32} {f : Nat → Int64} (h : xInv X) (hq : iR q 0 3) : xInv (xu X (nt q) (x_s X (nt q)) f) := by
  have a1 := nt_r (c := 3) hq (by decide)
  exact h.u (fun a c e => h.2.2.2 (nt q) (by omega) a c e)
theorem xi_item {X : xS} {q b i : Int32} {v : Int64} (h : xInv X) : xInv (sp_item X q b i v).2 := by
  unfold sp_item
  split
  · exact h
  · rename_i h1
    split
    · exact h
    · exact xi_keep h (Decidable.not_not.mp h1).1
theorem xi_film {X : xS} {q b i : Int32} (h : xInv X) : xInv (sp_film X q b i).2 := by
  unfold sp_film
  split
  · exact h
  · rename_i h1
    split
    · exact h
    · exact xi_keep h (Decidable.not_not.mp h1).1
theorem xi_copy {X : xS} {q i p j n : Int32} (h : xInv X) : xInv (sp_copy X q i p j n).2 := by
  by_cases hq : iR q 0 3
  · by_cases hp : iR p 0 3
    · obtain ⟨s, hs, rfl⟩ := sh_of hq
      obtain ⟨t, ht, rfl⟩ := sh_of hp
      cases he : x_s X s with
      | none => rw [sp_copy_n hs ht (Or.inl he)]; exact h
      | some e =>
        cases hf : x_s X t with
        | none => rw [sp_copy_n hs ht (Or.inr hf)]; exact h
        | some f =>
          rw [sp_copy_s hs ht he hf]
          split
          · exact h
          · split
            · exact h.u (fun a c z => h.2.2.2 t ht a c (hf.trans z))
            · exact h
    · rw [show sp_copy X q i p j n = (-1, X) from if_pos (fun z => hp z.2)]; exact h
  · rw [show sp_copy X q i p j n = (-1, X) from if_pos (fun z => hq z.1)]; exact h
theorem xi_tried {X : xS} {q b i n w : Int32} (h : xInv X) : xInv (sp_tried X q b i n w).2 := by
  unfold sp_tried
  split
  · exact h
  · split
    · exact h
    · exact h
theorem xi_odds {X : xS} {p c n q w : Int32} (h : xInv X) : xInv (sp_odds X p c n q w).2 := by unfold sp_odds; split <;> exact h
theorem xi_share {X : xS} {t m w : Int32} (h : xInv X) : xInv (sp_share X t m w).2 := by unfold sp_share; split <;> exact h
theorem xi_under {X : xS} {t : Int32} (h : xInv X) : xInv (sp_under X t).2 := by unfold sp_under; split <;> exact h
theorem xInv.t {X : xS} {q : List Nat} (h : xInv X) (h1 : q.length ≤ 120) (h2 : ∀ b, b ∈ q → 32 ≤ b ∧ b ≤ 126) : xInv (xt X q) := ⟨h.1, h.2.1, ⟨h1, h2⟩, h.2.2.2⟩
theorem xi_type {X : xS} {w : Int64} {n : Int32} (h : xInv X) : xInv (sp_type X w n).2 := by
  unfold sp_type
  split
  · exact h
  · split
    · exact h
    · rename_i h2
      have h2 := Decidable.not_not.mp h2
      split
      · exact h
      · rename_i h3
        refine h.t (by rw [t_add_len]; omega) (fun b hb => ?_)
        rcases t_add_mem w (nt n) (x_t X) b hb with z | ⟨k, hk, e⟩
        · exact h.2.2.1.2 b z
        · rw [e]; exact h2 k hk
