theorem zf_0 : ∀ c, c < 127 → z_m 44 c = z_fq 0 (nI (NL.getD 0 0)) (-1) c := by decide +kernel
theorem zf_1 : ∀ c, c < 127 → z_k c = z_fq 1 (nI (NL.getD 1 0)) (-1) c := by decide +kernel
theorem zf_2 : ∀ c, c < 127 → z_m 116 c = z_fq 2 (nI (NL.getD 2 0)) (-1) c := by decide +kernel
theorem zf_3 : ∀ c, c < 127 → z_d 4 c = z_fq 3 (nI (NL.getD 3 0)) (-1) c := by decide +kernel
theorem zf_4 : ∀ c, c < 127 → z_m 64 c = z_fq 4 (nI (NL.getD 4 0)) (-1) c := by decide +kernel
theorem zf_5 : ∀ c, c < 127 → z_d 6 c = z_fq 5 (nI (NL.getD 5 0)) (-1) c := by decide +kernel
theorem zf_6 : ∀ c, c < 127 → z_m 59 c = z_fq 6 (nI (NL.getD 6 0)) (-1) c := by decide +kernel
theorem zf_7 : ∀ c, c < 127 → z_h c = z_fq 7 (nI (NL.getD 7 0)) (-1) c := by decide +kernel
theorem zf_9 : ∀ c, c < 127 → z_m 62 c = z_fq 9 (nI (NL.getD 9 0)) (-1) c := by decide +kernel
theorem zf_10 : ∀ c, c < 127 → z_m 61 c = z_fq 10 (nI (NL.getD 10 0)) (-1) c := by decide +kernel
theorem zf_8 : ∀ n, n < 13 → ∀ c, c < 127 → z_l n c = z_fq 8 (nI n) (-1) c := by decide +kernel
theorem zf_w : ∀ w, w < 6 → ∀ c, c < 127 → z_dw w c = z_fq 5 (nI 6) (nI w) c := by decide +kernel
theorem zb_d {m c x : Nat} (h : z_d m c = some x) : x < m := by
  unfold z_d at h
  split at h
  · rename_i z; rw [← Option.some.inj h]; omega
  · exact absurd h (by simp)
theorem zb_dw {w c x : Nat} (h : z_dw w c = some x) : x < 6 ∧ x ≠ w := by
  unfold z_dw at h
  split at h
  · rename_i z; rw [← Option.some.inj h]; omega
  · exact absurd h (by simp)
theorem zb_l {n c x : Nat} (h : z_l n c = some x) : x < n := by
  unfold z_l at h
  split at h
  · rename_i z; rw [← Option.some.inj h]; omega
  · exact absurd h (by simp)
theorem zb_m {m c x : Nat} (h : z_m m c = some x) : x = 0 := by
  unfold z_m at h
  split at h
  · exact (Option.some.inj h).symm
  · exact absurd h (by simp)
theorem zb_h {c x : Nat} (h : z_h c = some x) : x < 4 := by
  unfold z_h at h
  repeat (split at h; first | (rw [← Option.some.inj h]; decide) | skip)
  exact absurd h (by simp)
theorem zb_k {c x : Nat} (h : z_k c = some x) : x < 4 := by
  unfold z_k at h
  repeat (split at h; first | (rw [← Option.some.inj h]; decide) | skip)
  exact absurd h (by simp)
theorem z_get {t : List Nat} {f : Nat → Option Nat} {a x : Nat} (h : z_p t f a = some x) : f (t.getD (z_sk t a) 0) = some x := by
  unfold z_p at h
  split at h
  · exact h
  · exact absurd h (by simp)
theorem z_neg {t : List Nat} {f : Nat → Option Nat} {a B : Nat} {r : Int32} (hb : ∀ c x, f c = some x → x < B) (hB : B ≤ 1000) (er : r = z_o (z_p t f a)) (h : r < 0) : z_p t f a = none := by
  cases e : z_p t f a with
  | none => rfl
  | some x =>
    have hx := hb _ _ (z_get e)
    rw [er, e] at h
    have h2 : nI x < 0 := h
    rw [pm_ltI, nI_toInt (by omega), pm_t0] at h2; omega
theorem z_pos {t : List Nat} {f : Nat → Option Nat} {a : Nat} {r : Int32} (er : r = z_o (z_p t f a)) (h : ¬ r < 0) : ∃ x, z_p t f a = some x ∧ r = nI x ∧ f (t.getD (z_sk t a) 0) = some x := by
  cases e : z_p t f a with
  | none => rw [er, e] at h; exact absurd (show (-1 : Int32) < 0 by decide) h
  | some x => exact ⟨x, rfl, by rw [er, e]; rfl, z_get e⟩
theorem z_mk0 {t : List Nat} {m a : Nat} {r : Int32} (er : r = z_o (z_p t (z_m m) a)) (h : r = 0) : z_p t (z_m m) a = some 0 := by
  cases e : z_p t (z_m m) a with
  | none => rw [er, e] at h; exact absurd h (by decide)
  | some x => rw [zb_m (z_get e)]
theorem z_mk1 {t : List Nat} {m a : Nat} {r : Int32} (er : r = z_o (z_p t (z_m m) a)) (h : ¬ r = 0) : z_p t (z_m m) a = none := by
  cases e : z_p t (z_m m) a with
  | none => rfl
  | some x => rw [er, e, zb_m (z_get e)] at h; exact absurd (by decide) h
theorem z_ge {r : Int32} : (0 ≤ r) ↔ ¬ r < 0 := by rw [pm_leI, pm_ltI, pm_t0]; omega
/-- the acts that were read are told as they must be -/
abbrev z_aok (n c : Nat) : Prop := a_h c < 4 ∧ a_p c < 6 ∧ (a_h c = 1 ∨ a_h c = 2 → a_o c < n) ∧ (a_h c = 3 → a_o c < 6 ∧ a_o c ≠ a_p c)
theorem z_aok_c {n h p o : Nat} (hn : n ≤ 12) (h4 : h < 4) (hp : p < 6) (ho : o < 12) (h1 : h = 1 ∨ h = 2 → o < n) (h3 : h = 3 → o < 6 ∧ o ≠ p) : z_aok n (1000 * h + 100 * p + o) := by
  obtain ⟨k1, k2, k3⟩ := h_code (h := h) (p := p) (o := o) (by omega) (by omega)
  refine ⟨by omega, by omega, fun z => by rw [k3]; exact h1 (by omega), fun z => by rw [k3, k2]; exact h3 (by omega)⟩
/-- a reading keeps to the tape and, where it succeeds, what it says holds -/
def z_G {α : Type} (t : List Nat) (a d : Nat) (φ : α → Prop) (r : Nat × Option α) : Prop := a ≤ r.1 ∧ r.1 ≤ t.length ∧ ∀ x, r.2 = some x → φ x ∧ a + d ≤ r.1
theorem z_G.bind {α β : Type} {t : List Nat} {a d e : Nat} {φ : α → Prop} {ψ : β → Prop} {r : Nat × Option α} {k : α → Nat → Nat × Option β} (h : z_G t a d φ r) (hk : ∀ x a1, φ x → a + d ≤ a1 → a1 ≤ t.length → z_G t a1 e ψ (k x a1)) : z_G t a (d + e) ψ (z_bind r k) := by
  obtain ⟨h1, h2, h3⟩ := h
  cases er : r.2 with
  | none => rw [z_bind_n er]; exact ⟨h1, h2, fun x hx => absurd hx (by simp)⟩
  | some v =>
    rw [z_bind_s er]
    obtain ⟨p1, p2⟩ := h3 v er
    obtain ⟨i1, i2, i3⟩ := hk v r.1 p1 p2 h2
    exact ⟨by omega, i2, fun x hx => ⟨(i3 x hx).1, by have := (i3 x hx).2; omega⟩⟩
theorem z_G.ch {t : List Nat} {f : Nat → Option Nat} {a : Nat} (φ : Nat → Prop) (ha : a ≤ t.length) (hf : ∀ c x, f c = some x → φ x) : z_G t a 1 φ (z_ch t f a) := by
  have q := z_q_le (f := f) ha
  exact ⟨q.1, q.2, fun x hx => ⟨hf _ x (z_get hx), z_q_lt ha hx⟩⟩
theorem z_G.ret {α : Type} {t : List Nat} {a : Nat} {φ : α → Prop} {x : α} (ha : a ≤ t.length) (h : φ x) : z_G t a 0 φ (a, some x) := ⟨Nat.le_refl _, ha, fun y hy => ⟨by rw [← Option.some.inj hy]; exact h, Nat.le_refl _⟩⟩
theorem z_G.dn {α : Type} {t : List Nat} {a d e : Nat} {φ : α → Prop} {r : Nat × Option α} (h : z_G t a d φ r) (hd : e ≤ d) : z_G t a e φ r := ⟨h.1, h.2.1, fun x hx => ⟨(h.2.2 x hx).1, by have := (h.2.2 x hx).2; omega⟩⟩
theorem z_act_ok {t : List Nat} {n : Nat} (hn : n ≤ 12) {a : Nat} (ha : a ≤ t.length) : z_G t a 2 (z_aok n) (z_act t n a) := by
  unfold z_act
  refine (z_G.bind (e := 1) (z_G.ch (fun x => x < 4) ha (fun c x h => zb_h h)) (fun h a1 hh _ ha1 => ?_))
  by_cases h1 : h = 1
  · rw [if_pos h1]
    refine (z_G.bind (e := 2) (z_G.ch (fun x => x < n) ha1 (fun c x h => zb_l h)) (fun i a2 hi _ ha2 => ?_)).dn (by decide)
    refine (z_G.bind (e := 1) (z_G.ch (fun _ => True) ha2 (fun _ _ _ => trivial)) (fun _ a3 _ _ ha3 => ?_))
    refine (z_G.bind (e := 0) (z_G.ch (fun x => x < 6) ha3 (fun c x h => zb_d h)) (fun w a4 hw _ ha4 => ?_))
    exact z_G.ret ha4 (z_aok_c hn (by decide) hw (by omega) (fun _ => hi) (fun z => absurd z (by decide)))
  · rw [if_neg h1]
    refine (z_G.bind (e := 0) (z_G.ch (fun x => x < 6) ha1 (fun c x h => zb_d h)) (fun w a2 hw _ ha2 => ?_))
    by_cases h0 : h = 0
    · rw [if_pos h0]
      exact z_G.ret ha2 (z_aok_c hn (by decide) hw (by decide) (fun z => absurd z (by decide)) (fun z => absurd z (by decide)))
    · rw [if_neg h0]
      by_cases h2 : h = 2
      · rw [if_pos h2]
        refine (z_G.bind (e := 1) (z_G.ch (fun _ => True) ha2 (fun _ _ _ => trivial)) (fun _ a3 _ _ ha3 => ?_)).dn (by decide)
        refine (z_G.bind (e := 0) (z_G.ch (fun x => x < n) ha3 (fun c x h => zb_l h)) (fun o a4 hw9 _ ha4 => ?_))
        exact z_G.ret ha4 (z_aok_c hn (by decide) hw (by omega) (fun _ => hw9) (fun z => absurd z (by decide)))
      · rw [if_neg h2]
        refine (z_G.bind (e := 1) (z_G.ch (fun _ => True) ha2 (fun _ _ _ => trivial)) (fun _ a3 _ _ ha3 => ?_)).dn (by decide)
        refine (z_G.bind (e := 0) (z_G.ch (fun x => x < 6 ∧ x ≠ w) ha3 (fun c x h => zb_dw h)) (fun o a4 hw9 _ ha4 => ?_))
        exact z_G.ret ha4 (z_aok_c hn (by decide) hw (by omega) (fun z => absurd z (by decide)) (fun _ => hw9))
set_option maxRecDepth 100000 in
set_option maxHeartbeats 1000000 in
theorem c_readAct {I : pm_I} {L : pm_L} {t : List Nat} (hB : z_B I t) (ht : z_ok t) {a : Nat} (ha : a ≤ t.length) {n : Nat} (hn : n ≤ 12) : PC 6 0 0 yX4_readAct cX4_readAct 5 (some (.int)) [.ref 22, .int (nI n)] GG (z_s I a) L (z_Q I L (z_act t n a)) := by
  have h120 := ht.1
  refine PC.of [some (.ref 22), some (.int (nI n)), none, none, none] (by decide) (Nat.le_of_ble_eq_true rfl) rfl (fun l P => ?_)
  refine pm_aload_n (pc := 0) dX4_readAct_0 rfl ?_
  refine pm_ldcS (pc := 1) (RX4, 35, "ldsp", 7) (by decide) rfl rfl (by decide) dX4_readAct_1 ?_
  refine pm_cVI (pc := 3) dX4_readAct_3 (c_choice1 hB ht ha (q := 7) (by decide) zf_7) wq_X6_choice wm_X4_19 wi_X6_choice ws_X6_choice rfl rfl ⟨Nat.le_of_ble_eq_true rfl, Nat.le_of_ble_eq_true rfl⟩ ⟨Nat.le_of_ble_eq_true rfl, Nat.le_of_ble_eq_true rfl⟩ rfl (Nat.le_of_ble_eq_true rfl) (fun r3 I3 L3 q3 => ?_)
  obtain ⟨⟨er3, eI3⟩, el3⟩ := q3
  subst el3
  have eJ3 : I3 = z_s I (z_q t (z_h) (a)) := eI3
  subst eJ3
  have er3 : r3 = z_o (z_p t (z_h) (a)) := er3
  have p3 := (z_q_le (f := z_h) ha).2
  refine pm_istore_n (pc := 6) dX4_readAct_6 (by decide) rfl ?_
  refine pm_iload_n (pc := 7) dX4_readAct_7 rfl ?_
  refine pm_if_ge (pc := 8) (tgt := 13) dX4_readAct_8 rfl (fun h8 => ?_) (fun h8 => ?_)
  · obtain ⟨h, e3, rfl, g3⟩ := z_pos er3 (z_ge.mp h8)
    have b3 := zb_h g3
    refine pm_iload_n (pc := 13) dX4_readAct_13 rfl ?_
    refine pm_iconst (pc := 14) (v := nI 1) dX4_readAct_14 (by decide) ?_
    refine pm_icmp_ne (pc := 15) (tgt := 69) dX4_readAct_15 rfl (fun h15 => ?_) (fun h15 => ?_)
    · have hh1 : ¬ h = 1 := fun z => h15 (by rw [z])
      refine pm_aload_n (pc := 69) dX4_readAct_69 rfl ?_
      refine pm_ldcS (pc := 70) (RX4, 46, "012345", 5) (by decide) rfl rfl (by decide) dX4_readAct_70 ?_
      refine pm_cVI (pc := 72) dX4_readAct_72 (c_choice1 hB ht p3 (q := 5) (by decide) zf_5) wq_X6_choice wm_X4_19 wi_X6_choice ws_X6_choice rfl rfl ⟨Nat.le_of_ble_eq_true rfl, Nat.le_of_ble_eq_true rfl⟩ ⟨Nat.le_of_ble_eq_true rfl, Nat.le_of_ble_eq_true rfl⟩ rfl (Nat.le_of_ble_eq_true rfl) (fun r72 I72 L72 q72 => ?_)
      obtain ⟨⟨er72, eI72⟩, el72⟩ := q72
      subst el72
      have eJ72 : I72 = z_s I (z_q t (z_d 6) (z_q t z_h a)) := eI72
      subst eJ72
      have er72 : r72 = z_o (z_p t (z_d 6) (z_q t z_h a)) := er72
      have p72 := (z_q_le (f := z_d 6) p3).2
      refine pm_istore_n (pc := 75) dX4_readAct_75 (by decide) rfl ?_
      refine pm_iload_n (pc := 76) dX4_readAct_76 rfl ?_
      refine pm_if_lt (pc := 77) (tgt := 84) dX4_readAct_77 rfl (fun h77 => ?_) (fun h77 => ?_)
      · have e72 := z_neg (B := 6) (fun c x h => by have := zb_d h; omega) (by omega) er72 (h77)
        have h72n : r72 = -1 := by rw [er72, e72]; rfl
        subst h72n
        refine pm_iload_n (pc := 84) dX4_readAct_84 rfl ?_
        refine pm_if_ge (pc := 85) (tgt := 92) dX4_readAct_85 rfl (fun h85 => absurd h85 (by decide)) (fun h85 => ?_)
        refine pm_iconst (pc := 88) (v := (-1)) dX4_readAct_88 (by decide) ?_
        refine pm_goto (pc := 89) (tgt := 98) dX4_readAct_89 rfl ?_
        refine pm_iret (pc := 98) rfl (Nat.le_refl _) (Nat.le_refl _) dX4_readAct_98 ?_
        refine QI.r ⟨⟨?_, ?_⟩, rfl⟩ <;> simp only [z_act, z_bind, z_ch, z_o, e3, e72, if_neg hh1]
      · obtain ⟨w, e72, rfl, g72⟩ := z_pos er72 (h77)
        have b72 := zb_d g72
        refine pm_iload_n (pc := 80) dX4_readAct_80 rfl ?_
        refine pm_if_ne (pc := 81) (tgt := 99) dX4_readAct_81 rfl (fun h81 => ?_) (fun h81 => ?_)
        · have hh0 : ¬ h = 0 := fun z => h81 (by rw [z]; decide)
          refine pm_iconst (pc := 99) (v := (-1)) dX4_readAct_99 (by decide) ?_
          refine pm_istore (pc := 100) dX4_readAct_100 (by decide) rfl ?_
          refine pm_iload_n (pc := 102) dX4_readAct_102 rfl ?_
          refine pm_iconst (pc := 103) (v := nI 2) dX4_readAct_103 (by decide) ?_
          refine pm_icmp_ne (pc := 104) (tgt := 133) dX4_readAct_104 rfl (fun h104 => ?_) (fun h104 => ?_)
          · have hh2 : ¬ h = 2 := fun z => h104 (by rw [z])
            have hh : h = 3 := by omega
            subst hh
            refine pm_aload_n (pc := 133) dX4_readAct_133 rfl ?_
            refine pm_ldcS (pc := 134) (RX4, 44, ">", 9) (by decide) rfl rfl (by decide) dX4_readAct_134 ?_
            refine pm_cVI (pc := 136) dX4_readAct_136 (c_choice1 hB ht p72 (q := 9) (by decide) zf_9) wq_X6_choice wm_X4_19 wi_X6_choice ws_X6_choice rfl rfl ⟨Nat.le_of_ble_eq_true rfl, Nat.le_of_ble_eq_true rfl⟩ ⟨Nat.le_of_ble_eq_true rfl, Nat.le_of_ble_eq_true rfl⟩ rfl (Nat.le_of_ble_eq_true rfl) (fun r136 I136 L136 q136 => ?_)
            obtain ⟨⟨er136, eI136⟩, el136⟩ := q136
            subst el136
            have eJ136 : I136 = z_s I (z_q t (z_m 62) (z_q t (z_d 6) (z_q t z_h a))) := eI136
            subst eJ136
            have er136 : r136 = z_o (z_p t (z_m 62) (z_q t (z_d 6) (z_q t z_h a))) := er136
            have p136 := (z_q_le (f := z_m 62) p72).2
            refine pm_if_ne (pc := 139) (tgt := 154) dX4_readAct_139 rfl (fun h139 => ?_) (fun h139 => ?_)
            · have e136 := z_mk1 er136 h139
              refine pm_iconst (pc := 154) (v := (-1)) dX4_readAct_154 (by decide) ?_
              refine pm_istore (pc := 155) dX4_readAct_155 (by decide) rfl ?_
              refine pm_iload (pc := 157) dX4_readAct_157 rfl ?_
              refine pm_if_ge (pc := 159) (tgt := 166) dX4_readAct_159 rfl (fun h159 => absurd h159 (by decide)) (fun h159 => ?_)
              refine pm_iconst (pc := 162) (v := (-1)) dX4_readAct_162 (by decide) ?_
              refine pm_goto (pc := 163) (tgt := 173) dX4_readAct_163 rfl ?_
              refine pm_iret (pc := 173) rfl (Nat.le_refl _) (Nat.le_refl _) dX4_readAct_173 ?_
              refine QI.r ⟨⟨?_, ?_⟩, rfl⟩ <;> simp only [z_act, z_bind, z_ch, z_o, e3, e72, e136, if_neg hh1, if_neg hh0, if_neg hh2]
            · have e136 := z_mk0 er136 h139
              refine pm_aload_n (pc := 142) dX4_readAct_142 rfl ?_
              refine pm_ldcS (pc := 143) (RX4, 46, "012345", 5) (by decide) rfl rfl (by decide) dX4_readAct_143 ?_
              refine pm_bipush (pc := 145) (v := nI 6) dX4_readAct_145 (by decide) ?_
              refine pm_iload_n (pc := 147) dX4_readAct_147 rfl ?_
              refine pm_cVI (pc := 148) dX4_readAct_148 (c_choice3 hB ht p136 (q := 5) (by decide) (zf_w w (by omega))) wq_X6_choice_ wm_X4_41 wi_X6_choice_ ws_X6_choice_ rfl rfl ⟨Nat.le_of_ble_eq_true rfl, Nat.le_of_ble_eq_true rfl⟩ ⟨Nat.le_of_ble_eq_true rfl, Nat.le_of_ble_eq_true rfl⟩ rfl (Nat.le_of_ble_eq_true rfl) (fun r148 I148 L148 q148 => ?_)
              obtain ⟨⟨er148, eI148⟩, el148⟩ := q148
              subst el148
              have eJ148 : I148 = z_s I (z_q t (z_dw w) (z_q t (z_m 62) (z_q t (z_d 6) (z_q t z_h a)))) := eI148
              subst eJ148
              have er148 : r148 = z_o (z_p t (z_dw w) (z_q t (z_m 62) (z_q t (z_d 6) (z_q t z_h a)))) := er148
              have p148 := (z_q_le (f := z_dw w) p136).2
              refine pm_goto (pc := 151) (tgt := 155) dX4_readAct_151 rfl ?_
              refine pm_istore (pc := 155) dX4_readAct_155 (by decide) rfl ?_
              refine pm_iload (pc := 157) dX4_readAct_157 rfl ?_
              refine pm_if_ge (pc := 159) (tgt := 166) dX4_readAct_159 rfl (fun h159 => ?_) (fun h159 => ?_)
              · obtain ⟨o, e148, rfl, g148⟩ := z_pos er148 (z_ge.mp h159)
                have b148 := zb_dw g148
                refine pm_iload_n (pc := 166) dX4_readAct_166 rfl ?_
                refine pm_iload_n (pc := 167) dX4_readAct_167 rfl ?_
                refine pm_iload (pc := 168) dX4_readAct_168 rfl ?_
                refine pm_cSR (pc := 170) dX4_readAct_170 (c_code) wq_X0_code wm_X4_48 wt_X0_code ⟨Nat.le_of_ble_eq_true rfl, Nat.le_of_ble_eq_true rfl⟩ ⟨Nat.le_of_ble_eq_true rfl, Nat.le_of_ble_eq_true rfl⟩ rfl (Nat.le_of_ble_eq_true rfl) ?_
                refine pm_iret (pc := 173) rfl (Nat.le_refl _) (Nat.le_refl _) dX4_readAct_173 ?_
                refine QI.r ⟨⟨?_, ?_⟩, rfl⟩ <;> simp only [z_act, z_bind, z_ch, z_o, e3, e72, e136, e148, if_neg hh1, if_neg hh0, if_neg hh2]
              · have e148 := z_neg (B := 6) (fun c x h => by have := zb_dw h; omega) (by omega) er148 (by rw [← Classical.not_not (a := r148 < 0)]; exact fun z => h159 (z_ge.mpr z))
                refine pm_iconst (pc := 162) (v := (-1)) dX4_readAct_162 (by decide) ?_
                refine pm_goto (pc := 163) (tgt := 173) dX4_readAct_163 rfl ?_
                refine pm_iret (pc := 173) rfl (Nat.le_refl _) (Nat.le_refl _) dX4_readAct_173 ?_
                refine QI.r ⟨⟨?_, ?_⟩, rfl⟩ <;> simp only [z_act, z_bind, z_ch, z_o, e3, e72, e136, e148, if_neg hh1, if_neg hh0, if_neg hh2]
          · have hh : h = 2 := (nI_eq (by omega) (by decide)).mp h104
            subst hh
            refine pm_aload_n (pc := 107) dX4_readAct_107 rfl ?_
            refine pm_ldcS (pc := 108) (RX4, 52, "=", 10) (by decide) rfl rfl (by decide) dX4_readAct_108 ?_
            refine pm_cVI (pc := 110) dX4_readAct_110 (c_choice1 hB ht p72 (q := 10) (by decide) zf_10) wq_X6_choice wm_X4_19 wi_X6_choice ws_X6_choice rfl rfl ⟨Nat.le_of_ble_eq_true rfl, Nat.le_of_ble_eq_true rfl⟩ ⟨Nat.le_of_ble_eq_true rfl, Nat.le_of_ble_eq_true rfl⟩ rfl (Nat.le_of_ble_eq_true rfl) (fun r110 I110 L110 q110 => ?_)
            obtain ⟨⟨er110, eI110⟩, el110⟩ := q110
            subst el110
            have eJ110 : I110 = z_s I (z_q t (z_m 61) (z_q t (z_d 6) (z_q t z_h a))) := eI110
            subst eJ110
            have er110 : r110 = z_o (z_p t (z_m 61) (z_q t (z_d 6) (z_q t z_h a))) := er110
            have p110 := (z_q_le (f := z_m 61) p72).2
            refine pm_if_ne (pc := 113) (tgt := 127) dX4_readAct_113 rfl (fun h113 => ?_) (fun h113 => ?_)
            · have e110 := z_mk1 er110 h113
              refine pm_iconst (pc := 127) (v := (-1)) dX4_readAct_127 (by decide) ?_
              refine pm_istore (pc := 128) dX4_readAct_128 (by decide) rfl ?_
              refine pm_goto (pc := 130) (tgt := 157) dX4_readAct_130 rfl ?_
              refine pm_iload (pc := 157) dX4_readAct_157 rfl ?_
              refine pm_if_ge (pc := 159) (tgt := 166) dX4_readAct_159 rfl (fun h159 => absurd h159 (by decide)) (fun h159 => ?_)
              refine pm_iconst (pc := 162) (v := (-1)) dX4_readAct_162 (by decide) ?_
              refine pm_goto (pc := 163) (tgt := 173) dX4_readAct_163 rfl ?_
              refine pm_iret (pc := 173) rfl (Nat.le_refl _) (Nat.le_refl _) dX4_readAct_173 ?_
              refine QI.r ⟨⟨?_, ?_⟩, rfl⟩ <;> simp only [z_act, z_bind, z_ch, z_o, e3, e72, e110, if_neg hh1, if_neg hh0, if_true]
            · have e110 := z_mk0 er110 h113
              refine pm_aload_n (pc := 116) dX4_readAct_116 rfl ?_
              refine pm_ldcS (pc := 117) (RX4, 39, "abcdefghijkl", 8) (by decide) rfl rfl (by decide) dX4_readAct_117 ?_
              refine pm_iload_n (pc := 119) dX4_readAct_119 rfl ?_
              refine pm_iconst (pc := 120) (v := (-1)) dX4_readAct_120 (by decide) ?_
              refine pm_cVI (pc := 121) dX4_readAct_121 (c_choice3 hB ht p110 (q := 8) (by decide) (zf_8 n (by omega))) wq_X6_choice_ wm_X4_41 wi_X6_choice_ ws_X6_choice_ rfl rfl ⟨Nat.le_of_ble_eq_true rfl, Nat.le_of_ble_eq_true rfl⟩ ⟨Nat.le_of_ble_eq_true rfl, Nat.le_of_ble_eq_true rfl⟩ rfl (Nat.le_of_ble_eq_true rfl) (fun r121 I121 L121 q121 => ?_)
              obtain ⟨⟨er121, eI121⟩, el121⟩ := q121
              subst el121
              have eJ121 : I121 = z_s I (z_q t (z_l n) (z_q t (z_m 61) (z_q t (z_d 6) (z_q t z_h a)))) := eI121
              subst eJ121
              have er121 : r121 = z_o (z_p t (z_l n) (z_q t (z_m 61) (z_q t (z_d 6) (z_q t z_h a)))) := er121
              have p121 := (z_q_le (f := z_l n) p110).2
              refine pm_goto (pc := 124) (tgt := 128) dX4_readAct_124 rfl ?_
              refine pm_istore (pc := 128) dX4_readAct_128 (by decide) rfl ?_
              refine pm_goto (pc := 130) (tgt := 157) dX4_readAct_130 rfl ?_
              refine pm_iload (pc := 157) dX4_readAct_157 rfl ?_
              refine pm_if_ge (pc := 159) (tgt := 166) dX4_readAct_159 rfl (fun h159 => ?_) (fun h159 => ?_)
              · obtain ⟨o, e121, rfl, g121⟩ := z_pos er121 (z_ge.mp h159)
                have b121 := zb_l g121
                refine pm_iload_n (pc := 166) dX4_readAct_166 rfl ?_
                refine pm_iload_n (pc := 167) dX4_readAct_167 rfl ?_
                refine pm_iload (pc := 168) dX4_readAct_168 rfl ?_
                refine pm_cSR (pc := 170) dX4_readAct_170 (c_code) wq_X0_code wm_X4_48 wt_X0_code ⟨Nat.le_of_ble_eq_true rfl, Nat.le_of_ble_eq_true rfl⟩ ⟨Nat.le_of_ble_eq_true rfl, Nat.le_of_ble_eq_true rfl⟩ rfl (Nat.le_of_ble_eq_true rfl) ?_
                refine pm_iret (pc := 173) rfl (Nat.le_refl _) (Nat.le_refl _) dX4_readAct_173 ?_
                refine QI.r ⟨⟨?_, ?_⟩, rfl⟩ <;> simp only [z_act, z_bind, z_ch, z_o, e3, e72, e110, e121, if_neg hh1, if_neg hh0, if_true]
              · have e121 := z_neg (B := 13) (fun c x h => by have := zb_l h; omega) (by omega) er121 (by rw [← Classical.not_not (a := r121 < 0)]; exact fun z => h159 (z_ge.mpr z))
                refine pm_iconst (pc := 162) (v := (-1)) dX4_readAct_162 (by decide) ?_
                refine pm_goto (pc := 163) (tgt := 173) dX4_readAct_163 rfl ?_
                refine pm_iret (pc := 173) rfl (Nat.le_refl _) (Nat.le_refl _) dX4_readAct_173 ?_
                refine QI.r ⟨⟨?_, ?_⟩, rfl⟩ <;> simp only [z_act, z_bind, z_ch, z_o, e3, e72, e110, e121, if_neg hh1, if_neg hh0, if_true]
        · have hh : h = 0 := (nI_eq (by omega) (by decide)).mp h81
          subst hh
          refine pm_iload_n (pc := 84) dX4_readAct_84 rfl ?_
          refine pm_if_ge (pc := 85) (tgt := 92) dX4_readAct_85 rfl (fun h85 => ?_) (fun h85 => (by simp (disch := omega) only [pm_eqI, pm_ltI, pm_leI, nI_toInt, pm_t0, pm_t1, pm_tm1] at h85; omega))
          refine pm_iload_n (pc := 92) dX4_readAct_92 rfl ?_
          refine pm_iload_n (pc := 93) dX4_readAct_93 rfl ?_
          refine pm_iconst (pc := 94) (v := nI 0) dX4_readAct_94 (by decide) ?_
          refine pm_cSR (pc := 95) dX4_readAct_95 (c_code) wq_X0_code wm_X4_48 wt_X0_code ⟨Nat.le_of_ble_eq_true rfl, Nat.le_of_ble_eq_true rfl⟩ ⟨Nat.le_of_ble_eq_true rfl, Nat.le_of_ble_eq_true rfl⟩ rfl (Nat.le_of_ble_eq_true rfl) ?_
          refine pm_iret (pc := 98) rfl (Nat.le_refl _) (Nat.le_refl _) dX4_readAct_98 ?_
          refine QI.r ⟨⟨?_, ?_⟩, rfl⟩ <;> simp only [z_act, z_bind, z_ch, z_o, e3, e72, if_neg hh1, if_true]
    · have hh : h = 1 := (nI_eq (by omega) (by decide)).mp h15
      subst hh
      refine pm_aload_n (pc := 18) dX4_readAct_18 rfl ?_
      refine pm_ldcS (pc := 19) (RX4, 39, "abcdefghijkl", 8) (by decide) rfl rfl (by decide) dX4_readAct_19 ?_
      refine pm_iload_n (pc := 21) dX4_readAct_21 rfl ?_
      refine pm_iconst (pc := 22) (v := (-1)) dX4_readAct_22 (by decide) ?_
      refine pm_cVI (pc := 23) dX4_readAct_23 (c_choice3 hB ht p3 (q := 8) (by decide) (zf_8 n (by omega))) wq_X6_choice_ wm_X4_41 wi_X6_choice_ ws_X6_choice_ rfl rfl ⟨Nat.le_of_ble_eq_true rfl, Nat.le_of_ble_eq_true rfl⟩ ⟨Nat.le_of_ble_eq_true rfl, Nat.le_of_ble_eq_true rfl⟩ rfl (Nat.le_of_ble_eq_true rfl) (fun r23 I23 L23 q23 => ?_)
      obtain ⟨⟨er23, eI23⟩, el23⟩ := q23
      subst el23
      have eJ23 : I23 = z_s I (z_q t (z_l n) (z_q t z_h a)) := eI23
      subst eJ23
      have er23 : r23 = z_o (z_p t (z_l n) (z_q t z_h a)) := er23
      have p23 := (z_q_le (f := z_l n) p3).2
      refine pm_istore_n (pc := 26) dX4_readAct_26 (by decide) rfl ?_
      refine pm_iload_n (pc := 27) dX4_readAct_27 rfl ?_
      refine pm_if_lt (pc := 28) (tgt := 49) dX4_readAct_28 rfl (fun h28 => ?_) (fun h28 => ?_)
      · have e23 := z_neg (B := 13) (fun c x h => by have := zb_l h; omega) (by omega) er23 (h28)
        refine pm_iconst (pc := 49) (v := (-1)) dX4_readAct_49 (by decide) ?_
        refine pm_istore (pc := 50) dX4_readAct_50 (by decide) rfl ?_
        refine pm_iload (pc := 52) dX4_readAct_52 rfl ?_
        refine pm_if_ge (pc := 54) (tgt := 61) dX4_readAct_54 rfl (fun h54 => absurd h54 (by decide)) (fun h54 => ?_)
        refine pm_iconst (pc := 57) (v := (-1)) dX4_readAct_57 (by decide) ?_
        refine pm_goto (pc := 58) (tgt := 68) dX4_readAct_58 rfl ?_
        refine pm_iret (pc := 68) rfl (Nat.le_refl _) (Nat.le_refl _) dX4_readAct_68 ?_
        refine QI.r ⟨⟨?_, ?_⟩, rfl⟩ <;> simp only [z_act, z_bind, z_ch, z_o, e3, e23, if_true]
      · obtain ⟨i, e23, rfl, g23⟩ := z_pos er23 (h28)
        have b23 := zb_l g23
        refine pm_aload_n (pc := 31) dX4_readAct_31 rfl ?_
        refine pm_ldcS (pc := 32) (RX4, 44, ">", 9) (by decide) rfl rfl (by decide) dX4_readAct_32 ?_
        refine pm_cVI (pc := 34) dX4_readAct_34 (c_choice1 hB ht p23 (q := 9) (by decide) zf_9) wq_X6_choice wm_X4_19 wi_X6_choice ws_X6_choice rfl rfl ⟨Nat.le_of_ble_eq_true rfl, Nat.le_of_ble_eq_true rfl⟩ ⟨Nat.le_of_ble_eq_true rfl, Nat.le_of_ble_eq_true rfl⟩ rfl (Nat.le_of_ble_eq_true rfl) (fun r34 I34 L34 q34 => ?_)
        obtain ⟨⟨er34, eI34⟩, el34⟩ := q34
        subst el34
        have eJ34 : I34 = z_s I (z_q t (z_m 62) (z_q t (z_l n) (z_q t z_h a))) := eI34
        subst eJ34
        have er34 : r34 = z_o (z_p t (z_m 62) (z_q t (z_l n) (z_q t z_h a))) := er34
        have p34 := (z_q_le (f := z_m 62) p23).2
        refine pm_if_ne (pc := 37) (tgt := 49) dX4_readAct_37 rfl (fun h37 => ?_) (fun h37 => ?_)
        · have e34 := z_mk1 er34 h37
          refine pm_iconst (pc := 49) (v := (-1)) dX4_readAct_49 (by decide) ?_
          refine pm_istore (pc := 50) dX4_readAct_50 (by decide) rfl ?_
          refine pm_iload (pc := 52) dX4_readAct_52 rfl ?_
          refine pm_if_ge (pc := 54) (tgt := 61) dX4_readAct_54 rfl (fun h54 => absurd h54 (by decide)) (fun h54 => ?_)
          refine pm_iconst (pc := 57) (v := (-1)) dX4_readAct_57 (by decide) ?_
          refine pm_goto (pc := 58) (tgt := 68) dX4_readAct_58 rfl ?_
          refine pm_iret (pc := 68) rfl (Nat.le_refl _) (Nat.le_refl _) dX4_readAct_68 ?_
          refine QI.r ⟨⟨?_, ?_⟩, rfl⟩ <;> simp only [z_act, z_bind, z_ch, z_o, e3, e23, e34, if_true]
        · have e34 := z_mk0 er34 h37
          refine pm_aload_n (pc := 40) dX4_readAct_40 rfl ?_
          refine pm_ldcS (pc := 41) (RX4, 46, "012345", 5) (by decide) rfl rfl (by decide) dX4_readAct_41 ?_
          refine pm_cVI (pc := 43) dX4_readAct_43 (c_choice1 hB ht p34 (q := 5) (by decide) zf_5) wq_X6_choice wm_X4_19 wi_X6_choice ws_X6_choice rfl rfl ⟨Nat.le_of_ble_eq_true rfl, Nat.le_of_ble_eq_true rfl⟩ ⟨Nat.le_of_ble_eq_true rfl, Nat.le_of_ble_eq_true rfl⟩ rfl (Nat.le_of_ble_eq_true rfl) (fun r43 I43 L43 q43 => ?_)
          obtain ⟨⟨er43, eI43⟩, el43⟩ := q43
          subst el43
          have eJ43 : I43 = z_s I (z_q t (z_d 6) (z_q t (z_m 62) (z_q t (z_l n) (z_q t z_h a)))) := eI43
          subst eJ43
          have er43 : r43 = z_o (z_p t (z_d 6) (z_q t (z_m 62) (z_q t (z_l n) (z_q t z_h a)))) := er43
          have p43 := (z_q_le (f := z_d 6) p34).2
          refine pm_goto (pc := 46) (tgt := 50) dX4_readAct_46 rfl ?_
          refine pm_istore (pc := 50) dX4_readAct_50 (by decide) rfl ?_
          refine pm_iload (pc := 52) dX4_readAct_52 rfl ?_
          refine pm_if_ge (pc := 54) (tgt := 61) dX4_readAct_54 rfl (fun h54 => ?_) (fun h54 => ?_)
          · obtain ⟨w, e43, rfl, g43⟩ := z_pos er43 (z_ge.mp h54)
            have b43 := zb_d g43
            refine pm_iload_n (pc := 61) dX4_readAct_61 rfl ?_
            refine pm_iload (pc := 62) dX4_readAct_62 rfl ?_
            refine pm_iload_n (pc := 64) dX4_readAct_64 rfl ?_
            refine pm_cSR (pc := 65) dX4_readAct_65 (c_code) wq_X0_code wm_X4_48 wt_X0_code ⟨Nat.le_of_ble_eq_true rfl, Nat.le_of_ble_eq_true rfl⟩ ⟨Nat.le_of_ble_eq_true rfl, Nat.le_of_ble_eq_true rfl⟩ rfl (Nat.le_of_ble_eq_true rfl) ?_
            refine pm_iret (pc := 68) rfl (Nat.le_refl _) (Nat.le_refl _) dX4_readAct_68 ?_
            refine QI.r ⟨⟨?_, ?_⟩, rfl⟩ <;> simp only [z_act, z_bind, z_ch, z_o, e3, e23, e34, e43, if_true]
          · have e43 := z_neg (B := 6) (fun c x h => by have := zb_d h; omega) (by omega) er43 (by rw [← Classical.not_not (a := r43 < 0)]; exact fun z => h54 (z_ge.mpr z))
            refine pm_iconst (pc := 57) (v := (-1)) dX4_readAct_57 (by decide) ?_
            refine pm_goto (pc := 58) (tgt := 68) dX4_readAct_58 rfl ?_
            refine pm_iret (pc := 68) rfl (Nat.le_refl _) (Nat.le_refl _) dX4_readAct_68 ?_
            refine QI.r ⟨⟨?_, ?_⟩, rfl⟩ <;> simp only [z_act, z_bind, z_ch, z_o, e3, e23, e34, e43, if_true]
  · have e3 := z_neg (B := 4) (fun c x h => by have := zb_h h; omega) (by omega) er3 (by rw [← Classical.not_not (a := r3 < 0)]; exact fun z => h8 (z_ge.mpr z))
    refine pm_iconst (pc := 11) (v := (-1)) dX4_readAct_11 (by decide) ?_
    refine pm_iret (pc := 12) rfl (Nat.le_refl _) (Nat.le_refl _) dX4_readAct_12 ?_
    refine QI.r ⟨⟨?_, ?_⟩, rfl⟩ <;> simp only [z_act, z_bind, z_ch, z_o, e3]
