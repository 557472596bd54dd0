theorem z_upd (f : Nat → Int32) (i : Nat) (x : Int32) : upd f i x i = x := if_pos rfl
theorem z_updn (f : Nat → Int32) {i k : Nat} (x : Int32) (h : k ≠ i) : upd f i x k = f k := if_neg h
def z_v {α : Type} : Option α → Int32
  | none => nI 0
  | some _ => nI 1
def z_PK (I J : pm_I) (i : Nat) : Prop := (∀ c : Nat, c < 25 ∨ 28 < c → J c = I c) ∧ ∀ c k : Nat, k ≠ i → J c k = I c k
theorem z_PK.rf {I : pm_I} {i : Nat} : z_PK I I i := ⟨fun _ _ => rfl, fun _ _ _ => rfl⟩
theorem z_PK.st {I J : pm_I} {i c : Nat} (h : z_PK I J i) (hc : 25 ≤ c ∧ c ≤ 28) (x : Int32) : z_PK I (pm_u J c (upd (J c) i x)) i := by
  refine ⟨fun b hb => (pm_un (by omega)).trans (h.1 b hb), fun b k hk => ?_⟩
  by_cases e : b = c
  · rw [e, pm_us, z_updn _ _ hk]; exact h.2 c k hk
  · rw [pm_un e]; exact h.2 b k hk
theorem z_B.K {I J : pm_I} {t : List Nat} (h : z_B I t) (e : ∀ c : Nat, c < 25 ∨ 28 < c → J c = I c) : z_B J t := ⟨by rw [e 22 (by omega)]; exact h.1, fun k hk => by rw [e 23 (by omega)]; exact h.2 k hk⟩
abbrev z_pok (x : z_P) : Prop := x.1 < 4 ∧ (1 ≤ x.2.1 ∧ x.2.1 ≤ 99) ∧ x.2.2.1 < 4 ∧ x.2.2.2 ≤ 6
theorem z_opt_G {t : List Nat} {m d B : Nat} {f : Nat → Option Nat} {a : Nat} (h : a ≤ t.length) (hd : d < B) (hf : ∀ c x, f c = some x → x < B) : z_G t a 0 (fun x => x < B) (z_opt t m d f a) := by
  refine ⟨(z_opt_le h).1, (z_opt_le h).2, fun x hx => ⟨?_, (z_opt_le h).1⟩⟩
  unfold z_opt at hx
  split at hx
  · rw [← Option.some.inj hx]; exact hd
  · exact hf _ x (z_get hx)
theorem z_pc_ok {t : List Nat} {a : Nat} (ha : a ≤ t.length) : z_G t a 1 z_pok (z_pc t a) := by
  unfold z_pc
  refine (z_G.bind (e := 0) (z_G.ch (fun x => x < 4) ha (fun c x h => zb_k h)) (fun k a1 hk _ h1 => ?_))
  refine (z_G.bind (d := 0) (e := 0) (φ := fun v => 1 ≤ v ∧ v ≤ 99) ⟨(z_num_le h1).1, (z_num_le h1).2.1, fun v hv => ⟨(z_num_le h1).2.2 v hv, (z_num_le h1).1⟩⟩ (fun w a2 hw _ h2 => ?_))
  refine (z_G.bind (e := 0) (z_opt_G h2 (by decide : 0 < 4) (fun c x h => zb_d h)) (fun o a3 ho _ h3 => ?_))
  refine (z_G.bind (e := 0) (z_opt_G (B := 7) h3 (by decide) (fun c x h => by have := zb_d h; omega)) (fun p a4 hp _ h4 => ?_))
  exact z_G.ret h4 ⟨hk, hw, ho, by show p ≤ 6; omega⟩
def z_PQ (I : pm_I) (L : pm_L) (i : Nat) (σ : Nat × Option z_P) : pm_QT := QI GG (fun r I' L' => (∃ J : pm_I, r = z_v σ.2 ∧ I' = z_s J σ.1 ∧ z_PK I J i ∧ ∀ x, σ.2 = some x → J 25 i = nI x.1 ∧ J 26 i = nI x.2.1 ∧ J 27 i = nI x.2.2.1 ∧ J 28 i = nI x.2.2.2) ∧ L' = L)
set_option maxRecDepth 100000 in
set_option maxHeartbeats 1000000 in
theorem l_rp124 {I : pm_I} {L : pm_L} {t : List Nat} (hB : z_B I t) (ht : z_ok t) {a : Nat} (ha : a ≤ t.length) {i : Nat} (hi : i < 12) {la : Launch} {P : pm_E} {J : pm_I} (hK : z_PK I J i) {k w : Nat} (ek : z_p t z_k a = some k) (ew : (z_num t (z_q t z_k a)).2 = some w) (h25 : J 25 i = nI k) (h26 : J 26 i = nI w) {b : Nat} (h27 : J 27 i = z_o (z_opt t 116 0 (z_d 4) (z_num t (z_q t z_k a)).1).2) (h28 : ((z_opt t 116 0 (z_d 4) (z_num t (z_q t z_k a)).1).2 = none ∧ b = (z_opt t 116 0 (z_d 4) (z_num t (z_q t z_k a)).1).1) ∨ (J 28 i = z_o (z_opt t 64 6 (z_d 6) (z_opt t 116 0 (z_d 4) (z_num t (z_q t z_k a)).1).1).2 ∧ b = (z_opt t 64 6 (z_d 6) (z_opt t 116 0 (z_d 4) (z_num t (z_q t z_k a)).1).1).1 ∧ ∃ x, (z_opt t 116 0 (z_d 4) (z_num t (z_q t z_k a)).1).2 = some x)) : PW la P yX3_readPiece cX3_readPiece 3 (some (.boolean)) (pm_rm 6 0 0) (pm_Tg P (z_PQ I L i (z_pc t a)) 0 0) 0 0 124 [some (.ref 24), some (.ref 22), some (.int (nI i))] [] GG (z_s J b) L := by
  have h120 := ht.1
  have p1 := (z_q_le (f := z_k) ha).2
  have p2 := z_num_le p1
  have g1 := z_opt_G (m := 116) (d := 0) (B := 4) (f := z_d 4) p2.2.1 (by decide) (fun c x h => zb_d h)
  have g2 := z_opt_G (m := 64) (d := 6) (B := 7) (f := z_d 6) g1.2.1 (by decide) (fun c x h => by have := zb_d h; omega)
  have e0 : z_pc t a = z_bind (z_opt t 116 0 (z_d 4) (z_num t (z_q t z_k a)).1) fun o a3 => z_bind (z_opt t 64 6 (z_d 6) a3) fun p a4 => (a4, some (k, w, o, p)) := by
    unfold z_pc; rw [z_bind_s (r := z_ch t z_k a) ek]; show z_bind (z_num t (z_q t z_k a)) _ = _; rw [z_bind_s ew]
  have eJ27 : z_s J b 27 i = z_o (z_opt t 116 0 (z_d 4) (z_num t (z_q t z_k a)).1).2 := by rw [z_s_ne (by decide)]; exact h27
  refine pm_aload_n (pc := 124) dX3_readPiece_124 rfl ?_
  refine pm_getr (pc := 125) (ci := 1) (C0 := RX3) (T := TX3) (N := 4) (j := 2) rfl rfl in_X3 (by decide) wf_X3_18 rfl dX3_readPiece_125 ?_
  refine pm_iload_n (pc := 128) dX3_readPiece_128 rfl ?_
  refine pm_iald (pc := 129) rfl (by omega) (by decide) dX3_readPiece_129 ?_
  rw [eJ27]
  refine pm_if_lt (pc := 130) (tgt := 146) dX3_readPiece_130 rfl (fun h130 => ?_) (fun h130 => ?_)
  · have en : (z_opt t 116 0 (z_d 4) (z_num t (z_q t z_k a)).1).2 = none := by
      cases e : (z_opt t 116 0 (z_d 4) (z_num t (z_q t z_k a)).1).2 with
      | none => rfl
      | some x =>
        have hx := (g1.2.2 x e).1
        rw [e] at h130
        have h2 : nI x < 0 := h130
        rw [pm_ltI, nI_toInt (by omega), pm_t0] at h2; omega
    rw [z_bind_n en] at e0
    have eb : b = (z_opt t 116 0 (z_d 4) (z_num t (z_q t z_k a)).1).1 := by
      rcases h28 with z | z
      · exact z.2
      · obtain ⟨x, hx⟩ := z.2.2
        rw [en] at hx; exact absurd hx (by simp)
    subst eb
    refine pm_iconst (pc := 146) (v := nI 0) dX3_readPiece_146 (by decide) ?_
    refine pm_zret (pc := 147) (by decide) rfl (Nat.le_refl _) (Nat.le_refl _) dX3_readPiece_147 ?_
    first
      | exact QI.r ⟨⟨J, by rw [e0]; rfl, by rw [e0], hK, fun x hx => by rw [e0] at hx; rw [← Option.some.inj hx]; exact ⟨h25, h26, h27, q28⟩⟩, rfl⟩
      | (exact QI.r ⟨⟨J, by rw [e0]; rfl, by rw [e0], hK, fun x hx => by rw [e0] at hx; exact absurd hx (by simp)⟩, rfl⟩)
  · obtain ⟨o, eo⟩ : ∃ o, (z_opt t 116 0 (z_d 4) (z_num t (z_q t z_k a)).1).2 = some o := by
      cases e : (z_opt t 116 0 (z_d 4) (z_num t (z_q t z_k a)).1).2 with
      | none => rw [e] at h130; exact absurd (show (-1 : Int32) < 0 by decide) h130
      | some o => exact ⟨o, rfl⟩
    rw [z_bind_s eo] at e0
    have h28 := h28.resolve_left (fun z => by rw [eo] at z; exact absurd z.1 (by simp))
    refine pm_aload_n (pc := 133) dX3_readPiece_133 rfl ?_
    refine pm_getr (pc := 134) (ci := 1) (C0 := RX3) (T := TX3) (N := 4) (j := 3) rfl rfl in_X3 (by decide) wf_X3_21 rfl dX3_readPiece_134 ?_
    refine pm_iload_n (pc := 137) dX3_readPiece_137 rfl ?_
    refine pm_iald (pc := 138) rfl (by omega) (by decide) dX3_readPiece_138 ?_
    rw [show z_s J b 28 i = z_o (z_opt t 64 6 (z_d 6) (z_opt t 116 0 (z_d 4) (z_num t (z_q t z_k a)).1).1).2 from by rw [z_s_ne (by decide)]; exact h28.1]
    refine pm_if_lt (pc := 139) (tgt := 146) dX3_readPiece_139 rfl (fun h139 => ?_) (fun h139 => ?_)
    · have en : (z_opt t 64 6 (z_d 6) (z_opt t 116 0 (z_d 4) (z_num t (z_q t z_k a)).1).1).2 = none := by
        cases e : (z_opt t 64 6 (z_d 6) (z_opt t 116 0 (z_d 4) (z_num t (z_q t z_k a)).1).1).2 with
        | none => rfl
        | some x =>
          have hx := (g2.2.2 x e).1
          rw [e] at h139
          have h2 : nI x < 0 := h139
          rw [pm_ltI, nI_toInt (by omega), pm_t0] at h2; omega
      rw [z_bind_n en] at e0
      obtain ⟨q28, eb, _⟩ := h28
      subst eb
      refine pm_iconst (pc := 146) (v := nI 0) dX3_readPiece_146 (by decide) ?_
      refine pm_zret (pc := 147) (by decide) rfl (Nat.le_refl _) (Nat.le_refl _) dX3_readPiece_147 ?_
      first
        | exact QI.r ⟨⟨J, by rw [e0]; rfl, by rw [e0], hK, fun x hx => by rw [e0] at hx; rw [← Option.some.inj hx]; exact ⟨h25, h26, h27, q28⟩⟩, rfl⟩
        | (exact QI.r ⟨⟨J, by rw [e0]; rfl, by rw [e0], hK, fun x hx => by rw [e0] at hx; exact absurd hx (by simp)⟩, rfl⟩)
    · obtain ⟨p, ep⟩ : ∃ p, (z_opt t 64 6 (z_d 6) (z_opt t 116 0 (z_d 4) (z_num t (z_q t z_k a)).1).1).2 = some p := by
        cases e : (z_opt t 64 6 (z_d 6) (z_opt t 116 0 (z_d 4) (z_num t (z_q t z_k a)).1).1).2 with
        | none => rw [e] at h139; exact absurd (show (-1 : Int32) < 0 by decide) h139
        | some o => exact ⟨o, rfl⟩
      rw [z_bind_s ep] at e0
      obtain ⟨q28, eb, _⟩ := h28
      subst eb
      rw [ep] at q28
      rw [eo] at h27
      refine pm_iconst (pc := 142) (v := nI 1) dX3_readPiece_142 (by decide) ?_
      refine pm_goto (pc := 143) (tgt := 147) dX3_readPiece_143 rfl ?_
      refine pm_zret (pc := 147) (by decide) rfl (Nat.le_refl _) (Nat.le_refl _) dX3_readPiece_147 ?_
      first
        | exact QI.r ⟨⟨J, by rw [e0]; rfl, by rw [e0], hK, fun x hx => by rw [e0] at hx; rw [← Option.some.inj hx]; exact ⟨h25, h26, h27, q28⟩⟩, rfl⟩
        | (exact QI.r ⟨⟨J, by rw [e0]; rfl, by rw [e0], hK, fun x hx => by rw [e0] at hx; exact absurd hx (by simp)⟩, rfl⟩)
set_option maxRecDepth 100000 in
set_option maxHeartbeats 1000000 in
theorem l_rp86 {I : pm_I} {L : pm_L} {t : List Nat} (hB : z_B I t) (ht : z_ok t) {a : Nat} (ha : a ≤ t.length) {i : Nat} (hi : i < 12) {la : Launch} {P : pm_E} {J : pm_I} (hK : z_PK I J i) {k w : Nat} (ek : z_p t z_k a = some k) (ew : (z_num t (z_q t z_k a)).2 = some w) (h25 : J 25 i = nI k) (h26 : J 26 i = nI w) (h27 : J 27 i = z_o (z_opt t 116 0 (z_d 4) (z_num t (z_q t z_k a)).1).2) : PW la P yX3_readPiece cX3_readPiece 3 (some (.boolean)) (pm_rm 6 0 0) (pm_Tg P (z_PQ I L i (z_pc t a)) 0 0) 0 0 86 [some (.ref 24), some (.ref 22), some (.int (nI i))] [] GG (z_s J (z_opt t 116 0 (z_d 4) (z_num t (z_q t z_k a)).1).1) L := by
  have h120 := ht.1
  have p1 := (z_q_le (f := z_k) ha).2
  have p2 := z_num_le p1
  have g1 := z_opt_G (m := 116) (d := 0) (B := 4) (f := z_d 4) p2.2.1 (by decide) (fun c x h => zb_d h)
  have hK6 := hK.st (c := 28) (by decide) (nI 6)
  have B6 := hB.K hK6.1
  have p3 := (z_q_le (f := z_m 64) g1.2.1).2
  have s27 : ∀ b, z_s (pm_u J 28 (upd (J 28) i (nI 6))) b 27 i = z_o (z_opt t 116 0 (z_d 4) (z_num t (z_q t z_k a)).1).2 := fun b => by rw [z_s_ne (by decide), pm_un (by decide)]; exact h27
  refine pm_aload_n (pc := 86) dX3_readPiece_86 rfl ?_
  refine pm_getr (pc := 87) (ci := 1) (C0 := RX3) (T := TX3) (N := 4) (j := 3) rfl rfl in_X3 (by decide) wf_X3_21 rfl dX3_readPiece_87 ?_
  refine pm_iload_n (pc := 90) dX3_readPiece_90 rfl ?_
  refine pm_bipush (pc := 91) (v := nI 6) dX3_readPiece_91 (by decide) ?_
  refine pm_iast (pc := 93) rfl (by omega) (by decide) dX3_readPiece_93 ?_
  refine pm_eq rfl rfl rfl (z_com0 (by decide)) rfl ?_
  refine pm_aload_n (pc := 94) dX3_readPiece_94 rfl ?_
  refine pm_getr (pc := 95) (ci := 1) (C0 := RX3) (T := TX3) (N := 4) (j := 2) rfl rfl in_X3 (by decide) wf_X3_18 rfl dX3_readPiece_95 ?_
  refine pm_iload_n (pc := 98) dX3_readPiece_98 rfl ?_
  refine pm_iald (pc := 99) rfl (by omega) (by decide) dX3_readPiece_99 ?_
  rw [s27]
  refine pm_if_lt (pc := 100) (tgt := 124) dX3_readPiece_100 rfl (fun h100 => ?_) (fun h100 => ?_)
  · have en : (z_opt t 116 0 (z_d 4) (z_num t (z_q t z_k a)).1).2 = none := by
      cases e : (z_opt t 116 0 (z_d 4) (z_num t (z_q t z_k a)).1).2 with
      | none => rfl
      | some x =>
        have hx := (g1.2.2 x e).1
        rw [e] at h100
        have h2 : nI x < 0 := h100
        rw [pm_ltI, nI_toInt (by omega), pm_t0] at h2; omega
    exact l_rp124 hB ht ha hi hK6 ek ew (by rw [pm_un (by decide)]; exact h25) (by rw [pm_un (by decide)]; exact h26) (by rw [pm_un (by decide)]; exact h27) (Or.inl ⟨en, rfl⟩)
  · have eo : ∃ o, (z_opt t 116 0 (z_d 4) (z_num t (z_q t z_k a)).1).2 = some o := by
      cases e : (z_opt t 116 0 (z_d 4) (z_num t (z_q t z_k a)).1).2 with
      | none => rw [e] at h100; exact absurd (show (-1 : Int32) < 0 by decide) h100
      | some o => exact ⟨o, rfl⟩
    refine pm_aload_n (pc := 103) dX3_readPiece_103 rfl ?_
    refine pm_ldcS (pc := 104) (RX3, 53, "@", 4) (by decide) rfl rfl (by decide) dX3_readPiece_104 ?_
    refine pm_cVI (pc := 106) dX3_readPiece_106 (c_choice1 B6 ht g1.2.1 (q := 4) (by decide) zf_4) wq_X6_choice wm_X3_26 wi_X6_choice ws_X6_choice rfl rfl ⟨Nat.le_of_ble_eq_true rfl, Nat.le_of_ble_eq_true rfl⟩ ⟨Nat.le_of_ble_eq_true rfl, Nat.le_of_ble_eq_true rfl⟩ rfl (Nat.le_of_ble_eq_true rfl) (fun r106 I106 L106 q106 => ?_)
    obtain ⟨⟨er, eI⟩, el⟩ := q106
    subst el
    have eJ : I106 = z_s (pm_u J 28 (upd (J 28) i (nI 6))) (z_q t (z_m 64) (z_opt t 116 0 (z_d 4) (z_num t (z_q t z_k a)).1).1) := eI
    subst eJ
    have er2 : r106 = z_o (z_p t (z_m 64) (z_opt t 116 0 (z_d 4) (z_num t (z_q t z_k a)).1).1) := er
    refine pm_if_ne (pc := 109) (tgt := 124) dX3_readPiece_109 rfl (fun h109 => ?_) (fun h109 => ?_)
    · have em := z_mk1 er2 h109
      have e2 : (z_opt t 64 6 (z_d 6) (z_opt t 116 0 (z_d 4) (z_num t (z_q t z_k a)).1).1) = (z_sk t (z_opt t 116 0 (z_d 4) (z_num t (z_q t z_k a)).1).1, some 6) := if_pos em
      exact l_rp124 hB ht ha hi hK6 ek ew (by rw [pm_un (by decide)]; exact h25) (by rw [pm_un (by decide)]; exact h26) (by rw [pm_un (by decide)]; exact h27) (Or.inr ⟨by rw [pm_us, z_upd, e2]; rfl, by rw [e2, z_q_n em], eo⟩)
    · have em := z_mk0 er2 h109
      have e2 : (z_opt t 64 6 (z_d 6) (z_opt t 116 0 (z_d 4) (z_num t (z_q t z_k a)).1).1) = z_ch t (z_d 6) (z_q t (z_m 64) (z_opt t 116 0 (z_d 4) (z_num t (z_q t z_k a)).1).1) := if_neg (by rw [em]; simp)
      refine pm_aload_n (pc := 112) dX3_readPiece_112 rfl ?_
      refine pm_getr (pc := 113) (ci := 1) (C0 := RX3) (T := TX3) (N := 4) (j := 3) rfl rfl in_X3 (by decide) wf_X3_21 rfl dX3_readPiece_113 ?_
      refine pm_iload_n (pc := 116) dX3_readPiece_116 rfl ?_
      refine pm_aload_n (pc := 117) dX3_readPiece_117 rfl ?_
      refine pm_ldcS (pc := 118) (RX3, 55, "012345", 5) (by decide) rfl rfl (by decide) dX3_readPiece_118 ?_
      refine pm_cVI (pc := 120) dX3_readPiece_120 (c_choice1 B6 ht p3 (q := 5) (by decide) zf_5) wq_X6_choice wm_X3_26 wi_X6_choice ws_X6_choice rfl rfl ⟨Nat.le_of_ble_eq_true rfl, Nat.le_of_ble_eq_true rfl⟩ ⟨Nat.le_of_ble_eq_true rfl, Nat.le_of_ble_eq_true rfl⟩ rfl (Nat.le_of_ble_eq_true rfl) (fun r120 I120 L120 q120 => ?_)
      obtain ⟨⟨er3, eI3⟩, el3⟩ := q120
      subst el3
      have eJ3 : I120 = z_s (pm_u J 28 (upd (J 28) i (nI 6))) (z_q t (z_d 6) (z_q t (z_m 64) (z_opt t 116 0 (z_d 4) (z_num t (z_q t z_k a)).1).1)) := eI3
      subst eJ3
      have er4 : r120 = z_o (z_p t (z_d 6) (z_q t (z_m 64) (z_opt t 116 0 (z_d 4) (z_num t (z_q t z_k a)).1).1)) := er3
      refine pm_iast (pc := 123) rfl (by omega) (by decide) dX3_readPiece_123 ?_
      exact l_rp124 hB ht ha hi (hK6.st (c := 28) (by decide) r120) ek ew (by rw [pm_un (by decide), pm_un (by decide)]; exact h25) (by rw [pm_un (by decide), pm_un (by decide)]; exact h26) (by rw [pm_un (by decide), pm_un (by decide)]; exact h27) (Or.inr ⟨by rw [pm_us, z_upd, e2]; exact er4, by rw [e2]; rfl, eo⟩)
set_option maxRecDepth 100000 in
set_option maxHeartbeats 1000000 in
theorem c_readPiece {I : pm_I} {L : pm_L} {t : List Nat} (hB : z_B I t) (ht : z_ok t) {a : Nat} (ha : a ≤ t.length) {i : Nat} (hi : i < 12) : PC 6 0 0 yX3_readPiece cX3_readPiece 3 (some (.boolean)) [.ref 24, .ref 22, .int (nI i)] GG (z_s I a) L (z_PQ I L i (z_pc t a)) := by
  have h120 := ht.1
  have p1 := (z_q_le (f := z_k) ha).2
  have p2 := z_num_le p1
  have p3 := (z_q_le (f := z_m 116) p2.2.1).2
  refine PC.of [some (.ref 24), some (.ref 22), some (.int (nI i))] (by decide) (Nat.le_of_ble_eq_true rfl) rfl (fun l P => ?_)
  refine pm_iload_n (pc := 0) dX3_readPiece_0 rfl ?_
  refine pm_if_lt (pc := 1) (tgt := 10) dX3_readPiece_1 rfl (fun h1 => (by simp (disch := omega) only [pm_eqI, pm_ltI, pm_leI, nI_toInt, pm_t0, pm_t1, pm_tm1] at h1; omega)) (fun h1 => ?_)
  refine pm_iload_n (pc := 4) dX3_readPiece_4 rfl ?_
  refine pm_bipush (pc := 5) (v := nI 12) dX3_readPiece_5 (by decide) ?_
  refine pm_icmp_lt (pc := 7) (tgt := 12) dX3_readPiece_7 rfl (fun h7 => ?_) (fun h7 => (by simp (disch := omega) only [pm_eqI, pm_ltI, pm_leI, nI_toInt, pm_t0, pm_t1, pm_tm1] at h7; omega))
  refine pm_aload_n (pc := 12) dX3_readPiece_12 rfl ?_
  refine pm_getr (pc := 13) (ci := 1) (C0 := RX3) (T := TX3) (N := 4) (j := 0) rfl rfl in_X3 (by decide) wf_X3_9 rfl dX3_readPiece_13 ?_
  refine pm_iload_n (pc := 16) dX3_readPiece_16 rfl ?_
  refine pm_aload_n (pc := 17) dX3_readPiece_17 rfl ?_
  refine pm_ldcS (pc := 18) (RX3, 44, "cklr", 1) (by decide) rfl rfl (by decide) dX3_readPiece_18 ?_
  refine pm_cVI (pc := 20) dX3_readPiece_20 (c_choice1 hB ht ha (q := 1) (by decide) zf_1) wq_X6_choice wm_X3_26 wi_X6_choice ws_X6_choice rfl rfl ⟨Nat.le_of_ble_eq_true rfl, Nat.le_of_ble_eq_true rfl⟩ ⟨Nat.le_of_ble_eq_true rfl, Nat.le_of_ble_eq_true rfl⟩ rfl (Nat.le_of_ble_eq_true rfl) (fun r20 I20 L20 q20 => ?_)
  obtain ⟨⟨er20, eI20⟩, el20⟩ := q20
  subst el20
  have eJ20 : I20 = z_s I (z_q t z_k a) := eI20
  subst eJ20
  have er20 : r20 = z_o (z_p t z_k a) := er20
  have K1 := (z_PK.rf (I := I) (i := i)).st (c := 25) (by decide) r20
  have B1 := hB.K K1.1
  refine pm_iast (pc := 23) rfl (by omega) (by decide) dX3_readPiece_23 ?_
  refine pm_eq rfl rfl rfl (z_com0 (by decide)) rfl ?_
  refine pm_aload_n (pc := 24) dX3_readPiece_24 rfl ?_
  refine pm_getr (pc := 25) (ci := 1) (C0 := RX3) (T := TX3) (N := 4) (j := 1) rfl rfl in_X3 (by decide) wf_X3_15 rfl dX3_readPiece_25 ?_
  refine pm_iload_n (pc := 28) dX3_readPiece_28 rfl ?_
  refine pm_aload_n (pc := 29) dX3_readPiece_29 rfl ?_
  refine pm_getr (pc := 30) (ci := 1) (C0 := RX3) (T := TX3) (N := 4) (j := 0) rfl rfl in_X3 (by decide) wf_X3_9 rfl dX3_readPiece_30 ?_
  refine pm_iload_n (pc := 33) dX3_readPiece_33 rfl ?_
  refine pm_iald (pc := 34) rfl (by omega) (by decide) dX3_readPiece_34 ?_
  rw [show z_s (pm_u I 25 (upd (I 25) i r20)) (z_q t z_k a) 25 i = r20 from by rw [z_s_ne (by decide), pm_us, z_upd]]
  refine pm_if_ge (pc := 35) (tgt := 42) dX3_readPiece_35 rfl (fun h35 => ?_) (fun h35 => ?_)
  · obtain ⟨k, ek, rk, gk⟩ := z_pos er20 (z_ge.mp h35)
    refine pm_aload_n (pc := 42) dX3_readPiece_42 rfl ?_
    refine pm_cVI (pc := 43) dX3_readPiece_43 (c_number B1 ht p1) wq_X6_number wm_X3_46 wi_X6_number ws_X6_number rfl rfl ⟨Nat.le_of_ble_eq_true rfl, Nat.le_of_ble_eq_true rfl⟩ ⟨Nat.le_of_ble_eq_true rfl, Nat.le_of_ble_eq_true rfl⟩ rfl (Nat.le_of_ble_eq_true rfl) (fun r43 I43 L43 q43 => ?_)
    obtain ⟨⟨er43, eI43⟩, el43⟩ := q43
    subst el43
    subst eI43
    have K2 := K1.st (c := 26) (by decide) r43
    have K3 := K2.st (c := 27) (by decide) (nI 0)
    have B3 := hB.K K3.1
    refine pm_iast (pc := 46) rfl (by omega) (by decide) dX3_readPiece_46 ?_
    refine pm_eq rfl rfl rfl (z_com0 (by decide)) rfl ?_
    refine pm_aload_n (pc := 47) dX3_readPiece_47 rfl ?_
    refine pm_getr (pc := 48) (ci := 1) (C0 := RX3) (T := TX3) (N := 4) (j := 1) rfl rfl in_X3 (by decide) wf_X3_15 rfl dX3_readPiece_48 ?_
    refine pm_iload_n (pc := 51) dX3_readPiece_51 rfl ?_
    refine pm_iald (pc := 52) rfl (by omega) (by decide) dX3_readPiece_52 ?_
    rw [show z_s (pm_u (pm_u I 25 (upd (I 25) i r20)) 26 (upd ((pm_u I 25 (upd (I 25) i r20)) 26) i r43)) (z_num t (z_q t z_k a)).1 26 i = r43 from by rw [z_s_ne (by decide), pm_us, z_upd]]
    refine pm_if_ge (pc := 53) (tgt := 58) dX3_readPiece_53 rfl (fun h53 => ?_) (fun h53 => ?_)
    · obtain ⟨w, ew⟩ : ∃ w, (z_num t (z_q t z_k a)).2 = some w := by
        cases e : (z_num t (z_q t z_k a)).2 with
        | none => rw [er43, e] at h53; exact absurd (show 0 ≤ (-1 : Int32) from h53) (by decide)
        | some x => exact ⟨x, rfl⟩
      have rw_ : r43 = nI w := by rw [er43, ew]; rfl
      refine pm_aload_n (pc := 58) dX3_readPiece_58 rfl ?_
      refine pm_getr (pc := 59) (ci := 1) (C0 := RX3) (T := TX3) (N := 4) (j := 2) rfl rfl in_X3 (by decide) wf_X3_18 rfl dX3_readPiece_59 ?_
      refine pm_iload_n (pc := 62) dX3_readPiece_62 rfl ?_
      refine pm_iconst (pc := 63) (v := nI 0) dX3_readPiece_63 (by decide) ?_
      refine pm_iast (pc := 64) rfl (by omega) (by decide) dX3_readPiece_64 ?_
      refine pm_eq rfl rfl rfl (z_com0 (by decide)) rfl ?_
      refine pm_aload_n (pc := 65) dX3_readPiece_65 rfl ?_
      refine pm_ldcS (pc := 66) (RX3, 49, "t", 2) (by decide) rfl rfl (by decide) dX3_readPiece_66 ?_
      refine pm_cVI (pc := 68) dX3_readPiece_68 (c_choice1 B3 ht p2.2.1 (q := 2) (by decide) zf_2) wq_X6_choice wm_X3_26 wi_X6_choice ws_X6_choice rfl rfl ⟨Nat.le_of_ble_eq_true rfl, Nat.le_of_ble_eq_true rfl⟩ ⟨Nat.le_of_ble_eq_true rfl, Nat.le_of_ble_eq_true rfl⟩ rfl (Nat.le_of_ble_eq_true rfl) (fun r68 I68 L68 q68 => ?_)
      obtain ⟨⟨er68, eI68⟩, el68⟩ := q68
      subst el68
      have eJ68 : I68 = z_s (pm_u (pm_u (pm_u I 25 (upd (I 25) i r20)) 26 (upd ((pm_u I 25 (upd (I 25) i r20)) 26) i r43)) 27 (upd (pm_u (pm_u I 25 (upd (I 25) i r20)) 26 (upd ((pm_u I 25 (upd (I 25) i r20)) 26) i r43) 27) i (nI 0))) (z_q t (z_m 116) (z_num t (z_q t z_k a)).1) := eI68
      subst eJ68
      have er68 : r68 = z_o (z_p t (z_m 116) (z_num t (z_q t z_k a)).1) := er68
      refine pm_if_ne (pc := 71) (tgt := 86) dX3_readPiece_71 rfl (fun h71 => ?_) (fun h71 => ?_)
      · have em := z_mk1 er68 h71
        have e1 : (z_opt t 116 0 (z_d 4) (z_num t (z_q t z_k a)).1) = (z_sk t (z_num t (z_q t z_k a)).1, some 0) := if_pos em
        rw [z_q_n em]
        have k86 := l_rp86 (la := l) (P := P) (L := L68) hB ht ha hi K3 ek ew (by rw [pm_un (by decide), pm_un (by decide), pm_us, z_upd]; exact rk) (by rw [pm_un (by decide), pm_us, z_upd]; exact rw_) (by rw [pm_us, z_upd, e1]; rfl)
        rw [e1] at k86
        exact k86
      · have em := z_mk0 er68 h71
        have e1 : (z_opt t 116 0 (z_d 4) (z_num t (z_q t z_k a)).1) = z_ch t (z_d 4) (z_q t (z_m 116) (z_num t (z_q t z_k a)).1) := if_neg (by rw [em]; simp)
        refine pm_aload_n (pc := 74) dX3_readPiece_74 rfl ?_
        refine pm_getr (pc := 75) (ci := 1) (C0 := RX3) (T := TX3) (N := 4) (j := 2) rfl rfl in_X3 (by decide) wf_X3_18 rfl dX3_readPiece_75 ?_
        refine pm_iload_n (pc := 78) dX3_readPiece_78 rfl ?_
        refine pm_aload_n (pc := 79) dX3_readPiece_79 rfl ?_
        refine pm_ldcS (pc := 80) (RX3, 51, "0123", 3) (by decide) rfl rfl (by decide) dX3_readPiece_80 ?_
        refine pm_cVI (pc := 82) dX3_readPiece_82 (c_choice1 B3 ht p3 (q := 3) (by decide) zf_3) wq_X6_choice wm_X3_26 wi_X6_choice ws_X6_choice rfl rfl ⟨Nat.le_of_ble_eq_true rfl, Nat.le_of_ble_eq_true rfl⟩ ⟨Nat.le_of_ble_eq_true rfl, Nat.le_of_ble_eq_true rfl⟩ rfl (Nat.le_of_ble_eq_true rfl) (fun r82 I82 L82 q82 => ?_)
        obtain ⟨⟨er82, eI82⟩, el82⟩ := q82
        subst el82
        have eJ82 : I82 = z_s (pm_u (pm_u (pm_u I 25 (upd (I 25) i r20)) 26 (upd ((pm_u I 25 (upd (I 25) i r20)) 26) i r43)) 27 (upd (pm_u (pm_u I 25 (upd (I 25) i r20)) 26 (upd ((pm_u I 25 (upd (I 25) i r20)) 26) i r43) 27) i (nI 0))) (z_q t (z_d 4) (z_q t (z_m 116) (z_num t (z_q t z_k a)).1)) := eI82
        subst eJ82
        have er82 : r82 = z_o (z_p t (z_d 4) (z_q t (z_m 116) (z_num t (z_q t z_k a)).1)) := er82
        refine pm_iast (pc := 85) rfl (by omega) (by decide) dX3_readPiece_85 ?_
        refine pm_eq rfl rfl rfl (z_com0 (by decide)) rfl ?_
        have K4 := K3.st (c := 27) (by decide) r82
        have k86 := l_rp86 (la := l) (P := P) (L := L82) hB ht ha hi K4 ek ew (by rw [pm_un (by decide), pm_un (by decide), pm_un (by decide), pm_us, z_upd]; exact rk) (by rw [pm_un (by decide), pm_un (by decide), pm_us, z_upd]; exact rw_) (by rw [pm_us, z_upd, e1]; exact er82)
        rw [e1] at k86
        exact k86
    · have e43 : (z_num t (z_q t z_k a)).2 = none := by
        cases e : (z_num t (z_q t z_k a)).2 with
        | none => rfl
        | some x =>
          have hx := p2.2.2 x e
          rw [er43, e] at h53
          have h2 : ¬ 0 ≤ nI x := h53
          rw [pm_leI, nI_toInt (by omega), pm_t0] at h2; omega
      have e0 : z_pc t a = ((z_num t (z_q t z_k a)).1, none) := by unfold z_pc; rw [z_bind_s (r := z_ch t z_k a) ek]; show z_bind (z_num t (z_q t z_k a)) _ = _; rw [z_bind_n e43]
      refine pm_iconst (pc := 56) (v := nI 0) dX3_readPiece_56 (by decide) ?_
      refine pm_zret (pc := 57) (by decide) rfl (Nat.le_refl _) (Nat.le_refl _) dX3_readPiece_57 ?_
      refine QI.r ⟨⟨_, by rw [e0]; rfl, by rw [e0], K2, fun x hx => by rw [e0] at hx; exact absurd hx (by simp)⟩, rfl⟩
  · have e20 := z_neg (B := 4) (fun c x h => zb_k h) (by decide) er20 (by rw [← Classical.not_not (a := r20 < 0)]; exact fun z => h35 (z_ge.mpr z))
    have e0 : z_pc t a = ((z_q t z_k a), none) := by unfold z_pc; rw [z_bind_n (r := z_ch t z_k a) e20]; rfl
    have KN := K1.st (c := 26) (by decide) (-1)
    refine pm_iconst (pc := 38) (v := (-1)) dX3_readPiece_38 (by decide) ?_
    refine pm_goto (pc := 39) (tgt := 46) dX3_readPiece_39 rfl ?_
    refine pm_iast (pc := 46) rfl (by omega) (by decide) dX3_readPiece_46 ?_
    refine pm_eq rfl rfl rfl (z_com0 (by decide)) rfl ?_
    refine pm_aload_n (pc := 47) dX3_readPiece_47 rfl ?_
    refine pm_getr (pc := 48) (ci := 1) (C0 := RX3) (T := TX3) (N := 4) (j := 1) rfl rfl in_X3 (by decide) wf_X3_15 rfl dX3_readPiece_48 ?_
    refine pm_iload_n (pc := 51) dX3_readPiece_51 rfl ?_
    refine pm_iald (pc := 52) rfl (by omega) (by decide) dX3_readPiece_52 ?_
    rw [show z_s (pm_u (pm_u I 25 (upd (I 25) i r20)) 26 (upd ((pm_u I 25 (upd (I 25) i r20)) 26) i (-1))) (z_q t z_k a) 26 i = -1 from by rw [z_s_ne (by decide), pm_us, z_upd]]
    refine pm_if_ge (pc := 53) (tgt := 58) dX3_readPiece_53 rfl (fun h53 => absurd h53 (by decide)) (fun h53 => ?_)
    refine pm_iconst (pc := 56) (v := nI 0) dX3_readPiece_56 (by decide) ?_
    refine pm_zret (pc := 57) (by decide) rfl (Nat.le_refl _) (Nat.le_refl _) dX3_readPiece_57 ?_
    refine QI.r ⟨⟨_, by rw [e0]; rfl, by rw [e0], KN, fun x hx => by rw [e0] at hx; exact absurd hx (by simp)⟩, rfl⟩
