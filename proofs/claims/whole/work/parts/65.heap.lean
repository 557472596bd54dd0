def y_HK (I K : pm_I) (j : Nat) : Prop := (∀ c : Nat, c ≠ 40 → c < 49 ∨ 52 < c → K c = I c) ∧ (∀ c k : Nat, c ≠ 40 → k ≠ j → K c k = I c k) ∧ ∀ k : Nat, k ≠ 13 → K 40 k = I 40 k
theorem y_HK.rf {I : pm_I} {j : Nat} : y_HK I I j := ⟨fun _ _ _ => rfl, fun _ _ _ _ => rfl, fun _ _ => rfl⟩
theorem y_HK.st {I K : pm_I} {j c : Nat} (h : y_HK I K j) (hc : 49 ≤ c ∧ c ≤ 52) (x : Int32) : y_HK I (pm_u K c (upd (K c) j x)) j := by
  refine ⟨fun b hb hb2 => (pm_un (by omega)).trans (h.1 b hb hb2), fun b k hb hk => ?_, fun k hk => by rw [pm_un (by omega)]; exact h.2.2 k hk⟩
  by_cases e : b = c
  · rw [e, pm_us, z_updn _ _ hk]; exact h.2.1 c k (by omega) hk
  · rw [pm_un e]; exact h.2.1 b k hb hk
theorem y_HK.n {I K : pm_I} {j : Nat} (h : y_HK I K j) (x : Int32) : y_HK I (pm_u K 40 (upd (K 40) 13 x)) j := by
  refine ⟨fun b hb hb2 => (pm_un hb).trans (h.1 b hb hb2), fun b k hb hk => by rw [pm_un hb]; exact h.2.1 b k hb hk, fun k hk => ?_⟩
  rw [pm_us, z_updn _ _ hk]; exact h.2.2 k hk
theorem y_HK.B {I K : pm_I} {j : Nat} {t : List Nat} (h : y_HK I K j) (hB : y_B I t) : y_B K t := ⟨by rw [h.2.2 10 (by decide)]; exact hB.1, fun k hk => by rw [h.1 48 (by decide) (by omega)]; exact hB.2 k hk⟩
theorem y_S.w {I J : pm_I} {a c i : Nat} {φ x : Int32} (h : y_S I J a φ) (hc : c ≠ 40) : y_S (pm_u I c (upd (I c) i x)) (pm_u J c (upd (J c) i x)) a φ := by
  refine ⟨fun b hb => ?_, by rw [pm_un (fun z => hc z.symm)]; exact h.2.1, by rw [pm_un (fun z => hc z.symm)]; exact h.2.2.1, fun k h1 h2 => by rw [pm_un (fun z => hc z.symm), pm_un (fun z => hc z.symm)]; exact h.2.2.2 k h1 h2⟩
  by_cases e : b = c
  · rw [e, pm_us, pm_us, h.1 c hc]
  · rw [pm_un e, pm_un e]; exact h.1 b hb
theorem y_S.n {I J : pm_I} {a : Nat} {φ x : Int32} (h : y_S I J a φ) : y_S (pm_u I 40 (upd (I 40) 13 x)) (pm_u J 40 (upd (J 40) 13 x)) a φ := by
  refine ⟨fun b hb => by rw [pm_un hb, pm_un hb]; exact h.1 b hb, ?_, ?_, fun k h1 h2 => ?_⟩
  · rw [pm_us, z_updn _ _ (by decide)]; exact h.2.1
  · rw [pm_us, z_updn _ _ (by decide)]; exact h.2.2.1
  · rw [pm_us, pm_us]
    show (if k = 13 then x else J 40 k) = (if k = 13 then x else I 40 k)
    split
    · rfl
    · exact h.2.2.2 k h1 h2
theorem y_P.w {α : Type} {t : List Nat} {I J : pm_I} {σ : Nat × Option α} {c i : Nat} {x : Int32} (h : y_P t I J σ) (hc : c ≠ 40) : y_P t (pm_u I c (upd (I c) i x)) (pm_u J c (upd (J c) i x)) σ := by
  cases e : σ.2 with
  | none =>
    obtain ⟨a, ha, hS⟩ := h.n e
    exact y_P.mn e ha (hS.w hc)
  | some v => exact y_P.ms e ((h.s e).w hc)
def y_PQ (I J : pm_I) (j : Nat) (τ : Nat × Option z_P) : Prop := match τ.2 with
  | none => ∃ (K : pm_I) (b : Nat), y_HK I K j ∧ y_S K J b (z_F τ.1)
  | some x => ∃ K : pm_I, y_HK I K j ∧ y_S K J τ.1 0 ∧ (K 49 j = nI x.1 ∧ K 50 j = nI x.2.1 ∧ K 51 j = nI x.2.2.1 ∧ K 52 j = nI x.2.2.2) ∧ K 40 13 = nI (j + 1)
theorem y_PQ.mn {I J K : pm_I} {j b : Nat} {τ : Nat × Option z_P} (e : τ.2 = none) (hK : y_HK I K j) (hS : y_S K J b (z_F τ.1)) : y_PQ I J j τ := by unfold y_PQ; rw [e]; exact ⟨K, b, hK, hS⟩
theorem y_PQ.ms {I J K : pm_I} {j : Nat} {τ : Nat × Option z_P} {x : z_P} (e : τ.2 = some x) (hK : y_HK I K j) (hS : y_S K J τ.1 0) (h1 : K 49 j = nI x.1 ∧ K 50 j = nI x.2.1 ∧ K 51 j = nI x.2.2.1 ∧ K 52 j = nI x.2.2.2) (h2 : K 40 13 = nI (j + 1)) : y_PQ I J j τ := by unfold y_PQ; rw [e]; exact ⟨K, hK, hS, h1, h2⟩
set_option maxRecDepth 100000 in
set_option maxHeartbeats 1000000 in
theorem l_tp190n {I : pm_I} {L : pm_L} {t : List Nat} (hB : y_B I t) (ht : z_ok t) {a : Nat} (ha : a ≤ t.length) {j : Nat} (hj : j < 12) (hA : I 40 13 = nI j) {la : Launch} {P : pm_E} {x2 : Int32} {J K : pm_I} (hK : y_HK I K j) (h13 : K 40 13 = I 40 13) {b : Nat} (e : (z_pc t a).2 = none) (hS : y_S K J b (z_F (z_pc t a).1)) : PW la P yX10_takePiece cX10_takePiece 3 none (pm_rm 2 0 0) (pm_Tg P (QV GG (fun I' L' => y_PQ I I' j (z_pc t a) ∧ L' = L)) 0 0) 0 0 190 [some (.ref 40), some (.int (nI j)), some (.int x2)] [] GG J L := by
  have eN : J 40 13 = nI j := by rw [hS.2.2.2 13 (by decide) (by decide), h13]; exact hA
  refine pm_aload_n (pc := 190) dX10_takePiece_190 rfl ?_
  refine pm_dup (pc := 191) dX10_takePiece_191 rfl ?_
  refine pm_get (pc := 192) (ci := 8) (C0 := RX10) (T := TX10) (N := 34) (j := 13) rfl rfl in_X10 (by decide) wf_X10_171 rfl dX10_takePiece_192 ?_
  rw [eN]
  refine pm_iconst (pc := 195) (v := nI 1) dX10_takePiece_195 (by decide) ?_
  refine pm_iadd (pc := 196) dX10_takePiece_196 ?_
  refine pm_top (nI_add _ _) ?_
  refine pm_put (pc := 197) (ci := 8) (C0 := RX10) (T := TX10) (N := 34) (j := 13) (ty := .int) rfl rfl in_X10 tyX10 tyX10_ok nmX10 (by decide) wf_X10_171 rfl rfl (by decide +kernel) rfl rfl dX10_takePiece_197 ?_
  refine pm_vret (pc := 200) rfl (Nat.le_refl _) (Nat.le_refl _) dX10_takePiece_200 ?_
  exact QV.r ⟨y_PQ.mn e (hK.n _) hS.n, rfl⟩
set_option maxRecDepth 100000 in
set_option maxHeartbeats 1000000 in
theorem l_tp190s {I : pm_I} {L : pm_L} {t : List Nat} (hB : y_B I t) (ht : z_ok t) {a : Nat} (ha : a ≤ t.length) {j : Nat} (hj : j < 12) (hA : I 40 13 = nI j) {la : Launch} {P : pm_E} {x2 : Int32} {J K : pm_I} (hK : y_HK I K j) (h13 : K 40 13 = I 40 13) {x : z_P} (e : (z_pc t a).2 = some x) (hS : y_S K J (z_pc t a).1 0) (hx : K 49 j = nI x.1 ∧ K 50 j = nI x.2.1 ∧ K 51 j = nI x.2.2.1 ∧ K 52 j = nI x.2.2.2) : PW la P yX10_takePiece cX10_takePiece 3 none (pm_rm 2 0 0) (pm_Tg P (QV GG (fun I' L' => y_PQ I I' j (z_pc t a) ∧ L' = L)) 0 0) 0 0 190 [some (.ref 40), some (.int (nI j)), some (.int x2)] [] GG J L := by
  have eN : J 40 13 = nI j := by rw [hS.2.2.2 13 (by decide) (by decide), h13]; exact hA
  refine pm_aload_n (pc := 190) dX10_takePiece_190 rfl ?_
  refine pm_dup (pc := 191) dX10_takePiece_191 rfl ?_
  refine pm_get (pc := 192) (ci := 8) (C0 := RX10) (T := TX10) (N := 34) (j := 13) rfl rfl in_X10 (by decide) wf_X10_171 rfl dX10_takePiece_192 ?_
  rw [eN]
  refine pm_iconst (pc := 195) (v := nI 1) dX10_takePiece_195 (by decide) ?_
  refine pm_iadd (pc := 196) dX10_takePiece_196 ?_
  refine pm_top (nI_add _ _) ?_
  refine pm_put (pc := 197) (ci := 8) (C0 := RX10) (T := TX10) (N := 34) (j := 13) (ty := .int) rfl rfl in_X10 tyX10 tyX10_ok nmX10 (by decide) wf_X10_171 rfl rfl (by decide +kernel) rfl rfl dX10_takePiece_197 ?_
  refine pm_vret (pc := 200) rfl (Nat.le_refl _) (Nat.le_refl _) dX10_takePiece_200 ?_
  exact QV.r ⟨y_PQ.ms e (hK.n _) hS.n ⟨by rw [pm_un (by decide)]; exact hx.1, by rw [pm_un (by decide)]; exact hx.2.1, by rw [pm_un (by decide)]; exact hx.2.2.1, by rw [pm_un (by decide)]; exact hx.2.2.2⟩ (by rw [pm_us]; rfl), rfl⟩
theorem l_tp190 {I : pm_I} {L : pm_L} {t : List Nat} (hB : y_B I t) (ht : z_ok t) {a : Nat} (ha : a ≤ t.length) {j : Nat} (hj : j < 12) (hA : I 40 13 = nI j) {la : Launch} {P : pm_E} {x2 : Int32} {J K : pm_I} (hK : y_HK I K j) (h13 : K 40 13 = I 40 13) {k w o : Nat} (ek : z_p t z_k a = some k) (ew : (z_num t (z_q t z_k a)).2 = some w) (eo : (z_opt t 116 0 (z_d 4) (z_num t (z_q t z_k a)).1).2 = some o) (hP : y_P t K J (z_opt t 64 6 (z_d 6) (z_opt t 116 0 (z_d 4) (z_num t (z_q t z_k a)).1).1)) (h1 : K 49 j = nI k ∧ K 50 j = nI w ∧ K 51 j = nI o ∧ ∀ p, (z_opt t 64 6 (z_d 6) (z_opt t 116 0 (z_d 4) (z_num t (z_q t z_k a)).1).1).2 = some p → K 52 j = nI p) : PW la P yX10_takePiece cX10_takePiece 3 none (pm_rm 2 0 0) (pm_Tg P (QV GG (fun I' L' => y_PQ I I' j (z_pc t a) ∧ L' = L)) 0 0) 0 0 190 [some (.ref 40), some (.int (nI j)), some (.int x2)] [] GG J L := by
  have e0 : z_pc t a = z_bind (z_opt t 64 6 (z_d 6) (z_opt t 116 0 (z_d 4) (z_num t (z_q t z_k a)).1).1) fun p a4 => (a4, some (k, w, o, p)) := by
    unfold z_pc; rw [z_bind_s (r := z_ch t z_k a) ek]; show z_bind (z_num t (z_q t z_k a)) _ = _; rw [z_bind_s ew, z_bind_s eo]
  cases ep : (z_opt t 64 6 (z_d 6) (z_opt t 116 0 (z_d 4) (z_num t (z_q t z_k a)).1).1).2 with
  | none =>
    rw [z_bind_n ep] at e0
    obtain ⟨b, _, hS⟩ := hP.n ep
    exact l_tp190n hB ht ha hj hA hK h13 (by rw [e0]) (by rw [e0]; exact hS)
  | some p =>
    rw [z_bind_s ep] at e0
    exact l_tp190s hB ht ha hj hA hK h13 (x := (k, w, o, p)) (by rw [e0]) (by rw [e0]; exact hP.s ep) ⟨h1.1, h1.2.1, h1.2.2.1, h1.2.2.2 p ep⟩
set_option maxRecDepth 100000 in
set_option maxHeartbeats 1000000 in
theorem l_tp142 {I : pm_I} {L : pm_L} {t : List Nat} (hB : y_B I t) (ht : z_ok t) {a : Nat} (ha : a ≤ t.length) {j : Nat} (hj : j < 12) (hA : I 40 13 = nI j) {la : Launch} {P : pm_E} {x2 : Int32} {J K : pm_I} (hK : y_HK I K j) (h13 : K 40 13 = I 40 13) {k w : Nat} (ek : z_p t z_k a = some k) (ew : (z_num t (z_q t z_k a)).2 = some w) (hP : y_P t K J (z_opt t 116 0 (z_d 4) (z_num t (z_q t z_k a)).1)) (h1 : K 49 j = nI k ∧ K 50 j = nI w ∧ ∀ o, (z_opt t 116 0 (z_d 4) (z_num t (z_q t z_k a)).1).2 = some o → K 51 j = nI o) : PW la P yX10_takePiece cX10_takePiece 3 none (pm_rm 2 0 0) (pm_Tg P (QV GG (fun I' L' => y_PQ I I' j (z_pc t a) ∧ L' = L)) 0 0) 0 0 142 [some (.ref 40), some (.int (nI j)), some (.int x2)] [] GG J L := by
  have h120 := ht.1
  have p1 := (z_q_le (f := z_k) ha).2
  have p2 := z_num_le p1
  have g1 := z_opt_G (m := 116) (d := 0) (B := 4) (f := z_d 4) p2.2.1 (by decide) (fun c x h => zb_d h)
  have g2 := z_opt_G (m := 64) (d := 6) (B := 7) (f := z_d 6) g1.2.1 (by decide) (fun c x h => by have := zb_d h; omega)
  have e0 : z_pc t a = z_bind (z_opt t 116 0 (z_d 4) (z_num t (z_q t z_k a)).1) fun o a3 => z_bind (z_opt t 64 6 (z_d 6) a3) fun p a4 => (a4, some (k, w, o, p)) := by
    unfold z_pc; rw [z_bind_s (r := z_ch t z_k a) ek]; show z_bind (z_num t (z_q t z_k a)) _ = _; rw [z_bind_s ew]
  have hK6 := hK.st (c := 52) (by decide) (nI 6)
  have B6 := hK6.B hB
  have h136 : (pm_u K 52 (upd (K 52) j (nI 6))) 40 13 = I 40 13 := by rw [pm_un (by decide)]; exact h13
  have P6 := hP.w (c := 52) (i := j) (x := nI 6) (by decide)
  cases eo : (z_opt t 116 0 (z_d 4) (z_num t (z_q t z_k a)).1).2 with
  | none =>
    rw [z_bind_n eo] at e0
    obtain ⟨b, hb, S6⟩ := P6.n eo
    refine pm_aload_n (pc := 142) dX10_takePiece_142 rfl ?_
    refine pm_getr (pc := 143) (ci := 8) (C0 := RX10) (T := TX10) (N := 34) (j := 17) rfl rfl in_X10 (by decide) wf_X10_43 rfl dX10_takePiece_143 ?_
    refine pm_iload_n (pc := 146) dX10_takePiece_146 rfl ?_
    refine pm_bipush (pc := 147) (v := nI 6) dX10_takePiece_147 (by decide) ?_
    refine pm_iast (pc := 149) rfl (by omega) (by decide) dX10_takePiece_149 ?_
    refine pm_aload_n (pc := 150) dX10_takePiece_150 rfl ?_
    refine pm_get (pc := 151) (ci := 8) (C0 := RX10) (T := TX10) (N := 34) (j := 12) rfl rfl in_X10 (by decide) wf_X10_157 rfl dX10_takePiece_151 ?_
    rw [S6.2.2.1]
    refine pm_if_ne (pc := 154) (tgt := 190) dX10_takePiece_154 rfl (fun h154 => ?_) (fun h154 => absurd h154 (z_F_0 (by have := g1.2.1; omega)))
    exact l_tp190n hB ht ha hj hA hK6 h136 (by rw [e0]) (by rw [e0]; exact S6)
  | some o =>
    have S6 := P6.s eo
    refine pm_aload_n (pc := 142) dX10_takePiece_142 rfl ?_
    refine pm_getr (pc := 143) (ci := 8) (C0 := RX10) (T := TX10) (N := 34) (j := 17) rfl rfl in_X10 (by decide) wf_X10_43 rfl dX10_takePiece_143 ?_
    refine pm_iload_n (pc := 146) dX10_takePiece_146 rfl ?_
    refine pm_bipush (pc := 147) (v := nI 6) dX10_takePiece_147 (by decide) ?_
    refine pm_iast (pc := 149) rfl (by omega) (by decide) dX10_takePiece_149 ?_
    refine pm_aload_n (pc := 150) dX10_takePiece_150 rfl ?_
    refine pm_get (pc := 151) (ci := 8) (C0 := RX10) (T := TX10) (N := 34) (j := 12) rfl rfl in_X10 (by decide) wf_X10_157 rfl dX10_takePiece_151 ?_
    rw [S6.2.2.1]
    refine pm_if_ne (pc := 154) (tgt := 190) dX10_takePiece_154 rfl (fun h154 => absurd rfl h154) (fun h154 => ?_)
    refine pm_aload_n (pc := 157) dX10_takePiece_157 rfl ?_
    refine pm_cVI (pc := 158) dX10_takePiece_158 (c_here B6 ht g1.2.1 S6) wq_X10_here wm_X10_160 wi_X10_here ws_X10_here rfl rfl ⟨Nat.le_of_ble_eq_true rfl, Nat.le_of_ble_eq_true rfl⟩ ⟨Nat.le_of_ble_eq_true rfl, Nat.le_of_ble_eq_true rfl⟩ rfl (Nat.le_of_ble_eq_true rfl) (fun r158 I158 L158 q158 => ?_)
    obtain ⟨⟨er158, S158⟩, el158⟩ := q158
    subst el158
    refine pm_bipush (pc := 161) (v := nI 64) dX10_takePiece_161 (by decide) ?_
    refine pm_icmp_ne (pc := 163) (tgt := 190) dX10_takePiece_163 rfl (fun h163 => ?_) (fun h163 => ?_)
    · have em : z_p t (z_m 64) (z_opt t 116 0 (z_d 4) (z_num t (z_q t z_k a)).1).1 = none := by
        unfold z_p z_m
        by_cases h : z_sk t (z_opt t 116 0 (z_d 4) (z_num t (z_q t z_k a)).1).1 < t.length
        · rw [if_pos h, if_neg (fun z => h163 (by rw [er158]; exact (y_ck ht (by decide)).mpr ⟨h, z⟩))]
        · rw [if_neg h]
      have e2 : (z_opt t 64 6 (z_d 6) (z_opt t 116 0 (z_d 4) (z_num t (z_q t z_k a)).1).1) = (z_sk t (z_opt t 116 0 (z_d 4) (z_num t (z_q t z_k a)).1).1, some 6) := if_pos em
      refine l_tp190 hB ht ha hj hA hK6 h136 ek ew eo (by rw [e2]; exact y_P.ms (v := 6) rfl S158) ⟨by rw [pm_un (by decide)]; exact h1.1, by rw [pm_un (by decide)]; exact h1.2.1, by rw [pm_un (by decide)]; exact h1.2.2 o eo, fun p hp => ?_⟩
      rw [e2] at hp
      rw [pm_us, z_upd, Option.some.inj hp]
    · have hc := (y_ck ht (show 64 < 127 by decide)).mp (by rw [← er158]; exact h163)
      have em : z_p t (z_m 64) (z_opt t 116 0 (z_d 4) (z_num t (z_q t z_k a)).1).1 = some 0 := by unfold z_p z_m; rw [if_pos hc.1, if_pos hc.2]
      have e2 : (z_opt t 64 6 (z_d 6) (z_opt t 116 0 (z_d 4) (z_num t (z_q t z_k a)).1).1) = (z_bind ((z_sk t (z_opt t 116 0 (z_d 4) (z_num t (z_q t z_k a)).1).1 + 1, some 0) : Nat × Option Nat) fun _ b => z_ch t (z_d 6) b) := by
        rw [z_bind_s (r := ((z_sk t (z_opt t 116 0 (z_d 4) (z_num t (z_q t z_k a)).1).1 + 1, some 0) : Nat × Option Nat)) rfl]
        show (if z_p t (z_m 64) (z_opt t 116 0 (z_d 4) (z_num t (z_q t z_k a)).1).1 = none then _ else z_ch t (z_d 6) (z_q t (z_m 64) (z_opt t 116 0 (z_d 4) (z_num t (z_q t z_k a)).1).1)) = _
        rw [if_neg (by rw [em]; simp), z_q_s em]
      refine pm_aload_n (pc := 166) dX10_takePiece_166 rfl ?_
      refine pm_dup (pc := 167) dX10_takePiece_167 rfl ?_
      refine pm_get (pc := 168) (ci := 8) (C0 := RX10) (T := TX10) (N := 34) (j := 11) rfl rfl in_X10 (by decide) wf_X10_154 rfl dX10_takePiece_168 ?_
      rw [S158.2.1]
      refine pm_iconst (pc := 171) (v := nI 1) dX10_takePiece_171 (by decide) ?_
      refine pm_iadd (pc := 172) dX10_takePiece_172 ?_
      refine pm_top (nI_add _ _) ?_
      refine pm_put (pc := 173) (ci := 8) (C0 := RX10) (T := TX10) (N := 34) (j := 11) (ty := .int) rfl rfl in_X10 tyX10 tyX10_ok nmX10 (by decide) wf_X10_154 rfl rfl (by decide +kernel) rfl rfl dX10_takePiece_173 ?_
      refine pm_aload_n (pc := 176) dX10_takePiece_176 rfl ?_
      refine pm_getr (pc := 177) (ci := 8) (C0 := RX10) (T := TX10) (N := 34) (j := 17) rfl rfl in_X10 (by decide) wf_X10_43 rfl dX10_takePiece_177 ?_
      refine pm_iload_n (pc := 180) dX10_takePiece_180 rfl ?_
      refine pm_aload_n (pc := 181) dX10_takePiece_181 rfl ?_
      refine pm_bipush (pc := 182) (v := nI 48) dX10_takePiece_182 (by decide) ?_
      refine pm_bipush (pc := 184) (v := nI 53) dX10_takePiece_184 (by decide) ?_
      refine pm_cVI (pc := 186) dX10_takePiece_186 (c_take2 B6 ht (σ := ((z_sk t (z_opt t 116 0 (z_d 4) (z_num t (z_q t z_k a)).1).1 + 1, some 0) : Nat × Option Nat)) hc.1 (y_P.ms (v := 0) rfl (S158.at (z_sk t (z_opt t 116 0 (z_d 4) (z_num t (z_q t z_k a)).1).1 + 1))) (by decide) (by decide) (by decide) (y_fd (m := 6) (by decide))) wq_X10_take wm_X10_177 wi_X10_take ws_X10_take rfl rfl ⟨Nat.le_of_ble_eq_true rfl, Nat.le_of_ble_eq_true rfl⟩ ⟨Nat.le_of_ble_eq_true rfl, Nat.le_of_ble_eq_true rfl⟩ rfl (Nat.le_of_ble_eq_true rfl) (fun r186 I186 L186 q186 => ?_)
      obtain ⟨⟨er186, P186⟩, el186⟩ := q186
      subst el186
      rw [← e2] at er186 P186
      have P187 := P186.w (c := 52) (i := j) (x := r186) (by decide)
      refine pm_iast (pc := 189) rfl (by omega) (by decide) dX10_takePiece_189 ?_
      refine l_tp190 hB ht ha hj hA (hK6.st (c := 52) (by decide) r186) (by rw [pm_un (by decide)]; exact h136) ek ew eo P187 ⟨by rw [pm_un (by decide), pm_un (by decide)]; exact h1.1, by rw [pm_un (by decide), pm_un (by decide)]; exact h1.2.1, by rw [pm_un (by decide), pm_un (by decide)]; exact h1.2.2 o eo, fun p hp => ?_⟩
      rw [pm_us, z_upd, er186, hp]; rfl
set_option maxRecDepth 100000 in
set_option maxHeartbeats 1000000 in
theorem l_tp57 {I : pm_I} {L : pm_L} {t : List Nat} (hB : y_B I t) (ht : z_ok t) {a : Nat} (ha : a ≤ t.length) {j : Nat} (hj : j < 12) (hA : I 40 13 = nI j) {la : Launch} {P : pm_E} {x2 : Int32} {J : pm_I} {kv : Int32} (ekv : kv = z_o (z_p t z_k a)) (hS : y_S I J (z_sk t a) 0) : PW la P yX10_takePiece cX10_takePiece 3 none (pm_rm 2 0 0) (pm_Tg P (QV GG (fun I' L' => y_PQ I I' j (z_pc t a) ∧ L' = L)) 0 0) 0 0 57 [some (.ref 40), some (.int (nI j)), some (.int x2)] [] GG (pm_u J 49 (upd (J 49) j kv)) L := by
  have h120 := ht.1
  have p1 := (z_q_le (f := z_k) ha).2
  have p2 := z_num_le p1
  have g1 := z_opt_G (m := 116) (d := 0) (B := 4) (f := z_d 4) p2.2.1 (by decide) (fun c x h => zb_d h)
  have g2 := z_opt_G (m := 64) (d := 6) (B := 7) (f := z_d 6) g1.2.1 (by decide) (fun c x h => by have := zb_d h; omega)
  obtain ⟨b1_, b2_, b3_⟩ := z_sk_sp ha
  have hK1 := (y_HK.rf (I := I) (j := j)).st (c := 49) (by decide) kv
  have S1 := hS.w (c := 49) (i := j) (x := kv) (by decide)
  have B1 := hK1.B hB
  have e49 : pm_u J 49 (upd (J 49) j kv) 49 j = kv := by rw [pm_us, z_upd]
  refine pm_aload_n (pc := 57) dX10_takePiece_57 rfl ?_
  refine pm_getr (pc := 58) (ci := 8) (C0 := RX10) (T := TX10) (N := 34) (j := 14) rfl rfl in_X10 (by decide) wf_X10_34 rfl dX10_takePiece_58 ?_
  refine pm_iload_n (pc := 61) dX10_takePiece_61 rfl ?_
  refine pm_iald (pc := 62) rfl (by omega) (by decide) dX10_takePiece_62 ?_
  rw [e49]
  refine pm_if_ge (pc := 63) (tgt := 75) dX10_takePiece_63 rfl (fun h63 => ?_) (fun h63 => ?_)
  · obtain ⟨k, ek, rk, gk⟩ := z_pos ekv (z_ge.mp h63)
    refine pm_aload_n (pc := 75) dX10_takePiece_75 rfl ?_
    refine pm_dup (pc := 76) dX10_takePiece_76 rfl ?_
    refine pm_get (pc := 77) (ci := 8) (C0 := RX10) (T := TX10) (N := 34) (j := 11) rfl rfl in_X10 (by decide) wf_X10_154 rfl dX10_takePiece_77 ?_
    rw [S1.2.1]
    refine pm_iconst (pc := 80) (v := nI 1) dX10_takePiece_80 (by decide) ?_
    refine pm_iadd (pc := 81) dX10_takePiece_81 ?_
    refine pm_top (nI_add _ _) ?_
    refine pm_put (pc := 82) (ci := 8) (C0 := RX10) (T := TX10) (N := 34) (j := 11) (ty := .int) rfl rfl in_X10 tyX10 tyX10_ok nmX10 (by decide) wf_X10_154 rfl rfl (by decide +kernel) rfl rfl dX10_takePiece_82 ?_
    refine pm_aload_n (pc := 85) dX10_takePiece_85 rfl ?_
    refine pm_getr (pc := 86) (ci := 8) (C0 := RX10) (T := TX10) (N := 34) (j := 15) rfl rfl in_X10 (by decide) wf_X10_37 rfl dX10_takePiece_86 ?_
    refine pm_iload_n (pc := 89) dX10_takePiece_89 rfl ?_
    refine pm_aload_n (pc := 90) dX10_takePiece_90 rfl ?_
    refine pm_cVI (pc := 91) dX10_takePiece_91 (c_takeNum B1 ht p1 (by rw [z_q_s ek]; exact S1.at (z_sk t a + 1))) wq_X10_takeNumber wm_X10_174 wi_X10_takeNumber ws_X10_takeNumber rfl rfl ⟨Nat.le_of_ble_eq_true rfl, Nat.le_of_ble_eq_true rfl⟩ ⟨Nat.le_of_ble_eq_true rfl, Nat.le_of_ble_eq_true rfl⟩ rfl (Nat.le_of_ble_eq_true rfl) (fun r91 I91 L91 q91 => ?_)
    obtain ⟨⟨P91, hn9⟩, el91⟩ := q91
    subst el91
    have hK2 := hK1.st (c := 50) (by decide) r91
    have P2 := P91.w (c := 50) (i := j) (x := r91) (by decide)
    have hK3 := hK2.st (c := 51) (by decide) (nI 0)
    have P3 := P2.w (c := 51) (i := j) (x := nI 0) (by decide)
    have B3 := hK3.B hB
    have h133 : (pm_u (pm_u (pm_u I 49 (upd (I 49) j kv)) 50 (upd ((pm_u I 49 (upd (I 49) j kv)) 50) j r91)) 51 (upd ((pm_u (pm_u I 49 (upd (I 49) j kv)) 50 (upd ((pm_u I 49 (upd (I 49) j kv)) 50) j r91)) 51) j (nI 0))) 40 13 = I 40 13 := by rw [pm_un (by decide), pm_un (by decide), pm_un (by decide)]
    refine pm_iast (pc := 94) rfl (by omega) (by decide) dX10_takePiece_94 ?_
    refine pm_aload_n (pc := 95) dX10_takePiece_95 rfl ?_
    refine pm_getr (pc := 96) (ci := 8) (C0 := RX10) (T := TX10) (N := 34) (j := 16) rfl rfl in_X10 (by decide) wf_X10_40 rfl dX10_takePiece_96 ?_
    refine pm_iload_n (pc := 99) dX10_takePiece_99 rfl ?_
    refine pm_iconst (pc := 100) (v := nI 0) dX10_takePiece_100 (by decide) ?_
    refine pm_iast (pc := 101) rfl (by omega) (by decide) dX10_takePiece_101 ?_
    cases ew : (z_num t (z_q t z_k a)).2 with
    | none =>
      have e0 : z_pc t a = ((z_num t (z_q t z_k a)).1, none) := by
        unfold z_pc; rw [z_bind_s (r := z_ch t z_k a) ek]; show z_bind (z_num t (z_q t z_k a)) _ = _; rw [z_bind_n ew]
      obtain ⟨b, hb, S3⟩ := P3.n ew
      have S4 := S3.w (c := 52) (i := j) (x := nI 6) (by decide)
      refine pm_aload_n (pc := 102) dX10_takePiece_102 rfl ?_
      refine pm_get (pc := 103) (ci := 8) (C0 := RX10) (T := TX10) (N := 34) (j := 12) rfl rfl in_X10 (by decide) wf_X10_157 rfl dX10_takePiece_103 ?_
      rw [S3.2.2.1]
      refine pm_if_ne (pc := 106) (tgt := 142) dX10_takePiece_106 rfl (fun h106 => ?_) (fun h106 => absurd h106 (z_F_0 (by have := p2.2.1; omega)))
      refine pm_aload_n (pc := 142) dX10_takePiece_142 rfl ?_
      refine pm_getr (pc := 143) (ci := 8) (C0 := RX10) (T := TX10) (N := 34) (j := 17) rfl rfl in_X10 (by decide) wf_X10_43 rfl dX10_takePiece_143 ?_
      refine pm_iload_n (pc := 146) dX10_takePiece_146 rfl ?_
      refine pm_bipush (pc := 147) (v := nI 6) dX10_takePiece_147 (by decide) ?_
      refine pm_iast (pc := 149) rfl (by omega) (by decide) dX10_takePiece_149 ?_
      refine pm_aload_n (pc := 150) dX10_takePiece_150 rfl ?_
      refine pm_get (pc := 151) (ci := 8) (C0 := RX10) (T := TX10) (N := 34) (j := 12) rfl rfl in_X10 (by decide) wf_X10_157 rfl dX10_takePiece_151 ?_
      rw [S4.2.2.1]
      refine pm_if_ne (pc := 154) (tgt := 190) dX10_takePiece_154 rfl (fun h154 => ?_) (fun h154 => absurd h154 (z_F_0 (by have := p2.2.1; omega)))
      exact l_tp190n hB ht ha hj hA (hK3.st (c := 52) (by decide) (nI 6)) (by rw [pm_un (by decide)]; exact h133) (by rw [e0]) (by rw [e0]; exact S4)
    | some w =>
      have S3 := P3.s ew
      have h50 : (pm_u (pm_u I 49 (upd (I 49) j kv)) 50 (upd ((pm_u I 49 (upd (I 49) j kv)) 50) j r91)) 50 j = nI w := by rw [pm_us, z_upd]; exact hn9 w ew
      refine pm_aload_n (pc := 102) dX10_takePiece_102 rfl ?_
      refine pm_get (pc := 103) (ci := 8) (C0 := RX10) (T := TX10) (N := 34) (j := 12) rfl rfl in_X10 (by decide) wf_X10_157 rfl dX10_takePiece_103 ?_
      rw [S3.2.2.1]
      refine pm_if_ne (pc := 106) (tgt := 142) dX10_takePiece_106 rfl (fun h106 => absurd rfl h106) (fun h106 => ?_)
      refine pm_aload_n (pc := 109) dX10_takePiece_109 rfl ?_
      refine pm_cVI (pc := 110) dX10_takePiece_110 (c_here B3 ht p2.2.1 S3) wq_X10_here wm_X10_160 wi_X10_here ws_X10_here rfl rfl ⟨Nat.le_of_ble_eq_true rfl, Nat.le_of_ble_eq_true rfl⟩ ⟨Nat.le_of_ble_eq_true rfl, Nat.le_of_ble_eq_true rfl⟩ rfl (Nat.le_of_ble_eq_true rfl) (fun r110 I110 L110 q110 => ?_)
      obtain ⟨⟨er110, S110⟩, el110⟩ := q110
      subst el110
      refine pm_bipush (pc := 113) (v := nI 116) dX10_takePiece_113 (by decide) ?_
      refine pm_icmp_ne (pc := 115) (tgt := 142) dX10_takePiece_115 rfl (fun h115 => ?_) (fun h115 => ?_)
      · have em : z_p t (z_m 116) (z_num t (z_q t z_k a)).1 = none := by
          unfold z_p z_m
          by_cases h : z_sk t (z_num t (z_q t z_k a)).1 < t.length
          · rw [if_pos h, if_neg (fun z => h115 (by rw [er110]; exact (y_ck ht (by decide)).mpr ⟨h, z⟩))]
          · rw [if_neg h]
        have e1 : (z_opt t 116 0 (z_d 4) (z_num t (z_q t z_k a)).1) = (z_sk t (z_num t (z_q t z_k a)).1, some 0) := if_pos em
        refine l_tp142 hB ht ha hj hA hK3 h133 ek ew (by rw [e1]; exact y_P.ms (v := 0) rfl S110) ⟨by rw [pm_un (by decide), pm_un (by decide), pm_us, z_upd]; exact rk, by rw [pm_un (by decide)]; exact h50, fun o ho => ?_⟩
        rw [e1] at ho
        rw [pm_us, z_upd, ← Option.some.inj ho]
      · have hc := (y_ck ht (show 116 < 127 by decide)).mp (by rw [← er110]; exact h115)
        have em : z_p t (z_m 116) (z_num t (z_q t z_k a)).1 = some 0 := by unfold z_p z_m; rw [if_pos hc.1, if_pos hc.2]
        have e1 : (z_opt t 116 0 (z_d 4) (z_num t (z_q t z_k a)).1) = (z_bind ((z_sk t (z_num t (z_q t z_k a)).1 + 1, some 0) : Nat × Option Nat) fun _ b => z_ch t (z_d 4) b) := by
          rw [z_bind_s (r := ((z_sk t (z_num t (z_q t z_k a)).1 + 1, some 0) : Nat × Option Nat)) rfl]
          show (if z_p t (z_m 116) (z_num t (z_q t z_k a)).1 = none then _ else z_ch t (z_d 4) (z_q t (z_m 116) (z_num t (z_q t z_k a)).1)) = _
          rw [if_neg (by rw [em]; simp), z_q_s em]
        refine pm_aload_n (pc := 118) dX10_takePiece_118 rfl ?_
        refine pm_dup (pc := 119) dX10_takePiece_119 rfl ?_
        refine pm_get (pc := 120) (ci := 8) (C0 := RX10) (T := TX10) (N := 34) (j := 11) rfl rfl in_X10 (by decide) wf_X10_154 rfl dX10_takePiece_120 ?_
        rw [S110.2.1]
        refine pm_iconst (pc := 123) (v := nI 1) dX10_takePiece_123 (by decide) ?_
        refine pm_iadd (pc := 124) dX10_takePiece_124 ?_
        refine pm_top (nI_add _ _) ?_
        refine pm_put (pc := 125) (ci := 8) (C0 := RX10) (T := TX10) (N := 34) (j := 11) (ty := .int) rfl rfl in_X10 tyX10 tyX10_ok nmX10 (by decide) wf_X10_154 rfl rfl (by decide +kernel) rfl rfl dX10_takePiece_125 ?_
        refine pm_aload_n (pc := 128) dX10_takePiece_128 rfl ?_
        refine pm_getr (pc := 129) (ci := 8) (C0 := RX10) (T := TX10) (N := 34) (j := 16) rfl rfl in_X10 (by decide) wf_X10_40 rfl dX10_takePiece_129 ?_
        refine pm_iload_n (pc := 132) dX10_takePiece_132 rfl ?_
        refine pm_aload_n (pc := 133) dX10_takePiece_133 rfl ?_
        refine pm_bipush (pc := 134) (v := nI 48) dX10_takePiece_134 (by decide) ?_
        refine pm_bipush (pc := 136) (v := nI 51) dX10_takePiece_136 (by decide) ?_
        refine pm_cVI (pc := 138) dX10_takePiece_138 (c_take2 B3 ht (σ := ((z_sk t (z_num t (z_q t z_k a)).1 + 1, some 0) : Nat × Option Nat)) hc.1 (y_P.ms (v := 0) rfl (S110.at (z_sk t (z_num t (z_q t z_k a)).1 + 1))) (by decide) (by decide) (by decide) (y_fd (m := 4) (by decide))) wq_X10_take wm_X10_177 wi_X10_take ws_X10_take rfl rfl ⟨Nat.le_of_ble_eq_true rfl, Nat.le_of_ble_eq_true rfl⟩ ⟨Nat.le_of_ble_eq_true rfl, Nat.le_of_ble_eq_true rfl⟩ rfl (Nat.le_of_ble_eq_true rfl) (fun r138 I138 L138 q138 => ?_)
        obtain ⟨⟨er138, P138⟩, el138⟩ := q138
        subst el138
        rw [← e1] at er138 P138
        have P139 := P138.w (c := 51) (i := j) (x := r138) (by decide)
        refine pm_iast (pc := 141) rfl (by omega) (by decide) dX10_takePiece_141 ?_
        refine l_tp142 hB ht ha hj hA (hK3.st (c := 51) (by decide) r138) (by rw [pm_un (by decide)]; exact h133) ek ew P139 ⟨by rw [pm_un (by decide), pm_un (by decide), pm_un (by decide), pm_us, z_upd]; exact rk, by rw [pm_un (by decide), pm_un (by decide)]; exact h50, fun o ho => ?_⟩
        rw [pm_us, z_upd, er138, ho]; rfl
  · have en := z_neg (B := 4) (fun c x h => zb_k h) (by decide) ekv (by rw [← Classical.not_not (a := kv < 0)]; exact fun z => h63 (z_ge.mpr z))
    have e0 : z_pc t a = (z_sk t a, none) := by
      unfold z_pc; rw [z_bind_n (r := z_ch t z_k a) en]; show (z_q t z_k a, none) = _; rw [z_q_n en]
    refine pm_aload_n (pc := 66) dX10_takePiece_66 rfl ?_
    refine pm_aload_n (pc := 67) dX10_takePiece_67 rfl ?_
    refine pm_get (pc := 68) (ci := 8) (C0 := RX10) (T := TX10) (N := 34) (j := 11) rfl rfl in_X10 (by decide) wf_X10_154 rfl dX10_takePiece_68 ?_
    rw [S1.2.1]
    refine pm_cVV (pc := 71) dX10_takePiece_71 (c_fails S1) wq_X10_fails wm_X10_163 wi_X10_fails ws_X10_fails rfl rfl ⟨Nat.le_of_ble_eq_true rfl, Nat.le_of_ble_eq_true rfl⟩ ⟨Nat.le_of_ble_eq_true rfl, Nat.le_of_ble_eq_true rfl⟩ rfl (Nat.le_of_ble_eq_true rfl) (fun I71 L71 q71 => ?_)
    obtain ⟨S71, el71⟩ := q71
    subst el71
    rw [if_pos rfl] at S71
    refine pm_vret (pc := 74) rfl (Nat.le_refl _) (Nat.le_refl _) dX10_takePiece_74 ?_
    exact QV.r ⟨y_PQ.mn (by rw [e0]) hK1 (by rw [e0]; exact S71), rfl⟩
set_option maxRecDepth 100000 in
set_option maxHeartbeats 1000000 in
theorem c_takePiece {I : pm_I} {L : pm_L} {J : pm_I} {t : List Nat} (hB : y_B I t) (ht : z_ok t) {a : Nat} (ha : a ≤ t.length) {j : Nat} (hj : j < 12) (hA : I 40 13 = nI j) (hS : y_S I J a 0) : PC 2 0 0 yX10_takePiece cX10_takePiece 3 none [.ref 40] GG J L (QV GG (fun I' L' => y_PQ I I' j (z_pc t a) ∧ L' = L)) := by
  have h120 := ht.1
  refine PC.of [some (.ref 40), none, none] (by decide) (Nat.le_of_ble_eq_true rfl) rfl (fun l P => ?_)
  refine pm_aload_n (pc := 0) dX10_takePiece_0 rfl ?_
  refine pm_get (pc := 1) (ci := 8) (C0 := RX10) (T := TX10) (N := 34) (j := 13) rfl rfl in_X10 (by decide) wf_X10_171 rfl dX10_takePiece_1 ?_
  rw [show J 40 13 = nI j from by rw [hS.2.2.2 13 (by decide) (by decide)]; exact hA]
  refine pm_istore_n (pc := 4) dX10_takePiece_4 (by decide) rfl ?_
  refine pm_aload_n (pc := 5) dX10_takePiece_5 rfl ?_
  refine pm_cVI (pc := 6) dX10_takePiece_6 (c_here hB ht ha hS) wq_X10_here wm_X10_160 wi_X10_here ws_X10_here rfl rfl ⟨Nat.le_of_ble_eq_true rfl, Nat.le_of_ble_eq_true rfl⟩ ⟨Nat.le_of_ble_eq_true rfl, Nat.le_of_ble_eq_true rfl⟩ rfl (Nat.le_of_ble_eq_true rfl) (fun r6 I6 L6 q6 => ?_)
  obtain ⟨⟨er6, S6⟩, el6⟩ := q6
  subst el6
  refine pm_istore_n (pc := 9) dX10_takePiece_9 (by decide) rfl ?_
  refine pm_aload_n (pc := 10) dX10_takePiece_10 rfl ?_
  refine pm_getr (pc := 11) (ci := 8) (C0 := RX10) (T := TX10) (N := 34) (j := 14) rfl rfl in_X10 (by decide) wf_X10_34 rfl dX10_takePiece_11 ?_
  refine pm_iload_n (pc := 14) dX10_takePiece_14 rfl ?_
  refine pm_iload_n (pc := 15) dX10_takePiece_15 rfl ?_
  refine pm_bipush (pc := 16) (v := nI 99) dX10_takePiece_16 (by decide) ?_
  refine pm_icmp_ne (pc := 18) (tgt := 25) dX10_takePiece_18 rfl (fun h18 => ?_) (fun h18 => ?_)
  · have hn18 : ¬ (z_sk t a < t.length ∧ t.getD (z_sk t a) 0 = 99) := fun z => h18 (by rw [er6]; exact (y_ck ht (by decide)).mpr z)
    refine pm_iload_n (pc := 25) dX10_takePiece_25 rfl ?_
    refine pm_bipush (pc := 26) (v := nI 107) dX10_takePiece_26 (by decide) ?_
    refine pm_icmp_ne (pc := 28) (tgt := 35) dX10_takePiece_28 rfl (fun h28 => ?_) (fun h28 => ?_)
    · have hn28 : ¬ (z_sk t a < t.length ∧ t.getD (z_sk t a) 0 = 107) := fun z => h28 (by rw [er6]; exact (y_ck ht (by decide)).mpr z)
      refine pm_iload_n (pc := 35) dX10_takePiece_35 rfl ?_
      refine pm_bipush (pc := 36) (v := nI 108) dX10_takePiece_36 (by decide) ?_
      refine pm_icmp_ne (pc := 38) (tgt := 45) dX10_takePiece_38 rfl (fun h38 => ?_) (fun h38 => ?_)
      · have hn38 : ¬ (z_sk t a < t.length ∧ t.getD (z_sk t a) 0 = 108) := fun z => h38 (by rw [er6]; exact (y_ck ht (by decide)).mpr z)
        refine pm_iload_n (pc := 45) dX10_takePiece_45 rfl ?_
        refine pm_bipush (pc := 46) (v := nI 114) dX10_takePiece_46 (by decide) ?_
        refine pm_icmp_ne (pc := 48) (tgt := 55) dX10_takePiece_48 rfl (fun h48 => ?_) (fun h48 => ?_)
        · have hn48 : ¬ (z_sk t a < t.length ∧ t.getD (z_sk t a) 0 = 114) := fun z => h48 (by rw [er6]; exact (y_ck ht (by decide)).mpr z)
          have ep : z_p t z_k a = none := by
            unfold z_p
            by_cases h : z_sk t a < t.length
            · rw [if_pos h]
              unfold z_k
              rw [if_neg (fun z => hn18 ⟨h, z⟩), if_neg (fun z => hn28 ⟨h, z⟩), if_neg (fun z => hn38 ⟨h, z⟩), if_neg (fun z => hn48 ⟨h, z⟩)]
            · rw [if_neg h]
          refine pm_iconst (pc := 55) (v := (-1)) dX10_takePiece_55 (by decide) ?_
          refine pm_iast (pc := 56) rfl (by omega) (by decide) dX10_takePiece_56 ?_
          exact l_tp57 hB ht ha hj hA (by rw [ep]; rfl) S6
        · have hc48 := (y_ck ht (show 114 < 127 by decide)).mp (by rw [← er6]; exact h48)
          have ep : z_p t z_k a = some 3 := by unfold z_p; rw [if_pos hc48.1, hc48.2]; rfl
          refine pm_iconst (pc := 51) (v := nI 3) dX10_takePiece_51 (by decide) ?_
          refine pm_goto (pc := 52) (tgt := 56) dX10_takePiece_52 rfl ?_
          refine pm_iast (pc := 56) rfl (by omega) (by decide) dX10_takePiece_56 ?_
          exact l_tp57 hB ht ha hj hA (by rw [ep]; rfl) S6
      · have hc38 := (y_ck ht (show 108 < 127 by decide)).mp (by rw [← er6]; exact h38)
        have ep : z_p t z_k a = some 2 := by unfold z_p; rw [if_pos hc38.1, hc38.2]; rfl
        refine pm_iconst (pc := 41) (v := nI 2) dX10_takePiece_41 (by decide) ?_
        refine pm_goto (pc := 42) (tgt := 56) dX10_takePiece_42 rfl ?_
        refine pm_iast (pc := 56) rfl (by omega) (by decide) dX10_takePiece_56 ?_
        exact l_tp57 hB ht ha hj hA (by rw [ep]; rfl) S6
    · have hc28 := (y_ck ht (show 107 < 127 by decide)).mp (by rw [← er6]; exact h28)
      have ep : z_p t z_k a = some 1 := by unfold z_p; rw [if_pos hc28.1, hc28.2]; rfl
      refine pm_iconst (pc := 31) (v := nI 1) dX10_takePiece_31 (by decide) ?_
      refine pm_goto (pc := 32) (tgt := 56) dX10_takePiece_32 rfl ?_
      refine pm_iast (pc := 56) rfl (by omega) (by decide) dX10_takePiece_56 ?_
      exact l_tp57 hB ht ha hj hA (by rw [ep]; rfl) S6
  · have hc18 := (y_ck ht (show 99 < 127 by decide)).mp (by rw [← er6]; exact h18)
    have ep : z_p t z_k a = some 0 := by unfold z_p; rw [if_pos hc18.1, hc18.2]; rfl
    refine pm_iconst (pc := 21) (v := nI 0) dX10_takePiece_21 (by decide) ?_
    refine pm_goto (pc := 22) (tgt := 56) dX10_takePiece_22 rfl ?_
    refine pm_iast (pc := 56) rfl (by omega) (by decide) dX10_takePiece_56 ?_
    exact l_tp57 hB ht ha hj hA (by rw [ep]; rfl) S6
