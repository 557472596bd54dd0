def y_st (I : pm_I) (j c : Nat) : pm_I := pm_u (pm_u I 53 (upd (I 53) j (nI c))) 40 (upd (I 40) 18 (nI (j + 1)))
def y_AQ (t : List Nat) (I J : pm_I) (j : Nat) (σ : Nat × Option Nat) : Prop := match σ.2 with
  | none => ∃ a, a ≤ t.length ∧ y_S I J a (z_F σ.1)
  | some c => y_S (y_st I j c) J σ.1 0
theorem y_AQ.n {t : List Nat} {I J : pm_I} {j : Nat} {σ : Nat × Option Nat} (h : y_AQ t I J j σ) (e : σ.2 = none) : ∃ a, a ≤ t.length ∧ y_S I J a (z_F σ.1) := by unfold y_AQ at h; rw [e] at h; exact h
theorem y_AQ.s {t : List Nat} {I J : pm_I} {j c : Nat} {σ : Nat × Option Nat} (h : y_AQ t I J j σ) (e : σ.2 = some c) : y_S (y_st I j c) J σ.1 0 := by unfold y_AQ at h; rw [e] at h; exact h
theorem y_P.eq {α β : Type} {t : List Nat} {I J : pm_I} {σ : Nat × Option α} {τ : Nat × Option β} (h : y_P t I J σ) (h1 : τ.1 = σ.1) (h2 : τ.2 = none ↔ σ.2 = none) : y_P t I J τ := by
  cases e : σ.2 with
  | none =>
    obtain ⟨a, ha, hS⟩ := h.n e
    exact y_P.mn (h2.mpr e) ha (by rw [h1]; exact hS)
  | some v =>
    cases e2 : τ.2 with
    | none => rw [h2.mp e2] at e; exact absurd e (by simp)
    | some w => exact y_P.ms e2 (by rw [h1]; exact h.s e)
theorem z_last {r : Nat × Option Nat} {g : Nat → Nat} : z_bind r (fun w a => (a, some (g w))) = (r.1, r.2.map g) := by
  cases e : r.2 with
  | none => rw [z_bind_n e]; rfl
  | some v => rw [z_bind_s e]; rfl
theorem z_two {r1 : Nat × Option Nat} {k2 k3 : Nat → Nat × Option Nat} {g : Nat → Nat → Nat} : (z_bind r1 fun i a2 => z_bind (k2 a2) fun _ a3 => z_bind (k3 a3) fun w a4 => (a4, some (g i w))) = ((z_bind (z_bind r1 fun _ a => k2 a) fun _ a => k3 a).1, (z_bind (z_bind r1 fun _ a => k2 a) fun _ a => k3 a).2.map (fun w => g (r1.2.getD 0) w)) := by
  cases e : r1.2 with
  | none => rw [z_bind_n e, z_bind_n e, z_bind_n (r := (r1.1, none)) rfl]; rfl
  | some v =>
    rw [z_bind_s e, z_bind_s e]
    cases e2 : (k2 r1.1).2 with
    | none => rw [z_bind_n e2, z_bind_n e2]; rfl
    | some w => rw [z_bind_s e2, z_bind_s e2, z_last]; rfl
theorem z_mapn {o : Option Nat} {g : Nat → Nat} : o.map g = none ↔ o = none := by cases o <;> simp
theorem y_ck {t : List Nat} (ht : z_ok t) {a m : Nat} (hm : m < 127) : y_c t a = nI m ↔ z_sk t a < t.length ∧ t.getD (z_sk t a) 0 = m := by
  unfold y_c
  by_cases h : z_sk t a < t.length
  · have hb := z_byte ht h
    rw [if_pos h, nI_eq (by omega) (by omega)]
    exact ⟨fun z => ⟨h, z⟩, fun z => z.2⟩
  · rw [if_neg h]
    refine ⟨fun z => ?_, fun z => absurd z.1 h⟩
    rw [pm_eqI, nI_toInt (by omega), pm_tm1] at z; omega
theorem y_c0 {t : List Nat} (ht : z_ok t) {a : Nat} : y_c t a < 0 ↔ ¬ z_sk t a < t.length := by
  unfold y_c
  by_cases h : z_sk t a < t.length
  · have hb := z_byte ht h
    rw [if_pos h, pm_ltI, nI_toInt (by omega), pm_t0]; omega
  · rw [if_neg h]
    exact ⟨fun _ => h, fun _ => by decide⟩
def z_hd {α : Type} (t : List Nat) (σ : Nat × Option α) : Nat × Option α := match σ.2 with
  | none => σ
  | some v => (z_sk t σ.1, some v)
theorem z_hd_n {α : Type} {t : List Nat} {σ : Nat × Option α} (h : σ.2 = none) : z_hd t σ = σ := by unfold z_hd; rw [h]
theorem z_hd_s {α : Type} {t : List Nat} {σ : Nat × Option α} {v : α} (h : σ.2 = some v) : z_hd t σ = (z_sk t σ.1, some v) := by unfold z_hd; rw [h]
theorem c_hereF {I : pm_I} {L : pm_L} {J : pm_I} {t : List Nat} (hB : y_B I t) (ht : z_ok t) {σ : Nat × Option Nat} (hσ : σ.1 ≤ t.length) (hP : y_P t I J σ) : ∃ ax φ a0, ax ≤ t.length ∧ y_S I J a0 φ ∧ a0 ≤ t.length ∧ ax = z_sk t a0 ∧ (∀ v, σ.2 = some v → ax = z_sk t σ.1) ∧ ∀ J2, y_S I J2 ax φ → y_P t I J2 (z_hd t σ) := by
  cases e : σ.2 with
  | none =>
    obtain ⟨a, ha, hS⟩ := hP.n e
    exact ⟨z_sk t a, _, a, (z_sk_sp ha).2.1, hS, ha, rfl, fun v hv => absurd hv (by simp), fun J2 h2 => by rw [z_hd_n e]; exact y_P.mn e (z_sk_sp ha).2.1 h2⟩
  | some v => exact ⟨z_sk t σ.1, _, σ.1, (z_sk_sp hσ).2.1, hP.s e, hσ, rfl, fun w hw => rfl, fun J2 h2 => by rw [z_hd_s e]; exact y_P.ms (v := v) rfl h2⟩
set_option maxRecDepth 100000 in
set_option maxHeartbeats 1000000 in
theorem l_ta233 {I : pm_I} {L : pm_L} {t : List Nat} (ht : z_ok t) {j : Nat} (hj : j < 60) (hA : I 40 18 = nI j) {τ : Nat × Option Nat} (h1 : τ.1 ≤ t.length) {c cv : Int32} {la : Launch} {P : pm_E} {J : pm_I} (hP : y_P t I J τ) (hcv : ∀ x, τ.2 = some x → cv = nI x) : PW la P yX10_takeAct cX10_takeAct 7 none (pm_rm 3 0 0) (pm_Tg P (QV GG (fun I' L' => y_AQ t I I' j τ ∧ L' = L)) 0 0) 0 0 233 [some (.ref 40), some (.int c), some (.int cv), none, none, none, none] [] GG J L := by
  have h120 := ht.1
  cases e : τ.2 with
  | none =>
    obtain ⟨b, hb, hS⟩ := hP.n e
    refine pm_aload_n (pc := 233) dX10_takeAct_233 rfl ?_
    refine pm_get (pc := 234) (ci := 8) (C0 := RX10) (T := TX10) (N := 34) (j := 12) rfl rfl in_X10 (by decide) wf_X10_157 rfl dX10_takeAct_234 ?_
    rw [hS.2.2.1]
    refine pm_if_ne (pc := 237) (tgt := 260) dX10_takeAct_237 rfl (fun h237 => ?_) (fun h237 => absurd h237 (z_F_0 (by omega)))
    refine pm_vret (pc := 260) rfl (Nat.le_refl _) (Nat.le_refl _) dX10_takeAct_260 ?_
    refine QV.r ⟨?_, rfl⟩
    unfold y_AQ
    rw [e]
    exact ⟨b, hb, hS⟩
  | some x =>
    have hS := hP.s e
    have hcv2 := hcv x e
    subst hcv2
    have eA : J 40 18 = nI j := by rw [hS.2.2.2 18 (by decide) (by decide)]; exact hA
    refine pm_aload_n (pc := 233) dX10_takeAct_233 rfl ?_
    refine pm_get (pc := 234) (ci := 8) (C0 := RX10) (T := TX10) (N := 34) (j := 12) rfl rfl in_X10 (by decide) wf_X10_157 rfl dX10_takeAct_234 ?_
    rw [hS.2.2.1]
    refine pm_if_ne (pc := 237) (tgt := 260) dX10_takeAct_237 rfl (fun h237 => absurd rfl h237) (fun h237 => ?_)
    refine pm_aload_n (pc := 240) dX10_takeAct_240 rfl ?_
    refine pm_getr (pc := 241) (ci := 8) (C0 := RX10) (T := TX10) (N := 34) (j := 19) rfl rfl in_X10 (by decide) wf_X10_46 rfl dX10_takeAct_241 ?_
    refine pm_aload_n (pc := 244) dX10_takeAct_244 rfl ?_
    refine pm_get (pc := 245) (ci := 8) (C0 := RX10) (T := TX10) (N := 34) (j := 18) rfl rfl in_X10 (by decide) wf_X10_190 rfl dX10_takeAct_245 ?_
    rw [eA]
    refine pm_iload_n (pc := 248) dX10_takeAct_248 rfl ?_
    refine pm_iast (pc := 249) rfl hj (by decide) dX10_takeAct_249 ?_
    refine pm_aload_n (pc := 250) dX10_takeAct_250 rfl ?_
    refine pm_dup (pc := 251) dX10_takeAct_251 rfl ?_
    refine pm_get (pc := 252) (ci := 8) (C0 := RX10) (T := TX10) (N := 34) (j := 18) rfl rfl in_X10 (by decide) wf_X10_190 rfl dX10_takeAct_252 ?_
    rw [show pm_u J 53 (upd (J 53) j (nI x)) 40 18 = nI j from by rw [pm_un (by decide)]; exact eA]
    refine pm_iconst (pc := 255) (v := nI 1) dX10_takeAct_255 (by decide) ?_
    refine pm_iadd (pc := 256) dX10_takeAct_256 ?_
    refine pm_top (nI_add _ _) ?_
    refine pm_put (pc := 257) (ci := 8) (C0 := RX10) (T := TX10) (N := 34) (j := 18) (ty := .int) rfl rfl in_X10 tyX10 tyX10_ok nmX10 (by decide) wf_X10_190 rfl rfl (by decide +kernel) rfl rfl dX10_takeAct_257 ?_
    refine pm_vret (pc := 260) rfl (Nat.le_refl _) (Nat.le_refl _) dX10_takeAct_260 ?_
    refine QV.r ⟨?_, rfl⟩
    unfold y_AQ
    rw [e]
    refine ⟨fun c hc => ?_, ?_, ?_, fun k h1 h2 => ?_⟩
    · rw [pm_un hc]
      unfold y_st
      rw [pm_un hc]
      by_cases e2 : c = 53
      · subst e2; rw [pm_us, pm_us, hS.1 53 (by decide)]
      · rw [pm_un e2, pm_un e2]; exact hS.1 c hc
    · rw [pm_us, pm_un (by decide)]; exact hS.2.1
    · rw [pm_us, pm_un (by decide)]; exact hS.2.2.1
    · rw [pm_us, pm_un (by decide)]
      unfold y_st
      rw [pm_us]
      show (if k = 18 then _ else J 40 k) = (if k = 18 then _ else I 40 k)
      split
      · rfl
      · exact hS.2.2.2 k h1 h2
set_option maxRecDepth 100000 in
set_option maxHeartbeats 1000000 in
theorem c_takeAct {I : pm_I} {L : pm_L} {J : pm_I} {t : List Nat} (hB : y_B I t) (ht : z_ok t) {a : Nat} (ha : a ≤ t.length) {n : Nat} (hn : n ≤ 12) (hN : I 40 0 = nI n) {j : Nat} (hj : j < 60) (hA : I 40 18 = nI j) (hS : y_S I J a 0) {τ : Nat × Option Nat} (hτ : τ = z_act t n a) : PC 3 0 0 yX10_takeAct cX10_takeAct 7 none [.ref 40] GG J L (QV GG (fun I' L' => y_AQ t I I' j τ ∧ L' = L)) := by
  have h120 := ht.1
  obtain ⟨b1_, b2_, b3_⟩ := z_sk_sp ha
  refine PC.of [some (.ref 40), none, none, none, none, none, none] (by decide) (Nat.le_of_ble_eq_true rfl) rfl (fun l P => ?_)
  refine pm_aload_n (pc := 0) dX10_takeAct_0 rfl ?_
  refine pm_cVI (pc := 1) dX10_takeAct_1 (c_here hB ht ha hS) wq_X10_here wm_X10_160 wi_X10_here ws_X10_here rfl rfl ⟨Nat.le_of_ble_eq_true rfl, Nat.le_of_ble_eq_true rfl⟩ ⟨Nat.le_of_ble_eq_true rfl, Nat.le_of_ble_eq_true rfl⟩ rfl (Nat.le_of_ble_eq_true rfl) (fun r1 I1 L1 q1 => ?_)
  obtain ⟨⟨er1, S1⟩, el1⟩ := q1
  subst el1
  refine pm_istore_n (pc := 4) dX10_takeAct_4 (by decide) rfl ?_
  refine pm_iconst (pc := 5) (v := nI 0) dX10_takeAct_5 (by decide) ?_
  refine pm_istore_n (pc := 6) dX10_takeAct_6 (by decide) rfl ?_
  refine pm_aload_n (pc := 7) dX10_takeAct_7 rfl ?_
  refine pm_dup (pc := 8) dX10_takeAct_8 rfl ?_
  refine pm_get (pc := 9) (ci := 8) (C0 := RX10) (T := TX10) (N := 34) (j := 11) rfl rfl in_X10 (by decide) wf_X10_154 rfl dX10_takeAct_9 ?_
  rw [S1.2.1]
  refine pm_iconst (pc := 12) (v := nI 1) dX10_takeAct_12 (by decide) ?_
  refine pm_iadd (pc := 13) dX10_takeAct_13 ?_
  refine pm_top (nI_add _ _) ?_
  refine pm_put (pc := 14) (ci := 8) (C0 := RX10) (T := TX10) (N := 34) (j := 11) (ty := .int) rfl rfl in_X10 tyX10 tyX10_ok nmX10 (by decide) wf_X10_154 rfl rfl (by decide +kernel) rfl rfl dX10_takeAct_14 ?_
  refine pm_iload_n (pc := 17) dX10_takeAct_17 rfl ?_
  refine pm_bipush (pc := 18) (v := nI 108) dX10_takeAct_18 (by decide) ?_
  refine pm_icmp_ne (pc := 20) (tgt := 38) dX10_takeAct_20 rfl (fun h20 => ?_) (fun h20 => ?_)
  · have hn20 : ¬ (z_sk t a < t.length ∧ t.getD (z_sk t a) 0 = 108) := fun z => h20 (by rw [er1]; exact (y_ck ht (by decide)).mpr z)
    refine pm_iload_n (pc := 38) dX10_takeAct_38 rfl ?_
    refine pm_bipush (pc := 39) (v := nI 100) dX10_takeAct_39 (by decide) ?_
    refine pm_icmp_ne (pc := 41) (tgt := 76) dX10_takeAct_41 rfl (fun h41 => ?_) (fun h41 => ?_)
    · have hn41 : ¬ (z_sk t a < t.length ∧ t.getD (z_sk t a) 0 = 100) := fun z => h41 (by rw [er1]; exact (y_ck ht (by decide)).mpr z)
      refine pm_iload_n (pc := 76) dX10_takeAct_76 rfl ?_
      refine pm_bipush (pc := 77) (v := nI 115) dX10_takeAct_77 (by decide) ?_
      refine pm_icmp_ne (pc := 79) (tgt := 114) dX10_takeAct_79 rfl (fun h79 => ?_) (fun h79 => ?_)
      · have hn79 : ¬ (z_sk t a < t.length ∧ t.getD (z_sk t a) 0 = 115) := fun z => h79 (by rw [er1]; exact (y_ck ht (by decide)).mpr z)
        refine pm_iload_n (pc := 114) dX10_takeAct_114 rfl ?_
        refine pm_bipush (pc := 115) (v := nI 112) dX10_takeAct_115 (by decide) ?_
        refine pm_icmp_ne (pc := 117) (tgt := 191) dX10_takeAct_117 rfl (fun h117 => ?_) (fun h117 => ?_)
        · have hn117 : ¬ (z_sk t a < t.length ∧ t.getD (z_sk t a) 0 = 112) := fun z => h117 (by rw [er1]; exact (y_ck ht (by decide)).mpr z)
          have ep : z_p t z_h a = none := by
            unfold z_p
            by_cases h : z_sk t a < t.length
            · rw [if_pos h]
              unfold z_h
              rw [if_neg (fun z => hn20 ⟨h, z⟩), if_neg (fun z => hn41 ⟨h, z⟩), if_neg (fun z => hn79 ⟨h, z⟩), if_neg (fun z => hn117 ⟨h, z⟩)]
            · rw [if_neg h]
          have ex : z_act t n a = (z_sk t a, none) := by
            unfold z_act
            rw [z_bind_n (r := z_ch t z_h a) ep]
            show (z_q t z_h a, none) = _
            rw [z_q_n ep]
          have S2 := S1.at (z_sk t a + 1)
          by_cases hl : z_sk t a < t.length
          · have hc0 : ¬ r1 < 0 := fun z => by rw [er1, y_c0 ht] at z; exact z hl
            have S9 := S2.at (z_sk t a + 1)
            refine pm_aload_n (pc := 191) dX10_takeAct_191 rfl ?_
            refine pm_iload_n (pc := 192) dX10_takeAct_192 rfl ?_
            refine pm_if_ge (pc := 193) (tgt := 205) dX10_takeAct_193 rfl (fun h193 => ?_) (fun h193 => absurd (z_ge.mpr hc0) h193)
            refine pm_aload_n (pc := 205) dX10_takeAct_205 rfl ?_
            refine pm_get (pc := 206) (ci := 8) (C0 := RX10) (T := TX10) (N := 34) (j := 11) rfl rfl in_X10 (by decide) wf_X10_154 rfl dX10_takeAct_206 ?_
            rw [S2.2.1]
            refine pm_put (pc := 209) (ci := 8) (C0 := RX10) (T := TX10) (N := 34) (j := 11) (ty := .int) rfl rfl in_X10 tyX10 tyX10_ok nmX10 (by decide) wf_X10_154 rfl rfl (by decide +kernel) rfl rfl dX10_takeAct_209 ?_
            refine pm_aload_n (pc := 212) dX10_takeAct_212 rfl ?_
            refine pm_iload_n (pc := 213) dX10_takeAct_213 rfl ?_
            refine pm_if_ge (pc := 214) (tgt := 224) dX10_takeAct_214 rfl (fun h214 => ?_) (fun h214 => absurd (z_ge.mpr hc0) h214)
            refine pm_aload_n (pc := 224) dX10_takeAct_224 rfl ?_
            refine pm_get (pc := 225) (ci := 8) (C0 := RX10) (T := TX10) (N := 34) (j := 11) rfl rfl in_X10 (by decide) wf_X10_154 rfl dX10_takeAct_225 ?_
            rw [S9.2.1]
            refine pm_iconst (pc := 228) (v := nI 1) dX10_takeAct_228 (by decide) ?_
            refine pm_isub (pc := 229) dX10_takeAct_229 ?_
            refine pm_top (x' := nI (z_sk t a)) (by rw [pk_sub (by omega), Nat.add_sub_cancel]) ?_
            refine pm_cVV (pc := 230) dX10_takeAct_230 (c_fails S9) wq_X10_fails wm_X10_163 wi_X10_fails ws_X10_fails rfl rfl ⟨Nat.le_of_ble_eq_true rfl, Nat.le_of_ble_eq_true rfl⟩ ⟨Nat.le_of_ble_eq_true rfl, Nat.le_of_ble_eq_true rfl⟩ rfl (Nat.le_of_ble_eq_true rfl) (fun I230 L230 q230 => ?_)
            obtain ⟨S230, el230⟩ := q230
            subst el230
            rw [if_pos rfl] at S230
            exact l_ta233 ht hj hA (by rw [hτ, ex]; exact b2_) (y_P.mn (by rw [hτ, ex]) (show z_sk t a + 1 ≤ t.length from hl) (by rw [hτ, ex]; exact S230)) (fun x hx => by rw [hτ, ex] at hx; exact absurd hx (by simp))
          · have hc0 : r1 < 0 := by rw [er1, y_c0 ht]; exact hl
            have S9 := S2.at (z_sk t a)
            refine pm_aload_n (pc := 191) dX10_takeAct_191 rfl ?_
            refine pm_iload_n (pc := 192) dX10_takeAct_192 rfl ?_
            refine pm_if_ge (pc := 193) (tgt := 205) dX10_takeAct_193 rfl (fun h193 => absurd hc0 (z_ge.mp h193)) (fun h193 => ?_)
            refine pm_aload_n (pc := 196) dX10_takeAct_196 rfl ?_
            refine pm_get (pc := 197) (ci := 8) (C0 := RX10) (T := TX10) (N := 34) (j := 11) rfl rfl in_X10 (by decide) wf_X10_154 rfl dX10_takeAct_197 ?_
            rw [S2.2.1]
            refine pm_iconst (pc := 200) (v := nI 1) dX10_takeAct_200 (by decide) ?_
            refine pm_isub (pc := 201) dX10_takeAct_201 ?_
            refine pm_top (x' := nI (z_sk t a)) (by rw [pk_sub (by omega), Nat.add_sub_cancel]) ?_
            refine pm_goto (pc := 202) (tgt := 209) dX10_takeAct_202 rfl ?_
            refine pm_put (pc := 209) (ci := 8) (C0 := RX10) (T := TX10) (N := 34) (j := 11) (ty := .int) rfl rfl in_X10 tyX10 tyX10_ok nmX10 (by decide) wf_X10_154 rfl rfl (by decide +kernel) rfl rfl dX10_takeAct_209 ?_
            refine pm_aload_n (pc := 212) dX10_takeAct_212 rfl ?_
            refine pm_iload_n (pc := 213) dX10_takeAct_213 rfl ?_
            refine pm_if_ge (pc := 214) (tgt := 224) dX10_takeAct_214 rfl (fun h214 => absurd hc0 (z_ge.mp h214)) (fun h214 => ?_)
            refine pm_aload_n (pc := 217) dX10_takeAct_217 rfl ?_
            refine pm_get (pc := 218) (ci := 8) (C0 := RX10) (T := TX10) (N := 34) (j := 11) rfl rfl in_X10 (by decide) wf_X10_154 rfl dX10_takeAct_218 ?_
            rw [S9.2.1]
            refine pm_goto (pc := 221) (tgt := 230) dX10_takeAct_221 rfl ?_
            refine pm_cVV (pc := 230) dX10_takeAct_230 (c_fails S9) wq_X10_fails wm_X10_163 wi_X10_fails ws_X10_fails rfl rfl ⟨Nat.le_of_ble_eq_true rfl, Nat.le_of_ble_eq_true rfl⟩ ⟨Nat.le_of_ble_eq_true rfl, Nat.le_of_ble_eq_true rfl⟩ rfl (Nat.le_of_ble_eq_true rfl) (fun I230 L230 q230 => ?_)
            obtain ⟨S230, el230⟩ := q230
            subst el230
            rw [if_pos rfl] at S230
            exact l_ta233 ht hj hA (by rw [hτ, ex]; exact b2_) (y_P.mn (by rw [hτ, ex]) b2_ (by rw [hτ, ex]; exact S230)) (fun x hx => by rw [hτ, ex] at hx; exact absurd hx (by simp))
        · have hc117 := (y_ck ht (show 112 < 127 by decide)).mp (by rw [← er1]; exact h117)
          have ep : z_p t z_h a = some 3 := by unfold z_p; rw [if_pos hc117.1, hc117.2]; rfl
          have eq : z_q t z_h a = z_sk t a + 1 := z_q_s ep
          have P0 : y_P t I (pm_u I1 40 (upd (I1 40) 11 (nI (z_sk t a + 1)))) ((z_sk t a + 1, some 3) : Nat × Option Nat) := y_P.ms (v := 3) rfl (S1.at _)
          have z0 : ((z_sk t a + 1, some 3) : Nat × Option Nat).1 ≤ t.length := hc117.1
          refine pm_aload_n (pc := 120) dX10_takeAct_120 rfl ?_
          refine pm_bipush (pc := 121) (v := nI 48) dX10_takeAct_121 (by decide) ?_
          refine pm_bipush (pc := 123) (v := nI 53) dX10_takeAct_123 (by decide) ?_
          refine pm_cVI (pc := 125) dX10_takeAct_125 (c_take2 hB ht z0 P0 (by decide) (by decide) (by decide) (y_fd (m := 6) (by decide))) wq_X10_take wm_X10_177 wi_X10_take ws_X10_take rfl rfl ⟨Nat.le_of_ble_eq_true rfl, Nat.le_of_ble_eq_true rfl⟩ ⟨Nat.le_of_ble_eq_true rfl, Nat.le_of_ble_eq_true rfl⟩ rfl (Nat.le_of_ble_eq_true rfl) (fun r125 I125 L125 q125 => ?_)
          obtain ⟨⟨er125, P125⟩, el125⟩ := q125
          subst el125
          subst er125
          have z125 := z_bind_le (f := z_d 6) z0
          refine pm_istore_n (pc := 128) dX10_takeAct_128 (by decide) rfl ?_
          refine pm_aload_n (pc := 129) dX10_takeAct_129 rfl ?_
          refine pm_bipush (pc := 130) (v := nI 62) dX10_takeAct_130 (by decide) ?_
          refine pm_cVV (pc := 132) dX10_takeAct_132 (c_takeMark hB ht z125 P125 (m := 62) (by decide)) wq_X10_takeMark wm_X10_187 wi_X10_takeMark ws_X10_takeMark rfl rfl ⟨Nat.le_of_ble_eq_true rfl, Nat.le_of_ble_eq_true rfl⟩ ⟨Nat.le_of_ble_eq_true rfl, Nat.le_of_ble_eq_true rfl⟩ rfl (Nat.le_of_ble_eq_true rfl) (fun I132 L132 q132 => ?_)
          obtain ⟨P132, el132⟩ := q132
          subst el132
          have z132 := z_bind_le (f := z_m 62) z125
          obtain ⟨ax, φx, a0, hax1, S0, ha0, hax0, hax, hxP⟩ := c_hereF (L := L132) hB ht z132 P132
          have zh : (z_hd t (z_bind (z_bind ((z_sk t a + 1, some 3) : Nat × Option Nat) fun _ b => z_ch t (z_d 6) b) fun _ b => z_ch t (z_m 62) b)).1 ≤ t.length := by
            cases e : (z_bind (z_bind ((z_sk t a + 1, some 3) : Nat × Option Nat) fun _ b => z_ch t (z_d 6) b) fun _ b => z_ch t (z_m 62) b).2 with
            | none => rw [z_hd_n e]; exact z132
            | some v => rw [z_hd_s e]; exact (z_sk_sp z132).2.1
          refine pm_aload_n (pc := 135) dX10_takeAct_135 rfl ?_
          refine pm_cVI (pc := 136) dX10_takeAct_136 (c_here hB ht ha0 S0) wq_X10_here wm_X10_160 wi_X10_here ws_X10_here rfl rfl ⟨Nat.le_of_ble_eq_true rfl, Nat.le_of_ble_eq_true rfl⟩ ⟨Nat.le_of_ble_eq_true rfl, Nat.le_of_ble_eq_true rfl⟩ rfl (Nat.le_of_ble_eq_true rfl) (fun r136 I136 L136 q136 => ?_)
          obtain ⟨⟨er136, S136⟩, el136⟩ := q136
          subst el136
          rw [← hax0] at S136
          have Ph := hxP I136 S136
          refine pm_istore (pc := 139) dX10_takeAct_139 (by decide) rfl ?_
          refine pm_aload_n (pc := 141) dX10_takeAct_141 rfl ?_
          refine pm_get (pc := 142) (ci := 8) (C0 := RX10) (T := TX10) (N := 34) (j := 11) rfl rfl in_X10 (by decide) wf_X10_154 rfl dX10_takeAct_142 ?_
          rw [S136.2.1]
          refine pm_istore (pc := 145) dX10_takeAct_145 (by decide) rfl ?_
          refine pm_aload_n (pc := 147) dX10_takeAct_147 rfl ?_
          refine pm_bipush (pc := 148) (v := nI 48) dX10_takeAct_148 (by decide) ?_
          refine pm_bipush (pc := 150) (v := nI 53) dX10_takeAct_150 (by decide) ?_
          refine pm_cVI (pc := 152) dX10_takeAct_152 (c_take2 hB ht zh Ph (by decide) (by decide) (by decide) (y_fd (m := 6) (by decide))) wq_X10_take wm_X10_177 wi_X10_take ws_X10_take rfl rfl ⟨Nat.le_of_ble_eq_true rfl, Nat.le_of_ble_eq_true rfl⟩ ⟨Nat.le_of_ble_eq_true rfl, Nat.le_of_ble_eq_true rfl⟩ rfl (Nat.le_of_ble_eq_true rfl) (fun r152 I152 L152 q152 => ?_)
          obtain ⟨⟨er152, P152⟩, el152⟩ := q152
          subst el152
          subst er152
          refine pm_istore (pc := 155) dX10_takeAct_155 (by decide) rfl ?_
          have et : z_act t n a = z_bind (z_bind ((z_sk t a + 1, some 3) : Nat × Option Nat) fun _ b => z_ch t (z_d 6) b) fun w a2 => z_bind (z_ch t (z_m 62) a2) fun _ a3 => z_bind (z_ch t (z_dw w) a3) fun o a4 => (a4, some (1000 * 3 + 100 * w + o)) := by
            unfold z_act
            rw [z_bind_s (r := z_ch t z_h a) ep]
            show (if (3 : Nat) = 1 then _ else z_bind (z_ch t (z_d 6) (z_q t z_h a)) _) = _
            rw [if_neg (by decide), eq]; rfl
          cases e3 : (z_bind (z_hd t (z_bind (z_bind ((z_sk t a + 1, some 3) : Nat × Option Nat) fun _ b => z_ch t (z_d 6) b) fun _ b => z_ch t (z_m 62) b)) fun _ b => z_ch t (z_d 6) b).2 with
          | none =>
            obtain ⟨b5, hb5, S5⟩ := P152.n e3
            have ex : z_act t n a = ((z_bind (z_hd t (z_bind (z_bind ((z_sk t a + 1, some 3) : Nat × Option Nat) fun _ b => z_ch t (z_d 6) b) fun _ b => z_ch t (z_m 62) b)) fun _ b => z_ch t (z_d 6) b).1, none) := by
              rw [et]
              cases e1 : (z_bind ((z_sk t a + 1, some 3) : Nat × Option Nat) fun _ b => z_ch t (z_d 6) b).2 with
              | none =>
                have e2 : (z_bind (z_bind ((z_sk t a + 1, some 3) : Nat × Option Nat) fun _ b => z_ch t (z_d 6) b) fun _ b => z_ch t (z_m 62) b) = ((z_bind ((z_sk t a + 1, some 3) : Nat × Option Nat) fun _ b => z_ch t (z_d 6) b).1, none) := z_bind_n e1
                rw [e2, z_hd_n (σ := ((z_bind ((z_sk t a + 1, some 3) : Nat × Option Nat) fun _ b => z_ch t (z_d 6) b).1, none)) rfl, z_bind_n e1, z_bind_n (r := ((z_bind ((z_sk t a + 1, some 3) : Nat × Option Nat) fun _ b => z_ch t (z_d 6) b).1, none)) rfl]
              | some w =>
                have e2 : (z_bind (z_bind ((z_sk t a + 1, some 3) : Nat × Option Nat) fun _ b => z_ch t (z_d 6) b) fun _ b => z_ch t (z_m 62) b) = z_ch t (z_m 62) (z_bind ((z_sk t a + 1, some 3) : Nat × Option Nat) fun _ b => z_ch t (z_d 6) b).1 := z_bind_s e1
                rw [z_bind_s e1]
                rw [e2] at e3 ⊢
                have l2 : (z_bind ((z_sk t a + 1, some 3) : Nat × Option Nat) fun _ b => z_ch t (z_d 6) b).1 ≤ t.length := z125
                cases e2m : (z_ch t (z_m 62) (z_bind ((z_sk t a + 1, some 3) : Nat × Option Nat) fun _ b => z_ch t (z_d 6) b).1).2 with
                | none => rw [z_hd_n e2m, z_bind_n e2m, z_bind_n e2m]
                | some v =>
                  have l3 : (z_ch t (z_m 62) (z_bind ((z_sk t a + 1, some 3) : Nat × Option Nat) fun _ b => z_ch t (z_d 6) b).1).1 ≤ t.length := (z_q_le l2).2
                  rw [z_hd_s e2m, z_bind_s (r := (z_sk t (z_ch t (z_m 62) (z_bind ((z_sk t a + 1, some 3) : Nat × Option Nat) fun _ b => z_ch t (z_d 6) b).1).1, some v)) rfl] at e3 ⊢
                  rw [z_p_sk l3] at e3 ⊢
                  rw [z_bind_s e2m]
                  have ew : z_p t (z_dw w) (z_ch t (z_m 62) (z_bind ((z_sk t a + 1, some 3) : Nat × Option Nat) fun _ b => z_ch t (z_d 6) b).1).1 = none := by
                    have e4 : z_p t (z_d 6) (z_ch t (z_m 62) (z_bind ((z_sk t a + 1, some 3) : Nat × Option Nat) fun _ b => z_ch t (z_d 6) b).1).1 = none := e3
                    unfold z_p at e4 ⊢
                    by_cases h : z_sk t (z_ch t (z_m 62) (z_bind ((z_sk t a + 1, some 3) : Nat × Option Nat) fun _ b => z_ch t (z_d 6) b).1).1 < t.length
                    · rw [if_pos h] at e4 ⊢
                      unfold z_d at e4
                      unfold z_dw
                      rw [if_neg]
                      intro z
                      rw [if_pos ⟨z.1, z.2.1⟩] at e4
                      exact absurd e4 (by simp)
                    · rw [if_neg h]
                  rw [z_bind_n (r := z_ch t (z_dw w) _) ew]
                  show (z_q t (z_dw w) _, none) = (z_q t (z_d 6) _, none)
                  rw [z_q_n ew, z_q_n (show z_p t (z_d 6) (z_ch t (z_m 62) (z_bind ((z_sk t a + 1, some 3) : Nat × Option Nat) fun _ b => z_ch t (z_d 6) b).1).1 = none from e3)]
            refine pm_aload_n (pc := 157) dX10_takeAct_157 rfl ?_
            refine pm_get (pc := 158) (ci := 8) (C0 := RX10) (T := TX10) (N := 34) (j := 12) rfl rfl in_X10 (by decide) wf_X10_157 rfl dX10_takeAct_158 ?_
            rw [S5.2.2.1]
            refine pm_if_ne (pc := 161) (tgt := 176) dX10_takeAct_161 rfl (fun h161 => ?_) (fun h161 => absurd h161 (z_F_0 (by have := z_bind_le (σ := z_hd t (z_bind (z_bind ((z_sk t a + 1, some 3) : Nat × Option Nat) fun _ b => z_ch t (z_d 6) b) fun _ b => z_ch t (z_m 62) b)) (f := z_d 6) zh; omega)))
            refine pm_sipush (pc := 176) (v := nI 3000) dX10_takeAct_176 (by decide) ?_
            refine pm_bipush (pc := 179) (v := nI 100) dX10_takeAct_179 (by decide) ?_
            refine pm_iload_n (pc := 181) dX10_takeAct_181 rfl ?_
            refine pm_imul (pc := 182) dX10_takeAct_182 ?_
            refine pm_iadd (pc := 183) dX10_takeAct_183 ?_
            refine pm_iload (pc := 184) dX10_takeAct_184 rfl ?_
            refine pm_iadd (pc := 186) dX10_takeAct_186 ?_
            refine pm_istore_n (pc := 187) dX10_takeAct_187 (by decide) rfl ?_
            refine pm_goto (pc := 188) (tgt := 233) dX10_takeAct_188 rfl ?_
            refine pm_kill 3 ?_
            refine pm_kill 4 ?_
            refine pm_kill 5 ?_
            refine pm_kill 6 ?_
            exact l_ta233 ht hj hA (by rw [hτ, ex]; exact z_bind_le zh) (y_P.mn (by rw [hτ, ex]) hb5 (by rw [hτ, ex]; exact S5)) (fun x hx => by rw [hτ, ex] at hx; exact absurd hx (by simp))
          | some o =>
            have S5 := P152.s e3
            obtain ⟨w, e1⟩ : ∃ w, (z_bind ((z_sk t a + 1, some 3) : Nat × Option Nat) fun _ b => z_ch t (z_d 6) b).2 = some w := by
              cases e1 : (z_bind ((z_sk t a + 1, some 3) : Nat × Option Nat) fun _ b => z_ch t (z_d 6) b).2 with
              | none =>
                have e2 : (z_bind (z_bind ((z_sk t a + 1, some 3) : Nat × Option Nat) fun _ b => z_ch t (z_d 6) b) fun _ b => z_ch t (z_m 62) b) = ((z_bind ((z_sk t a + 1, some 3) : Nat × Option Nat) fun _ b => z_ch t (z_d 6) b).1, none) := z_bind_n e1
                rw [e2, z_hd_n (σ := ((z_bind ((z_sk t a + 1, some 3) : Nat × Option Nat) fun _ b => z_ch t (z_d 6) b).1, none)) rfl, z_bind_n (r := ((z_bind ((z_sk t a + 1, some 3) : Nat × Option Nat) fun _ b => z_ch t (z_d 6) b).1, none)) rfl] at e3
                exact absurd e3 (by simp)
              | some w => exact ⟨w, rfl⟩
            have e2 : (z_bind (z_bind ((z_sk t a + 1, some 3) : Nat × Option Nat) fun _ b => z_ch t (z_d 6) b) fun _ b => z_ch t (z_m 62) b) = z_ch t (z_m 62) (z_bind ((z_sk t a + 1, some 3) : Nat × Option Nat) fun _ b => z_ch t (z_d 6) b).1 := z_bind_s e1
            have l2 : (z_bind ((z_sk t a + 1, some 3) : Nat × Option Nat) fun _ b => z_ch t (z_d 6) b).1 ≤ t.length := z125
            have l3 : (z_ch t (z_m 62) (z_bind ((z_sk t a + 1, some 3) : Nat × Option Nat) fun _ b => z_ch t (z_d 6) b).1).1 ≤ t.length := (z_q_le l2).2
            obtain ⟨v, e2m⟩ : ∃ v, (z_ch t (z_m 62) (z_bind ((z_sk t a + 1, some 3) : Nat × Option Nat) fun _ b => z_ch t (z_d 6) b).1).2 = some v := by
              cases e2m : (z_ch t (z_m 62) (z_bind ((z_sk t a + 1, some 3) : Nat × Option Nat) fun _ b => z_ch t (z_d 6) b).1).2 with
              | none =>
                rw [e2, z_hd_n e2m, z_bind_n e2m] at e3
                exact absurd e3 (by simp)
              | some v => exact ⟨v, rfl⟩
            have hax := hax v (by rw [e2]; exact e2m)
            rw [e2] at hax
            have e5 : (z_bind (z_hd t (z_bind (z_bind ((z_sk t a + 1, some 3) : Nat × Option Nat) fun _ b => z_ch t (z_d 6) b) fun _ b => z_ch t (z_m 62) b)) fun _ b => z_ch t (z_d 6) b) = z_ch t (z_d 6) (z_ch t (z_m 62) (z_bind ((z_sk t a + 1, some 3) : Nat × Option Nat) fun _ b => z_ch t (z_d 6) b).1).1 := by
              rw [e2, z_hd_s e2m, z_bind_s (r := (z_sk t (z_ch t (z_m 62) (z_bind ((z_sk t a + 1, some 3) : Nat × Option Nat) fun _ b => z_ch t (z_d 6) b).1).1, some v)) rfl, z_p_sk l3]
            have g3 : z_p t (z_d 6) (z_ch t (z_m 62) (z_bind ((z_sk t a + 1, some 3) : Nat × Option Nat) fun _ b => z_ch t (z_d 6) b).1).1 = some o := by rw [e5] at e3; exact e3
            have eq5 : (z_bind (z_hd t (z_bind (z_bind ((z_sk t a + 1, some 3) : Nat × Option Nat) fun _ b => z_ch t (z_d 6) b) fun _ b => z_ch t (z_m 62) b)) fun _ b => z_ch t (z_d 6) b).1 = z_q t (z_d 6) (z_ch t (z_m 62) (z_bind ((z_sk t a + 1, some 3) : Nat × Option Nat) fun _ b => z_ch t (z_d 6) b).1).1 := by rw [e5]; rfl
            have ha3 := l3
            have ha5 : (z_bind (z_hd t (z_bind (z_bind ((z_sk t a + 1, some 3) : Nat × Option Nat) fun _ b => z_ch t (z_d 6) b) fun _ b => z_ch t (z_m 62) b)) fun _ b => z_ch t (z_d 6) b).1 ≤ t.length := z_bind_le zh
            have ho6 := zb_d (z_get g3)
            have hw6 : w < 6 := zb_d (z_get (a := z_sk t a + 1) e1)
            generalize ha3e : (z_ch t (z_m 62) (z_bind ((z_sk t a + 1, some 3) : Nat × Option Nat) fun _ b => z_ch t (z_d 6) b).1).1 = a3 at g3 eq5 ha3 hax l3 e5
            refine pm_aload_n (pc := 157) dX10_takeAct_157 rfl ?_
            refine pm_get (pc := 158) (ci := 8) (C0 := RX10) (T := TX10) (N := 34) (j := 12) rfl rfl in_X10 (by decide) wf_X10_157 rfl dX10_takeAct_158 ?_
            rw [S5.2.2.1]
            refine pm_if_ne (pc := 161) (tgt := 176) dX10_takeAct_161 rfl (fun h161 => absurd rfl h161) (fun h161 => ?_)
            refine pm_iload (pc := 164) dX10_takeAct_164 rfl ?_
            refine pm_iload_n (pc := 166) dX10_takeAct_166 rfl ?_
            refine pm_icmp_ne (pc := 167) (tgt := 176) dX10_takeAct_167 rfl (fun h167 => ?_) (fun h167 => ?_)
            · have hne : ¬ o = w := fun z => h167 (by rw [show (z_bind ((z_sk t a + 1, some 3) : Nat × Option Nat) fun _ b => z_ch t (z_d 6) b).2 = some w from e1, z])
              refine pm_sipush (pc := 176) (v := nI 3000) dX10_takeAct_176 (by decide) ?_
              refine pm_bipush (pc := 179) (v := nI 100) dX10_takeAct_179 (by decide) ?_
              refine pm_iload_n (pc := 181) dX10_takeAct_181 rfl ?_
              refine pm_imul (pc := 182) dX10_takeAct_182 ?_
              refine pm_iadd (pc := 183) dX10_takeAct_183 ?_
              refine pm_iload (pc := 184) dX10_takeAct_184 rfl ?_
              refine pm_iadd (pc := 186) dX10_takeAct_186 ?_
              refine pm_istore_n (pc := 187) dX10_takeAct_187 (by decide) rfl ?_
              refine pm_goto (pc := 188) (tgt := 233) dX10_takeAct_188 rfl ?_
              first
                | (have ew : z_p t (z_dw w) a3 = none := by
                     unfold z_p at g3 ⊢
                     by_cases h : z_sk t a3 < t.length
                     · rw [if_pos h] at g3 ⊢
                       unfold z_d at g3
                       unfold z_dw
                       rw [if_neg]
                       intro z
                       rw [if_pos (by omega)] at g3
                       exact z.2.2 (by rw [Option.some.inj g3]; exact heq)
                     · rw [if_neg h]
                   have ex : z_act t n a = (z_sk t a3, none) := by
                     rw [et, z_bind_s e1, z_bind_s e2m, ha3e, z_bind_n (r := z_ch t (z_dw w) a3) ew]
                     show (z_q t (z_dw w) a3, none) = _
                     rw [z_q_n ew]
                   refine pm_kill 3 ?_
                   refine pm_kill 4 ?_
                   refine pm_kill 5 ?_
                   refine pm_kill 6 ?_
                   exact l_ta233 ht hj hA (by rw [hτ, ex]; exact (z_sk_sp ha3).2.1) (y_P.mn (by rw [hτ, ex]) ha5 (by rw [hτ, ex]; rw [← hax] ; exact S173)) (fun x hx => by rw [hτ, ex] at hx; exact absurd hx (by simp)))
                | (have ew : z_p t (z_dw w) a3 = some o := by
                     unfold z_p at g3 ⊢
                     by_cases h : z_sk t a3 < t.length
                     · rw [if_pos h] at g3 ⊢
                       unfold z_d at g3
                       unfold z_dw
                       by_cases z : 48 ≤ t.getD (z_sk t a3) 0 ∧ t.getD (z_sk t a3) 0 < 48 + 6
                       · rw [if_pos z] at g3
                         have g4 := Option.some.inj g3
                         rw [if_pos ⟨z.1, by omega, fun y => hne (by rw [← g4]; exact y)⟩, g4]
                       · rw [if_neg z] at g3; exact absurd g3 (by simp)
                     · rw [if_neg h] at g3; exact absurd g3 (by simp)
                   have ex : z_act t n a = (z_q t (z_d 6) a3, some (1000 * 3 + 100 * w + o)) := by
                     rw [et, z_bind_s e1, z_bind_s e2m, ha3e, z_bind_s (r := z_ch t (z_dw w) a3) ew]
                     show (z_q t (z_dw w) a3, _) = _
                     rw [z_q_s ew, z_q_s g3]
                   refine pm_kill 3 ?_
                   refine pm_kill 4 ?_
                   refine pm_kill 5 ?_
                   refine pm_kill 6 ?_
                   exact l_ta233 ht hj hA (by rw [hτ, ex]; exact (z_q_le ha3).2) (y_P.ms (v := 1000 * 3 + 100 * w + o) (by rw [hτ, ex]) (by rw [hτ, ex]; rw [eq5] at S5; exact S5)) (fun x hx => by
                     rw [hτ, ex] at hx
                     rw [← Option.some.inj hx, show (z_bind ((z_sk t a + 1, some 3) : Nat × Option Nat) fun _ b => z_ch t (z_d 6) b).2 = some w from e1]
                     show nI 3000 + nI 100 * nI w + nI o = _
                     rw [pk_mul, nI_add, nI_add]))
            · have heq : o = w := (nI_eq (by omega) (by omega)).mp (by rw [show (z_bind ((z_sk t a + 1, some 3) : Nat × Option Nat) fun _ b => z_ch t (z_d 6) b).2 = some w from e1] at h167; exact h167)
              refine pm_aload_n (pc := 170) dX10_takeAct_170 rfl ?_
              refine pm_iload (pc := 171) dX10_takeAct_171 rfl ?_
              refine pm_cVV (pc := 173) dX10_takeAct_173 (c_fails S5) wq_X10_fails wm_X10_163 wi_X10_fails ws_X10_fails rfl rfl ⟨Nat.le_of_ble_eq_true rfl, Nat.le_of_ble_eq_true rfl⟩ ⟨Nat.le_of_ble_eq_true rfl, Nat.le_of_ble_eq_true rfl⟩ rfl (Nat.le_of_ble_eq_true rfl) (fun I173 L173 q173 => ?_)
              obtain ⟨S173, el173⟩ := q173
              subst el173
              rw [if_pos rfl] at S173
              refine pm_sipush (pc := 176) (v := nI 3000) dX10_takeAct_176 (by decide) ?_
              refine pm_bipush (pc := 179) (v := nI 100) dX10_takeAct_179 (by decide) ?_
              refine pm_iload_n (pc := 181) dX10_takeAct_181 rfl ?_
              refine pm_imul (pc := 182) dX10_takeAct_182 ?_
              refine pm_iadd (pc := 183) dX10_takeAct_183 ?_
              refine pm_iload (pc := 184) dX10_takeAct_184 rfl ?_
              refine pm_iadd (pc := 186) dX10_takeAct_186 ?_
              refine pm_istore_n (pc := 187) dX10_takeAct_187 (by decide) rfl ?_
              refine pm_goto (pc := 188) (tgt := 233) dX10_takeAct_188 rfl ?_
              first
                | (have ew : z_p t (z_dw w) a3 = none := by
                     unfold z_p at g3 ⊢
                     by_cases h : z_sk t a3 < t.length
                     · rw [if_pos h] at g3 ⊢
                       unfold z_d at g3
                       unfold z_dw
                       rw [if_neg]
                       intro z
                       rw [if_pos (by omega)] at g3
                       exact z.2.2 (by rw [Option.some.inj g3]; exact heq)
                     · rw [if_neg h]
                   have ex : z_act t n a = (z_sk t a3, none) := by
                     rw [et, z_bind_s e1, z_bind_s e2m, ha3e, z_bind_n (r := z_ch t (z_dw w) a3) ew]
                     show (z_q t (z_dw w) a3, none) = _
                     rw [z_q_n ew]
                   refine pm_kill 3 ?_
                   refine pm_kill 4 ?_
                   refine pm_kill 5 ?_
                   refine pm_kill 6 ?_
                   exact l_ta233 ht hj hA (by rw [hτ, ex]; exact (z_sk_sp ha3).2.1) (y_P.mn (by rw [hτ, ex]) ha5 (by rw [hτ, ex]; rw [← hax] ; exact S173)) (fun x hx => by rw [hτ, ex] at hx; exact absurd hx (by simp)))
                | (have ew : z_p t (z_dw w) a3 = some o := by
                     unfold z_p at g3 ⊢
                     by_cases h : z_sk t a3 < t.length
                     · rw [if_pos h] at g3 ⊢
                       unfold z_d at g3
                       unfold z_dw
                       by_cases z : 48 ≤ t.getD (z_sk t a3) 0 ∧ t.getD (z_sk t a3) 0 < 48 + 6
                       · rw [if_pos z] at g3
                         have g4 := Option.some.inj g3
                         rw [if_pos ⟨z.1, by omega, fun y => hne (by rw [← g4]; exact y)⟩, g4]
                       · rw [if_neg z] at g3; exact absurd g3 (by simp)
                     · rw [if_neg h] at g3; exact absurd g3 (by simp)
                   have ex : z_act t n a = (z_q t (z_d 6) a3, some (1000 * 3 + 100 * w + o)) := by
                     rw [et, z_bind_s e1, z_bind_s e2m, ha3e, z_bind_s (r := z_ch t (z_dw w) a3) ew]
                     show (z_q t (z_dw w) a3, _) = _
                     rw [z_q_s ew, z_q_s g3]
                   refine pm_kill 3 ?_
                   refine pm_kill 4 ?_
                   refine pm_kill 5 ?_
                   refine pm_kill 6 ?_
                   exact l_ta233 ht hj hA (by rw [hτ, ex]; exact (z_q_le ha3).2) (y_P.ms (v := 1000 * 3 + 100 * w + o) (by rw [hτ, ex]) (by rw [hτ, ex]; rw [eq5] at S5; exact S5)) (fun x hx => by
                     rw [hτ, ex] at hx
                     rw [← Option.some.inj hx, show (z_bind ((z_sk t a + 1, some 3) : Nat × Option Nat) fun _ b => z_ch t (z_d 6) b).2 = some w from e1]
                     show nI 3000 + nI 100 * nI w + nI o = _
                     rw [pk_mul, nI_add, nI_add]))
      · have hc79 := (y_ck ht (show 115 < 127 by decide)).mp (by rw [← er1]; exact h79)
        have ep : z_p t z_h a = some 2 := by unfold z_p; rw [if_pos hc79.1, hc79.2]; rfl
        have eq : z_q t z_h a = z_sk t a + 1 := z_q_s ep
        have P0 : y_P t I (pm_u I1 40 (upd (I1 40) 11 (nI (z_sk t a + 1)))) ((z_sk t a + 1, some 2) : Nat × Option Nat) := y_P.ms (v := 2) rfl (S1.at _)
        have z0 : ((z_sk t a + 1, some 2) : Nat × Option Nat).1 ≤ t.length := hc79.1
        refine pm_aload_n (pc := 82) dX10_takeAct_82 rfl ?_
        refine pm_bipush (pc := 83) (v := nI 48) dX10_takeAct_83 (by decide) ?_
        refine pm_bipush (pc := 85) (v := nI 53) dX10_takeAct_85 (by decide) ?_
        refine pm_cVI (pc := 87) dX10_takeAct_87 (c_take2 hB ht z0 P0 (by decide) (by decide) (by decide) (y_fd (m := 6) (by decide))) wq_X10_take wm_X10_177 wi_X10_take ws_X10_take rfl rfl ⟨Nat.le_of_ble_eq_true rfl, Nat.le_of_ble_eq_true rfl⟩ ⟨Nat.le_of_ble_eq_true rfl, Nat.le_of_ble_eq_true rfl⟩ rfl (Nat.le_of_ble_eq_true rfl) (fun r87 I87 L87 q87 => ?_)
        obtain ⟨⟨er87, P87⟩, el87⟩ := q87
        subst el87
        subst er87
        have z87 := z_bind_le (f := z_d 6) z0
        refine pm_istore_n (pc := 90) dX10_takeAct_90 (by decide) rfl ?_
        refine pm_aload_n (pc := 91) dX10_takeAct_91 rfl ?_
        refine pm_bipush (pc := 92) (v := nI 61) dX10_takeAct_92 (by decide) ?_
        refine pm_cVV (pc := 94) dX10_takeAct_94 (c_takeMark hB ht z87 P87 (m := 61) (by decide)) wq_X10_takeMark wm_X10_187 wi_X10_takeMark ws_X10_takeMark rfl rfl ⟨Nat.le_of_ble_eq_true rfl, Nat.le_of_ble_eq_true rfl⟩ ⟨Nat.le_of_ble_eq_true rfl, Nat.le_of_ble_eq_true rfl⟩ rfl (Nat.le_of_ble_eq_true rfl) (fun I94 L94 q94 => ?_)
        obtain ⟨P94, el94⟩ := q94
        subst el94
        have z94 := z_bind_le (f := z_m 61) z87
        refine pm_sipush (pc := 97) (v := nI 2000) dX10_takeAct_97 (by decide) ?_
        refine pm_bipush (pc := 100) (v := nI 100) dX10_takeAct_100 (by decide) ?_
        refine pm_iload_n (pc := 102) dX10_takeAct_102 rfl ?_
        refine pm_imul (pc := 103) dX10_takeAct_103 ?_
        refine pm_iadd (pc := 104) dX10_takeAct_104 ?_
        refine pm_aload_n (pc := 105) dX10_takeAct_105 rfl ?_
        refine pm_cVI (pc := 106) dX10_takeAct_106 (c_takeLet hB ht z94 P94 hn hN) wq_X10_takeLetter wm_X10_184 wi_X10_takeLetter ws_X10_takeLetter rfl rfl ⟨Nat.le_of_ble_eq_true rfl, Nat.le_of_ble_eq_true rfl⟩ ⟨Nat.le_of_ble_eq_true rfl, Nat.le_of_ble_eq_true rfl⟩ rfl (Nat.le_of_ble_eq_true rfl) (fun r106 I106 L106 q106 => ?_)
        obtain ⟨⟨er106, P106⟩, el106⟩ := q106
        subst el106
        subst er106
        have z106 := z_bind_le (f := z_l n) z94
        refine pm_iadd (pc := 109) dX10_takeAct_109 ?_
        refine pm_istore_n (pc := 110) dX10_takeAct_110 (by decide) rfl ?_
        refine pm_goto (pc := 111) (tgt := 233) dX10_takeAct_111 rfl ?_
        refine pm_kill 3 ?_
        refine pm_kill 4 ?_
        refine pm_kill 5 ?_
        refine pm_kill 6 ?_
        have et : z_act t n a = ((z_bind (z_bind (z_bind ((z_sk t a + 1, some 2) : Nat × Option Nat) fun _ b => z_ch t (z_d 6) b) fun _ b => z_ch t (z_m 61) b) fun _ b => z_ch t (z_l n) b).1, (z_bind (z_bind (z_bind ((z_sk t a + 1, some 2) : Nat × Option Nat) fun _ b => z_ch t (z_d 6) b) fun _ b => z_ch t (z_m 61) b) fun _ b => z_ch t (z_l n) b).2.map (fun o => 1000 * 2 + 100 * (z_bind ((z_sk t a + 1, some 2) : Nat × Option Nat) fun _ b => z_ch t (z_d 6) b).2.getD 0 + o)) := by
          unfold z_act
          rw [z_bind_s (r := z_ch t z_h a) ep]
          show (if (2 : Nat) = 1 then _ else z_bind (z_ch t (z_d 6) (z_q t z_h a)) _) = _
          rw [if_neg (by decide), eq]
          exact z_two (r1 := z_ch t (z_d 6) (z_sk t a + 1)) (g := fun w o => 1000 * 2 + 100 * w + o)
        exact l_ta233 ht hj hA (by rw [hτ, et]; exact z106) (P106.eq (by rw [hτ, et]) (by rw [hτ, et]; exact z_mapn)) (fun x hx => by
          rw [hτ, et] at hx
          obtain ⟨w, hw, hg⟩ := Option.map_eq_some_iff.mp hx
          rw [← hg, hw]
          show nI 2000 + nI 100 * nI _ + nI w = _
          rw [pk_mul, nI_add, nI_add])
    · have hc41 := (y_ck ht (show 100 < 127 by decide)).mp (by rw [← er1]; exact h41)
      have ep : z_p t z_h a = some 1 := by unfold z_p; rw [if_pos hc41.1, hc41.2]; rfl
      have eq : z_q t z_h a = z_sk t a + 1 := z_q_s ep
      have P0 : y_P t I (pm_u I1 40 (upd (I1 40) 11 (nI (z_sk t a + 1)))) ((z_sk t a + 1, some 1) : Nat × Option Nat) := y_P.ms (v := 1) rfl (S1.at _)
      have z0 : ((z_sk t a + 1, some 1) : Nat × Option Nat).1 ≤ t.length := hc41.1
      refine pm_aload_n (pc := 44) dX10_takeAct_44 rfl ?_
      refine pm_cVI (pc := 45) dX10_takeAct_45 (c_takeLet hB ht z0 P0 hn hN) wq_X10_takeLetter wm_X10_184 wi_X10_takeLetter ws_X10_takeLetter rfl rfl ⟨Nat.le_of_ble_eq_true rfl, Nat.le_of_ble_eq_true rfl⟩ ⟨Nat.le_of_ble_eq_true rfl, Nat.le_of_ble_eq_true rfl⟩ rfl (Nat.le_of_ble_eq_true rfl) (fun r45 I45 L45 q45 => ?_)
      obtain ⟨⟨er45, P45⟩, el45⟩ := q45
      subst el45
      subst er45
      have z45 := z_bind_le (f := z_l n) z0
      refine pm_istore_n (pc := 48) dX10_takeAct_48 (by decide) rfl ?_
      refine pm_aload_n (pc := 49) dX10_takeAct_49 rfl ?_
      refine pm_bipush (pc := 50) (v := nI 62) dX10_takeAct_50 (by decide) ?_
      refine pm_cVV (pc := 52) dX10_takeAct_52 (c_takeMark hB ht z45 P45 (m := 62) (by decide)) wq_X10_takeMark wm_X10_187 wi_X10_takeMark ws_X10_takeMark rfl rfl ⟨Nat.le_of_ble_eq_true rfl, Nat.le_of_ble_eq_true rfl⟩ ⟨Nat.le_of_ble_eq_true rfl, Nat.le_of_ble_eq_true rfl⟩ rfl (Nat.le_of_ble_eq_true rfl) (fun I52 L52 q52 => ?_)
      obtain ⟨P52, el52⟩ := q52
      subst el52
      have z52 := z_bind_le (f := z_m 62) z45
      refine pm_sipush (pc := 55) (v := nI 1000) dX10_takeAct_55 (by decide) ?_
      refine pm_bipush (pc := 58) (v := nI 100) dX10_takeAct_58 (by decide) ?_
      refine pm_aload_n (pc := 60) dX10_takeAct_60 rfl ?_
      refine pm_bipush (pc := 61) (v := nI 48) dX10_takeAct_61 (by decide) ?_
      refine pm_bipush (pc := 63) (v := nI 53) dX10_takeAct_63 (by decide) ?_
      refine pm_cVI (pc := 65) dX10_takeAct_65 (c_take2 hB ht z52 P52 (by decide) (by decide) (by decide) (y_fd (m := 6) (by decide))) wq_X10_take wm_X10_177 wi_X10_take ws_X10_take rfl rfl ⟨Nat.le_of_ble_eq_true rfl, Nat.le_of_ble_eq_true rfl⟩ ⟨Nat.le_of_ble_eq_true rfl, Nat.le_of_ble_eq_true rfl⟩ rfl (Nat.le_of_ble_eq_true rfl) (fun r65 I65 L65 q65 => ?_)
      obtain ⟨⟨er65, P65⟩, el65⟩ := q65
      subst el65
      subst er65
      have z65 := z_bind_le (f := z_d 6) z52
      refine pm_imul (pc := 68) dX10_takeAct_68 ?_
      refine pm_iadd (pc := 69) dX10_takeAct_69 ?_
      refine pm_iload_n (pc := 70) dX10_takeAct_70 rfl ?_
      refine pm_iadd (pc := 71) dX10_takeAct_71 ?_
      refine pm_istore_n (pc := 72) dX10_takeAct_72 (by decide) rfl ?_
      refine pm_goto (pc := 73) (tgt := 233) dX10_takeAct_73 rfl ?_
      refine pm_kill 3 ?_
      refine pm_kill 4 ?_
      refine pm_kill 5 ?_
      refine pm_kill 6 ?_
      have et : z_act t n a = ((z_bind (z_bind (z_bind ((z_sk t a + 1, some 1) : Nat × Option Nat) fun _ b => z_ch t (z_l n) b) fun _ b => z_ch t (z_m 62) b) fun _ b => z_ch t (z_d 6) b).1, (z_bind (z_bind (z_bind ((z_sk t a + 1, some 1) : Nat × Option Nat) fun _ b => z_ch t (z_l n) b) fun _ b => z_ch t (z_m 62) b) fun _ b => z_ch t (z_d 6) b).2.map (fun w => 1000 * 1 + 100 * w + (z_bind ((z_sk t a + 1, some 1) : Nat × Option Nat) fun _ b => z_ch t (z_l n) b).2.getD 0)) := by
        unfold z_act
        rw [z_bind_s (r := z_ch t z_h a) ep]
        show (if (1 : Nat) = 1 then z_bind (z_ch t (z_l n) (z_q t z_h a)) _ else _) = _
        rw [if_pos rfl, eq]
        exact z_two (r1 := z_ch t (z_l n) (z_sk t a + 1)) (g := fun i w => 1000 * 1 + 100 * w + i)
      exact l_ta233 ht hj hA (by rw [hτ, et]; exact z65) (P65.eq (by rw [hτ, et]) (by rw [hτ, et]; exact z_mapn)) (fun x hx => by
        rw [hτ, et] at hx
        obtain ⟨w, hw, hg⟩ := Option.map_eq_some_iff.mp hx
        rw [← hg, hw]
        show nI 1000 + nI 100 * nI w + nI _ = _
        rw [pk_mul, nI_add, nI_add])
  · have hc20 := (y_ck ht (show 108 < 127 by decide)).mp (by rw [← er1]; exact h20)
    have ep : z_p t z_h a = some 0 := by unfold z_p; rw [if_pos hc20.1, hc20.2]; rfl
    have eq : z_q t z_h a = z_sk t a + 1 := z_q_s ep
    have P0 : y_P t I (pm_u I1 40 (upd (I1 40) 11 (nI (z_sk t a + 1)))) ((z_sk t a + 1, some 0) : Nat × Option Nat) := y_P.ms (v := 0) rfl (S1.at _)
    have z0 : ((z_sk t a + 1, some 0) : Nat × Option Nat).1 ≤ t.length := hc20.1
    refine pm_bipush (pc := 23) (v := nI 100) dX10_takeAct_23 (by decide) ?_
    refine pm_aload_n (pc := 25) dX10_takeAct_25 rfl ?_
    refine pm_bipush (pc := 26) (v := nI 48) dX10_takeAct_26 (by decide) ?_
    refine pm_bipush (pc := 28) (v := nI 53) dX10_takeAct_28 (by decide) ?_
    refine pm_cVI (pc := 30) dX10_takeAct_30 (c_take2 hB ht z0 P0 (by decide) (by decide) (by decide) (y_fd (m := 6) (by decide))) wq_X10_take wm_X10_177 wi_X10_take ws_X10_take rfl rfl ⟨Nat.le_of_ble_eq_true rfl, Nat.le_of_ble_eq_true rfl⟩ ⟨Nat.le_of_ble_eq_true rfl, Nat.le_of_ble_eq_true rfl⟩ rfl (Nat.le_of_ble_eq_true rfl) (fun r30 I30 L30 q30 => ?_)
    obtain ⟨⟨er30, P30⟩, el30⟩ := q30
    subst el30
    subst er30
    have z30 := z_bind_le (f := z_d 6) z0
    refine pm_imul (pc := 33) dX10_takeAct_33 ?_
    refine pm_istore_n (pc := 34) dX10_takeAct_34 (by decide) rfl ?_
    refine pm_goto (pc := 35) (tgt := 233) dX10_takeAct_35 rfl ?_
    refine pm_kill 3 ?_
    refine pm_kill 4 ?_
    refine pm_kill 5 ?_
    refine pm_kill 6 ?_
    have et : z_act t n a = ((z_bind ((z_sk t a + 1, some 0) : Nat × Option Nat) fun _ b => z_ch t (z_d 6) b).1, (z_bind ((z_sk t a + 1, some 0) : Nat × Option Nat) fun _ b => z_ch t (z_d 6) b).2.map (fun w => 1000 * 0 + 100 * w + 0)) := by
      unfold z_act
      rw [z_bind_s (r := z_ch t z_h a) ep]
      show (if (0 : Nat) = 1 then _ else z_bind (z_ch t (z_d 6) (z_q t z_h a)) fun w a2 => if (0 : Nat) = 0 then (a2, some (1000 * 0 + 100 * w + 0)) else _) = _
      rw [if_neg (by decide), eq]
      exact z_last
    exact l_ta233 ht hj hA (by rw [hτ, et]; exact z30) (P30.eq (by rw [hτ, et]) (by rw [hτ, et]; exact z_mapn)) (fun x hx => by
      rw [hτ, et] at hx
      obtain ⟨w, hw, hg⟩ := Option.map_eq_some_iff.mp hx
      rw [← hg, hw]
      show nI 100 * nI w = _
      rw [pk_mul]; exact congrArg nI (by omega))
