theorem MG.u9 {I I' : pm_I} {s : gS} (h : MG I s) (e : ∀ a : Nat, 40 ≤ a → a ≤ 47 → I' a = I a) : MG I' s := by
  unfold MG at h ⊢
  simp only [e 40 (by omega) (by omega), e 41 (by omega) (by omega), e 42 (by omega) (by omega), e 43 (by omega) (by omega), e 44 (by omega) (by omega), e 45 (by omega) (by omega), e 46 (by omega) (by omega), e 47 (by omega) (by omega)]
  exact h
def h_W (I J : pm_I) : Prop := (∀ a : Nat, a < 40 ∨ a = 48 ∨ a = 60 ∨ a = 61 ∨ a = 62 → J a = I a) ∧ ∀ k : Nat, k ≠ 0 → k ≠ 8 → J 40 k = I 40 k
theorem h_W.rf {I : pm_I} : h_W I I := ⟨fun _ _ => rfl, fun _ _ _ => rfl⟩
theorem h_W.m {I J J' : pm_I} (h : h_W I J) (h2 : mF J J') : h_W I J' := ⟨fun a ha => (h2.1 a (by omega)).trans (h.1 a ha), fun k h0 h8 => (h2.2 k h0 h8).trans (h.2 k h0 h8)⟩
theorem h_W.u {I J J' : pm_I} (h : h_W I J) (e : ∀ a : Nat, (a ≤ 40 ∨ a = 48 ∨ a = 60 ∨ a = 61 ∨ a = 62) → J' a = J a) : h_W I J' := ⟨fun a ha => (e a (by omega)).trans (h.1 a ha), fun k h0 h8 => by rw [e 40 (by omega)]; exact h.2 k h0 h8⟩
theorem h_sameA (s : gS) (c : Nat) : g_n (s_do s c) = g_n s ∧ g_kd (s_do s c) = g_kd s ∧ g_wt (s_do s c) = g_wt s ∧ g_sn (s_do s c) = g_sn s ∧ g_tw (s_do s c) = g_tw s ∧ g_aw (s_do s c) = g_aw s := ⟨(h_same s c).1, (h_same s c).2.1, (h_same s c).2.2.1, (h_same s c).2.2.2, (h_same2 s c).1, (h_same2 s c).2⟩
theorem h_f_hd {i r : Nat} {s : gS} {q : List Nat} (h : h_f i r s = some q) : q.headD 0 < 3600 := by
  rw [h_f_eq] at h
  obtain ⟨c, t, hc, _, e⟩ := h_fst_get _ _ _ h
  rw [e]
  show c < 3600
  omega
theorem h_l0 {i r : Nat} {s : gS} : h_l (h_f i r s) < 0 ↔ h_f i r s = none := by
  cases e : h_f i r s with
  | none => exact ⟨fun _ => rfl, fun _ => by show (-1 : Int32) < 0; decide⟩
  | some q =>
    have := h_f_hd e
    refine ⟨fun z => ?_, fun z => absurd z (by simp)⟩
    have z2 : nI (q.headD 0) < 0 := z
    rw [pm_ltI, nI_toInt (by omega), pm_t0] at z2; omega
theorem h_f_1 {i : Nat} {s : gS} {q : List Nat} (h : h_f i 0 s = some q) : q = [q.headD 0] := by
  have := h_f_len 0 s q h
  cases q with
  | nil => simp at this
  | cons a l => cases l with
    | nil => rfl
    | cons b l => simp at this
def h_Vd (s : gS) (c : Nat) : Prop := h_V s c
theorem h_Vd.v {s : gS} {c : Nat} (h : h_Vd s c) : h_V s c := h
theorem h_ms {m a b : Nat} (hm : 3600 - a ≤ m + 1) (hb : a + 1 ≤ b) : 3600 - b ≤ m := by omega
theorem h_nx_ex (s : gS) {c : Nat} (hc : c ≤ 3600) : ∃ b, b = h_nx s (3600 - c) c ∧ c ≤ b ∧ b ≤ 3600 ∧ (b < 3600 → h_Vd s b) ∧ ∀ i r, h_fst (h_at i r s) (3600 - b) b = h_fst (h_at i r s) (3600 - c) c := by
  obtain ⟨i1, i2, i3, i4⟩ := h_nx_sp s (3600 - c) c
  have e : c + (3600 - c) = 3600 := Nat.add_sub_cancel' hc
  rw [e] at i2 i3
  exact ⟨_, rfl, i1, i2, i3, fun i r => h_nx_to.symm⟩
def h_n4 : Option (List Nat) → Int32
  | none => nI 4
  | some q => nI q.length
def h_E (s : gS) (i : Nat) (I J : pm_I) : Prop := MG J s ∧ h_W I J ∧ ∀ q, h_find s i = some q → ∀ k, k < q.length → J 59 k = nI (q.getD k 0)
set_option maxRecDepth 100000 in
set_option maxHeartbeats 400000 in
theorem l_fd46 {I : pm_I} {L : pm_L} {s : gS} (hI : gInv s) {i : Nat} (hi : i < g_n s) (hw6 : g_wh s i ≠ 6) (h0 : h_f i 0 s = none) {la : Launch} {P : pm_E} (k104 : ∀ J : pm_I, MG J s → h_Y s 0 J → h_W I J → h_f i 1 s = none → PW la P yX10_find cX10_find 6 (some (.int)) (pm_rm 3 0 0) (pm_Tg P (QI GG (fun v I' L' => (v = h_n4 (h_find s i) ∧ h_E s i I I') ∧ L' = L)) 0 0) 0 0 104 [some (.ref 40), some (.int (nI i)), none, none, none, none] [] GG J L) : ∀ (m a : Nat), 3600 - a ≤ m → a ≤ 3600 → (a < 3600 → h_Vd s a) → h_fst (h_at i 1 s) (3600 - a) a = h_f i 1 s → ∀ J : pm_I, MG J s → h_Y s 0 J → h_W I J → PW la P yX10_find cX10_find 6 (some (.int)) (pm_rm 3 0 0) (pm_Tg P (QI GG (fun v I' L' => (v = h_n4 (h_find s i) ∧ h_E s i I I') ∧ L' = L)) 0 0) 0 0 46 [some (.ref 40), some (.int (nI i)), some (.int (nI a)), none, none, none] [] GG J L
  | 0, a, hm, ha, hv, hT, J, hJ, hY, hW => by
    have h12 := hI.n12
    refine pm_iload_n (pc := 46) dX10_find_46 rfl ?_
    refine pm_sipush (pc := 47) (v := nI 3600) dX10_find_47 (by decide) ?_
    refine pm_icmp_ge (pc := 50) (tgt := 104) dX10_find_50 rfl (fun h50 => ?_) (fun h50 => (by simp (disch := omega) only [pm_eqI, pm_ltI, pm_leI, nI_toInt, pm_t0, pm_t1, pm_tm1] at h50; omega))
    refine pm_kill 2 ?_
    exact k104 J hJ hY hW (by rw [← hT]; exact h_fst_end (by omega))
  | m + 1, a, hm, ha, hv, hT, J, hJ, hY, hW => by
    have h12 := hI.n12
    by_cases hlt : a < 3600
    · have v := hv hlt
      have hI' := gInv_do hI v.v.ok v.v.can
      have hi' : i < g_n (s_do s a) := by rw [(h_same s a).1]; exact hi
      have hat := h_at_s (i := i) (r := 0) v.v
      refine pm_iload_n (pc := 46) dX10_find_46 rfl ?_
      refine pm_sipush (pc := 47) (v := nI 3600) dX10_find_47 (by decide) ?_
      refine pm_icmp_ge (pc := 50) (tgt := 104) dX10_find_50 rfl (fun h50 => (by simp (disch := omega) only [pm_eqI, pm_ltI, pm_leI, nI_toInt, pm_t0, pm_t1, pm_tm1] at h50; omega)) (fun h50 => ?_)
      refine pm_aload_n (pc := 53) dX10_find_53 rfl ?_
      refine pm_iload_n (pc := 54) dX10_find_54 rfl ?_
      refine pm_cVI (pc := 55) dX10_find_55 (c_mDoAct hJ hI v.v.ok.W v.v.can) wq_X10_doAct wm_X10_223 wi_X10_doAct ws_X10_doAct rfl rfl ⟨Nat.le_of_ble_eq_true rfl, Nat.le_of_ble_eq_true rfl⟩ ⟨Nat.le_of_ble_eq_true rfl, Nat.le_of_ble_eq_true rfl⟩ rfl (Nat.le_of_ble_eq_true rfl) (fun r55 I55 L55 q55 => ?_)
      obtain ⟨er, ⟨g55, f55⟩, l55⟩ := q55
      subst l55
      have gA : MG (pm_u I55 59 (upd (I55 59) 0 (nI a))) (s_do s a) := g55.u9 (fun b h1 h2 => pm_un (by omega))
      refine pm_istore_n (pc := 58) dX10_find_58 (by decide) rfl ?_
      refine pm_aload_n (pc := 59) dX10_find_59 rfl ?_
      refine pm_getr (pc := 60) (ci := 8) (C0 := RX10) (T := TX10) (N := 34) (j := 25) rfl rfl in_X10 (by decide) wf_X10_64 rfl dX10_find_60 ?_
      refine pm_iconst (pc := 63) (v := nI 0) dX10_find_63 (by decide) ?_
      refine pm_iload_n (pc := 64) dX10_find_64 rfl ?_
      refine pm_iast (pc := 65) rfl (by omega) (by decide) dX10_find_65 ?_
      refine pm_aload_n (pc := 66) dX10_find_66 rfl ?_
      refine pm_getr (pc := 67) (ci := 8) (C0 := RX10) (T := TX10) (N := 34) (j := 25) rfl rfl in_X10 (by decide) wf_X10_64 rfl dX10_find_67 ?_
      refine pm_iconst (pc := 70) (v := nI 1) dX10_find_70 (by decide) ?_
      refine pm_aload_n (pc := 71) dX10_find_71 rfl ?_
      refine pm_iload_n (pc := 72) dX10_find_72 rfl ?_
      refine pm_cVR (pc := 73) dX10_find_73 (c_mLast gA hI' hi') wq_X10_lastAct wm_X10_232 wi_X10_lastAct ws_X10_lastAct rfl rfl ⟨Nat.le_of_ble_eq_true rfl, Nat.le_of_ble_eq_true rfl⟩ ⟨Nat.le_of_ble_eq_true rfl, Nat.le_of_ble_eq_true rfl⟩ rfl (Nat.le_of_ble_eq_true rfl) ?_
      refine pm_iast (pc := 76) rfl (by omega) (by decide) dX10_find_76 ?_
      refine pm_aload_n (pc := 77) dX10_find_77 rfl ?_
      refine pm_iconst (pc := 78) (v := nI 0) dX10_find_78 (by decide) ?_
      refine pm_cVV (pc := 79) dX10_find_79 (c_mLoad (gA.u9 (fun b h1 h2 => pm_un (by omega))) hI (h_sameA s a) (d := 0) (by decide) (hY.e (fun b hb => ((pm_un (by omega)).trans (pm_un (by omega))).trans (f55.1 b (by omega))))) wq_X10_load wm_X10_241 wi_X10_load ws_X10_load rfl rfl ⟨Nat.le_of_ble_eq_true rfl, Nat.le_of_ble_eq_true rfl⟩ ⟨Nat.le_of_ble_eq_true rfl, Nat.le_of_ble_eq_true rfl⟩ rfl (Nat.le_of_ble_eq_true rfl) (fun I79 L79 q79 => ?_)
      obtain ⟨⟨g79, f79⟩, l79⟩ := q79
      subst l79
      have r0 : I79 59 0 = nI a := by rw [f79 59 (by decide) (by decide) (by decide), pm_us, pm_us]; rfl
      have r1 : I79 59 1 = h_l (h_f i 0 (s_do s a)) := by rw [f79 59 (by decide) (by decide) (by decide), pm_us]; rfl
      have hY2 : h_Y s 0 I79 := hY.e (fun b hb => (f79 b (by omega) (by omega) (by omega)).trans (((pm_un (by omega)).trans (pm_un (by omega))).trans (f55.1 b (by omega))))
      have hW2 : h_W I I79 := (hW.m f55).u (fun b hb => (f79 b (by omega) (by omega) (by omega)).trans ((pm_un (by omega)).trans (pm_un (by omega))))
      refine pm_aload_n (pc := 82) dX10_find_82 rfl ?_
      refine pm_getr (pc := 83) (ci := 8) (C0 := RX10) (T := TX10) (N := 34) (j := 25) rfl rfl in_X10 (by decide) wf_X10_64 rfl dX10_find_83 ?_
      refine pm_iconst (pc := 86) (v := nI 1) dX10_find_86 (by decide) ?_
      refine pm_iald (pc := 87) rfl (by omega) (by decide) dX10_find_87 ?_
      rw [r1]
      refine pm_if_lt (pc := 88) (tgt := 93) dX10_find_88 rfl (fun h88 => ?_) (fun h88 => ?_)
      · have hn : h_at i 1 s a = none := by rw [hat]; exact h_l0.mp h88
        refine pm_aload_n (pc := 93) dX10_find_93 rfl ?_
        refine pm_iload_n (pc := 94) dX10_find_94 rfl ?_
        refine pm_iconst (pc := 95) (v := nI 1) dX10_find_95 (by decide) ?_
        refine pm_iadd (pc := 96) dX10_find_96 ?_
        refine pm_top (nI_add _ _) ?_
        refine pm_cVR (pc := 97) dX10_find_97 (c_mNext g79 hI (c0 := a + 1) hlt) wq_X10_nextAct wm_X10_238 wi_X10_nextAct ws_X10_nextAct rfl rfl ⟨Nat.le_of_ble_eq_true rfl, Nat.le_of_ble_eq_true rfl⟩ ⟨Nat.le_of_ble_eq_true rfl, Nat.le_of_ble_eq_true rfl⟩ rfl (Nat.le_of_ble_eq_true rfl) ?_
        obtain ⟨nx, enx, n1, n2, n3, n4⟩ := h_nx_ex s (c := a + 1) hlt
        rw [← enx]
        refine pm_istore_n (pc := 100) dX10_find_100 (by decide) rfl ?_
        refine pm_goto (pc := 101) (tgt := 46) dX10_find_101 rfl ?_
        refine pm_kill 3 ?_
        exact l_fd46 hI hi hw6 h0 k104 m nx (h_ms hm n1) n2 n3 ((n4 i 1).trans ((h_fst_1 hn).symm.trans hT)) I79 g79 hY2 hW2
      · refine pm_iconst (pc := 91) (v := nI 2) dX10_find_91 (by decide) ?_
        refine pm_iret (pc := 92) rfl (Nat.le_refl _) (Nat.le_refl _) dX10_find_92 ?_
        cases e : h_f i 0 (s_do s a) with
        | none => exact absurd (h_l0.mpr e) h88
        | some q =>
          rw [e] at hat r1
          rw [h_fst_some hlt hat] at hT
          have hF : h_find s i = some (a :: q) := by unfold h_find; rw [if_neg hw6, h0, ← hT]
          have hq := h_f_1 e
          refine QI.r ⟨⟨by rw [hF, hq]; rfl, g79, hW2, fun t ht k hk => ?_⟩, rfl⟩
          rw [hF] at ht
          rw [← Option.some.inj ht] at hk ⊢
          rw [hq] at hk ⊢
          have hk2 : k < 2 := hk
          rcases (show k = 0 ∨ k = 1 by omega) with z | z
          · subst z; exact r0
          · subst z; exact r1
    · refine pm_iload_n (pc := 46) dX10_find_46 rfl ?_
      refine pm_sipush (pc := 47) (v := nI 3600) dX10_find_47 (by decide) ?_
      refine pm_icmp_ge (pc := 50) (tgt := 104) dX10_find_50 rfl (fun h50 => ?_) (fun h50 => (by simp (disch := omega) only [pm_eqI, pm_ltI, pm_leI, nI_toInt, pm_t0, pm_t1, pm_tm1] at h50; omega))
      refine pm_kill 2 ?_
      exact k104 J hJ hY hW (by rw [← hT]; exact h_fst_end (by omega))
set_option maxRecDepth 100000 in
set_option maxHeartbeats 400000 in
theorem l_fd135 {I : pm_I} {L : pm_L} {s : gS} (hI : gInv s) {i : Nat} (hi : i < g_n s) (hw6 : g_wh s i ≠ 6) (h0 : h_f i 0 s = none) (h1 : h_f i 1 s = none) {a : Nat} (hlt : a < 3600) (v : h_Vd s a) (hT2 : h_fst (h_at i 2 s) (3600 - a) a = h_f i 2 s) {la : Launch} {P : pm_E} (k211 : ∀ J : pm_I, MG J (s_do s a) → h_Y s 0 J → h_Y (s_do s a) 1 J → h_W I J → h_f i 1 (s_do s a) = none → PW la P yX10_find cX10_find 6 (some (.int)) (pm_rm 3 0 0) (pm_Tg P (QI GG (fun v I' L' => (v = h_n4 (h_find s i) ∧ h_E s i I I') ∧ L' = L)) 0 0) 0 0 211 [some (.ref 40), some (.int (nI i)), some (.int (nI a)), none, none, none] [] GG J L) : ∀ (m b : Nat), 3600 - b ≤ m → b ≤ 3600 → (b < 3600 → h_Vd (s_do s a) b) → h_fst (h_at i 1 (s_do s a)) (3600 - b) b = h_f i 1 (s_do s a) → ∀ J : pm_I, MG J (s_do s a) → h_Y s 0 J → h_Y (s_do s a) 1 J → h_W I J → PW la P yX10_find cX10_find 6 (some (.int)) (pm_rm 3 0 0) (pm_Tg P (QI GG (fun v I' L' => (v = h_n4 (h_find s i) ∧ h_E s i I I') ∧ L' = L)) 0 0) 0 0 135 [some (.ref 40), some (.int (nI i)), some (.int (nI a)), none, some (.int (nI b)), none] [] GG J L
  | 0, b, hm, hb, hv, hT, J, hJ, hY, hZ, hW => by
    have h12 := hI.n12
    refine pm_iload (pc := 135) dX10_find_135 rfl ?_
    refine pm_sipush (pc := 137) (v := nI 3600) dX10_find_137 (by decide) ?_
    refine pm_icmp_ge (pc := 140) (tgt := 211) dX10_find_140 rfl (fun h140 => ?_) (fun h140 => (by simp (disch := omega) only [pm_eqI, pm_ltI, pm_leI, nI_toInt, pm_t0, pm_t1, pm_tm1] at h140; omega))
    refine pm_kill 4 ?_
    exact k211 J hJ hY hZ hW (by rw [← hT]; exact h_fst_end (by omega))
  | m + 1, b, hm, hb, hv, hT, J, hJ, hY, hZ, hW => by
    have h12 := hI.n12
    by_cases hltb : b < 3600
    · have vb := hv hltb
      have hI1 := gInv_do hI v.v.ok v.v.can
      have hi1 : i < g_n (s_do s a) := by rw [(h_same s a).1]; exact hi
      have hI2 := gInv_do hI1 vb.v.ok vb.v.can
      have hi2 : i < g_n (s_do (s_do s a) b) := by rw [(h_same (s_do s a) b).1]; exact hi1
      have hat := h_at_s (i := i) (r := 0) vb.v
      have hat2 := h_at_s (i := i) (r := 1) v.v
      refine pm_iload (pc := 135) dX10_find_135 rfl ?_
      refine pm_sipush (pc := 137) (v := nI 3600) dX10_find_137 (by decide) ?_
      refine pm_icmp_ge (pc := 140) (tgt := 211) dX10_find_140 rfl (fun h140 => (by simp (disch := omega) only [pm_eqI, pm_ltI, pm_leI, nI_toInt, pm_t0, pm_t1, pm_tm1] at h140; omega)) (fun h140 => ?_)
      refine pm_aload_n (pc := 143) dX10_find_143 rfl ?_
      refine pm_iload (pc := 144) dX10_find_144 rfl ?_
      refine pm_cVI (pc := 146) dX10_find_146 (c_mDoAct hJ hI1 vb.v.ok.W vb.v.can) wq_X10_doAct wm_X10_223 wi_X10_doAct ws_X10_doAct rfl rfl ⟨Nat.le_of_ble_eq_true rfl, Nat.le_of_ble_eq_true rfl⟩ ⟨Nat.le_of_ble_eq_true rfl, Nat.le_of_ble_eq_true rfl⟩ rfl (Nat.le_of_ble_eq_true rfl) (fun r146 I146 L146 q146 => ?_)
      obtain ⟨er, ⟨g146, f146⟩, l146⟩ := q146
      subst l146
      have gA : MG (pm_u (pm_u I146 59 (upd (I146 59) 0 (nI a))) 59 (upd ((pm_u I146 59 (upd (I146 59) 0 (nI a))) 59) 1 (nI b))) (s_do (s_do s a) b) := g146.u9 (fun d h1 h2 => (pm_un (by omega)).trans (pm_un (by omega)))
      refine pm_istore (pc := 149) dX10_find_149 (by decide) rfl ?_
      refine pm_aload_n (pc := 151) dX10_find_151 rfl ?_
      refine pm_getr (pc := 152) (ci := 8) (C0 := RX10) (T := TX10) (N := 34) (j := 25) rfl rfl in_X10 (by decide) wf_X10_64 rfl dX10_find_152 ?_
      refine pm_iconst (pc := 155) (v := nI 0) dX10_find_155 (by decide) ?_
      refine pm_iload_n (pc := 156) dX10_find_156 rfl ?_
      refine pm_iast (pc := 157) rfl (by omega) (by decide) dX10_find_157 ?_
      refine pm_aload_n (pc := 158) dX10_find_158 rfl ?_
      refine pm_getr (pc := 159) (ci := 8) (C0 := RX10) (T := TX10) (N := 34) (j := 25) rfl rfl in_X10 (by decide) wf_X10_64 rfl dX10_find_159 ?_
      refine pm_iconst (pc := 162) (v := nI 1) dX10_find_162 (by decide) ?_
      refine pm_iload (pc := 163) dX10_find_163 rfl ?_
      refine pm_iast (pc := 165) rfl (by omega) (by decide) dX10_find_165 ?_
      refine pm_aload_n (pc := 166) dX10_find_166 rfl ?_
      refine pm_getr (pc := 167) (ci := 8) (C0 := RX10) (T := TX10) (N := 34) (j := 25) rfl rfl in_X10 (by decide) wf_X10_64 rfl dX10_find_167 ?_
      refine pm_iconst (pc := 170) (v := nI 2) dX10_find_170 (by decide) ?_
      refine pm_aload_n (pc := 171) dX10_find_171 rfl ?_
      refine pm_iload_n (pc := 172) dX10_find_172 rfl ?_
      refine pm_cVR (pc := 173) dX10_find_173 (c_mLast gA hI2 hi2) wq_X10_lastAct wm_X10_232 wi_X10_lastAct ws_X10_lastAct rfl rfl ⟨Nat.le_of_ble_eq_true rfl, Nat.le_of_ble_eq_true rfl⟩ ⟨Nat.le_of_ble_eq_true rfl, Nat.le_of_ble_eq_true rfl⟩ rfl (Nat.le_of_ble_eq_true rfl) ?_
      refine pm_iast (pc := 176) rfl (by omega) (by decide) dX10_find_176 ?_
      refine pm_aload_n (pc := 177) dX10_find_177 rfl ?_
      refine pm_iconst (pc := 178) (v := nI 1) dX10_find_178 (by decide) ?_
      refine pm_cVV (pc := 179) dX10_find_179 (c_mLoad (gA.u9 (fun d h1 h2 => pm_un (by omega))) hI1 (h_sameA (s_do s a) b) (d := 1) (by decide) (hZ.e (fun d hd => ((pm_un (by omega)).trans ((pm_un (by omega)).trans (pm_un (by omega)))).trans (f146.1 d (by omega))))) wq_X10_load wm_X10_241 wi_X10_load ws_X10_load rfl rfl ⟨Nat.le_of_ble_eq_true rfl, Nat.le_of_ble_eq_true rfl⟩ ⟨Nat.le_of_ble_eq_true rfl, Nat.le_of_ble_eq_true rfl⟩ rfl (Nat.le_of_ble_eq_true rfl) (fun I179 L179 q179 => ?_)
      obtain ⟨⟨g179, f179⟩, l179⟩ := q179
      subst l179
      have r0 : I179 59 0 = nI a := by rw [f179 59 (by decide) (by decide) (by decide), pm_us, pm_us, pm_us]; rfl
      have r1 : I179 59 1 = nI b := by rw [f179 59 (by decide) (by decide) (by decide), pm_us, pm_us]; rfl
      have r2 : I179 59 2 = h_l (h_f i 0 (s_do (s_do s a) b)) := by rw [f179 59 (by decide) (by decide) (by decide), pm_us]; rfl
      have fr : ∀ d : Nat, d < 40 ∨ 48 ≤ d → d ≠ 59 → I179 d = J d := fun d hd h9 => (f179 d (by omega) (by omega) (by omega)).trans (((pm_un h9).trans ((pm_un h9).trans (pm_un h9))).trans (f146.1 d hd))
      have hY2 : h_Y s 0 I179 := hY.e (fun d hd => fr d (by omega) (by omega))
      have hZ2 : h_Y (s_do s a) 1 I179 := hZ.e (fun d hd => fr d (by omega) (by omega))
      have hW2 : h_W I I179 := (hW.m f146).u (fun d hd => (f179 d (by omega) (by omega) (by omega)).trans ((pm_un (by omega)).trans ((pm_un (by omega)).trans (pm_un (by omega)))))
      refine pm_aload_n (pc := 182) dX10_find_182 rfl ?_
      refine pm_getr (pc := 183) (ci := 8) (C0 := RX10) (T := TX10) (N := 34) (j := 25) rfl rfl in_X10 (by decide) wf_X10_64 rfl dX10_find_183 ?_
      refine pm_iconst (pc := 186) (v := nI 2) dX10_find_186 (by decide) ?_
      refine pm_iald (pc := 187) rfl (by omega) (by decide) dX10_find_187 ?_
      rw [r2]
      refine pm_if_lt (pc := 188) (tgt := 198) dX10_find_188 rfl (fun h188 => ?_) (fun h188 => ?_)
      · have hn : h_at i 1 (s_do s a) b = none := by rw [hat]; exact h_l0.mp h188
        refine pm_aload_n (pc := 198) dX10_find_198 rfl ?_
        refine pm_iload (pc := 199) dX10_find_199 rfl ?_
        refine pm_iconst (pc := 201) (v := nI 1) dX10_find_201 (by decide) ?_
        refine pm_iadd (pc := 202) dX10_find_202 ?_
        refine pm_top (nI_add _ _) ?_
        refine pm_cVR (pc := 203) dX10_find_203 (c_mNext g179 hI1 (c0 := b + 1) hltb) wq_X10_nextAct wm_X10_238 wi_X10_nextAct ws_X10_nextAct rfl rfl ⟨Nat.le_of_ble_eq_true rfl, Nat.le_of_ble_eq_true rfl⟩ ⟨Nat.le_of_ble_eq_true rfl, Nat.le_of_ble_eq_true rfl⟩ rfl (Nat.le_of_ble_eq_true rfl) ?_
        obtain ⟨nx, enx, n1, n2, n3, n4⟩ := h_nx_ex (s_do s a) (c := b + 1) hltb
        rw [← enx]
        refine pm_istore (pc := 206) dX10_find_206 (by decide) rfl ?_
        refine pm_goto (pc := 208) (tgt := 135) dX10_find_208 rfl ?_
        refine pm_kill 5 ?_
        exact l_fd135 hI hi hw6 h0 h1 hlt v hT2 k211 m nx (h_ms hm n1) n2 n3 ((n4 i 1).trans ((h_fst_1 hn).symm.trans hT)) I179 g179 hY2 hZ2 hW2
      · refine pm_aload_n (pc := 191) dX10_find_191 rfl ?_
        refine pm_iconst (pc := 192) (v := nI 0) dX10_find_192 (by decide) ?_
        refine pm_cVV (pc := 193) dX10_find_193 (c_mLoad g179 hI (h_sameA s a) (d := 0) (by decide) hY2) wq_X10_load wm_X10_241 wi_X10_load ws_X10_load rfl rfl ⟨Nat.le_of_ble_eq_true rfl, Nat.le_of_ble_eq_true rfl⟩ ⟨Nat.le_of_ble_eq_true rfl, Nat.le_of_ble_eq_true rfl⟩ rfl (Nat.le_of_ble_eq_true rfl) (fun I193 L193 q193 => ?_)
        obtain ⟨⟨g193, f193⟩, l193⟩ := q193
        subst l193
        refine pm_iconst (pc := 196) (v := nI 3) dX10_find_196 (by decide) ?_
        refine pm_iret (pc := 197) rfl (Nat.le_refl _) (Nat.le_refl _) dX10_find_197 ?_
        cases e : h_f i 0 (s_do (s_do s a) b) with
        | none => exact absurd (h_l0.mpr e) h188
        | some q =>
          rw [e] at hat r2
          rw [h_fst_some hltb hat] at hT
          rw [← hT] at hat2
          rw [h_fst_some hlt hat2] at hT2
          have hF : h_find s i = some (a :: b :: q) := by unfold h_find; rw [if_neg hw6, h0, h1, ← hT2]
          have hq := h_f_1 e
          have e9 : I193 59 = I179 59 := f193 59 (by decide) (by decide) (by decide)
          refine QI.r ⟨⟨by rw [hF, hq]; rfl, g193, hW2.u (fun d hd => f193 d (by omega) (by omega) (by omega)), fun t ht k hk => ?_⟩, rfl⟩
          rw [hF] at ht
          rw [← Option.some.inj ht] at hk ⊢
          rw [hq] at hk ⊢
          rw [e9]
          have hk2 : k < 3 := hk
          rcases (show k = 0 ∨ k = 1 ∨ k = 2 by omega) with z | z | z
          · subst z; exact r0
          · subst z; exact r1
          · subst z; exact r2
    · refine pm_iload (pc := 135) dX10_find_135 rfl ?_
      refine pm_sipush (pc := 137) (v := nI 3600) dX10_find_137 (by decide) ?_
      refine pm_icmp_ge (pc := 140) (tgt := 211) dX10_find_140 rfl (fun h140 => ?_) (fun h140 => (by simp (disch := omega) only [pm_eqI, pm_ltI, pm_leI, nI_toInt, pm_t0, pm_t1, pm_tm1] at h140; omega))
      refine pm_kill 4 ?_
      exact k211 J hJ hY hZ hW (by rw [← hT]; exact h_fst_end (by omega))
set_option maxRecDepth 100000 in
set_option maxHeartbeats 400000 in
theorem l_fd110 {I : pm_I} {L : pm_L} {s : gS} (hI : gInv s) {i : Nat} (hi : i < g_n s) (hw6 : g_wh s i ≠ 6) (h0 : h_f i 0 s = none) (h1 : h_f i 1 s = none) {la : Launch} {P : pm_E} : ∀ (m a : Nat), 3600 - a ≤ m → a ≤ 3600 → (a < 3600 → h_Vd s a) → h_fst (h_at i 2 s) (3600 - a) a = h_f i 2 s → ∀ J : pm_I, MG J s → h_Y s 0 J → h_W I J → PW la P yX10_find cX10_find 6 (some (.int)) (pm_rm 3 0 0) (pm_Tg P (QI GG (fun v I' L' => (v = h_n4 (h_find s i) ∧ h_E s i I I') ∧ L' = L)) 0 0) 0 0 110 [some (.ref 40), some (.int (nI i)), some (.int (nI a)), none, none, none] [] GG J L
  | 0, a, hm, ha, hv, hT, J, hJ, hY, hW => by
    have h12 := hI.n12
    refine pm_iload_n (pc := 110) dX10_find_110 rfl ?_
    refine pm_sipush (pc := 111) (v := nI 3600) dX10_find_111 (by decide) ?_
    refine pm_icmp_ge (pc := 114) (tgt := 227) dX10_find_114 rfl (fun h114 => ?_) (fun h114 => (by simp (disch := omega) only [pm_eqI, pm_ltI, pm_leI, nI_toInt, pm_t0, pm_t1, pm_tm1] at h114; omega))
    refine pm_iconst (pc := 227) (v := nI 4) dX10_find_227 (by decide) ?_
    refine pm_iret (pc := 228) rfl (Nat.le_refl _) (Nat.le_refl _) dX10_find_228 ?_
    have h2 : h_f i 2 s = none := by rw [← hT]; exact h_fst_end (by omega)
    have hF : h_find s i = none := by unfold h_find; rw [if_neg hw6, h0, h1, h2]
    exact QI.r ⟨⟨by rw [hF]; rfl, hJ, hW, fun t ht => by rw [hF] at ht; exact absurd ht (by simp)⟩, rfl⟩
  | m + 1, a, hm, ha, hv, hT, J, hJ, hY, hW => by
    have h12 := hI.n12
    by_cases hlt : a < 3600
    · have v := hv hlt
      have hI1 := gInv_do hI v.v.ok v.v.can
      have hat := h_at_s (i := i) (r := 1) v.v
      have k211 : ∀ J : pm_I, MG J (s_do s a) → h_Y s 0 J → h_Y (s_do s a) 1 J → h_W I J → h_f i 1 (s_do s a) = none → PW la P yX10_find cX10_find 6 (some (.int)) (pm_rm 3 0 0) (pm_Tg P (QI GG (fun v I' L' => (v = h_n4 (h_find s i) ∧ h_E s i I I') ∧ L' = L)) 0 0) 0 0 211 [some (.ref 40), some (.int (nI i)), some (.int (nI a)), none, none, none] [] GG J L := fun J hJ hY hZ hW hn1 => by
        refine pm_aload_n (pc := 211) dX10_find_211 rfl ?_
        refine pm_iconst (pc := 212) (v := nI 0) dX10_find_212 (by decide) ?_
        refine pm_cVV (pc := 213) dX10_find_213 (c_mLoad hJ hI (h_sameA s a) (d := 0) (by decide) hY) wq_X10_load wm_X10_241 wi_X10_load ws_X10_load rfl rfl ⟨Nat.le_of_ble_eq_true rfl, Nat.le_of_ble_eq_true rfl⟩ ⟨Nat.le_of_ble_eq_true rfl, Nat.le_of_ble_eq_true rfl⟩ rfl (Nat.le_of_ble_eq_true rfl) (fun I213 L213 q213 => ?_)
        obtain ⟨⟨g213, f213⟩, l213⟩ := q213
        subst l213
        refine pm_aload_n (pc := 216) dX10_find_216 rfl ?_
        refine pm_iload_n (pc := 217) dX10_find_217 rfl ?_
        refine pm_iconst (pc := 218) (v := nI 1) dX10_find_218 (by decide) ?_
        refine pm_iadd (pc := 219) dX10_find_219 ?_
        refine pm_top (nI_add _ _) ?_
        refine pm_cVR (pc := 220) dX10_find_220 (c_mNext g213 hI (c0 := a + 1) hlt) wq_X10_nextAct wm_X10_238 wi_X10_nextAct ws_X10_nextAct rfl rfl ⟨Nat.le_of_ble_eq_true rfl, Nat.le_of_ble_eq_true rfl⟩ ⟨Nat.le_of_ble_eq_true rfl, Nat.le_of_ble_eq_true rfl⟩ rfl (Nat.le_of_ble_eq_true rfl) ?_
        obtain ⟨nx, enx, n1, n2, n3, n4⟩ := h_nx_ex s (c := a + 1) hlt
        rw [← enx]
        refine pm_istore_n (pc := 223) dX10_find_223 (by decide) rfl ?_
        refine pm_goto (pc := 224) (tgt := 110) dX10_find_224 rfl ?_
        exact l_fd110 hI hi hw6 h0 h1 m nx (h_ms hm n1) n2 n3 ((n4 i 2).trans ((h_fst_1 (show h_at i 2 s a = none from hat.trans hn1)).symm.trans hT)) I213 g213 (hY.e (fun b hb => f213 b (by omega) (by omega) (by omega))) (hW.u (fun b hb => f213 b (by omega) (by omega) (by omega)))
      refine pm_iload_n (pc := 110) dX10_find_110 rfl ?_
      refine pm_sipush (pc := 111) (v := nI 3600) dX10_find_111 (by decide) ?_
      refine pm_icmp_ge (pc := 114) (tgt := 227) dX10_find_114 rfl (fun h114 => (by simp (disch := omega) only [pm_eqI, pm_ltI, pm_leI, nI_toInt, pm_t0, pm_t1, pm_tm1] at h114; omega)) (fun h114 => ?_)
      refine pm_aload_n (pc := 117) dX10_find_117 rfl ?_
      refine pm_iload_n (pc := 118) dX10_find_118 rfl ?_
      refine pm_cVI (pc := 119) dX10_find_119 (c_mDoAct hJ hI v.v.ok.W v.v.can) wq_X10_doAct wm_X10_223 wi_X10_doAct ws_X10_doAct rfl rfl ⟨Nat.le_of_ble_eq_true rfl, Nat.le_of_ble_eq_true rfl⟩ ⟨Nat.le_of_ble_eq_true rfl, Nat.le_of_ble_eq_true rfl⟩ rfl (Nat.le_of_ble_eq_true rfl) (fun r119 I119 L119 q119 => ?_)
      obtain ⟨er, ⟨g119, f119⟩, l119⟩ := q119
      subst l119
      refine pm_istore_n (pc := 122) dX10_find_122 (by decide) rfl ?_
      refine pm_aload_n (pc := 123) dX10_find_123 rfl ?_
      refine pm_iconst (pc := 124) (v := nI 1) dX10_find_124 (by decide) ?_
      refine pm_cVV (pc := 125) dX10_find_125 (c_mSave g119 hI1 (d := 1) (by decide)) wq_X10_save wm_X10_235 wi_X10_save ws_X10_save rfl rfl ⟨Nat.le_of_ble_eq_true rfl, Nat.le_of_ble_eq_true rfl⟩ ⟨Nat.le_of_ble_eq_true rfl, Nat.le_of_ble_eq_true rfl⟩ rfl (Nat.le_of_ble_eq_true rfl) (fun I125 L125 q125 => ?_)
      obtain ⟨⟨z125, f125, o125⟩, l125⟩ := q125
      subst l125
      have g125 : MG I125 (s_do s a) := g119.u9 (fun b h1 h2 => f125 b (by omega) (by omega) (by omega))
      have hY1 : h_Y s 0 I119 := hY.e (fun b hb => f119.1 b (by omega))
      have hY2 : h_Y s 0 I125 := by
        refine ⟨fun j hj => ?_, fun p hp => ⟨?_, fun k hk => ?_⟩⟩
        · rw [(o125 j 0 (by decide)).1 (by omega)]; exact hY1.1 j hj
        · rw [(o125 p 0 (by decide)).2.1 (by omega)]; exact (hY1.2 p hp).1
        · have := hI.len hp
          rw [(o125 (12 * p + k) 0 (by decide)).2.2 (by omega)]; exact (hY1.2 p hp).2 k hk
      have hW2 : h_W I I125 := (hW.m f119).u (fun b hb => f125 b (by omega) (by omega) (by omega))
      refine pm_aload_n (pc := 128) dX10_find_128 rfl ?_
      refine pm_iconst (pc := 129) (v := nI 0) dX10_find_129 (by decide) ?_
      refine pm_cVR (pc := 130) dX10_find_130 (c_mNext g125 hI1 (c0 := 0) (by decide)) wq_X10_nextAct wm_X10_238 wi_X10_nextAct ws_X10_nextAct rfl rfl ⟨Nat.le_of_ble_eq_true rfl, Nat.le_of_ble_eq_true rfl⟩ ⟨Nat.le_of_ble_eq_true rfl, Nat.le_of_ble_eq_true rfl⟩ rfl (Nat.le_of_ble_eq_true rfl) ?_
      obtain ⟨nx, enx, n1, n2, n3, n4⟩ := h_nx_ex (s_do s a) (c := 0) (Nat.zero_le _)
      rw [← enx]
      refine pm_istore (pc := 133) dX10_find_133 (by decide) rfl ?_
      refine pm_kill 3 ?_
      exact l_fd135 hI hi hw6 h0 h1 hlt v hT k211 3600 nx (Nat.sub_le _ _) n2 n3 ((n4 i 1).trans (h_f_eq i 1 (s_do s a)).symm) I125 g125 hY2 z125 hW2
    · refine pm_iload_n (pc := 110) dX10_find_110 rfl ?_
      refine pm_sipush (pc := 111) (v := nI 3600) dX10_find_111 (by decide) ?_
      refine pm_icmp_ge (pc := 114) (tgt := 227) dX10_find_114 rfl (fun h114 => ?_) (fun h114 => (by simp (disch := omega) only [pm_eqI, pm_ltI, pm_leI, nI_toInt, pm_t0, pm_t1, pm_tm1] at h114; omega))
      refine pm_iconst (pc := 227) (v := nI 4) dX10_find_227 (by decide) ?_
      refine pm_iret (pc := 228) rfl (Nat.le_refl _) (Nat.le_refl _) dX10_find_228 ?_
      have h2 : h_f i 2 s = none := by rw [← hT]; exact h_fst_end (by omega)
      have hF : h_find s i = none := by unfold h_find; rw [if_neg hw6, h0, h1, h2]
      exact QI.r ⟨⟨by rw [hF]; rfl, hJ, hW, fun t ht => by rw [hF] at ht; exact absurd ht (by simp)⟩, rfl⟩
set_option maxRecDepth 100000 in
set_option maxHeartbeats 400000 in
theorem c_mFind {I : pm_I} {L : pm_L} {s : gS} (hG : MG I s) (hI : gInv s) {i : Nat} (hi : i < g_n s) : PC 3 0 0 yX10_find cX10_find 6 (some (.int)) [.ref 40, .int (nI i)] GG I L (QI GG (fun v I' L' => (v = h_n4 (h_find s i) ∧ h_E s i I I') ∧ L' = L)) := by
  have h12 := hI.n12
  have h7 := (hI.2.1 i hi).2.2.2.2
  refine PC.of [some (.ref 40), some (.int (nI i)), none, none, none, none] (by decide) (Nat.le_of_ble_eq_true rfl) rfl (fun l P => ?_)
  refine pm_aload_n (pc := 0) dX10_find_0 rfl ?_
  refine pm_getr (pc := 1) (ci := 8) (C0 := RX10) (T := TX10) (N := 34) (j := 4) rfl rfl in_X10 (by decide) wf_X10_19 rfl dX10_find_1 ?_
  refine pm_iload_n (pc := 4) dX10_find_4 rfl ?_
  refine pm_iald (pc := 5) rfl (by omega) (by decide) dX10_find_5 ?_
  rw [hG.wh hi]
  refine pm_bipush (pc := 6) (v := nI 6) dX10_find_6 (by decide) ?_
  refine pm_icmp_ne (pc := 8) (tgt := 13) dX10_find_8 rfl (fun h8 => ?_) (fun h8 => ?_)
  · simp (disch := omega) only [pm_eqI, pm_ltI, pm_leI, nI_toInt, pm_t0, pm_t1, pm_tm1] at h8
    have hw6 : g_wh s i ≠ 6 := by omega
    refine pm_aload_n (pc := 13) dX10_find_13 rfl ?_
    refine pm_getr (pc := 14) (ci := 8) (C0 := RX10) (T := TX10) (N := 34) (j := 25) rfl rfl in_X10 (by decide) wf_X10_64 rfl dX10_find_14 ?_
    refine pm_iconst (pc := 17) (v := nI 0) dX10_find_17 (by decide) ?_
    refine pm_aload_n (pc := 18) dX10_find_18 rfl ?_
    refine pm_iload_n (pc := 19) dX10_find_19 rfl ?_
    refine pm_cVR (pc := 20) dX10_find_20 (c_mLast hG hI hi) wq_X10_lastAct wm_X10_232 wi_X10_lastAct ws_X10_lastAct rfl rfl ⟨Nat.le_of_ble_eq_true rfl, Nat.le_of_ble_eq_true rfl⟩ ⟨Nat.le_of_ble_eq_true rfl, Nat.le_of_ble_eq_true rfl⟩ rfl (Nat.le_of_ble_eq_true rfl) ?_
    refine pm_iast (pc := 23) rfl (by omega) (by decide) dX10_find_23 ?_
    refine pm_aload_n (pc := 24) dX10_find_24 rfl ?_
    refine pm_getr (pc := 25) (ci := 8) (C0 := RX10) (T := TX10) (N := 34) (j := 25) rfl rfl in_X10 (by decide) wf_X10_64 rfl dX10_find_25 ?_
    refine pm_iconst (pc := 28) (v := nI 0) dX10_find_28 (by decide) ?_
    refine pm_iald (pc := 29) rfl (by omega) (by decide) dX10_find_29 ?_
    refine pm_top (x' := h_l (h_f i 0 s)) (by rw [pm_us]; rfl) ?_
    refine pm_if_lt (pc := 30) (tgt := 35) dX10_find_30 rfl (fun h30 => ?_) (fun h30 => ?_)
    · have h0 : h_f i 0 s = none := h_l0.mp h30
      have gM : MG (pm_u I 59 (upd (I 59) 0 (h_l (h_f i 0 s)))) s := hG.u9 (fun b h1 h2 => pm_un (by omega))
      have wM : h_W I (pm_u I 59 (upd (I 59) 0 (h_l (h_f i 0 s)))) := h_W.rf.u (fun b hb => pm_un (by omega))
      refine pm_aload_n (pc := 35) dX10_find_35 rfl ?_
      refine pm_iconst (pc := 36) (v := nI 0) dX10_find_36 (by decide) ?_
      refine pm_cVV (pc := 37) dX10_find_37 (c_mSave gM hI (d := 0) (by decide)) wq_X10_save wm_X10_235 wi_X10_save ws_X10_save rfl rfl ⟨Nat.le_of_ble_eq_true rfl, Nat.le_of_ble_eq_true rfl⟩ ⟨Nat.le_of_ble_eq_true rfl, Nat.le_of_ble_eq_true rfl⟩ rfl (Nat.le_of_ble_eq_true rfl) (fun I37 L37 q37 => ?_)
      obtain ⟨⟨z37, f37, o37⟩, l37⟩ := q37
      subst l37
      have g37 : MG I37 s := gM.u9 (fun b h1 h2 => f37 b (by omega) (by omega) (by omega))
      have w37 : h_W I I37 := wM.u (fun b hb => f37 b (by omega) (by omega) (by omega))
      refine pm_aload_n (pc := 40) dX10_find_40 rfl ?_
      refine pm_iconst (pc := 41) (v := nI 0) dX10_find_41 (by decide) ?_
      refine pm_cVR (pc := 42) dX10_find_42 (c_mNext g37 hI (c0 := 0) (by decide)) wq_X10_nextAct wm_X10_238 wi_X10_nextAct ws_X10_nextAct rfl rfl ⟨Nat.le_of_ble_eq_true rfl, Nat.le_of_ble_eq_true rfl⟩ ⟨Nat.le_of_ble_eq_true rfl, Nat.le_of_ble_eq_true rfl⟩ rfl (Nat.le_of_ble_eq_true rfl) ?_
      obtain ⟨nx, enx, n1, n2, n3, n4⟩ := h_nx_ex s (c := 0) (Nat.zero_le _)
      rw [← enx]
      refine pm_istore_n (pc := 45) dX10_find_45 (by decide) rfl ?_
      refine l_fd46 hI hi hw6 h0 (fun J hJ hY hW h1 => ?_) 3600 nx (Nat.sub_le _ _) n2 n3 ((n4 i 1).trans (h_f_eq i 1 s).symm) I37 g37 z37 w37
      refine pm_aload_n (pc := 104) dX10_find_104 rfl ?_
      refine pm_iconst (pc := 105) (v := nI 0) dX10_find_105 (by decide) ?_
      refine pm_cVR (pc := 106) dX10_find_106 (c_mNext hJ hI (c0 := 0) (by decide)) wq_X10_nextAct wm_X10_238 wi_X10_nextAct ws_X10_nextAct rfl rfl ⟨Nat.le_of_ble_eq_true rfl, Nat.le_of_ble_eq_true rfl⟩ ⟨Nat.le_of_ble_eq_true rfl, Nat.le_of_ble_eq_true rfl⟩ rfl (Nat.le_of_ble_eq_true rfl) ?_
      obtain ⟨nx, enx, n1, n2, n3, n4⟩ := h_nx_ex s (c := 0) (Nat.zero_le _)
      rw [← enx]
      refine pm_istore_n (pc := 109) dX10_find_109 (by decide) rfl ?_
      exact l_fd110 hI hi hw6 h0 h1 3600 nx (Nat.sub_le _ _) n2 n3 ((n4 i 2).trans (h_f_eq i 2 s).symm) J hJ hY hW
    · refine pm_iconst (pc := 33) (v := nI 1) dX10_find_33 (by decide) ?_
      refine pm_iret (pc := 34) rfl (Nat.le_refl _) (Nat.le_refl _) dX10_find_34 ?_
      cases e : h_f i 0 s with
      | none => exact absurd (h_l0.mpr e) h30
      | some q =>
        have hF : h_find s i = some q := by unfold h_find; rw [if_neg hw6, e]
        have hq := h_f_1 e
        refine QI.r ⟨⟨by rw [hF, hq]; rfl, hG.u9 (fun b h1 h2 => pm_un (by omega)), h_W.rf.u (fun b hb => pm_un (by omega)), fun t ht k hk => ?_⟩, rfl⟩
        rw [hF] at ht
        rw [← Option.some.inj ht] at hk ⊢
        rw [hq] at hk ⊢
        have hk2 : k < 1 := hk
        have z : k = 0 := by omega
        subst z
        rw [pm_us]; rfl
  · simp (disch := omega) only [pm_eqI, pm_ltI, pm_leI, nI_toInt, pm_t0, pm_t1, pm_tm1] at h8
    have hF : h_find s i = some [] := if_pos (by omega)
    refine pm_iconst (pc := 11) (v := nI 0) dX10_find_11 (by decide) ?_
    refine pm_iret (pc := 12) rfl (Nat.le_refl _) (Nat.le_refl _) dX10_find_12 ?_
    rw [hF]
    exact QI.r ⟨⟨rfl, hG, h_W.rf, fun t ht k hk => by rw [hF] at ht; rw [← Option.some.inj ht] at hk; exact absurd hk (Nat.not_lt_zero _)⟩, rfl⟩
