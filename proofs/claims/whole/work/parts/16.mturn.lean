set_option maxRecDepth 100000 in
set_option maxHeartbeats 4000000 in
theorem c_mPut0 {I : pm_I} {L : pm_L} {a p m : Nat} (ha : a < 12) (hp : p < 6) (hm : I 45 p = nI m) (hl : m < 12) : PC 0 0 0 yX10_put cX10_put 3 none [.ref 40, .int (nI a), .int (nI p)] GG I L (QV GG (fun I' L' => I' = pm_u (pm_u (pm_u I 44 (upd (I 44) a (nI p))) 46 (upd (I 46) (12 * p + m) (nI a))) 45 (upd (I 45) p (nI (m + 1))) ∧ L' = L)) := by
  refine PC.of [some (.ref 40), some (.int (nI a)), some (.int (nI p))] (by decide) (Nat.le_of_ble_eq_true rfl) rfl (fun l P => ?_)
  refine pm_aload_n (pc := 0) dX10_put_0 rfl ?_
  refine pm_getr (pc := 1) (ci := 8) (C0 := RX10) (T := TX10) (N := 34) (j := 4) rfl rfl in_X10 (by decide) wf_X10_19 rfl dX10_put_1 ?_
  refine pm_iload_n (pc := 4) dX10_put_4 rfl ?_
  refine pm_iload_n (pc := 5) dX10_put_5 rfl ?_
  refine pm_iast (pc := 6) rfl (by omega) (by decide) dX10_put_6 ?_
  refine pm_aload_n (pc := 7) dX10_put_7 rfl ?_
  refine pm_getr (pc := 8) (ci := 8) (C0 := RX10) (T := TX10) (N := 34) (j := 6) rfl rfl in_X10 (by decide) wf_X10_25 rfl dX10_put_8 ?_
  refine pm_bipush (pc := 11) (v := nI 12) dX10_put_11 (by decide) ?_
  refine pm_iload_n (pc := 13) dX10_put_13 rfl ?_
  refine pm_imul (pc := 14) dX10_put_14 ?_
  refine pm_aload_n (pc := 15) dX10_put_15 rfl ?_
  refine pm_getr (pc := 16) (ci := 8) (C0 := RX10) (T := TX10) (N := 34) (j := 5) rfl rfl in_X10 (by decide) wf_X10_22 rfl dX10_put_16 ?_
  refine pm_iload_n (pc := 19) dX10_put_19 rfl ?_
  refine pm_iald (pc := 20) rfl (by omega) (by decide) dX10_put_20 ?_
  refine pm_iadd (pc := 21) dX10_put_21 ?_
  refine pm_top (x' := nI (12 * p + m)) (by show nI 12 * nI p + I 45 p = _; rw [hm, pk_mul, nI_add]) ?_
  refine pm_iload_n (pc := 22) dX10_put_22 rfl ?_
  refine pm_iast (pc := 23) rfl (by omega) (by decide) dX10_put_23 ?_
  refine pm_aload_n (pc := 24) dX10_put_24 rfl ?_
  refine pm_getr (pc := 25) (ci := 8) (C0 := RX10) (T := TX10) (N := 34) (j := 5) rfl rfl in_X10 (by decide) wf_X10_22 rfl dX10_put_25 ?_
  refine pm_iload_n (pc := 28) dX10_put_28 rfl ?_
  refine pm_dup2 (pc := 29) dX10_put_29 rfl rfl ?_
  refine pm_iald (pc := 30) rfl (by omega) (by decide) dX10_put_30 ?_
  refine pm_iconst (pc := 31) (v := nI 1) dX10_put_31 (by decide) ?_
  refine pm_iadd (pc := 32) dX10_put_32 ?_
  refine pm_top (x' := nI (m + 1)) (by show I 45 p + nI 1 = _; rw [hm, nI_add]) ?_
  refine pm_iast (pc := 33) rfl (by omega) (by decide) dX10_put_33 ?_
  refine pm_vret (pc := 34) rfl (Nat.le_refl _) (Nat.le_refl _) dX10_put_34 ?_
  exact QV.r ⟨rfl, rfl⟩
/-- the numbers that lie in places -/
def g_tot (s : gS) : Nat := fb_sm (fun p => (g_st s p).length) 6
theorem g_tot_eq {s : gS} (hI : gInv s) : g_tot s = fb_sm (fun j => if g_wh s j < 6 then 1 else 0) (g_n s) := by
  have h : ∀ m, m ≤ 6 → fb_sm (fun p => (g_st s p).length) m = fb_sm (fun j => if g_wh s j < m then 1 else 0) (g_n s) := by
    intro m
    induction m with
    | zero => intro _; rw [fb_sm_cong (g := fun _ => 0) (fun k _ => if_neg (Nat.not_lt_zero _)), fb_sm_const]; rfl
    | succ m ih =>
      intro hm
      rw [fb_sm_succ, ih (by omega)]
      have e1 : (g_st s m).length = fb_sm (fun j => if g_wh s j = m then 1 else 0) (g_n s) := by
        have := fb_stack (fun _ => 1) (hI.2.2 m (by omega)).2.1 (hI.2.2 m (by omega)).2.2
        rw [fb_sm_const] at this
        omega
      rw [e1, ← fb_sm_add]
      refine fb_sm_cong (fun k _ => ?_)
      by_cases e : g_wh s k < m
      · rw [if_pos e, if_neg (by omega), if_pos (by omega)]
      · by_cases e2 : g_wh s k = m
        · rw [if_neg e, if_pos e2, if_pos (by omega)]
        · rw [if_neg e, if_neg e2, if_neg (by omega)]
  exact h 6 (Nat.le_refl 6)
/-- what is turned over up to a place: the copies at 54 and 55; the new rows of the places below p -/
def MT (s : gS) (I : pm_I) (p : Nat) (J : pm_I) : Prop := (∀ q, q < 6 → J 55 q = nI (g_st s q).length ∧ ∀ k, k < (g_st s q).length → J 54 (12 * q + k) = nI (m_pl s q k)) ∧ (∀ q, q < p → J 45 q = nI (g_st s (5 - q)).length ∧ ∀ k, k < (g_st s (5 - q)).length → J 46 (12 * q + k) = nI ((g_st s (5 - q)).getD k 0)) ∧ (∀ j, j < g_n s → J 44 j = nI (if g_wh s j < 6 ∧ 5 - g_wh s j < p then 5 - g_wh s j else g_wh s j)) ∧ ∀ a, a ≠ 44 → a ≠ 45 → a ≠ 46 → a ≠ 54 → a ≠ 55 → J a = I a
/-- the same within a place, where t pieces have been put -/
def MT2 (s : gS) (I : pm_I) (p t : Nat) (J : pm_I) : Prop := (∀ q, q < 6 → J 55 q = nI (g_st s q).length ∧ ∀ k, k < (g_st s q).length → J 54 (12 * q + k) = nI (m_pl s q k)) ∧ (∀ q, q < p → J 45 q = nI (g_st s (5 - q)).length ∧ ∀ k, k < (g_st s (5 - q)).length → J 46 (12 * q + k) = nI ((g_st s (5 - q)).getD k 0)) ∧ (J 45 p = nI t ∧ ∀ k, k < t → J 46 (12 * p + k) = nI ((g_st s (5 - p)).getD k 0)) ∧ (∀ j, j < g_n s → J 44 j = nI (if g_wh s j < 6 ∧ 5 - g_wh s j < p ∨ g_wh s j = 5 - p ∧ (g_st s (5 - p)).idxOf j < t then 5 - g_wh s j else g_wh s j)) ∧ ∀ a, a ≠ 44 → a ≠ 45 → a ≠ 46 → a ≠ 54 → a ≠ 55 → J a = I a
theorem MT2_0 {s : gS} {I J : pm_I} {p : Nat} (h : MT s I p J) : MT2 s I p 0 (pm_u J 45 (upd (J 45) p (nI 0))) := by
  refine ⟨h.1, fun q hq => ⟨(pk_un (by omega)).trans (h.2.1 q hq).1, (h.2.1 q hq).2⟩, ⟨pk_us, fun k hk => absurd hk (Nat.not_lt_zero k)⟩, fun j hj => ?_, fun a h1 h2 h3 h4 h5 => (pm_un h2).trans (h.2.2.2 a h1 h2 h3 h4 h5)⟩
  rw [show (pm_u J 45 (upd (J 45) p (nI 0))) 44 j = J 44 j from rfl, h.2.2.1 j hj]
  congr 1
  by_cases e : g_wh s j < 6 ∧ 5 - g_wh s j < p
  · rw [if_pos e, if_pos (Or.inl e)]
  · rw [if_neg e, if_neg (fun z => z.elim e (fun y => absurd y.2 (Nat.not_lt_zero _)))]
theorem MT2_1 {s : gS} {I J : pm_I} {p : Nat} (hI : gInv s) (hp : p < 6) (h : MT2 s I p (g_st s (5 - p)).length J) : MT s I (p + 1) J := by
  refine ⟨h.1, fun q hq => ?_, fun j hj => ?_, h.2.2.2.2⟩
  · rcases (show q < p ∨ q = p by omega) with e | e
    · exact h.2.1 q e
    · subst e; exact h.2.2.1
  · rw [h.2.2.2.1 j hj]
    congr 1
    have hm := hI.mem (p := 5 - p) (by omega) (a := j)
    by_cases e : g_wh s j < 6 ∧ 5 - g_wh s j < p + 1
    · rw [if_pos e, if_pos]
      rcases (show 5 - g_wh s j < p ∨ g_wh s j = 5 - p by omega) with q | q
      · exact Or.inl ⟨e.1, q⟩
      · exact Or.inr ⟨q, List.idxOf_lt_length_of_mem (hm.mpr ⟨hj, q⟩)⟩
    · rw [if_neg e, if_neg (fun z => e (z.elim (fun y => ⟨y.1, by omega⟩) (fun y => ⟨by omega, by omega⟩)))]
theorem MT2_s {s : gS} {I J : pm_I} {p t : Nat} (hI : gInv s) (hp : p < 6) (ht : t < (g_st s (5 - p)).length) (h : MT2 s I p t J) : MT2 s I p (t + 1) (pm_u (pm_u (pm_u J 44 (upd (J 44) ((g_st s (5 - p)).getD t 0) (nI p))) 46 (upd (J 46) (12 * p + t) (nI ((g_st s (5 - p)).getD t 0)))) 45 (upd (J 45) p (nI (t + 1)))) := by
  have hl := hI.len (show 5 - p < 6 by omega)
  have h12 := hI.1
  have hget : (g_st s (5 - p)).getD t 0 = (g_st s (5 - p))[t] := by rw [List.getD_eq_getElem?_getD, List.getElem?_eq_getElem ht]; rfl
  have hmem : (g_st s (5 - p)).getD t 0 ∈ g_st s (5 - p) := by rw [hget]; exact List.getElem_mem ht
  have hw := (hI.mem (show 5 - p < 6 by omega)).mp hmem
  have hix : (g_st s (5 - p)).idxOf ((g_st s (5 - p)).getD t 0) = t := by rw [hget]; exact List.Nodup.idxOf_getElem (hI.2.2 (5 - p) (by omega)).2.1 t ht
  refine ⟨h.1, fun q hq => ⟨(pk_un (by omega)).trans (h.2.1 q hq).1, fun k hk => ?_⟩, ⟨pk_us, fun k hk => ?_⟩, fun j hj => ?_, fun a h1 h2 h3 h4 h5 => ((pm_un h2).trans ((pm_un h3).trans (pm_un h1))).trans (h.2.2.2.2 a h1 h2 h3 h4 h5)⟩
  · have hl2 := hI.len (show 5 - q < 6 by omega)
    exact (pk_un (by omega)).trans ((h.2.1 q hq).2 k hk)
  · show (if 12 * p + k = 12 * p + t then nI ((g_st s (5 - p)).getD t 0) else J 46 (12 * p + k)) = _
    by_cases e : k = t
    · rw [if_pos (by omega), e]
    · rw [if_neg (by omega)]; exact h.2.2.1.2 k (by omega)
  · show (if j = (g_st s (5 - p)).getD t 0 then nI p else J 44 j) = _
    by_cases e : j = (g_st s (5 - p)).getD t 0
    · rw [if_pos e, if_pos (Or.inr ⟨by rw [e]; exact hw.2, by rw [e, hix]; omega⟩)]
      congr 1
      rw [e, hw.2]; omega
    · rw [if_neg e, h.2.2.2.1 j hj]
      congr 1
      by_cases e2 : g_wh s j < 6 ∧ 5 - g_wh s j < p ∨ g_wh s j = 5 - p ∧ (g_st s (5 - p)).idxOf j < t
      · rw [if_pos e2, if_pos (e2.elim Or.inl (fun y => Or.inr ⟨y.1, by omega⟩))]
      · have hno : ¬ (g_wh s j < 6 ∧ 5 - g_wh s j < p ∨ g_wh s j = 5 - p ∧ (g_st s (5 - p)).idxOf j < t + 1) := by
          intro z
          rcases z with y | y
          · exact e2 (Or.inl y)
          · rcases (show (g_st s (5 - p)).idxOf j < t ∨ (g_st s (5 - p)).idxOf j = t by omega) with q | q
            · exact e2 (Or.inr ⟨y.1, q⟩)
            · refine e ?_
              have hj2 : (g_st s (5 - p)).idxOf j < (g_st s (5 - p)).length := by omega
              have := List.getElem_idxOf hj2
              rw [hget, ← this]
              simp only [q]
        rw [if_neg e2, if_neg hno]
theorem MT_end {s : gS} {I J : pm_I} (hG : MG I s) (hI : gInv s) (h : MT s I 6 J) : MG J (s_turn s) ∧ (∀ a : Nat, a < 40 ∨ 48 ≤ a → a ≠ 54 → a ≠ 55 → J a = I a) ∧ J 40 = I 40 := by
  have oth := h.2.2.2
  have e40 : J 40 = I 40 := oth 40 (by decide) (by decide) (by decide) (by decide) (by decide)
  refine ⟨⟨by rw [e40]; exact hG.n, by rw [e40]; exact hG.aw, fun j hj => ⟨?_, ?_, ?_, ?_⟩, fun q hq => ⟨?_, ?_, fun k hk => ?_⟩⟩, fun a ha h4 h5 => oth a (by omega) (by omega) (by omega) h4 h5, e40⟩
  · rw [oth 41 (by decide) (by decide) (by decide) (by decide) (by decide)]; exact hG.kd hj
  · rw [oth 42 (by decide) (by decide) (by decide) (by decide) (by decide)]; exact hG.wt hj
  · rw [oth 43 (by decide) (by decide) (by decide) (by decide) (by decide)]; exact hG.tw hj
  · rw [h.2.2.1 j hj]
    congr 1
    show _ = if g_wh s j < 6 then 5 - g_wh s j else g_wh s j
    by_cases e : g_wh s j < 6
    · rw [if_pos ⟨e, by omega⟩, if_pos e]
    · rw [if_neg (fun z => e z.1), if_neg e]
  · rw [(h.2.1 q hq).1]
    congr 1
    show _ = ((g_st s (5 - q)).reverse).length
    rw [List.length_reverse]
  · rw [oth 47 (by decide) (by decide) (by decide) (by decide) (by decide)]; exact hG.sn hq
  · have hk' : k < ((g_st s (5 - q)).reverse).length := hk
    rw [List.length_reverse] at hk'
    rw [(h.2.1 q hq).2 k hk']
    congr 1
    show _ = ((g_st s (5 - q)).reverse.reverse).getD k 0
    rw [List.reverse_reverse]
set_option maxRecDepth 100000 in
theorem l_mturn1 {I : pm_I} {L : pm_L} {s : gS} (hG : MG I s) (hI : gInv s) {l : Launch} {P : pm_E} {p : Nat} (hp : p < 6) (k117 : ∀ (J : pm_I), MT s I (p + 1) J → PW l P yX10_turn cX10_turn 4 (some (.int)) (pm_rm 1 0 0) (pm_Tg P (QI GG (fun r I' L' => r = nI (g_tot s) ∧ (MG I' (s_turn s) ∧ (∀ a : Nat, a < 40 ∨ 48 ≤ a → a ≠ 54 → a ≠ 55 → I' a = I a) ∧ I' 40 = I 40) ∧ L' = L)) 0 0) 0 0 117 [some (.ref 40), some (.int (nI (g_tot s))), some (.int (nI p)), none] [] GG J L) : ∀ (m t : Nat) (x : Int32) (J : pm_I), m + t = (g_st s (5 - p)).length → x.toInt = (m : Int) - 1 → MT2 s I p t J → PW l P yX10_turn cX10_turn 4 (some (.int)) (pm_rm 1 0 0) (pm_Tg P (QI GG (fun r I' L' => r = nI (g_tot s) ∧ (MG I' (s_turn s) ∧ (∀ a : Nat, a < 40 ∨ 48 ≤ a → a ≠ 54 → a ≠ 55 → I' a = I a) ∧ I' 40 = I 40) ∧ L' = L)) 0 0) 0 0 89 [some (.ref 40), some (.int (nI (g_tot s))), some (.int (nI p)), some (.int x)] [] GG J L
  | 0, t, x, J, hm, hx, hT => by
    have e : t = (g_st s (5 - p)).length := by omega
    subst e
    refine pm_iload_n (pc := 89) dX10_turn_89 rfl ?_
    refine pm_if_lt (pc := 90) (tgt := 117) dX10_turn_90 rfl (fun h90 => ?_) (fun h90 => absurd (by rw [pm_ltI, pm_t0]; omega) h90)
    refine pm_kill 3 ?_
    exact k117 J (MT2_1 hI hp hT)
  | m + 1, t, x, J, hm, hx, hT => by
    have h12 := hI.n12
    have hl := hI.len (show 5 - p < 6 by omega)
    have ex : x = nI m := by rw [pm_eqI, nI_toInt (by omega), hx]; omega
    subst ex
    have hmem : m < (g_st s (5 - p)).length := by omega
    have hv : J 54 (12 * (5 - p) + m) = nI ((g_st s (5 - p)).getD t 0) := by
      rw [(hT.1 (5 - p) (by omega)).2 m hmem]
      congr 1
      unfold m_pl
      rw [List.getD_eq_getElem?_getD, List.getElem?_reverse hmem, List.getD_eq_getElem?_getD]
      congr 2; omega
    have hb : (g_st s (5 - p)).getD t 0 < g_n s := by
      have ht : t < (g_st s (5 - p)).length := by omega
      rw [List.getD_eq_getElem?_getD, List.getElem?_eq_getElem ht]
      exact ((hI.mem (show 5 - p < 6 by omega)).mp (List.getElem_mem ht)).1
    refine pm_iload_n (pc := 89) dX10_turn_89 rfl ?_
    refine pm_if_lt (pc := 90) (tgt := 117) dX10_turn_90 rfl (fun h90 => (by simp (disch := omega) only [pm_eqI, pm_ltI, pm_leI, nI_toInt, pm_t0, pm_t1, pm_tm1] at h90; omega)) (fun h90 => ?_)
    refine pm_aload_n (pc := 93) dX10_turn_93 rfl ?_
    refine pm_aload_n (pc := 94) dX10_turn_94 rfl ?_
    refine pm_getr (pc := 95) (ci := 8) (C0 := RX10) (T := TX10) (N := 34) (j := 20) rfl rfl in_X10 (by decide) wf_X10_49 rfl dX10_turn_95 ?_
    refine pm_bipush (pc := 98) (v := nI 12) dX10_turn_98 (by decide) ?_
    refine pm_iconst (pc := 100) (v := nI 5) dX10_turn_100 (by decide) ?_
    refine pm_iload_n (pc := 101) dX10_turn_101 rfl ?_
    refine pm_isub (pc := 102) dX10_turn_102 ?_
    refine pm_imul (pc := 103) dX10_turn_103 ?_
    refine pm_iload_n (pc := 104) dX10_turn_104 rfl ?_
    refine pm_iadd (pc := 105) dX10_turn_105 ?_
    refine pm_top (x' := nI (12 * (5 - p) + m)) (by rw [pk_sub (by omega), pk_mul, nI_add]) ?_
    refine pm_iald (pc := 106) rfl (by omega) (by decide) dX10_turn_106 ?_
    rw [hv]
    refine pm_iload_n (pc := 107) dX10_turn_107 rfl ?_
    refine pm_cVV (pc := 108) dX10_turn_108 (c_mPut0 (by omega) hp hT.2.2.1.1 (by omega)) wq_X10_put wm_X10_100 wi_X10_put ws_X10_put rfl rfl ⟨Nat.le_of_ble_eq_true rfl, Nat.le_of_ble_eq_true rfl⟩ ⟨Nat.le_of_ble_eq_true rfl, Nat.le_of_ble_eq_true rfl⟩ rfl (Nat.le_of_ble_eq_true rfl) (fun I108 L108 q108 => ?_)
    obtain ⟨qx, ql⟩ := q108
    subst ql; subst qx
    refine pm_iinc (pc := 111) dX10_turn_111 rfl rfl (by decide) rfl ?_
    refine pm_goto (pc := 114) (tgt := 89) dX10_turn_114 rfl ?_
    exact l_mturn1 hG hI hp k117 m (t + 1) _ _ (by omega) (by rw [show Int32.ofInt (-1) = -1 by decide, fb_addI (by rw [nI_toInt (by omega), pm_tm1]; omega) (by rw [nI_toInt (by omega), pm_tm1]; omega), nI_toInt (by omega), pm_tm1]; omega) (MT2_s hI hp (by omega) hT)
set_option maxRecDepth 100000 in
theorem l_mturn2 {I : pm_I} {L : pm_L} {s : gS} (hG : MG I s) (hI : gInv s) {l : Launch} {P : pm_E} : ∀ (m p : Nat) (J : pm_I), p + m = 6 → MT s I p J → PW l P yX10_turn cX10_turn 4 (some (.int)) (pm_rm 1 0 0) (pm_Tg P (QI GG (fun r I' L' => r = nI (g_tot s) ∧ (MG I' (s_turn s) ∧ (∀ a : Nat, a < 40 ∨ 48 ≤ a → a ≠ 54 → a ≠ 55 → I' a = I a) ∧ I' 40 = I 40) ∧ L' = L)) 0 0) 0 0 65 [some (.ref 40), some (.int (nI (g_tot s))), some (.int (nI p)), none] [] GG J L
  | 0, p, J, hm, hT => by
    have e : p = 6 := by omega
    subst e
    refine pm_iload_n (pc := 65) dX10_turn_65 rfl ?_
    refine pm_bipush (pc := 66) (v := nI 6) dX10_turn_66 (by decide) ?_
    refine pm_icmp_ge (pc := 68) (tgt := 123) dX10_turn_68 rfl (fun h68 => ?_) (fun h68 => (by simp (disch := omega) only [pm_eqI, pm_ltI, pm_leI, nI_toInt, pm_t0, pm_t1, pm_tm1] at h68; omega))
    refine pm_iload_n (pc := 123) dX10_turn_123 rfl ?_
    refine pm_iret (pc := 124) rfl (Nat.le_refl _) (Nat.le_refl _) dX10_turn_124 ?_
    exact QI.r ⟨rfl, MT_end hG hI hT, rfl⟩
  | m + 1, p, J, hm, hT => by
    have h12 := hI.n12
    have hl := hI.len (show 5 - p < 6 by omega)
    refine pm_iload_n (pc := 65) dX10_turn_65 rfl ?_
    refine pm_bipush (pc := 66) (v := nI 6) dX10_turn_66 (by decide) ?_
    refine pm_icmp_ge (pc := 68) (tgt := 123) dX10_turn_68 rfl (fun h68 => (by simp (disch := omega) only [pm_eqI, pm_ltI, pm_leI, nI_toInt, pm_t0, pm_t1, pm_tm1] at h68; omega)) (fun h68 => ?_)
    refine pm_aload_n (pc := 71) dX10_turn_71 rfl ?_
    refine pm_getr (pc := 72) (ci := 8) (C0 := RX10) (T := TX10) (N := 34) (j := 5) rfl rfl in_X10 (by decide) wf_X10_22 rfl dX10_turn_72 ?_
    refine pm_iload_n (pc := 75) dX10_turn_75 rfl ?_
    refine pm_iconst (pc := 76) (v := nI 0) dX10_turn_76 (by decide) ?_
    refine pm_iast (pc := 77) rfl (by omega) (by decide) dX10_turn_77 ?_
    refine pm_aload_n (pc := 78) dX10_turn_78 rfl ?_
    refine pm_getr (pc := 79) (ci := 8) (C0 := RX10) (T := TX10) (N := 34) (j := 21) rfl rfl in_X10 (by decide) wf_X10_52 rfl dX10_turn_79 ?_
    refine pm_iconst (pc := 82) (v := nI 5) dX10_turn_82 (by decide) ?_
    refine pm_iload_n (pc := 83) dX10_turn_83 rfl ?_
    refine pm_isub (pc := 84) dX10_turn_84 ?_
    refine pm_top (pk_sub (by omega)) ?_
    refine pm_iald (pc := 85) rfl (by omega) (by decide) dX10_turn_85 ?_
    refine pm_top (x' := nI (g_st s (5 - p)).length) (hT.1 (5 - p) (by omega)).1 ?_
    refine pm_iconst (pc := 86) (v := nI 1) dX10_turn_86 (by decide) ?_
    refine pm_isub (pc := 87) dX10_turn_87 ?_
    refine pm_istore_n (pc := 88) dX10_turn_88 (by decide) rfl ?_
    refine l_mturn1 hG hI (show p < 6 by omega) (fun J2 hJ => ?_) (g_st s (5 - p)).length 0 _ _ (by omega) (by rw [fb_subI (by rw [nI_toInt (by omega), nI_toInt (by decide)]; omega) (by rw [nI_toInt (by omega), nI_toInt (by decide)]; omega), nI_toInt (by omega), nI_toInt (by decide)]; rfl) (MT2_0 hT)
    refine pm_iinc (pc := 117) dX10_turn_117 rfl (pm_inc1 _) (by decide) rfl ?_
    refine pm_goto (pc := 120) (tgt := 65) dX10_turn_120 rfl ?_
    exact l_mturn2 hG hI m (p + 1) J2 (by omega) hJ
set_option maxRecDepth 100000 in
theorem c_mTurn {I : pm_I} {L : pm_L} {s : gS} (hG : MG I s) (hI : gInv s) : PC 1 0 0 yX10_turn cX10_turn 4 (some (.int)) [.ref 40] GG I L (QI GG (fun r I' L' => r = nI (g_tot s) ∧ (MG I' (s_turn s) ∧ (∀ a : Nat, a < 40 ∨ 48 ≤ a → a ≠ 54 → a ≠ 55 → I' a = I a) ∧ I' 40 = I 40) ∧ L' = L)) := by
  have h12 := hI.n12
  refine PC.of [some (.ref 40), none, none, none] (by decide) (Nat.le_of_ble_eq_true rfl) rfl (fun l P => ?_)
  have hu : ∀ (F g : Nat → Int32) (i : Nat), upd (fa_fill F g i) i (F i) = fa_fill F g (i + 1) := fun F g i => fa_fill_succ F g i
  have lp2 : ∀ (m i : Nat), i + m = 6 → PW l P yX10_turn cX10_turn 4 (some (.int)) (pm_rm 1 0 0) (pm_Tg P (QI GG (fun r I' L' => r = nI (g_tot s) ∧ (MG I' (s_turn s) ∧ (∀ a : Nat, a < 40 ∨ 48 ≤ a → a ≠ 54 → a ≠ 55 → I' a = I a) ∧ I' 40 = I 40) ∧ L' = L)) 0 0) 0 0 30 [some (.ref 40), some (.int (nI (fb_sm (fun p => (g_st s p).length) i))), some (.int (nI i)), none] [] GG (pm_u (pm_u I 54 (fa_fill (I 46) (I 54) 72)) 55 (fa_fill (I 45) (I 55) i)) L := by
    intro m
    induction m with
    | zero =>
      intro i hm
      have e : i = 6 := by omega
      subst e
      refine pm_iload_n (pc := 30) dX10_turn_30 rfl ?_
      refine pm_bipush (pc := 31) (v := nI 6) dX10_turn_31 (by decide) ?_
      refine pm_icmp_ge (pc := 33) (tgt := 63) dX10_turn_33 rfl (fun h33 => ?_) (fun h33 => (by simp (disch := omega) only [pm_eqI, pm_ltI, pm_leI, nI_toInt, pm_t0, pm_t1, pm_tm1] at h33; omega))
      refine pm_iconst (pc := 63) (v := nI 0) dX10_turn_63 (by decide) ?_
      refine pm_istore_n (pc := 64) dX10_turn_64 (by decide) rfl ?_
      refine l_mturn2 hG hI 6 0 _ (by omega) ⟨fun q hq => ⟨?_, fun k hk => ?_⟩, fun q hq => absurd hq (Nat.not_lt_zero q), fun j hj => ?_, fun a h1 h2 h3 h4 h5 => (pm_un h5).trans (pm_un h4)⟩
      · show fa_fill (I 45) (I 55) 6 q = _
        rw [fa_fill_in hq]; exact hG.mn hq
      · show fa_fill (I 46) (I 54) 72 (12 * q + k) = _
        have := hI.len hq
        rw [fa_fill_in (by omega)]; exact hG.pl hq hk
      · show I 44 j = _
        rw [hG.wh hj, if_neg (fun z => Nat.not_lt_zero _ z.2)]
    | succ m ih =>
      intro i hm
      have k9 := ih (i + 1) (by omega)
      rw [← hu (I 45) (I 55) i, fb_sm_succ, ← nI_add] at k9
      refine pm_iload_n (pc := 30) dX10_turn_30 rfl ?_
      refine pm_bipush (pc := 31) (v := nI 6) dX10_turn_31 (by decide) ?_
      refine pm_icmp_ge (pc := 33) (tgt := 63) dX10_turn_33 rfl (fun h33 => (by simp (disch := omega) only [pm_eqI, pm_ltI, pm_leI, nI_toInt, pm_t0, pm_t1, pm_tm1] at h33; omega)) (fun h33 => ?_)
      refine pm_aload_n (pc := 36) dX10_turn_36 rfl ?_
      refine pm_getr (pc := 37) (ci := 8) (C0 := RX10) (T := TX10) (N := 34) (j := 21) rfl rfl in_X10 (by decide) wf_X10_52 rfl dX10_turn_37 ?_
      refine pm_iload_n (pc := 40) dX10_turn_40 rfl ?_
      refine pm_aload_n (pc := 41) dX10_turn_41 rfl ?_
      refine pm_getr (pc := 42) (ci := 8) (C0 := RX10) (T := TX10) (N := 34) (j := 5) rfl rfl in_X10 (by decide) wf_X10_22 rfl dX10_turn_42 ?_
      refine pm_iload_n (pc := 45) dX10_turn_45 rfl ?_
      refine pm_iald (pc := 46) rfl (by omega) (by decide) dX10_turn_46 ?_
      refine pm_iast (pc := 47) rfl (by omega) (by decide) dX10_turn_47 ?_
      refine pm_iload_n (pc := 48) dX10_turn_48 rfl ?_
      refine pm_aload_n (pc := 49) dX10_turn_49 rfl ?_
      refine pm_getr (pc := 50) (ci := 8) (C0 := RX10) (T := TX10) (N := 34) (j := 5) rfl rfl in_X10 (by decide) wf_X10_22 rfl dX10_turn_50 ?_
      refine pm_iload_n (pc := 53) dX10_turn_53 rfl ?_
      refine pm_iald (pc := 54) rfl (by omega) (by decide) dX10_turn_54 ?_
      refine pm_top (x' := nI (g_st s i).length) (hG.mn (show i < 6 by omega)) ?_
      refine pm_iadd (pc := 55) dX10_turn_55 ?_
      refine pm_istore_n (pc := 56) dX10_turn_56 (by decide) rfl ?_
      refine pm_iinc (pc := 57) dX10_turn_57 rfl (pm_inc1 _) (by decide) rfl ?_
      refine pm_goto (pc := 60) (tgt := 30) dX10_turn_60 rfl ?_
      refine pm_eq rfl rfl rfl ?_ rfl k9
      rw [pm_u2]; rfl
  have lp1 : ∀ (m i : Nat), i + m = 72 → PW l P yX10_turn cX10_turn 4 (some (.int)) (pm_rm 1 0 0) (pm_Tg P (QI GG (fun r I' L' => r = nI (g_tot s) ∧ (MG I' (s_turn s) ∧ (∀ a : Nat, a < 40 ∨ 48 ≤ a → a ≠ 54 → a ≠ 55 → I' a = I a) ∧ I' 40 = I 40) ∧ L' = L)) 0 0) 0 0 4 [some (.ref 40), some (.int (nI 0)), some (.int (nI i)), none] [] GG (pm_u I 54 (fa_fill (I 46) (I 54) i)) L := by
    intro m
    induction m with
    | zero =>
      intro i hm
      have e : i = 72 := by omega
      subst e
      refine pm_iload_n (pc := 4) dX10_turn_4 rfl ?_
      refine pm_bipush (pc := 5) (v := nI 72) dX10_turn_5 (by decide) ?_
      refine pm_icmp_ge (pc := 7) (tgt := 28) dX10_turn_7 rfl (fun h7 => ?_) (fun h7 => (by simp (disch := omega) only [pm_eqI, pm_ltI, pm_leI, nI_toInt, pm_t0, pm_t1, pm_tm1] at h7; omega))
      refine pm_iconst (pc := 28) (v := nI 0) dX10_turn_28 (by decide) ?_
      refine pm_istore_n (pc := 29) dX10_turn_29 (by decide) rfl ?_
      have k9 := lp2 6 0 (by omega)
      rw [show fa_fill (I 45) (I 55) 0 = I 55 from fa_fill_0 _ _, show pm_u (pm_u I 54 (fa_fill (I 46) (I 54) 72)) 55 (I 55) = pm_u I 54 (fa_fill (I 46) (I 54) 72) from pm_uu (pm_u I 54 (fa_fill (I 46) (I 54) 72)) 55] at k9
      exact k9
    | succ m ih =>
      intro i hm
      have k9 := ih (i + 1) (by omega)
      rw [← hu] at k9
      refine pm_iload_n (pc := 4) dX10_turn_4 rfl ?_
      refine pm_bipush (pc := 5) (v := nI 72) dX10_turn_5 (by decide) ?_
      refine pm_icmp_ge (pc := 7) (tgt := 28) dX10_turn_7 rfl (fun h7 => (by simp (disch := omega) only [pm_eqI, pm_ltI, pm_leI, nI_toInt, pm_t0, pm_t1, pm_tm1] at h7; omega)) (fun h7 => ?_)
      refine pm_aload_n (pc := 10) dX10_turn_10 rfl ?_
      refine pm_getr (pc := 11) (ci := 8) (C0 := RX10) (T := TX10) (N := 34) (j := 20) rfl rfl in_X10 (by decide) wf_X10_49 rfl dX10_turn_11 ?_
      refine pm_iload_n (pc := 14) dX10_turn_14 rfl ?_
      refine pm_aload_n (pc := 15) dX10_turn_15 rfl ?_
      refine pm_getr (pc := 16) (ci := 8) (C0 := RX10) (T := TX10) (N := 34) (j := 6) rfl rfl in_X10 (by decide) wf_X10_25 rfl dX10_turn_16 ?_
      refine pm_iload_n (pc := 19) dX10_turn_19 rfl ?_
      refine pm_iald (pc := 20) rfl (by omega) (by decide) dX10_turn_20 ?_
      refine pm_iast (pc := 21) rfl (by omega) (by decide) dX10_turn_21 ?_
      refine pm_iinc (pc := 22) dX10_turn_22 rfl (pm_inc1 _) (by decide) rfl ?_
      refine pm_goto (pc := 25) (tgt := 4) dX10_turn_25 rfl ?_
      refine pm_eq rfl rfl rfl ?_ rfl k9
      rw [pm_u2]; rfl
  refine pm_iconst (pc := 0) (v := nI 0) dX10_turn_0 (by decide) ?_
  refine pm_istore_n (pc := 1) dX10_turn_1 (by decide) rfl ?_
  refine pm_iconst (pc := 2) (v := nI 0) dX10_turn_2 (by decide) ?_
  refine pm_istore_n (pc := 3) dX10_turn_3 (by decide) rfl ?_
  have k9 := lp1 72 0 (by omega)
  rw [show fa_fill (I 46) (I 54) 0 = I 54 from fa_fill_0 _ _, pm_uu] at k9
  exact k9
