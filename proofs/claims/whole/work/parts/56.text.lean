/-! what a tape tells: a place on it, and what was read (none: the place is a fault) -/
def z_skf (t : List Nat) : Nat → Nat → Nat
  | 0, a => a
  | k + 1, a => if a < t.length ∧ t.getD a 0 = 32 then z_skf t k (a + 1) else a
def z_sk (t : List Nat) (a : Nat) : Nat := z_skf t (t.length - a) a
abbrev z_ok (t : List Nat) : Prop := t.length ≤ 120 ∧ ∀ b, b ∈ t → 32 ≤ b ∧ b ≤ 126
theorem z_byte {t : List Nat} (h : z_ok t) {a : Nat} (ha : a < t.length) : 32 ≤ t.getD a 0 ∧ t.getD a 0 ≤ 126 := by
  rw [List.getD_eq_getElem?_getD, List.getElem?_eq_getElem ha]
  exact h.2 _ (List.getElem_mem ha)
theorem z_skf_sp (t : List Nat) : ∀ k a, a ≤ t.length → t.length ≤ a + k → a ≤ z_skf t k a ∧ z_skf t k a ≤ t.length ∧ (z_skf t k a < t.length → t.getD (z_skf t k a) 0 ≠ 32)
  | 0, a, h1, h2 => ⟨Nat.le_refl _, h1, fun z => by have z2 : a < t.length := z; omega⟩
  | k + 1, a, h1, h2 => by
    by_cases e : a < t.length ∧ t.getD a 0 = 32
    · have e1 : z_skf t (k + 1) a = z_skf t k (a + 1) := if_pos e
      obtain ⟨i1, i2, i3⟩ := z_skf_sp t k (a + 1) e.1 (by omega)
      rw [e1]
      exact ⟨by omega, i2, i3⟩
    · have e1 : z_skf t (k + 1) a = a := if_neg e
      rw [e1]
      exact ⟨Nat.le_refl _, h1, fun z y => e ⟨z, y⟩⟩
theorem z_sk_sp {t : List Nat} {a : Nat} (h : a ≤ t.length) : a ≤ z_sk t a ∧ z_sk t a ≤ t.length ∧ (z_sk t a < t.length → t.getD (z_sk t a) 0 ≠ 32) := z_skf_sp t _ a h (by omega)
theorem z_sk_b {t : List Nat} {a : Nat} (h : a < t.length) (hb : t.getD a 0 = 32) : z_sk t a = z_sk t (a + 1) := by
  unfold z_sk
  obtain ⟨k, hk⟩ : ∃ k, t.length - a = k + 1 := ⟨t.length - a - 1, by omega⟩
  rw [hk, show t.length - (a + 1) = k by omega]
  exact if_pos ⟨h, hb⟩
theorem z_sk_n {t : List Nat} {a : Nat} (h : ¬ (a < t.length ∧ t.getD a 0 = 32)) : z_sk t a = a := by
  unfold z_sk
  cases hk : t.length - a with
  | zero => rfl
  | succ k => exact if_neg h
theorem z_sk_i {t : List Nat} {a : Nat} (h : a ≤ t.length) : z_sk t (z_sk t a) = z_sk t a := by
  obtain ⟨_, _, h3⟩ := z_sk_sp h
  exact z_sk_n (fun z => h3 z.1 z.2)
/-- one sign -/
def z_p (t : List Nat) (f : Nat → Option Nat) (a : Nat) : Option Nat := if z_sk t a < t.length then f (t.getD (z_sk t a) 0) else none
def z_q (t : List Nat) (f : Nat → Option Nat) (a : Nat) : Nat := match z_p t f a with
  | none => z_sk t a
  | some _ => z_sk t a + 1
def z_ch (t : List Nat) (f : Nat → Option Nat) (a : Nat) : Nat × Option Nat := (z_q t f a, z_p t f a)
def z_bind {α β : Type} (r : Nat × Option α) (k : α → Nat → Nat × Option β) : Nat × Option β := match r.2 with
  | none => (r.1, none)
  | some v => k v r.1
theorem z_bind_n {α β : Type} {r : Nat × Option α} {k : α → Nat → Nat × Option β} (h : r.2 = none) : z_bind r k = (r.1, none) := by unfold z_bind; rw [h]
theorem z_bind_s {α β : Type} {r : Nat × Option α} {k : α → Nat → Nat × Option β} {v : α} (h : r.2 = some v) : z_bind r k = k v r.1 := by unfold z_bind; rw [h]
theorem z_q_n {t : List Nat} {f : Nat → Option Nat} {a : Nat} (h : z_p t f a = none) : z_q t f a = z_sk t a := by unfold z_q; rw [h]
theorem z_q_s {t : List Nat} {f : Nat → Option Nat} {a v : Nat} (h : z_p t f a = some v) : z_q t f a = z_sk t a + 1 := by unfold z_q; rw [h]
theorem z_q_le {t : List Nat} {f : Nat → Option Nat} {a : Nat} (h : a ≤ t.length) : a ≤ z_q t f a ∧ z_q t f a ≤ t.length := by
  obtain ⟨h1, h2, _⟩ := z_sk_sp h
  cases e : z_p t f a with
  | none => rw [z_q_n e]; exact ⟨h1, h2⟩
  | some v =>
    rw [z_q_s e]
    have : z_sk t a < t.length := by
      refine Classical.byContradiction (fun z => ?_)
      unfold z_p at e
      rw [if_neg z] at e; exact absurd e (by simp)
    omega
theorem z_q_lt {t : List Nat} {f : Nat → Option Nat} {a v : Nat} (h : a ≤ t.length) (e : z_p t f a = some v) : a + 1 ≤ z_q t f a := by
  obtain ⟨h1, h2, _⟩ := z_sk_sp h
  rw [z_q_s e]; omega
/-- the signs -/
def z_d (m c : Nat) : Option Nat := if 48 ≤ c ∧ c < 48 + m then some (c - 48) else none
def z_dw (w c : Nat) : Option Nat := if 48 ≤ c ∧ c < 54 ∧ c - 48 ≠ w then some (c - 48) else none
def z_l (n c : Nat) : Option Nat := if 97 ≤ c ∧ c < 97 + n then some (c - 97) else none
def z_m (m c : Nat) : Option Nat := if c = m then some 0 else none
def z_k (c : Nat) : Option Nat := if c = 99 then some 0 else if c = 107 then some 1 else if c = 108 then some 2 else if c = 114 then some 3 else none
def z_h (c : Nat) : Option Nat := if c = 108 then some 0 else if c = 100 then some 1 else if c = 115 then some 2 else if c = 112 then some 3 else none
/-- a number -/
def z_dg (t : List Nat) : Nat → Nat → Nat → Nat × Nat
  | 0, a, v => (a, v)
  | k + 1, a, v => if a < t.length ∧ 48 ≤ t.getD a 0 ∧ t.getD a 0 ≤ 57 then z_dg t k (a + 1) (if 100 < v * 10 + t.getD a 0 - 48 then 100 else v * 10 + t.getD a 0 - 48) else (a, v)
def z_dgs (t : List Nat) (a : Nat) : Nat × Nat := z_dg t (t.length - a) a 0
def z_num (t : List Nat) (a : Nat) : Nat × Option Nat := if 1 ≤ (z_dgs t (z_sk t a)).2 ∧ (z_dgs t (z_sk t a)).2 ≤ 99 then ((z_dgs t (z_sk t a)).1, some (z_dgs t (z_sk t a)).2) else (z_sk t a, none)
theorem z_dg_le (t : List Nat) : ∀ k a v, a ≤ t.length → v ≤ 100 → a ≤ (z_dg t k a v).1 ∧ (z_dg t k a v).1 ≤ t.length ∧ (z_dg t k a v).2 ≤ 100
  | 0, a, v, h, hv => ⟨Nat.le_refl _, h, hv⟩
  | k + 1, a, v, h, hv => by
    by_cases e : a < t.length ∧ 48 ≤ t.getD a 0 ∧ t.getD a 0 ≤ 57
    · have e1 : z_dg t (k + 1) a v = z_dg t k (a + 1) (if 100 < v * 10 + t.getD a 0 - 48 then 100 else v * 10 + t.getD a 0 - 48) := if_pos e
      obtain ⟨i1, i2, i3⟩ := z_dg_le t k (a + 1) (if 100 < v * 10 + t.getD a 0 - 48 then 100 else v * 10 + t.getD a 0 - 48) e.1 (by split <;> omega)
      rw [e1]
      exact ⟨by omega, i2, i3⟩
    · have e1 : z_dg t (k + 1) a v = (a, v) := if_neg e
      rw [e1]; exact ⟨Nat.le_refl _, h, hv⟩
theorem z_num_le {t : List Nat} {a : Nat} (h : a ≤ t.length) : a ≤ (z_num t a).1 ∧ (z_num t a).1 ≤ t.length ∧ ∀ v, (z_num t a).2 = some v → 1 ≤ v ∧ v ≤ 99 := by
  obtain ⟨h1, h2, _⟩ := z_sk_sp h
  obtain ⟨i1, i2, i3⟩ := z_dg_le t (t.length - z_sk t a) (z_sk t a) 0 h2 (by decide)
  unfold z_num
  by_cases e : 1 ≤ (z_dgs t (z_sk t a)).2 ∧ (z_dgs t (z_sk t a)).2 ≤ 99
  · rw [if_pos e]
    refine ⟨?_, i2, fun v hv => ?_⟩
    · exact Nat.le_trans h1 i1
    · rw [← Option.some.inj hv]; exact e
  · rw [if_neg e]
    exact ⟨h1, h2, fun v hv => absurd hv (by simp)⟩
/-- a sign and what follows it, or neither -/
def z_opt (t : List Nat) (m d : Nat) (f : Nat → Option Nat) (a : Nat) : Nat × Option Nat := if z_p t (z_m m) a = none then (z_sk t a, some d) else z_ch t f (z_q t (z_m m) a)
theorem z_opt_le {t : List Nat} {m d : Nat} {f : Nat → Option Nat} {a : Nat} (h : a ≤ t.length) : a ≤ (z_opt t m d f a).1 ∧ (z_opt t m d f a).1 ≤ t.length := by
  obtain ⟨h1, h2, _⟩ := z_sk_sp h
  unfold z_opt
  split
  · exact ⟨h1, h2⟩
  · have i1 := z_q_le (f := z_m m) h
    have i2 := z_q_le (f := f) i1.2
    exact ⟨Nat.le_trans i1.1 i2.1, i2.2⟩
abbrev z_P : Type := Nat × Nat × Nat × Nat
def z_pc (t : List Nat) (a : Nat) : Nat × Option z_P := z_bind (z_ch t z_k a) fun k a1 => z_bind (z_num t a1) fun w a2 => z_bind (z_opt t 116 0 (z_d 4) a2) fun o a3 => z_bind (z_opt t 64 6 (z_d 6) a3) fun p a4 => (a4, some (k, w, o, p))
def z_act (t : List Nat) (n a : Nat) : Nat × Option Nat := z_bind (z_ch t z_h a) fun h a1 =>
  if h = 1 then z_bind (z_ch t (z_l n) a1) fun i a2 => z_bind (z_ch t (z_m 62) a2) fun _ a3 => z_bind (z_ch t (z_d 6) a3) fun w a4 => (a4, some (1000 * 1 + 100 * w + i))
  else z_bind (z_ch t (z_d 6) a1) fun w a2 =>
    if h = 0 then (a2, some (1000 * 0 + 100 * w + 0))
    else if h = 2 then z_bind (z_ch t (z_m 61) a2) fun _ a3 => z_bind (z_ch t (z_l n) a3) fun o a4 => (a4, some (1000 * 2 + 100 * w + o))
    else z_bind (z_ch t (z_m 62) a2) fun _ a3 => z_bind (z_ch t (z_dw w) a3) fun o a4 => (a4, some (1000 * 3 + 100 * w + o))
def z_more {α : Type} (t : List Nat) (sep : Nat) (item : Nat → Nat × Option α) : Nat → Nat → Nat × Option (List α)
  | 0, a => if z_sk t a < t.length then (z_sk t a, none) else (z_sk t a, some [])
  | k + 1, a => if z_sk t a < t.length then (if t.getD (z_sk t a) 0 = sep then z_bind (item (z_sk t a + 1)) fun x a1 => z_bind (z_more t sep item k a1) fun l a2 => (a2, some (x :: l)) else (z_sk t a, none)) else (z_sk t a, some [])
def z_all {α : Type} (t : List Nat) (sep : Nat) (item : Nat → Nat × Option α) (k : Nat) : Nat × Option (List α) := z_bind (item 0) fun x a1 => z_bind (z_more t sep item k a1) fun l a2 => (a2, some (x :: l))
/-- the fault told -/
def z_F (a : Nat) : Int32 := -20 - nI a
theorem z_F_lt {a : Nat} (h : a ≤ 120) : z_F a < 0 := by
  unfold z_F
  rw [pm_ltI, fb_subI (by rw [nI_toInt (by omega)]; show -2147483648 ≤ (-20 : Int) - a; omega) (by rw [nI_toInt (by omega)]; show (-20 : Int) - a < 2147483648; omega), nI_toInt (by omega), pm_t0]
  show (-20 : Int) - a < 0
  omega
def z_lay : List z_P → gS → gS
  | [], s => s
  | x :: l, s => z_lay l (s_add s x.1 x.2.1 x.2.2.1 x.2.2.2)
def z_run : List Nat → gS → Nat × gS
  | [], s => (0, s)
  | c :: l, s => if (s_try s c).1 = 0 then ((z_run l (s_try s c).2).1 + 1, (z_run l (s_try s c).2).2) else (0, (s_try s c).2)
def z_heap (t : List Nat) : Nat × Option (List z_P) := z_all t 44 (z_pc t) 11
def z_night (t : List Nat) (n : Nat) : Nat × Option (List Nat) := z_all t 59 (z_act t n) 59
def sp_heap (X : xS) : Int32 × xS := match (z_heap (x_t X)).2 with
  | none => (z_F (z_heap (x_t X)).1, xt X [])
  | some l => (nI l.length, xt (xg X (z_lay l (s_clear (x_g X)))) [])
def sp_night (X : xS) : Int32 × xS := match (z_night (x_t X) (g_n (x_g X))).2 with
  | none => (z_F (z_night (x_t X) (g_n (x_g X))).1, xt X [])
  | some l => (nI (z_run l (x_g X)).1, xt (xg X (z_run l (x_g X)).2) [])
