/-! The abstract state: what the objects of the program hold, and the predicate CV that says that a heap shows it. Written by wip/whole/gen/cv.py. -/
/-- a message: kind, client, file, number, mode, flag, page, value, four pages -/
abbrev ab_M : Type := Nat × Nat × Nat × Int32 × Nat × Bool × Nat × Int32 × (Nat → Int32)
def am_k (m : ab_M) : Nat := m.1
def am_c (m : ab_M) : Nat := m.2.1
def am_f (m : ab_M) : Nat := m.2.2.1
def am_n (m : ab_M) : Int32 := m.2.2.2.1
def am_m (m : ab_M) : Nat := m.2.2.2.2.1
def am_y (m : ab_M) : Bool := m.2.2.2.2.2.1
def am_p (m : ab_M) : Nat := m.2.2.2.2.2.2.1
def am_v (m : ab_M) : Int32 := m.2.2.2.2.2.2.2.1
def am_4 (m : ab_M) : Nat → Int32 := m.2.2.2.2.2.2.2.2
/-- a write: file, page, value -/
abbrev ab_W : Type := Nat × Nat × Int32
/-- a copy: mode, valid until, recalled, lost, pages -/
abbrev ab_P : Type := Nat × Int32 × Bool × Bool × (Nat → Int32)
/-- a client: up, now, latest number, open, since, copies, writes -/
abbrev ab_C : Type := Bool × Int32 × Int32 × Option ab_M × Int32 × (Nat → ab_P) × List ab_W
/-- all: length, messages, server's up, now, grace, grace's end, pages, modes, ends, latest replies, lines, clients -/
abbrev ab_A : Type := Nat × List ab_M × Bool × Int32 × Bool × Int32 × (Nat → Nat → Int32) × (Nat → Nat → Nat) × (Nat → Nat → Int32) × (Nat → Option ab_M) × (Nat → List ab_M) × (Nat → ab_C)
def aa_L (a : ab_A) : Nat := a.1
def aa_n (a : ab_A) : List ab_M := a.2.1
def aa_su (a : ab_A) : Bool := a.2.2.1
def aa_sn (a : ab_A) : Int32 := a.2.2.2.1
def aa_sg (a : ab_A) : Bool := a.2.2.2.2.1
def aa_se (a : ab_A) : Int32 := a.2.2.2.2.2.1
def aa_pg (a : ab_A) : Nat → Nat → Int32 := a.2.2.2.2.2.2.1
def aa_md (a : ab_A) : Nat → Nat → Nat := a.2.2.2.2.2.2.2.1
def aa_en (a : ab_A) : Nat → Nat → Int32 := a.2.2.2.2.2.2.2.2.1
def aa_sd (a : ab_A) : Nat → Option ab_M := a.2.2.2.2.2.2.2.2.2.1
def aa_ln (a : ab_A) : Nat → List ab_M := a.2.2.2.2.2.2.2.2.2.2.1
def aa_C (a : ab_A) : Nat → ab_C := a.2.2.2.2.2.2.2.2.2.2.2
def fu {α : Type} (f : Nat → α) (i : Nat) (v : α) : Nat → α := fun j => if j = i then v else f j
theorem fu_at {α : Type} (f : Nat → α) (i : Nat) (v : α) : fu f i v i = v := if_pos rfl
theorem fu_ne {α : Type} (f : Nat → α) {i j : Nat} (v : α) (h : ¬ j = i) : fu f i v j = f j := if_neg h
theorem fu_id {α : Type} (f : Nat → α) (i : Nat) : fu f i (f i) = f := by
  funext j
  unfold fu
  by_cases e : j = i
  · rw [if_pos e, e]
  · rw [if_neg e]
theorem fu_fu {α : Type} (f : Nat → α) (i : Nat) (v w : α) : fu (fu f i v) i w = fu f i w := by
  funext j
  unfold fu
  by_cases e : j = i
  · rw [if_pos e, if_pos e]
  · rw [if_neg e, if_neg e, if_neg e]
/-- what was made before, and the reference, stands as it was -/
def hp_le (h h' : ha_H) : Prop := hp_n h ≤ hp_n h' ∧ ∀ x, 62 ≤ x → x < hp_n h → (∀ y, hp_I h' x y = hp_I h x y) ∧ (∀ y, hp_R h' x y = hp_R h x y) ∧ hp_S h' x = hp_S h x
def hp_dy (h h' : ha_H) : Prop := hp_n h ≤ hp_n h' ∧ ∀ x, 103 ≤ x → x < hp_n h → (∀ y, hp_I h' x y = hp_I h x y) ∧ (∀ y, hp_R h' x y = hp_R h x y) ∧ hp_S h' x = hp_S h x
theorem le_dy {h h' : ha_H} (l : hp_le h h') : hp_dy h h' := ⟨l.1, fun x h1 h2 => l.2 x (by omega) h2⟩
theorem le_rf (h : ha_H) : hp_le h h := ⟨Nat.le_refl _, fun _ _ _ => ⟨fun _ => rfl, fun _ => rfl, rfl⟩⟩
theorem le_tr {h1 h2 h3 : ha_H} (a : hp_le h1 h2) (b : hp_le h2 h3) : hp_le h1 h3 := ⟨Nat.le_trans a.1 b.1, fun x q1 q2 => ⟨fun y => ((b.2 x q1 (Nat.lt_of_lt_of_le q2 a.1)).1 y).trans ((a.2 x q1 q2).1 y), fun y => ((b.2 x q1 (Nat.lt_of_lt_of_le q2 a.1)).2.1 y).trans ((a.2 x q1 q2).2.1 y), ((b.2 x q1 (Nat.lt_of_lt_of_le q2 a.1)).2.2).trans (a.2 x q1 q2).2.2⟩⟩
theorem le_sI {h : ha_H} {A k : Nat} {v : Int32} (hA : A < 62) : hp_le h (hp_sI h A k v) := ⟨Nat.le_refl _, fun x h1 _ => ⟨fun y => by rw [hp_I_sI, if_neg (by omega)], fun _ => rfl, rfl⟩⟩
theorem le_sR {h : ha_H} {A k : Nat} {v : Option Nat} (hA : A < 62) : hp_le h (hp_sR h A k v) := ⟨Nat.le_refl _, fun x h1 _ => ⟨fun _ => rfl, fun y => by rw [hp_R_sR, if_neg (by omega)], rfl⟩⟩
/-- all that was made before stands as it was -/
def hp_gr (h h' : ha_H) : Prop := hp_n h ≤ hp_n h' ∧ ∀ x, x < hp_n h → (∀ y, hp_I h' x y = hp_I h x y) ∧ (∀ y, hp_R h' x y = hp_R h x y) ∧ hp_S h' x = hp_S h x
theorem gx_le {h h' : ha_H} (g : hp_gr h h') : hp_le h h' := ⟨g.1, fun x _ h2 => g.2 x h2⟩
theorem gx_rf (h : ha_H) : hp_gr h h := ⟨Nat.le_refl _, fun _ _ => ⟨fun _ => rfl, fun _ => rfl, rfl⟩⟩
theorem gx_new {g h : ha_H} {s : (Nat × Nat) ⊕ Nat} (q : hp_gr g h) : hp_gr g (hp_new h s) := ⟨Nat.le_succ_of_le q.1, fun x hx => by
  have hne : ¬ x = hp_n h := by have := q.1; omega
  exact ⟨fun y => by rw [hp_I_new, if_neg hne]; exact (q.2 x hx).1 y, fun y => by rw [hp_R_new, if_neg hne]; exact (q.2 x hx).2.1 y, by rw [hp_S_new, if_neg hne]; exact (q.2 x hx).2.2⟩⟩
theorem gx_cl {g h : ha_H} {b : Nat} (q : hp_gr g h) : hp_gr g (hp_cl h b) := ⟨Nat.le_succ_of_le q.1, fun x hx => by
  have hne : ¬ x = hp_n h := by have := q.1; omega
  exact ⟨fun y => by rw [hp_I_cl, if_neg hne]; exact (q.2 x hx).1 y, fun y => (q.2 x hx).2.1 y, by rw [hp_S_cl, if_neg hne]; exact (q.2 x hx).2.2⟩⟩
theorem gx_sI {g h : ha_H} {A k : Nat} {v : Int32} (q : hp_gr g h) (hA : hp_n g ≤ A) : hp_gr g (hp_sI h A k v) := ⟨q.1, fun x hx => ⟨fun y => by rw [hp_I_sI, if_neg (by omega)]; exact (q.2 x hx).1 y, (q.2 x hx).2.1, (q.2 x hx).2.2⟩⟩
theorem gx_sR {g h : ha_H} {A k : Nat} {v : Option Nat} (q : hp_gr g h) (hA : hp_n g ≤ A) : hp_gr g (hp_sR h A k v) := ⟨q.1, fun x hx => ⟨(q.2 x hx).1, fun y => by rw [hp_R_sR, if_neg (by omega)]; exact (q.2 x hx).2.1 y, (q.2 x hx).2.2⟩⟩
/-- an object that is a message -/
def cv_M (h : ha_H) (i : Nat) (m : ab_M) : Prop := (103 ≤ i ∧ i < hp_n h) ∧ (hp_I h i 0 = nI (am_k m) ∧ hp_I h i 1 = nI (am_c m) ∧ hp_I h i 2 = nI (am_f m) ∧ hp_I h i 3 = am_n m) ∧ (am_c m < 3 ∧ am_f m < 4) ∧
  (((1 ≤ am_k m ∧ am_k m ≤ 3) ∧ hp_S h i = .inr 7 ∧ hp_I h i 4 = nI (am_m m) ∧ am_m m ≤ 2 ∧ hp_I h i 5 = m_bi (am_y m) ∧ hp_I h i 6 = nI (am_p m) ∧ am_p m < 4 ∧ hp_I h i 7 = am_v m) ∨
   ((4 ≤ am_k m ∧ am_k m ≤ 7) ∧ hp_S h i = .inr 8 ∧ hp_I h i 4 = nI (am_m m) ∧ am_m m ≤ 2 ∧ hp_I h i 5 = m_bi (am_y m) ∧ (am_k m = 4 → ∃ q, hp_R h i 6 = some q ∧ (103 ≤ q ∧ q < hp_n h) ∧ hp_S h q = .inl (0, 4) ∧ ∀ p, p < 4 → hp_I h q p = am_4 m p)) ∨
   (am_k m = 8 ∧ hp_S h i = .inr 6))
theorem cm_dy {h h' : ha_H} {i : Nat} {m : ab_M} (H : cv_M h i m) (d : hp_dy h h') : cv_M h' i m := by
  obtain ⟨⟨h1, h2⟩, ⟨a0, a1, a2, a3⟩, hb, hk⟩ := H
  obtain ⟨dI, dR, dS⟩ := d.2 i h1 h2
  refine ⟨⟨h1, Nat.lt_of_lt_of_le h2 d.1⟩, ⟨by rw [dI]; exact a0, by rw [dI]; exact a1, by rw [dI]; exact a2, by rw [dI]; exact a3⟩, hb, ?_⟩
  rcases hk with ⟨k1, k2, k3, k4, k5, k6, k7, k8⟩ | ⟨k1, k2, k3, k4, k5, k6⟩ | ⟨k1, k2⟩
  · exact Or.inl ⟨k1, by rw [dS]; exact k2, by rw [dI]; exact k3, k4, by rw [dI]; exact k5, by rw [dI]; exact k6, k7, by rw [dI]; exact k8⟩
  · refine Or.inr (Or.inl ⟨k1, by rw [dS]; exact k2, by rw [dI]; exact k3, k4, by rw [dI]; exact k5, fun e => ?_⟩)
    obtain ⟨q, q1, q2, q3, q4⟩ := k6 e
    obtain ⟨eI, eR, eS⟩ := d.2 q q2.1 q2.2
    exact ⟨q, by rw [dR]; exact q1, ⟨q2.1, Nat.lt_of_lt_of_le q2.2 d.1⟩, by rw [eS]; exact q3, fun p hp => by rw [eI]; exact q4 p hp⟩
  · exact Or.inr (Or.inr ⟨k1, by rw [dS]; exact k2⟩)
theorem cm_le {h h' : ha_H} {i : Nat} {m : ab_M} (H : cv_M h i m) (d : hp_le h h') : cv_M h' i m := cm_dy H (le_dy d)
theorem cm_o {h : ha_H} {i : Nat} {m : ab_M} (H : cv_M h i m) : hp_ok h i := ⟨by have := H.1.1; omega, H.1.2⟩
theorem cm_q {h : ha_H} {i : Nat} {m : ab_M} (H : cv_M h i m) (k : am_k m ≤ 3) : (1 ≤ am_k m ∧ am_k m ≤ 3) ∧ hp_S h i = .inr 7 ∧ hp_I h i 4 = nI (am_m m) ∧ am_m m ≤ 2 ∧ hp_I h i 5 = m_bi (am_y m) ∧ hp_I h i 6 = nI (am_p m) ∧ am_p m < 4 ∧ hp_I h i 7 = am_v m := by
  rcases H.2.2.2 with q | q | q
  · exact q
  · exact absurd q.1.1 (by omega)
  · exact absurd q.1 (by omega)
theorem cm_p {h : ha_H} {i : Nat} {m : ab_M} (H : cv_M h i m) (k : 4 ≤ am_k m) (k' : am_k m ≤ 7) : (4 ≤ am_k m ∧ am_k m ≤ 7) ∧ hp_S h i = .inr 8 ∧ hp_I h i 4 = nI (am_m m) ∧ am_m m ≤ 2 ∧ hp_I h i 5 = m_bi (am_y m) ∧ (am_k m = 4 → ∃ q, hp_R h i 6 = some q ∧ (103 ≤ q ∧ q < hp_n h) ∧ hp_S h q = .inl (0, 4) ∧ ∀ p, p < 4 → hp_I h q p = am_4 m p) := by
  rcases H.2.2.2 with q | q | q
  · exact absurd q.1.2 (by omega)
  · exact q
  · exact absurd q.1 (by omega)
/-- an object that is a write -/
def cv_W (h : ha_H) (i : Nat) (w : ab_W) : Prop := (103 ≤ i ∧ i < hp_n h) ∧ hp_S h i = .inr 9 ∧ hp_I h i 0 = nI w.1 ∧ w.1 < 4 ∧ hp_I h i 1 = nI w.2.1 ∧ w.2.1 < 4 ∧ hp_I h i 2 = w.2.2
theorem cw_dy {h h' : ha_H} {i : Nat} {w : ab_W} (H : cv_W h i w) (d : hp_dy h h') : cv_W h' i w := by
  obtain ⟨⟨h1, h2⟩, k1, k2, k3, k4, k5, k6⟩ := H
  obtain ⟨dI, dR, dS⟩ := d.2 i h1 h2
  exact ⟨⟨h1, Nat.lt_of_lt_of_le h2 d.1⟩, by rw [dS]; exact k1, by rw [dI]; exact k2, k3, by rw [dI]; exact k4, k5, by rw [dI]; exact k6⟩
theorem cw_o {h : ha_H} {i : Nat} {m : ab_W} (H : cv_W h i m) : hp_ok h i := ⟨by have := H.1.1; omega, H.1.2⟩
def cv_O (lo hi : Nat) (h : ha_H) (r : Option Nat) (q : Option ab_M) : Prop := (q = none ∧ r = none) ∨ ∃ m i, q = some m ∧ r = some i ∧ lo ≤ am_k m ∧ am_k m ≤ hi ∧ cv_M h i m
theorem co_dy {lo hi : Nat} {h h' : ha_H} {r r' : Option Nat} {q : Option ab_M} (H : cv_O lo hi h r q) (d : hp_dy h h') (e : r' = r) : cv_O lo hi h' r' q := by
  subst e
  rcases H with H | ⟨m, i, h1, h2, h3, h4, h5⟩
  · exact Or.inl H
  · exact Or.inr ⟨m, i, h1, h2, h3, h4, cm_dy h5 d⟩
/-- the cells of the law's start: what stands where -/
def cs_T (x y t : Nat) : Prop := (x = 1 ∧ y = 0 ∧ t = 2) ∨ (x = 1 ∧ y = 1 ∧ t = 4) ∨ (x = 1 ∧ y = 2 ∧ t = 28) ∨ (x = 2 ∧ y = 0 ∧ t = 3) ∨ (x = 4 ∧ y = 0 ∧ t = 2) ∨ (x = 4 ∧ y = 2 ∧ t = 5) ∨ (x = 4 ∧ y = 3 ∧ t = 10) ∨ (x = 4 ∧ y = 4 ∧ t = 11) ∨ (x = 4 ∧ y = 5 ∧ t = 15) ∨ (x = 4 ∧ y = 6 ∧ t = 19) ∨ (x = 5 ∧ y < 4 ∧ t = 6 + y) ∨ (x = 11 ∧ y < 3 ∧ t = 12 + y) ∨ (x = 15 ∧ y < 3 ∧ t = 16 + y) ∨ (x = 19 ∧ y < 4 ∧ t = 20 + 2 * y) ∨ (20 ≤ x ∧ x < 28 ∧ x % 2 = 0 ∧ y = 0 ∧ t = x + 1) ∨ (x = 28 ∧ y < 3 ∧ t = 29 + 11 * y) ∨ ((x = 29 ∨ x = 40 ∨ x = 51) ∧ ((y = 2 ∧ t = 2) ∨ (y = 3 ∧ t = x + 1) ∨ (y = 4 ∧ t = x + 2))) ∨ ((x = 30 ∨ x = 41 ∨ x = 52) ∧ y < 4 ∧ t = x + 2 + 2 * y) ∨ (((32 ≤ x ∧ x < 40 ∧ x % 2 = 0) ∨ (43 ≤ x ∧ x < 51 ∧ x % 2 = 1) ∨ (54 ≤ x ∧ x < 62 ∧ x % 2 = 0)) ∧ y = 0 ∧ t = x + 1)
def cs_H (h : ha_H) : Prop := (hp_S h 1 = .inr 0 ∧ hp_S h 2 = .inr 1 ∧ hp_S h 3 = .inl (2, 60) ∧ hp_S h 4 = .inr 2 ∧ hp_S h 5 = .inl (9, 4) ∧ hp_S h 10 = .inl (3, 3) ∧ hp_S h 11 = .inl (9, 3) ∧ hp_S h 15 = .inl (9, 3) ∧ hp_S h 19 = .inl (4, 4) ∧ hp_S h 28 = .inl (6, 3)) ∧ (∀ f, f < 4 → hp_S h (6 + f) = .inl (0, 4) ∧ hp_S h (20 + 2 * f) = .inr 3 ∧ hp_S h (21 + 2 * f) = .inl (5, 3)) ∧ (∀ c, c < 3 → hp_S h (12 + c) = .inl (0, 4) ∧ hp_S h (16 + c) = .inl (0, 4) ∧ hp_S h (29 + 11 * c) = .inr 4 ∧ hp_S h (30 + 11 * c) = .inl (7, 4) ∧ hp_S h (31 + 11 * c) = .inl (8, 6)) ∧ ∀ c f, c < 3 → f < 4 → hp_S h (32 + 11 * c + 2 * f) = .inr 5 ∧ hp_S h (33 + 11 * c + 2 * f) = .inl (0, 4)
def cs_ok (h : ha_H) : Prop := 103 ≤ hp_n h ∧ cs_H h ∧ ∀ x y t, cs_T x y t → hp_R h x y = some t
theorem cs_sR {h : ha_H} {A k : Nat} {v : Option Nat} (H : cs_ok h) (n : ∀ t, ¬ cs_T A k t) : cs_ok (hp_sR h A k v) := ⟨H.1, H.2.1, fun x y t q => by
  rw [hp_R_sR]
  by_cases e : x = A ∧ y = k
  · obtain ⟨rfl, rfl⟩ := e
    exact absurd q (n t)
  · rw [if_neg e]
    exact H.2.2 x y t q⟩
theorem cs_sI {h : ha_H} {A k : Nat} {v : Int32} (H : cs_ok h) : cs_ok (hp_sI h A k v) := by unfold cs_ok cs_H at H ⊢; exact H
theorem hR_of {h : ha_H} {A k x y : Nat} {v : Option Nat} {r : Int32} (H : hp_I h x y = r) : hp_I (hp_sR h A k v) x y = r := by rw [hp_I_sR]; exact H
theorem cs_lt {x y t : Nat} (q : cs_T x y t) : x < 62 := by unfold cs_T at q; omega
theorem cs_k {h h' : ha_H} (H : cs_ok h) (n : hp_n h ≤ hp_n h') (e : ∀ x, x < 62 → (∀ y, hp_R h' x y = hp_R h x y) ∧ hp_S h' x = hp_S h x) : cs_ok h' := by
  refine ⟨Nat.le_trans H.1 n, ?_, fun x y t q => by rw [(e x (cs_lt q)).1]; exact H.2.2 x y t q⟩
  obtain ⟨⟨a1, a2, a3, a4, a5, a6, a7, a8, a9, a10⟩, b, c, d⟩ := H.2.1
  refine ⟨⟨by rw [(e _ (by omega)).2]; exact a1, by rw [(e _ (by omega)).2]; exact a2, by rw [(e _ (by omega)).2]; exact a3, by rw [(e _ (by omega)).2]; exact a4, by rw [(e _ (by omega)).2]; exact a5, by rw [(e _ (by omega)).2]; exact a6, by rw [(e _ (by omega)).2]; exact a7, by rw [(e _ (by omega)).2]; exact a8, by rw [(e _ (by omega)).2]; exact a9, by rw [(e _ (by omega)).2]; exact a10⟩, fun f hf => ?_, fun c' hc => ?_, fun c' f hc hf => ?_⟩
  · obtain ⟨b1, b2, b3⟩ := b f hf
    exact ⟨by rw [(e _ (by omega)).2]; exact b1, by rw [(e _ (by omega)).2]; exact b2, by rw [(e _ (by omega)).2]; exact b3⟩
  · obtain ⟨b1, b2, b3, b4, b5⟩ := c c' hc
    exact ⟨by rw [(e _ (by omega)).2]; exact b1, by rw [(e _ (by omega)).2]; exact b2, by rw [(e _ (by omega)).2]; exact b3, by rw [(e _ (by omega)).2]; exact b4, by rw [(e _ (by omega)).2]; exact b5⟩
  · obtain ⟨b1, b2⟩ := d c' f hc hf
    exact ⟨by rw [(e _ (by omega)).2]; exact b1, by rw [(e _ (by omega)).2]; exact b2⟩
/-- the parts of what is shown -/
def cv_L (L : Nat) (h : ha_H) : Prop := hp_I h 4 1 = nI L ∧ (8 ≤ L ∧ L ≤ 200) ∧ ∀ c, c < 3 → hp_I h (29 + 11 * c) 1 = nI (L / 2 - 2)
def cv_N (n : List ab_M) (h : ha_H) : Prop := hp_I h 2 1 = nI n.length ∧ n.length ≤ 60 ∧ ∀ (k : Nat) (m : ab_M), n[k]? = some m → ∃ i, hp_R h 3 k = some i ∧ cv_M h i m
def cv_pg (pg : Nat → Nat → Int32) (h : ha_H) : Prop := ∀ f p, f < 4 → p < 4 → hp_I h (6 + f) p = pg f p
def cv_md (md : Nat → Nat → Nat) (h : ha_H) : Prop := ∀ c f, c < 3 → f < 4 → hp_I h (12 + c) f = nI (md c f) ∧ md c f ≤ 2
def cv_en (en : Nat → Nat → Int32) (h : ha_H) : Prop := ∀ c f, c < 3 → f < 4 → hp_I h (16 + c) f = en c f
def cv_sd (sd : Nat → Option ab_M) (h : ha_H) : Prop := ∀ c, c < 3 → cv_O 4 7 h (hp_R h 10 c) (sd c)
def cv_l (f : Nat) (l : List ab_M) (h : ha_H) : Prop := hp_I h (20 + 2 * f) 1 = nI l.length ∧ l.length ≤ 3 ∧ ∀ (k : Nat) (m : ab_M), l[k]? = some m → am_k m = 1 ∧ ∃ i, hp_R h (21 + 2 * f) k = some i ∧ cv_M h i m
def cv_ln (ln : Nat → List ab_M) (h : ha_H) : Prop := ∀ f, f < 4 → cv_l f (ln f) h
def cv_P (B : Nat) (y : ab_P) (h : ha_H) : Prop := (hp_I h B 1 = nI y.1 ∧ y.1 ≤ 2) ∧ hp_I h B 2 = y.2.1 ∧ hp_I h B 3 = m_bi y.2.2.1 ∧ hp_I h B 4 = m_bi y.2.2.2.1 ∧ ∀ p, p < 4 → hp_I h (B + 1) p = y.2.2.2.2 p
def cv_w (c : Nat) (l : List ab_W) (h : ha_H) : Prop := (hp_I h (29 + 11 * c) 5 = nI l.length ∧ l.length ≤ 6) ∧ ∀ (k : Nat) (w : ab_W), l[k]? = some w → ∃ i, hp_R h (31 + 11 * c) k = some i ∧ cv_W h i w
def cv_C (c : Nat) (up : Bool) (nw nu : Int32) (op : Option ab_M) (si : Int32) (cp : Nat → ab_P) (wr : List ab_W) (h : ha_H) : Prop := hp_I h (29 + 11 * c) 0 = nI c ∧ hp_I h (29 + 11 * c) 6 = m_bi up ∧ hp_I h (29 + 11 * c) 7 = nw ∧ hp_I h (29 + 11 * c) 8 = nu ∧ cv_O 1 3 h (hp_R h (29 + 11 * c) 9) op ∧ hp_I h (29 + 11 * c) 10 = si ∧ (∀ f, f < 4 → cv_P (32 + 11 * c + 2 * f) (cp f) h) ∧ cv_w c wr h
def cv_Ct (c : Nat) (x : ab_C) (h : ha_H) : Prop := cv_C c x.1 x.2.1 x.2.2.1 x.2.2.2.1 x.2.2.2.2.1 x.2.2.2.2.2.1 x.2.2.2.2.2.2 h
def cv_Cs (C : Nat → ab_C) (h : ha_H) : Prop := ∀ c, c < 3 → cv_Ct c (C c) h
def CV (L : Nat) (n : List ab_M) (su : Bool) (sn : Int32) (sg : Bool) (se : Int32) (pg : Nat → Nat → Int32) (md : Nat → Nat → Nat) (en : Nat → Nat → Int32) (sd : Nat → Option ab_M) (ln : Nat → List ab_M) (C : Nat → ab_C) (h : ha_H) : Prop := cs_ok h ∧ cv_L L h ∧ cv_N n h ∧ hp_I h 4 7 = m_bi su ∧ hp_I h 4 8 = sn ∧ hp_I h 4 9 = m_bi sg ∧ hp_I h 4 10 = se ∧ cv_pg pg h ∧ cv_md md h ∧ cv_en en h ∧ cv_sd sd h ∧ cv_ln ln h ∧ cv_Cs C h
/-- the cells from lo on, below hi, stand as they were -/
def se_ (h h' : ha_H) (lo hi : Nat) : Prop := ∀ x, lo ≤ x → x < hi → (∀ y, hp_I h' x y = hp_I h x y) ∧ ∀ y, hp_R h' x y = hp_R h x y
theorem se_sI {h : ha_H} {A k lo hi : Nat} {v : Int32} (q : A < lo ∨ hi ≤ A) : se_ h (hp_sI h A k v) lo hi := fun x h1 h2 => ⟨fun y => by rw [hp_I_sI, if_neg (by omega)], fun _ => rfl⟩
theorem se_sR {h : ha_H} {A k lo hi : Nat} {v : Option Nat} (q : A < lo ∨ hi ≤ A) : se_ h (hp_sR h A k v) lo hi := fun x h1 h2 => ⟨fun _ => rfl, fun y => by rw [hp_R_sR, if_neg (by omega)]⟩
theorem se_gr {h h' : ha_H} {lo hi : Nat} (g : hp_gr h h') (n : 103 ≤ hp_n h) (q : hi ≤ 62) : se_ h h' lo hi := fun x h1 h2 => ⟨(g.2 x (by omega)).1, (g.2 x (by omega)).2.1⟩
theorem kN {n : List ab_M} {h h' : ha_H} (H : cv_N n h) (d : hp_dy h h') (e : se_ h h' 2 4) : cv_N n h' := ⟨by rw [(e 2 (by omega) (by omega)).1]; exact H.1, H.2.1, fun k m q => by
  obtain ⟨i, h1, h2⟩ := H.2.2 k m q
  exact ⟨i, by rw [(e 3 (by omega) (by omega)).2]; exact h1, cm_dy h2 d⟩⟩
theorem kL {L : Nat} {h h' : ha_H} (H : cv_L L h) (e1 : hp_I h' 4 1 = hp_I h 4 1) (e2 : ∀ c, c < 3 → hp_I h' (29 + 11 * c) 1 = hp_I h (29 + 11 * c) 1) : cv_L L h' := ⟨by rw [e1]; exact H.1, H.2.1, fun c hc => by rw [e2 c hc]; exact H.2.2 c hc⟩
theorem kpg {q : Nat → Nat → Int32} {h h' : ha_H} (H : cv_pg q h) (e : se_ h h' 6 10) : cv_pg q h' := fun f p hf hp => by rw [(e _ (by omega) (by omega)).1]; exact H f p hf hp
theorem kmd {q : Nat → Nat → Nat} {h h' : ha_H} (H : cv_md q h) (e : se_ h h' 12 15) : cv_md q h' := fun c f hc hf => by rw [(e _ (by omega) (by omega)).1]; exact H c f hc hf
theorem ken {q : Nat → Nat → Int32} {h h' : ha_H} (H : cv_en q h) (e : se_ h h' 16 19) : cv_en q h' := fun c f hc hf => by rw [(e _ (by omega) (by omega)).1]; exact H c f hc hf
theorem ksd {q : Nat → Option ab_M} {h h' : ha_H} (H : cv_sd q h) (d : hp_dy h h') (e : se_ h h' 10 11) : cv_sd q h' := fun c hc => co_dy (H c hc) d ((e 10 (by omega) (by omega)).2 c)
theorem kl {f : Nat} {l : List ab_M} {h h' : ha_H} (H : cv_l f l h) (d : hp_dy h h') (e : se_ h h' (20 + 2 * f) (22 + 2 * f)) : cv_l f l h' := ⟨by rw [(e _ (by omega) (by omega)).1]; exact H.1, H.2.1, fun k m q => by
  obtain ⟨h0, i, h1, h2⟩ := H.2.2 k m q
  exact ⟨h0, i, by rw [(e _ (by omega) (by omega)).2]; exact h1, cm_dy h2 d⟩⟩
theorem se_in {h h' : ha_H} {lo hi lo' hi' : Nat} (e : se_ h h' lo hi) (a : lo ≤ lo') (b : hi' ≤ hi) : se_ h h' lo' hi' := fun x h1 h2 => e x (by omega) (by omega)
theorem kln {q : Nat → List ab_M} {h h' : ha_H} (H : cv_ln q h) (d : hp_dy h h') (e : se_ h h' 20 28) : cv_ln q h' := fun f hf => kl (H f hf) d (se_in e (by omega) (by omega))
theorem kP {B : Nat} {y : ab_P} {h h' : ha_H} (H : cv_P B y h) (e : se_ h h' B (B + 2)) : cv_P B y h' := by
  obtain ⟨a, b, c, d, p⟩ := H
  have e0 := (e B (by omega) (by omega)).1
  exact ⟨⟨by rw [e0]; exact a.1, a.2⟩, by rw [e0]; exact b, by rw [e0]; exact c, by rw [e0]; exact d, fun q hq => by rw [(e (B + 1) (by omega) (by omega)).1]; exact p q hq⟩
theorem kw {c : Nat} {l : List ab_W} {h h' : ha_H} (H : cv_w c l h) (d : hp_dy h h') (e1 : hp_I h' (29 + 11 * c) 5 = hp_I h (29 + 11 * c) 5) (e2 : ∀ k, hp_R h' (31 + 11 * c) k = hp_R h (31 + 11 * c) k) : cv_w c l h' := ⟨⟨by rw [e1]; exact H.1.1, H.1.2⟩, fun k w q => by
  obtain ⟨i, h1, h2⟩ := H.2 k w q
  exact ⟨i, by rw [e2]; exact h1, cw_dy h2 d⟩⟩
theorem kC {c : Nat} {up : Bool} {nw nu : Int32} {op : Option ab_M} {si : Int32} {cp : Nat → ab_P} {wr : List ab_W} {h h' : ha_H} (H : cv_C c up nw nu op si cp wr h) (d : hp_dy h h') (e : se_ h h' (29 + 11 * c) (40 + 11 * c)) : cv_C c up nw nu op si cp wr h' := by
  obtain ⟨a1, a2, a3, a4, a5, a6, a7, a8⟩ := H
  have e0 := (e (29 + 11 * c) (by omega) (by omega)).1
  refine ⟨by rw [e0]; exact a1, by rw [e0]; exact a2, by rw [e0]; exact a3, by rw [e0]; exact a4, co_dy a5 d ((e (29 + 11 * c) (by omega) (by omega)).2 9), by rw [e0]; exact a6, fun f hf => kP (a7 f hf) (se_in e (by omega) (by omega)), kw a8 d (e0 5) ((e (31 + 11 * c) (by omega) (by omega)).2)⟩
theorem kCs {C : Nat → ab_C} {h h' : ha_H} (H : cv_Cs C h) (d : hp_dy h h') (e : se_ h h' 29 62) : cv_Cs C h' := fun c hc => kC (H c hc) d (se_in e (by omega) (by omega))
theorem kCs1 {C : Nat → ab_C} {c : Nat} {x x' : ab_C} {h h' : ha_H} (H : cv_Cs (fu C c x) h) (d : hp_dy h h') (e : ∀ b, b < 3 → ¬ b = c → se_ h h' (29 + 11 * b) (40 + 11 * b)) (q : cv_Ct c x' h') : cv_Cs (fu C c x') h' := fun b hb => by
  by_cases z : b = c
  · subst z
    rw [fu_at]
    exact q
  · rw [fu_ne _ _ z]
    have := H b hb
    rw [fu_ne _ _ z] at this
    exact kC this d (e b hb z)
/-- what is made beside it changes nothing that is shown; nor what the reference writes -/
theorem cv_k {L : Nat} {n : List ab_M} {su : Bool} {sn : Int32} {sg : Bool} {se : Int32} {pg : Nat → Nat → Int32} {md : Nat → Nat → Nat} {en : Nat → Nat → Int32} {sd : Nat → Option ab_M} {ln : Nat → List ab_M} {C : Nat → ab_C} {h h' : ha_H} (H : CV L n su sn sg se pg md en sd ln C h) (d : hp_dy h h') (e : se_ h h' 0 62) (s : ∀ x, x < 62 → hp_S h' x = hp_S h x) : CV L n su sn sg se pg md en sd ln C h' := by
  obtain ⟨h0, h1, h2, h3, h4, h5, h6, h7, h8, h9, h10, h11, h12⟩ := H
  have e4 := (e 4 (by omega) (by omega)).1
  exact ⟨cs_k h0 d.1 (fun x hx => ⟨(e x (by omega) hx).2, s x hx⟩), kL h1 (e4 1) (fun c hc => (e _ (by omega) (by omega)).1 1), kN h2 d (se_in e (by omega) (by omega)), by rw [e4]; exact h3, by rw [e4]; exact h4, by rw [e4]; exact h5, by rw [e4]; exact h6, kpg h7 (se_in e (by omega) (by omega)), kmd h8 (se_in e (by omega) (by omega)), ken h9 (se_in e (by omega) (by omega)), ksd h10 d (se_in e (by omega) (by omega)), kln h11 d (se_in e (by omega) (by omega)), kCs h12 d (se_in e (by omega) (by omega))⟩
theorem cv_gr {L : Nat} {n : List ab_M} {su : Bool} {sn : Int32} {sg : Bool} {se : Int32} {pg : Nat → Nat → Int32} {md : Nat → Nat → Nat} {en : Nat → Nat → Int32} {sd : Nat → Option ab_M} {ln : Nat → List ab_M} {C : Nat → ab_C} {h h' : ha_H} (H : CV L n su sn sg se pg md en sd ln C h) (g : hp_gr h h') : CV L n su sn sg se pg md en sd ln C h' := cv_k H (le_dy (gx_le g)) (se_gr g H.1.1 (by omega)) (fun x hx => (g.2 x (by have := H.1.1; omega)).2.2)
