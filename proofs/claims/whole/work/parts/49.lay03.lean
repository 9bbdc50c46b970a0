theorem lo_mem : ∀ {l : List ab_M} {c : Nat} {m : ab_M}, m ∈ f_out l c → m ∈ l
  | [], _, _, h => h
  | x :: l, c, m, h => by
    unfold f_out at h
    by_cases e : am_c x = c
    · rw [if_pos e] at h; exact List.mem_cons_of_mem _ h
    · rw [if_neg e] at h
      rcases List.mem_cons.mp h with rfl | h
      · exact List.mem_cons_self
      · exact List.mem_cons_of_mem _ (lo_mem h)
theorem lo_sub : ∀ (l : List ab_M) (c : Nat), (f_out l c).Sublist l
  | [], _ => List.Sublist.refl _
  | x :: l, c => by
    unfold f_out
    by_cases e : am_c x = c
    · rw [if_pos e]; exact List.sublist_cons_self x l
    · rw [if_neg e]; exact List.Sublist.cons_cons x (lo_sub l c)
theorem lo_ne {R : ab_M → ab_M → Prop} (hR : ∀ x y, R x y → am_c x ≠ am_c y) : ∀ {l : List ab_M} {c : Nat} {m : ab_M}, l.Pairwise R → m ∈ f_out l c → am_c m ≠ c
  | [], _, _, _, h => by cases h
  | x :: l, c, m, P, h => by
    unfold f_out at h
    rw [List.pairwise_cons] at P
    by_cases e : am_c x = c
    · rw [if_pos e] at h
      exact fun z => hR x m (P.1 m h) (e.trans z.symm)
    · rw [if_neg e] at h
      rcases List.mem_cons.mp h with rfl | h
      · exact e
      · exact lo_ne hR P.2 h
theorem lo_keep : ∀ {l : List ab_M} {c : Nat} {m : ab_M}, m ∈ l → am_c m ≠ c → m ∈ f_out l c
  | [], _, _, h, _ => by cases h
  | x :: l, c, m, h, n => by
    unfold f_out
    by_cases e : am_c x = c
    · rw [if_pos e]
      rcases List.mem_cons.mp h with rfl | h
      · exact absurd e n
      · exact h
    · rw [if_neg e]
      rcases List.mem_cons.mp h with rfl | h
      · exact List.mem_cons_self
      · exact List.mem_cons_of_mem _ (lo_keep h n)
theorem lo_id : ∀ {l : List ab_M} {c : Nat}, (∀ m, m ∈ l → am_c m ≠ c) → f_out l c = l
  | [], _, _ => rfl
  | x :: l, c, h => by
    unfold f_out
    rw [if_neg (h x List.mem_cons_self), lo_id (fun m hm => h m (List.mem_cons_of_mem _ hm))]
theorem of_S : ∀ {l : List ab_M} {c : Nat} {o : ab_M}, f_of l c = some o → o ∈ l ∧ am_c o = c
  | [], _, _, h => by cases h
  | x :: l, c, o, h => by
    unfold f_of at h
    by_cases e : am_c x = c
    · rw [if_pos e] at h; cases h; exact ⟨List.mem_cons_self, e⟩
    · rw [if_neg e] at h; exact ⟨List.mem_cons_of_mem _ (of_S h).1, (of_S h).2⟩
theorem of_N : ∀ {l : List ab_M} {c : Nat} {m : ab_M}, f_of l c = none → m ∈ l → am_c m ≠ c
  | [], _, _, _, h => by cases h
  | x :: l, c, m, h, hm => by
    unfold f_of at h
    by_cases e : am_c x = c
    · rw [if_pos e] at h; cases h
    · rw [if_neg e] at h
      rcases List.mem_cons.mp hm with rfl | hm
      · exact e
      · exact of_N h hm
theorem l_2 {l : List ab_M} {c : Nat} (hc : c < 3) (P : l.Pairwise (fun m m' => am_c m ≠ am_c m')) (h3 : ∀ m, m ∈ l → am_c m < 3 ∧ am_c m ≠ c) : l.length < 3 := by
  match l with
  | [] => exact Nat.le_of_ble_eq_true rfl
  | [_] => exact Nat.le_of_ble_eq_true rfl
  | [_, _] => exact Nat.le_of_ble_eq_true rfl
  | x :: y :: z :: t =>
    exfalso
    rw [List.pairwise_cons, List.pairwise_cons] at P
    have a1 := P.1 y (by simp)
    have a2 := P.1 z (by simp)
    have a3 := P.2.1 z (by simp)
    have b1 := h3 x (by simp)
    have b2 := h3 y (by simp)
    have b3 := h3 z (by simp)
    omega
theorem n1_ne (f : Nat) (hf : f < 4) : ¬ (-1 : Int32) = nI f := by
  rcases (by omega : f = 0 ∨ f = 1 ∨ f = 2 ∨ f = 3) with rfl | rfl | rfl | rfl <;> decide
theorem nI_in4 {f g : Nat} (hf : f < 4) (hg : g < 4) (e : nI f = nI g) : f = g := (nI_eq (by omega) (by omega)).mp e
theorem vl_one {a : Nat} {ln : Nat → List ab_M} {h : ha_H} (H : mv_ln a ln h) {f f' : Nat} {m m' : ab_M} (hf : f < 4) (hf' : f' < 4) (hm : m ∈ ln f) (hm' : m' ∈ ln f') (e : am_c m = am_c m') : f = f' := by
  have q1 := (H.2.1 f hf m hm).2.2.2.1
  have q2 := (H.2.1 f' hf' m' hm').2.2.2.1
  rw [e, q2] at q1
  exact (nI_in4 hf' hf q1).symm
/-- a client's request is taken out of the lines -/
theorem vl_out {a : Nat} {ln : Nat → List ab_M} {h : ha_H} {c : Nat} (H : mv_ln a ln h) : mv_ln a (fun f => f_out (ln f) c) (hp_sI h 74 c (-1)) := by
  obtain ⟨h1, h2, h3, h4⟩ := H
  have K : ∀ x j, ¬ x = 74 → hp_I (hp_sI h 74 c (-1)) x j = hp_I h x j := fun x j hx => by rw [hp_I_sI, if_neg (by omega)]
  refine ⟨by rw [K _ _ (by omega)]; exact h1, fun f hf m hm => ?_, fun f hf => ?_, fun d hd => ?_⟩
  · have ne := lo_ne (fun x y z => z.1) (h3 f hf) hm
    obtain ⟨k1, k2, k3, k4, k5, k6, s, k7, k8⟩ := h2 f hf m (lo_mem hm)
    exact ⟨k1, k2, k3, by rw [hp_I_sI, if_neg (by omega)]; exact k4, by rw [K _ _ (by omega)]; exact k5, by rw [K _ _ (by omega)]; exact k6, s, k7, by rw [K _ _ (by omega)]; exact k8⟩
  · refine ((h3 f hf).sublist (lo_sub _ _)).imp (fun {x y} z => ⟨z.1, ?_⟩)
    rw [K _ _ (by omega), K _ _ (by omega)]; exact z.2
  · by_cases e : d = c
    · exact Or.inl (by rw [hp_I_sI, if_pos ⟨rfl, e⟩])
    · rw [hp_I_sI, if_neg (by omega)]
      rcases h4 d hd with q | ⟨f, m, q1, q2, q3⟩
      · exact Or.inl q
      · exact Or.inr ⟨f, m, q1, lo_keep q2 (by omega), q3⟩
/-- a client that does not wait is put at the end of a line -/
theorem vl_add {a : Nat} {ln : Nat → List ab_M} {h : ha_H} {m : ab_M} (H : mv_ln a ln h) (ha : a < 2 ^ 30) (hk : am_k m = 1) (hc : am_c m < 3) (hf : am_f m < 4) (h0 : hp_I h 74 (am_c m) = -1) : mv_ln (a + 1) (fu ln (am_f m) (f_add (ln (am_f m)) m)) (m_wtH h (am_c m) (am_f m) (am_n m) (nI (am_m m))) := by
  obtain ⟨h1, h2, h3, h4⟩ := H
  have hno : ∀ f, f < 4 → ∀ o, o ∈ ln f → am_c o ≠ am_c m := fun f hf o ho z => by
    have q := (h2 f hf o ho).2.2.2.1
    rw [z, h0] at q
    exact n1_ne f hf q
  have hl : (ln (am_f m)).length < 3 := l_2 hc ((h3 _ hf).imp (fun {x y} z => z.1)) (fun o ho => ⟨(h2 _ hf o ho).2.2.1, hno _ hf o ho⟩)
  have ead : f_add (ln (am_f m)) m = ln (am_f m) ++ [m] := if_pos hl
  have G : ∀ x j, ¬ j = am_c m → 74 ≤ x → hp_I (m_wtH h (am_c m) (am_f m) (am_n m) (nI (am_m m))) x j = hp_I h x j := fun x j hj hx => by
    have n62 : ¬ x = 62 := by omega
    simp [m_wtH, hp_I_sI, hj, n62]
  have keep : ∀ f, f < 4 → ∀ o, o ∈ ln f → mv_l (m_wtH h (am_c m) (am_f m) (am_n m) (nI (am_m m))) (a + 1) f o := fun f hf o ho => by
    obtain ⟨k1, k2, k3, k4, k5, k6, s, k7, k8⟩ := h2 f hf o ho
    have ne := hno f hf o ho
    exact ⟨k1, k2, k3, by rw [G _ _ ne (by omega)]; exact k4, by rw [G _ _ ne (by omega)]; exact k5, by rw [G _ _ ne (by omega)]; exact k6, s, by omega, by rw [G _ _ ne (by omega)]; exact k8⟩
  have new : mv_l (m_wtH h (am_c m) (am_f m) (am_n m) (nI (am_m m))) (a + 1) (am_f m) m := by
    refine ⟨hk, rfl, hc, ?_, ?_, ?_, a, by omega, ?_⟩
    · simp [m_wtH, hp_I_sI]
    · simp [m_wtH, hp_I_sI]
    · simp [m_wtH, hp_I_sI]
    · simp [m_wtH, hp_I_sI, h1]
  have pk : ∀ f, f < 4 → (ln f).Pairwise (fun x y => am_c x ≠ am_c y ∧ hp_I (m_wtH h (am_c m) (am_f m) (am_n m) (nI (am_m m))) 77 (am_c x) < hp_I (m_wtH h (am_c m) (am_f m) (am_n m) (nI (am_m m))) 77 (am_c y)) := fun f hf => by
    refine List.Pairwise.imp_of_mem (fun {x y} hx hy z => ⟨z.1, ?_⟩) (h3 f hf)
    rw [G _ _ (hno f hf x hx) (by omega), G _ _ (hno f hf y hy) (by omega)]
    exact z.2
  refine ⟨by simp [m_wtH, hp_I_sI, h1]; exact nI_add a 1, fun f hf' o ho => ?_, fun f hf' => ?_, fun d hd => ?_⟩
  · by_cases e : f = am_f m
    · subst e
      rw [fu_at, ead] at ho
      rcases List.mem_append.mp ho with ho | ho
      · exact keep _ hf o ho
      · rw [List.mem_singleton] at ho; subst ho; exact new
    · rw [fu_ne _ _ e] at ho
      exact keep f hf' o ho
  · by_cases e : f = am_f m
    · subst e
      rw [fu_at, ead, List.pairwise_append]
      refine ⟨pk _ hf, List.pairwise_singleton _ _, fun x hx y hy => ?_⟩
      rw [List.mem_singleton] at hy; subst hy
      refine ⟨hno _ hf x hx, ?_⟩
      obtain ⟨k1, k2, k3, k4, k5, k6, s, k7, k8⟩ := h2 _ hf x hx
      rw [G _ _ (hno _ hf x hx) (by omega), k8]
      have : hp_I (m_wtH h (am_c y) (am_f y) (am_n y) (nI (am_m y))) 77 (am_c y) = nI a := by simp [m_wtH, hp_I_sI, h1]
      rw [this]
      exact nI_lt k7 (by omega)
    · rw [fu_ne _ _ e]
      exact pk f hf'
  · by_cases e : d = am_c m
    · exact Or.inr ⟨am_f m, m, hf, by rw [fu_at, ead]; simp, e.symm⟩
    · rw [G _ _ e (by omega)]
      rcases h4 d hd with q | ⟨f, o, q1, q2, q3⟩
      · exact Or.inl q
      · refine Or.inr ⟨f, o, q1, ?_, q3⟩
        by_cases e' : f = am_f m
        · subst e'; rw [fu_at, ead]; exact List.mem_append_left _ q2
        · rw [fu_ne _ _ e']; exact q2
theorem ot_iff {h : ha_H} {c : Nat} {F : Int32} : m_otN h c F 3 = true ↔ ∃ d, d < 3 ∧ ¬ d = c ∧ hp_I h 74 d = F := by
  simp only [m_otN, m_otB, Bool.or_eq_true, Bool.and_eq_true, Bool.not_eq_true', decide_eq_true_eq, decide_eq_false_iff_not, Bool.false_eq_true, false_or]
  constructor
  · rintro ((⟨a, b⟩ | ⟨a, b⟩) | ⟨a, b⟩)
    · exact ⟨0, by omega, a, b⟩
    · exact ⟨1, by omega, a, b⟩
    · exact ⟨2, by omega, a, b⟩
  · rintro ⟨d, hd, a, b⟩
    rcases (by omega : d = 0 ∨ d = 1 ∨ d = 2) with rfl | rfl | rfl
    · exact Or.inl (Or.inl ⟨a, b⟩)
    · exact Or.inl (Or.inr ⟨a, b⟩)
    · exact Or.inr ⟨a, b⟩
theorem ot_eq {a : Nat} {ln : Nat → List ab_M} {h : ha_H} {c f : Nat} (H : mv_ln a ln h) (hf : f < 4) (h0 : hp_I h 74 c = -1) : m_otN h c (nI f) 3 = !decide ((ln f).length ≤ 0) := by
  obtain ⟨h1, h2, h3, h4⟩ := H
  rw [Bool.eq_iff_iff, ot_iff]
  simp only [Bool.not_eq_true', decide_eq_false_iff_not]
  constructor
  · rintro ⟨d, hd, a, b⟩ z
    rcases h4 d hd with q | ⟨g, o, q1, q2, q3⟩
    · rw [b] at q; exact n1_ne f hf q.symm
    · have q4 := (h2 g q1 o q2).2.2.2.1
      rw [q3, b] at q4
      have := nI_in4 hf q1 q4
      subst this
      have : 0 < (ln f).length := List.length_pos_of_mem q2
      omega
  · intro z
    obtain ⟨o, ho⟩ := List.exists_mem_of_length_pos (by omega : 0 < (ln f).length)
    obtain ⟨k1, k2, k3, k4, _⟩ := h2 f hf o ho
    refine ⟨am_c o, k3, fun e => ?_, k4⟩
    rw [e, h0] at k4
    exact n1_ne f hf k4
/-- who is first in the reference's line -/
theorem fs_sp {h : ha_H} {F : Int32} : ∀ d, (m_fs h F d = none → ∀ j, j < d → ¬ hp_I h 74 j = F) ∧ ∀ b, m_fs h F d = some b → b < d ∧ hp_I h 74 b = F ∧ ∀ j, j < d → hp_I h 74 j = F → hp_I h 77 b ≤ hp_I h 77 j
  | 0 => ⟨fun _ j hj => by omega, fun b e => by cases e⟩
  | d + 1 => by
    obtain ⟨I1, I2⟩ := fs_sp (h := h) (F := F) d
    unfold m_fs
    cases e : m_fs h F d with
    | none =>
      have I := I1 e
      show ((if hp_I h 74 d = F then some d else none) = none → _) ∧ ∀ b, (if hp_I h 74 d = F then some d else none) = some b → _
      by_cases c : hp_I h 74 d = F
      · rw [if_pos c]
        refine ⟨fun z => (by cases z), fun b z => ?_⟩
        cases z
        refine ⟨by omega, c, fun j hj ej => ?_⟩
        by_cases q : j = d
        · subst q; exact Int32.le_refl _
        · exact absurd ej (I j (by omega))
      · rw [if_neg c]
        refine ⟨fun _ j hj => ?_, fun b z => (by cases z)⟩
        by_cases q : j = d
        · subst q; exact c
        · exact I j (by omega)
    | some b0 =>
      obtain ⟨J1, J2, J3⟩ := I2 b0 e
      show ((if hp_I h 74 d = F then (if hp_I h 77 b0 ≤ hp_I h 77 d then some b0 else some d) else some b0) = none → _) ∧ ∀ b, (if hp_I h 74 d = F then (if hp_I h 77 b0 ≤ hp_I h 77 d then some b0 else some d) else some b0) = some b → _
      by_cases c : hp_I h 74 d = F
      · rw [if_pos c]
        by_cases q : hp_I h 77 b0 ≤ hp_I h 77 d
        · rw [if_pos q]
          refine ⟨fun z => (by cases z), fun b z => ?_⟩
          cases z
          refine ⟨by omega, J2, fun j hj ej => ?_⟩
          by_cases w : j = d
          · subst w; exact q
          · exact J3 j (by omega) ej
        · rw [if_neg q]
          refine ⟨fun z => (by cases z), fun b z => ?_⟩
          cases z
          refine ⟨by omega, c, fun j hj ej => ?_⟩
          by_cases w : j = d
          · subst w; exact Int32.le_refl _
          · exact Int32.le_trans (Int32.le_of_lt (Int32.not_le.mp q)) (J3 j (by omega) ej)
      · rw [if_neg c]
        refine ⟨fun z => (by cases z), fun b z => ?_⟩
        cases z
        refine ⟨by omega, J2, fun j hj ej => ?_⟩
        by_cases w : j = d
        · subst w; exact absurd ej c
        · exact J3 j (by omega) ej
theorem fs_eq {a : Nat} {ln : Nat → List ab_M} {h : ha_H} {f : Nat} (H : mv_ln a ln h) (hf : f < 4) : m_fs h (nI f) 3 = (ln f).head?.map am_c := by
  obtain ⟨h1, h2, h3, h4⟩ := H
  have S := fs_sp (h := h) (F := nI f) 3
  cases e : ln f with
  | nil =>
    cases q : m_fs h (nI f) 3 with
    | none => rfl
    | some b =>
      exfalso
      obtain ⟨s1, s2, s3⟩ := S.2 b q
      rcases h4 b s1 with z | ⟨g, o, q1, q2, q3⟩
      · rw [s2] at z; exact n1_ne f hf z.symm
      · have q4 := (h2 g q1 o q2).2.2.2.1
        rw [q3, s2] at q4
        have := nI_in4 hf q1 q4
        subst this
        rw [e] at q2; cases q2
  | cons m l =>
    have hm : m ∈ ln f := by rw [e]; exact List.mem_cons_self
    obtain ⟨k1, k2, k3, k4, _⟩ := h2 f hf m hm
    cases q : m_fs h (nI f) 3 with
    | none => exact absurd k4 (S.1 q _ k3)
    | some b =>
      obtain ⟨s1, s2, s3⟩ := S.2 b q
      show some b = some (am_c m)
      rcases h4 b s1 with z | ⟨g, o, q1, q2, q3⟩
      · rw [s2] at z; exact absurd z.symm (n1_ne f hf)
      · have q4 := (h2 g q1 o q2).2.2.2.1
        rw [q3, s2] at q4
        have := nI_in4 hf q1 q4
        subst this
        rw [e] at q2
        rcases List.mem_cons.mp q2 with rfl | q2
        · rw [q3]
        · have P := h3 f hf
          rw [e, List.pairwise_cons] at P
          have lt := (P.1 o q2).2
          have le := s3 _ k3 k4
          rw [q3] at lt
          exact absurd le (Int32.not_le.mpr lt)
