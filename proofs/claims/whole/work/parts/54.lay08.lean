/-- what a client's cells are -/
def fcx (c x j : Nat) : Prop := ((x = 63 ∨ x = 64 ∨ x = 78 ∨ x = 84 ∨ (87 ≤ x ∧ x ≤ 93)) ∧ j = c) ∨ ((79 ≤ x ∧ x ≤ 82) ∧ 4 * c ≤ j ∧ j < 4 * c + 4) ∨ (x = 83 ∧ 16 * c ≤ j ∧ j < 16 * c + 16) ∨ ((x = 85 ∨ x = 86) ∧ 6 * c ≤ j ∧ j < 6 * c + 6)
def fc (c : Nat) (h g : ha_H) : Prop := ∀ x j, fcx c x j → hp_I g x j = hp_I h x j
theorem fc_rf {c : Nat} (h : ha_H) : fc c h h := fun _ _ _ => rfl
theorem fc_tr {c : Nat} {a b d : ha_H} (x : fc c a b) (y : fc c b d) : fc c a d := fun q j z => (y q j z).trans (x q j z)
theorem fc_sI {c : Nat} {g h : ha_H} {A k : Nat} {v : Int32} (q : fc c g h) (n : ¬ fcx c A k) : fc c g (hp_sI h A k v) := fun x j z => by
  rw [hp_I_sI, if_neg (fun w => n (by rw [← w.1, ← w.2]; exact z))]; exact q x j z
theorem fc_fr {c : Nat} {g h : ha_H} (q : fr 63 94 h g) : fc c h g := fun x j z => q x (by unfold fcx at z; omega) (by unfold fcx at z; omega) j
def mv_P (h : ha_H) (c f : Nat) (y : ab_P) : Prop := (hp_I h 79 (4 * c + f) = nI y.1 ∧ y.1 ≤ 2) ∧ hp_I h 81 (4 * c + f) = m_bi y.2.2.1 ∧ hp_I h 82 (4 * c + f) = m_bi y.2.2.2.1 ∧ (0 < y.1 → hp_I h 80 (4 * c + f) = y.2.1 ∧ ∀ p, p < 4 → hp_I h 83 (16 * c + 4 * f + p) = y.2.2.2.2 p)
def mv_w (h : ha_H) (c i : Nat) (w : ab_W) : Prop := hp_I h 85 (6 * c + i) = nI (4 * w.1 + w.2.1) ∧ hp_I h 86 (6 * c + i) = w.2.2 ∧ w.1 < 4 ∧ w.2.1 < 4
def mv_W (h : ha_H) (c : Nat) (wr : List ab_W) : Prop := hp_I h 84 c = nI wr.length ∧ wr.length ≤ 6 ∧ ∀ i w, wr[i]? = some w → mv_w h c i w
def mv_o (h : ha_H) (c : Nat) (nu si : Int32) (m : ab_M) : Prop := ((1 ≤ am_k m ∧ am_k m ≤ 3) ∧ am_c m = c ∧ am_n m = nu) ∧ hp_I h 87 c = nI (am_k m) ∧ hp_I h 88 c = nI (am_f m) ∧ hp_I h 93 c = si ∧ (am_k m = 1 → hp_I h 89 c = nI (am_m m) ∧ hp_I h 90 c = m_bi (am_y m)) ∧ (am_k m = 2 → hp_I h 91 c = nI (am_p m) ∧ hp_I h 92 c = am_v m)
def mv_O (h : ha_H) (c : Nat) (nu si : Int32) (op : Option ab_M) : Prop := (op = none → hp_I h 87 c = nI 0) ∧ (∀ m, op = some m → mv_o h c nu si m) ∧ ∃ p, p < 4 ∧ hp_I h 91 c = nI p
def mv_c (h : ha_H) (c : Nat) (y : ab_C) : Prop := (hp_I h 63 c = m_bi (!y.1) ∧ hp_I h 64 c = y.2.1 ∧ hp_I h 78 c = y.2.2.1) ∧ mv_O h c y.2.2.1 y.2.2.2.2.1 y.2.2.2.1 ∧ mv_W h c y.2.2.2.2.2.2 ∧ ∀ f, f < 4 → mv_P h c f (y.2.2.2.2.2.1 f)
def mv_C (C : Nat → ab_C) (h : ha_H) : Prop := ∀ c, c < 3 → mv_c h c (C c)
theorem k_P {h g : ha_H} {c f : Nat} {y : ab_P} (H : mv_P h c f y) (hf : f < 4) (q : fc c h g) : mv_P g c f y := by
  obtain ⟨⟨a1, a2⟩, a3, a4, a5⟩ := H
  have Q : ∀ x j, fcx c x j → hp_I g x j = hp_I h x j := q
  refine ⟨⟨?_, a2⟩, ?_, ?_, fun z => ⟨?_, fun p hp => ?_⟩⟩
  · rw [Q _ _ (by unfold fcx; omega)]; exact a1
  · rw [Q _ _ (by unfold fcx; omega)]; exact a3
  · rw [Q _ _ (by unfold fcx; omega)]; exact a4
  · rw [Q _ _ (by unfold fcx; omega)]; exact (a5 z).1
  · rw [Q _ _ (by unfold fcx; omega)]; exact (a5 z).2 p hp
theorem k_W {h g : ha_H} {c : Nat} {wr : List ab_W} (H : mv_W h c wr) (q : fc c h g) : mv_W g c wr := by
  obtain ⟨a1, a2, a3⟩ := H
  refine ⟨by rw [q _ _ (by unfold fcx; omega)]; exact a1, a2, fun i w e => ?_⟩
  obtain ⟨b1, b2, b3, b4⟩ := a3 i w e
  have hi : i < 6 := by
    have := (List.getElem?_eq_some_iff.mp e).1
    omega
  exact ⟨by rw [q _ _ (by unfold fcx; omega)]; exact b1, by rw [q _ _ (by unfold fcx; omega)]; exact b2, b3, b4⟩
theorem k_O {h g : ha_H} {c : Nat} {nu si : Int32} {op : Option ab_M} (H : mv_O h c nu si op) (q : fc c h g) : mv_O g c nu si op := by
  obtain ⟨a1, a2, p, a3, a4⟩ := H
  refine ⟨fun e => by rw [q _ _ (by unfold fcx; omega)]; exact a1 e, fun m e => ?_, p, a3, by rw [q _ _ (by unfold fcx; omega)]; exact a4⟩
  obtain ⟨b1, b2, b3, b4, b5, b6⟩ := a2 m e
  exact ⟨b1, by rw [q _ _ (by unfold fcx; omega)]; exact b2, by rw [q _ _ (by unfold fcx; omega)]; exact b3, by rw [q _ _ (by unfold fcx; omega)]; exact b4, fun z => ⟨by rw [q _ _ (by unfold fcx; omega)]; exact (b5 z).1, by rw [q _ _ (by unfold fcx; omega)]; exact (b5 z).2⟩, fun z => ⟨by rw [q _ _ (by unfold fcx; omega)]; exact (b6 z).1, by rw [q _ _ (by unfold fcx; omega)]; exact (b6 z).2⟩⟩
theorem k_c {h g : ha_H} {c : Nat} {y : ab_C} (H : mv_c h c y) (q : fc c h g) : mv_c g c y := by
  obtain ⟨⟨a1, a2, a3⟩, a4, a5, a6⟩ := H
  exact ⟨⟨by rw [q _ _ (by unfold fcx; omega)]; exact a1, by rw [q _ _ (by unfold fcx; omega)]; exact a2, by rw [q _ _ (by unfold fcx; omega)]; exact a3⟩, k_O a4 q, k_W a5 q, fun f hf => k_P (a6 f hf) hf q⟩
theorem k_C {h g : ha_H} {C : Nat → ab_C} (H : mv_C C h) (q : ∀ c, c < 3 → fc c h g) : mv_C C g := fun c hc => k_c (H c hc) (q c hc)
theorem k_fu {h g : ha_H} {C : Nat → ab_C} {c : Nat} {y : ab_C} (H : mv_C C h) (q : ∀ d, d < 3 → ¬ d = c → fc d h g) (hy : mv_c g c y) : mv_C (fu C c y) g := fun d hd => by
  by_cases e : d = c
  · subst e; rw [fu_at]; exact hy
  · rw [fu_ne _ _ e]; exact k_c (H d hd) (q d hd e)
theorem w_div {w : ab_W} (h1 : w.1 < 4) (h2 : w.2.1 < 4) : nI (4 * w.1 + w.2.1) / nI 4 = nI w.1 := by
  rw [pk_div (by omega) (by omega) (by omega)]
  congr 1
  omega
theorem hw_iff : ∀ {l : List ab_W} {f : Nat}, f_hw l f = true ↔ ∃ (i : Nat) (w : ab_W), l[i]? = some w ∧ w.1 = f
  | [], f => ⟨fun z => (by cases z), fun ⟨i, w, e, _⟩ => by simp at e⟩
  | w :: l, f => by
    unfold f_hw
    by_cases c : w.1 = f
    · rw [if_pos c]
      exact ⟨fun _ => ⟨0, w, rfl, c⟩, fun _ => rfl⟩
    · rw [if_neg c, hw_iff]
      constructor
      · rintro ⟨i, v, e, q⟩
        exact ⟨i + 1, v, by simpa using e, q⟩
      · rintro ⟨i, v, e, q⟩
        match i with
        | 0 => simp at e; rw [← e] at q; exact absurd q c
        | i + 1 => exact ⟨i, v, by simpa using e, q⟩
theorem hd_iff {h : ha_H} {c f : Nat} : ∀ n, m_hdN h c f n = true ↔ ∃ i, i < n ∧ hp_I h 85 (6 * c + i) / nI 4 = nI f
  | 0 => ⟨fun z => (by cases z), fun ⟨i, e, _⟩ => by omega⟩
  | n + 1 => by
    unfold m_hdN
    rw [Bool.or_eq_true, hd_iff n]
    unfold m_hdB
    rw [decide_eq_true_eq]
    constructor
    · rintro (⟨i, e, q⟩ | q)
      · exact ⟨i, by omega, q⟩
      · exact ⟨n, by omega, q⟩
    · rintro ⟨i, e, q⟩
      by_cases z : i = n
      · subst z; exact Or.inr q
      · exact Or.inl ⟨i, by omega, q⟩
theorem hd_eq {h : ha_H} {c f : Nat} {wr : List ab_W} (H : mv_W h c wr) (hf : f < 4) : m_hdN h c f wr.length = f_hw wr f := by
  rw [Bool.eq_iff_iff, hd_iff, hw_iff]
  constructor
  · rintro ⟨i, e, q⟩
    obtain ⟨b1, b2, b3, b4⟩ := H.2.2 i wr[i] (List.getElem?_eq_getElem e)
    refine ⟨i, wr[i], List.getElem?_eq_getElem e, ?_⟩
    rw [b1, w_div b3 b4] at q
    exact nI_in4 b3 hf q
  · rintro ⟨i, w, e, q⟩
    obtain ⟨b1, b2, b3, b4⟩ := H.2.2 i w e
    refine ⟨i, (List.getElem?_eq_some_iff.mp e).1, ?_⟩
    rw [b1, w_div b3 b4, q]
theorem w_eq {h : ha_H} {c : Nat} {wr : List ab_W} (H : mv_W h c wr) : m_w h c = wr.length := by
  unfold m_w
  rw [H.1, nI_clamp (by have := H.2.1; omega)]
/-- what is forgotten -/
def f_fg (f mo : Nat) : Nat → List ab_W → List ab_W
  | _, [] => []
  | gone, w :: l => if w.1 = f ∧ gone < mo then f_fg f mo (gone + 1) l else w :: f_fg f mo gone l
theorem fg_all (f : Nat) : ∀ (l : List ab_W) (gone : Nat), gone + l.length ≤ 6 → f_fg f 6 gone l = f_ra l f
  | [], _, _ => rfl
  | w :: l, gone, h => by
    unfold f_fg f_ra
    have hl : gone + (l.length + 1) ≤ 6 := h
    by_cases c : w.1 = f
    · rw [if_pos ⟨c, by omega⟩, fg_all f l _ (by omega), List.filter_cons_of_neg (by simp [c])]; rfl
    · rw [if_neg (fun z => c z.1), fg_all f l _ (by omega), List.filter_cons_of_pos (by simp [c])]; rfl
theorem fg_none (f mo : Nat) : ∀ (l : List ab_W) (gone : Nat), mo ≤ gone → f_fg f mo gone l = l
  | [], _, _ => rfl
  | w :: l, gone, h => by
    unfold f_fg
    rw [if_neg (fun z => by omega), fg_none f mo l gone h]
theorem fg_one (f : Nat) : ∀ (l : List ab_W), f_fg f 1 0 l = f_rf l f
  | [] => rfl
  | w :: l => by
    unfold f_fg f_rf
    by_cases c : w.1 = f
    · rw [if_pos ⟨c, by omega⟩, if_pos c, fg_none f 1 l 1 (by omega)]
    · rw [if_neg (fun z => c z.1), if_neg c, fg_one f l]
theorem fg_len (f mo : Nat) : ∀ (l : List ab_W) (gone : Nat), (f_fg f mo gone l).length ≤ l.length
  | [], _ => Nat.le_refl _
  | w :: l, gone => by
    unfold f_fg
    by_cases c : w.1 = f ∧ gone < mo
    · rw [if_pos c]; exact Nat.le_succ_of_le (fg_len f mo l _)
    · rw [if_neg c]; exact Nat.succ_le_succ (fg_len f mo l _)
theorem fg_sp (c f mo : Nat) (hf : f < 4) : ∀ (r : List ab_W) (h : ha_H) (pre : List ab_W) (gone k : Nat), pre.length ≤ k → k + r.length ≤ 6 → (∀ i w, pre[i]? = some w → mv_w h c i w) → (∀ i w, r[i]? = some w → mv_w h c (k + i) w) → (hp_I (m_fg c f mo r.length h pre.length gone k) 84 c = nI (pre ++ f_fg f mo gone r).length ∧ (∀ i w, (pre ++ f_fg f mo gone r)[i]? = some w → mv_w (m_fg c f mo r.length h pre.length gone k) c i w) ∧ ∀ x j, ¬ (x = 84 ∧ j = c) → ¬ ((x = 85 ∨ x = 86) ∧ 6 * c ≤ j ∧ j < 6 * c + 6) → hp_I (m_fg c f mo r.length h pre.length gone k) x j = hp_I h x j)
  | [], h, pre, gone, k, h1, h2, h3, h4 => by
    show hp_I (hp_sI h 84 c (nI pre.length)) 84 c = _ ∧ (∀ i w, _ → mv_w (hp_sI h 84 c (nI pre.length)) c i w) ∧ ∀ x j, _ → _ → hp_I (hp_sI h 84 c (nI pre.length)) x j = _
    refine ⟨by rw [hI_set]; show _ = nI (pre ++ []).length; rw [List.append_nil], fun i w e => ?_, fun x j q1 q2 => by rw [hp_I_sI, if_neg q1]⟩
    have e' : (pre ++ [])[i]? = some w := e
    rw [List.append_nil] at e'
    obtain ⟨b1, b2, b3, b4⟩ := h3 i w e'
    exact ⟨by rw [hp_I_sI, if_neg (by omega)]; exact b1, by rw [hp_I_sI, if_neg (by omega)]; exact b2, b3, b4⟩
  | w :: l, h, pre, gone, k, h1, h2, h3, h4 => by
    have h2' : k + (l.length + 1) ≤ 6 := h2
    obtain ⟨b1, b2, b3, b4⟩ := h4 0 w rfl
    rw [Nat.add_zero] at b1 b2
    have ed : (decide (hp_I h 85 (6 * c + k) / nI 4 = nI f) && !decide (mo ≤ gone)) = decide (w.1 = f ∧ gone < mo) := by
      have e1 : (hp_I h 85 (6 * c + k) / nI 4 = nI f) = (w.1 = f) := by
        rw [b1, w_div b3 b4]
        exact propext (nI_eq (by omega) (by omega))
      simp only [e1]
      by_cases z : w.1 = f <;> by_cases y : gone < mo <;> simp [z, y] <;> omega
    show hp_I (m_fg c f mo (l.length + 1) h pre.length gone k) 84 c = _ ∧ (∀ i w', _ → mv_w (m_fg c f mo (l.length + 1) h pre.length gone k) c i w') ∧ ∀ x j, _ → _ → hp_I (m_fg c f mo (l.length + 1) h pre.length gone k) x j = _
    unfold m_fg f_fg
    rw [ed]
    by_cases z : w.1 = f ∧ gone < mo
    · rw [if_pos (by simpa using z), if_pos z]
      refine fg_sp c f mo hf l h pre (gone + 1) (k + 1) (by omega) (by omega) h3 (fun i v e => ?_)
      have := h4 (i + 1) v (by simpa using e)
      rw [show k + 1 + i = k + (i + 1) by omega]; exact this
    · rw [if_neg (by simpa using z), if_neg z]
      generalize eg : hp_mv (hp_mv h 85 (6 * c + k) 85 (6 * c + pre.length)) 86 (6 * c + k) 86 (6 * c + pre.length) = g
      have G : ∀ x j, ¬ ((x = 85 ∨ x = 86) ∧ j = 6 * c + pre.length) → hp_I g x j = hp_I h x j := fun x j q => by
        rw [← eg]; unfold hp_mv
        rw [hp_I_sI, if_neg (by omega), hp_I_sI, if_neg (by omega)]
      have G5 : hp_I g 85 (6 * c + pre.length) = nI (4 * w.1 + w.2.1) := by
        rw [← eg]; unfold hp_mv
        rw [hp_I_sI, if_neg (by omega), hI_set]; exact b1
      have G6 : hp_I g 86 (6 * c + pre.length) = w.2.2 := by
        rw [← eg]; unfold hp_mv
        rw [hI_set, hp_I_sI, if_neg (by omega)]; exact b2
      have I := fg_sp c f mo hf l g (pre ++ [w]) gone (k + 1) (by rw [List.length_append]; show pre.length + 1 ≤ k + 1; omega) (by omega) (fun i v e => ?_) (fun i v e => ?_)
      · have el : (pre ++ [w]).length = pre.length + 1 := by rw [List.length_append]; rfl
        rw [el, List.append_assoc] at I
        obtain ⟨I1, I2, I3⟩ := I
        refine ⟨I1, I2, fun x j q1 q2 => ?_⟩
        rw [I3 x j q1 q2]
        exact G x j (fun y => q2 ⟨y.1, by omega, by omega⟩)
      · by_cases ci : i < pre.length
        · rw [List.getElem?_append_left ci] at e
          obtain ⟨d1, d2, d3, d4⟩ := h3 i v e
          exact ⟨by rw [G _ _ (by omega)]; exact d1, by rw [G _ _ (by omega)]; exact d2, d3, d4⟩
        · have : i < (pre ++ [w]).length := (List.getElem?_eq_some_iff.mp e).1
          rw [List.length_append] at this
          have ei : i = pre.length := by
            have : i < pre.length + 1 := this
            omega
          subst ei
          rw [List.getElem?_append_right (Nat.le_refl _), Nat.sub_self] at e
          have e' : some w = some v := e
          cases e'
          exact ⟨G5, G6, b3, b4⟩
      · obtain ⟨d1, d2, d3, d4⟩ := h4 (i + 1) v (by simpa using e)
        rw [show k + 1 + i = k + (i + 1) by omega]
        exact ⟨by rw [G _ _ (by omega)]; exact d1, by rw [G _ _ (by omega)]; exact d2, d3, d4⟩
/-- forgetting, as a whole -/
theorem fg_W {h : ha_H} {c f mo : Nat} {wr : List ab_W} (H : mv_W h c wr) (hf : f < 4) : mv_W (m_forget h wr.length c f mo) c (f_fg f mo 0 wr) ∧ ∀ x j, ¬ (x = 84 ∧ j = c) → ¬ ((x = 85 ∨ x = 86) ∧ 6 * c ≤ j ∧ j < 6 * c + 6) → hp_I (m_forget h wr.length c f mo) x j = hp_I h x j := by
  obtain ⟨I1, I2, I3⟩ := fg_sp c f mo hf wr h [] 0 0 (Nat.le_refl _) (by have := H.2.1; omega) (fun i w e => by simp at e) (fun i w e => by rw [Nat.zero_add]; exact H.2.2 i w e)
  exact ⟨⟨I1, Nat.le_trans (fg_len f mo wr 0) H.2.1, I2⟩, I3⟩
/-- the writes redone -/
theorem rd_sp (c f : Nat) (hf : f < 4) : ∀ (r : List ab_W) (h : ha_H) (k : Nat) (ps : Nat → Int32), (∀ i w, r[i]? = some w → mv_w h c (k + i) w) → (∀ p, p < 4 → hp_I h 83 (16 * c + 4 * f + p) = ps p) → (∀ p, p < 4 → hp_I (m_rd c f r.length h k) 83 (16 * c + 4 * f + p) = f_redo r f ps p) ∧ ∀ x j, ¬ (x = 83 ∧ 16 * c + 4 * f ≤ j ∧ j < 16 * c + 4 * f + 4) → hp_I (m_rd c f r.length h k) x j = hp_I h x j
  | [], h, k, ps, h1, h2 => ⟨h2, fun _ _ _ => rfl⟩
  | w :: l, h, k, ps, h1, h2 => by
    obtain ⟨b1, b2, b3, b4⟩ := h1 0 w rfl
    rw [Nat.add_zero] at b1 b2
    show (∀ p, p < 4 → hp_I (m_rd c f (l.length + 1) h k) 83 (16 * c + 4 * f + p) = _) ∧ ∀ x j, _ → hp_I (m_rd c f (l.length + 1) h k) x j = _
    unfold m_rd f_redo
    have ec : nI (4 * w.1 + w.2.1) / nI 4 = nI w.1 := w_div b3 b4
    rw [b1, b2, ec, nI_clamp (by omega)]
    by_cases z : w.1 = f
    · rw [if_pos (by rw [z]), if_pos z]
      have G : ∀ x j, ¬ (x = 83 ∧ j = 16 * c + (4 * w.1 + w.2.1)) → hp_I (hp_sI h 83 (16 * c + (4 * w.1 + w.2.1)) w.2.2) x j = hp_I h x j := fun x j q => by rw [hp_I_sI, if_neg q]
      obtain ⟨I1, I2⟩ := rd_sp c f hf l (hp_sI h 83 (16 * c + (4 * w.1 + w.2.1)) w.2.2) (k + 1) (fu ps w.2.1 w.2.2) (fun i v e => by
        obtain ⟨d1, d2, d3, d4⟩ := h1 (i + 1) v (by simpa using e)
        rw [show k + 1 + i = k + (i + 1) by omega]
        exact ⟨by rw [G _ _ (by omega)]; exact d1, by rw [G _ _ (by omega)]; exact d2, d3, d4⟩) (fun p hp => by
        by_cases y : p = w.2.1
        · rw [y, fu_at, hp_I_sI, if_pos ⟨rfl, by omega⟩]
        · rw [fu_ne _ _ y, G _ _ (by omega)]; exact h2 p hp)
      refine ⟨I1, fun x j q => ?_⟩
      rw [I2 x j q]
      exact G x j (fun y => q ⟨y.1, by omega, by omega⟩)
    · rw [if_neg (fun y => z (nI_in4 b3 hf y)), if_neg z]
      exact rd_sp c f hf l h (k + 1) ps (fun i v e => by
        rw [show k + 1 + i = k + (i + 1) by omega]
        exact h1 (i + 1) v (by simpa using e)) h2
