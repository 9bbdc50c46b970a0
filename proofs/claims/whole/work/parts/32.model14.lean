/-- the arrays of Z are as they were -/
def sm (Z : List Nat) (h g : ha_H) : Prop := ∀ a, a ∈ Z → ∀ j, hp_I g a j = hp_I h a j
theorem sm_rf {Z : List Nat} {h : ha_H} : sm Z h h := fun _ _ _ => rfl
theorem sm_tr {Z : List Nat} {h g k : ha_H} (h1 : sm Z h g) (h2 : sm Z g k) : sm Z h k := fun a ha j => (h2 a ha j).trans (h1 a ha j)
theorem sm_sI {Z : List Nat} {h g : ha_H} (h1 : sm Z h g) {a k : Nat} {v : Int32} (ha : a ∉ Z) : sm Z h (hp_sI g a k v) := fun x hx j => by
  rw [hp_I_sI, if_neg (show ¬ (x = a ∧ j = k) from fun q => ha (q.1 ▸ hx))]
  exact h1 x hx j
theorem sm_mv {Z : List Nat} {h g : ha_H} (h1 : sm Z h g) {A i B t : Nat} (ha : B ∉ Z) : sm Z h (hp_mv g A i B t) := sm_sI h1 ha
/-- what the server's side leaves alone: who is up, the clocks, the clients -/
abbrev mz_C : List Nat := [63, 64, 78, 79, 80, 81, 82, 83, 84, 85, 86, 87, 88, 89, 90, 91, 92, 93]
theorem sm_roomH {h : ha_H} {u : Nat} {k c f x : Int32} : sm mz_C h (m_roomH h u k c f x) := sm_sI (sm_sI (sm_sI (sm_sI (sm_sI (sm_sI (sm_sI (sm_sI (sm_sI (sm_rf) (by decide)) (by decide)) (by decide)) (by decide)) (by decide)) (by decide)) (by decide)) (by decide)) (by decide)
theorem sm_room {h : ha_H} {u : Nat} {k c f x : Int32} : sm mz_C h (m_room h u k c f x).2 := by
  unfold m_room
  split
  · exact sm_rf
  · exact sm_roomH
theorem sm_ans {h : ha_H} {u c : Nat} : sm mz_C h (m_ans h u c) := by
  unfold m_ans
  split
  · exact sm_rf
  · exact sm_mv (sm_mv (sm_mv (sm_mv (sm_mv (sm_mv (sm_roomH) (by decide)) (by decide)) (by decide)) (by decide)) (by decide)) (by decide)
theorem sm_ask {h : ha_H} {u c : Nat} : sm mz_C h (m_ask h u c) := by
  unfold m_ask
  split
  · exact sm_rf
  · exact sm_mv (sm_mv (sm_mv (sm_mv (sm_roomH) (by decide)) (by decide)) (by decide)) (by decide)
theorem sm_fin {h : ha_H} {u c : Nat} {x k f : Int32} : sm mz_C h (m_fin h u c x k f) := sm_tr (show sm mz_C h (m_finH h c x k f) from sm_sI (sm_sI (sm_sI (sm_rf) (by decide)) (by decide)) (by decide)) sm_ans
theorem sm_grH {h : ha_H} {c f : Nat} {m : Int32} {b : Bool} : sm mz_C h (m_grH h c f m b) := sm_sI (sm_sI (sm_mv (sm_mv (sm_mv (sm_mv (sm_sI (sm_sI (sm_rf) (by decide)) (by decide)) (by decide)) (by decide)) (by decide)) (by decide)) (by decide)) (by decide)
theorem sm_gr {h : ha_H} {u c f : Nat} {x m : Int32} {b : Bool} : sm mz_C h (m_gr h u c f x m b) := sm_tr sm_grH sm_fin
theorem sm_gw {h : ha_H} {c f : Nat} : sm mz_C h (m_gw h c f) := sm_tr (sm_sI (sm_rf) (by decide)) sm_gr
theorem sm_sv : ∀ (n : Nat) {h : ha_H} {f : Nat}, sm mz_C h (m_sv n h f)
  | 0, h, f => sm_rf
  | n + 1, h, f => by
    unfold m_sv
    cases m_fs h (nI f) 3 with
    | none => exact sm_rf
    | some c =>
      dsimp only
      split
      · split
        · exact sm_tr sm_gw (sm_sv n)
        · exact sm_rf
      · exact sm_rf
theorem sm_svN : ∀ (n : Nat) {h : ha_H} {f : Nat}, sm mz_C h (m_svN n h f)
  | 0, h, f => sm_rf
  | n + 1, h, f => sm_tr (sm_sv 3) (sm_svN n)
theorem sm_serve {h : ha_H} : sm mz_C h (m_serve h) := sm_svN 4
theorem sm_rc (c f : Nat) (m : Int32) : ∀ (n : Nat) {h : ha_H} {d : Nat}, sm mz_C h (m_rc c f m n h d)
  | 0, h, d => sm_rf
  | n + 1, h, d => by
    unfold m_rc
    split
    · exact sm_tr sm_room (sm_rc c f m n)
    · exact sm_rc c f m n
theorem sm_wtH {h : ha_H} {c f : Nat} {x m : Int32} : sm mz_C h (m_wtH h c f x m) := sm_sI (sm_sI (sm_sI (sm_sI (sm_sI (sm_rf) (by decide)) (by decide)) (by decide)) (by decide)) (by decide)
theorem sm_al {h : ha_H} {u c f : Nat} {x m : Int32} {cl : Bool} : sm mz_C h (m_al h u c f x m cl) := by
  unfold m_al
  split
  · exact sm_fin
  · split
    · exact sm_gr
    · exact sm_tr sm_wtH (sm_rc c f m 3)
theorem sm_rq2 {h : ha_H} {k : Int32} {c f : Nat} {x m : Int32} {cl : Bool} {t : Nat} {v : Int32} : sm mz_C h (m_rq2 h k c f x m cl t v) := by
  unfold m_rq2
  split
  · exact sm_al
  · split
    · split
      · exact sm_tr (sm_sI (sm_rf) (by decide)) sm_fin
      · exact sm_tr (sm_mv (sm_rf) (by decide)) sm_fin
    · exact sm_tr (sm_sI (sm_rf) (by decide)) sm_fin
theorem sm_rq {h : ha_H} {k : Int32} {c f : Nat} {x m : Int32} {cl : Bool} {t : Nat} {v : Int32} : sm mz_C h (m_rq h k c f x m cl t v) := by
  unfold m_rq
  split
  · split
    · exact sm_ans
    · split
      · exact sm_rf
      · exact sm_tr (sm_sI (sm_rf) (by decide)) sm_rq2
  · exact sm_rf
/-- what a message's going leaves alone -/
abbrev mz_N : List Nat := [63, 64, 65, 66, 67, 68, 69, 70, 71, 72, 73, 74, 75, 76, 77, 78, 79, 80, 81, 82, 83, 84, 85, 86, 87, 88, 89, 90, 91, 92, 93]
theorem sm_move {h : ha_H} {i t : Nat} : sm mz_N h (m_move h i t) := sm_mv (sm_mv (sm_mv (sm_mv (sm_mv (sm_mv (sm_mv (sm_mv (sm_mv (sm_mv (sm_mv (sm_mv (sm_rf) (by decide)) (by decide)) (by decide)) (by decide)) (by decide)) (by decide)) (by decide)) (by decide)) (by decide)) (by decide)) (by decide)) (by decide)
theorem sm_shift : ∀ (n : Nat) {h : ha_H} {k : Nat}, sm mz_N h (m_shift n h k)
  | 0, h, k => sm_rf
  | n + 1, h, k => sm_tr sm_move (sm_shift n)
theorem sm_drop {h : ha_H} {u j : Nat} : sm mz_N h (m_drop h u j) := sm_tr (sm_sI (sm_rf) (by decide)) (sm_shift _)
theorem mI_move {h : ha_H} (hi : mo_I h) {i t : Nat} : mo_I (m_move h i t) ∧ m_u (m_move h i t) = m_u h :=
  have e : hp_I (m_move h i t) 62 34 = nI (m_u h) := mu_move.trans hi.2.2.1
  ⟨mI_of (mo_move hi.1) (mb_move hi.2.1) e hi.2.2.2, mI_u e hi.2.2.2⟩
theorem mI_shift : ∀ (n : Nat) {h : ha_H} (_ : mo_I h) {k : Nat}, mo_I (m_shift n h k) ∧ m_u (m_shift n h k) = m_u h
  | 0, h, hi, k => ⟨hi, rfl⟩
  | n + 1, h, hi, k => by
    have h1 := mI_move hi (i := k + 1) (t := k)
    have h2 := mI_shift n h1.1 (k := k + 1)
    exact ⟨h2.1, h2.2.trans h1.2⟩
theorem mI_drop {h : ha_H} (hi : mo_I h) {j : Nat} (hj : j < m_u h) : mo_I (m_drop h (m_u h) j) ∧ m_u (m_drop h (m_u h) j) = m_u h - 1 := by
  have h60 := hi.2.2.2
  have e : hp_I (hp_sI h 62 34 (nI (m_u h - 1))) 62 34 = nI (m_u h - 1) := hI_set
  have h1 : mo_I (hp_sI h 62 34 (nI (m_u h - 1))) := mI_of (mo_sI hi.1) (mb_sI hi.2.1 (fun q => absurd q (by decide))) e (by omega)
  have h2 := mI_shift (m_u h - 1 - j) h1 (k := j)
  exact ⟨h2.1, h2.2.trans (mI_u e (by omega))⟩
theorem dw_sm {Z : List Nat} {h g : ha_H} (hs : sm Z h g) (hz : 84 ∈ Z) (hd : mo_dw h) : mo_dw g := fun c hc => by
  rw [hs 84 hz c]
  exact hd c hc
theorem dp_sm {Z : List Nat} {h g : ha_H} (hs : sm Z h g) (hz : 85 ∈ Z) (hd : mo_dp h) : mo_dp g := fun c hc => by
  rw [hs 85 hz c]
  exact hd c hc
theorem m_rdP {P : ha_H → Prop} {c f : Nat} (h1 : ∀ h k v, P h → P (hp_sI h 83 k v)) : ∀ (n : Nat) (h : ha_H) (k : Nat), P h → P (m_rd c f n h k)
  | 0, h, k, hP => hP
  | n + 1, h, k, hP => by
    unfold m_rd
    split
    · exact m_rdP h1 n _ (k + 1) (h1 _ _ _ hP)
    · exact m_rdP h1 n _ (k + 1) hP
/-- a granted lease: what it keeps -/
theorem gd_P {P : ha_H → Prop} {h : ha_H} {c f : Nat} (hc : c < 3) (hw6 : m_w h c ≤ 6) {m : Int32} {mb : Bool} {fr : Nat} (h0 : ∀ g a k v, a ∈ [79, 80, 83, 87] → P g → P (hp_sI g a k v)) (hz : ∀ g a k v, a ∈ [81, 82] → (v = 0 ∨ v = 1) → P g → P (hp_sI g a k v)) (h1 : ∀ g i t, i < 18 → P g → P (hp_mv g 85 i 85 t)) (h2 : ∀ g i t, P g → P (hp_mv g 86 i 86 t)) (h3 : ∀ g w, w ≤ 6 → P g → P (hp_sI g 84 c (nI w))) (hP : P h) : P (m_granted h c f m mb fr) := by
  have hA : P (m_gdA h c f m) := h0 _ _ _ _ (by decide) (h0 _ _ _ _ (by decide) (h0 _ _ _ _ (by decide) hP))
  have hD : ∀ g n1, P g → P (m_gdD g n1 c f fr) := fun g n1 hg => hz _ _ _ _ (by decide) (Or.inl rfl) (m_rdP (fun g k v hg => h0 _ _ _ _ (by decide) hg) n1 _ 0 (h0 _ _ _ _ (by decide) (h0 _ _ _ _ (by decide) (h0 _ _ _ _ (by decide) (h0 _ _ _ _ (by decide) hg)))))
  unfold m_granted
  split
  · exact hD _ _ (hz _ _ _ _ (by decide) (Or.inr rfl) (m_fgP hc h1 h2 h3 _ _ 0 0 0 (Nat.le_refl _) (by omega) hA))
  · exact hD _ _ hA
theorem gd_I {h : ha_H} (hi : mo_I h) {c f : Nat} (hc : c < 3) (hw6 : m_w h c ≤ 6) {m : Int32} {mb : Bool} {fr : Nat} : mo_I (m_granted h c f m mb fr) ∧ m_u (m_granted h c f m mb fr) = m_u h :=
  gd_P (P := fun g => mo_I g ∧ m_u g = m_u h) hc hw6
    (fun g a k v ha hg => have q := mI_sI hg.1 (a := a) (k := k) (v := v) (by intro e; subst e; revert ha; decide) (fun q => by exfalso; simp at ha q; omega); ⟨q.1, q.2.trans hg.2⟩)
    (fun g a k v ha hv hg => have q := mI_sI hg.1 (a := a) (k := k) (v := v) (by intro e; subst e; revert ha; decide) (fun _ => hv); ⟨q.1, q.2.trans hg.2⟩)
    (fun g i t _ hg => have q := mI_mv hg.1 (A := 85) (i := i) (B := 85) (t := t) (by decide) (by decide); ⟨q.1, q.2.trans hg.2⟩) (fun g i t hg => have q := mI_mv hg.1 (A := 86) (i := i) (B := 86) (t := t) (by decide) (by decide); ⟨q.1, q.2.trans hg.2⟩) (fun g w _ hg => have q := mI_sI hg.1 (a := 84) (k := c) (v := nI w) (by decide) (fun q => absurd q (by decide)); ⟨q.1, q.2.trans hg.2⟩) ⟨hi, rfl⟩
theorem gd_dw {h : ha_H} (hd : mo_dw h) {c f : Nat} (hc : c < 3) (hw6 : m_w h c ≤ 6) {m : Int32} {mb : Bool} {fr : Nat} : mo_dw (m_granted h c f m mb fr) :=
  gd_P (P := mo_dw) hc hw6 (fun g a k v ha hg => dw_sI hg (by intro e; subst e; revert ha; decide)) (fun g a k v ha _ hg => dw_sI hg (by intro e; subst e; revert ha; decide)) (fun g i t _ hg => dw_mv hg (by decide)) (fun g i t hg => dw_mv hg (by decide)) (fun g w hw hg => dw_set hg hw) hd
/-- what each message under way names -/
def mo_ms (h : ha_H) : Prop := ∀ j, j < m_u h → (∃ c, c < 3 ∧ hp_I h 95 j = nI c) ∧ (∃ f, f < 4 ∧ hp_I h 96 j = nI f) ∧ ∃ p, p < 4 ∧ hp_I h 100 j = nI p
def m_dlG (h : ha_H) (c : Nat) (x : Int32) : Bool := decide (hp_I h 63 c = 0) && (!decide (hp_I h 87 c ≤ 0) && decide (hp_I h 78 c = x))
def m_dl1 (h : ha_H) (k : Int32) (c f : Nat) (x m : Int32) (y : Bool) (i : Nat) : ha_H := if (decide (k = nI 4) && m_dlG h c x) = true then m_granted h c f m y (4 * i) else h
def m_dl3 (h : ha_H) (k : Int32) (c f : Nat) (x m : Int32) (y : Bool) (t : Nat) (v : Int32) : ha_H := if (!decide (nI 3 < k) && decide (hp_I h 63 3 = 0)) = true then m_serve (m_rq h k c f x m y t v) else h
def m_dl4 (h : ha_H) (k : Int32) (c f : Nat) (x : Int32) : ha_H := if (!decide (k < nI 5) && (!decide (nI 7 < k) && m_dlG h c x)) = true then m_replied h k c f else h
def m_dl5 (h : ha_H) (k : Int32) (c f : Nat) : ha_H := if (decide (k = nI 8) && decide (hp_I h 63 c = 0)) = true then hp_sI h 81 (4 * c + f) (nI 1) else h
def m_dlX (h : ha_H) (u : Nat) (k : Int32) (c f : Nat) (x m : Int32) (y : Bool) (t : Nat) (v : Int32) (i : Nat) : ha_H := m_dl5 (m_dl4 (m_dl3 (m_drop (m_dl1 h k c f x m y i) u i) k c f x m y t v) k c f x) k c f
def m_dl (h : ha_H) (i : Nat) : ha_H := m_dlX h (m_u h) (hp_I h 94 i) (hp_I h 95 i).toNatClampNeg (hp_I h 96 i).toNatClampNeg (hp_I h 97 i) (hp_I h 98 i) (!decide (hp_I h 99 i = 0)) (4 * (hp_I h 96 i).toNatClampNeg + (hp_I h 100 i).toNatClampNeg) (hp_I h 101 i) i
def m_deliver (h : ha_H) (i : Int32) : Int32 × ha_H := if mi_in i (nI 0) (nI (m_u h) - nI 1) = 0 then (nI 0, h) else (nI 1, m_dl h i.toNatClampNeg)
theorem m_bof {v : Int32} (h : v = 0 ∨ v = 1) : v = m_bi (!decide (v = 0)) := by rcases h with rfl | rfl <;> decide
theorem rp_P {P : ha_H → Prop} {h : ha_H} {k : Int32} {c f : Nat} (hc : c < 3) (hw6 : m_w h c ≤ 6) (h0 : ∀ g a k v, a ∈ [79, 87] → P g → P (hp_sI g a k v)) (hz : ∀ g k v, (v = 0 ∨ v = 1) → P g → P (hp_sI g 82 k v)) (h1 : ∀ g i t, i < 18 → P g → P (hp_mv g 85 i 85 t)) (h2 : ∀ g i t, P g → P (hp_mv g 86 i 86 t)) (h3 : ∀ g w, w ≤ 6 → P g → P (hp_sI g 84 c (nI w))) (hP : P h) : P (m_replied h k c f) := by
  have hA : P (hp_sI h 87 c (nI 0)) := h0 _ _ _ _ (by decide) hP
  unfold m_replied
  split
  · split
    · exact m_fgP hc h1 h2 h3 _ _ 0 0 0 (Nat.le_refl _) (by omega) hA
    · split
      · exact h0 _ _ _ _ (by decide) (hz _ _ _ (Or.inr rfl) (m_fgP hc h1 h2 h3 _ _ 0 0 0 (Nat.le_refl _) (by omega) hA))
      · exact hA
  · exact hA
theorem rp_II {h : ha_H} (hi : mo_I h) {k : Int32} {c f : Nat} (hc : c < 3) (hw6 : m_w h c ≤ 6) : mo_I (m_replied h k c f) ∧ m_u (m_replied h k c f) = m_u h :=
  rp_P (P := fun g => mo_I g ∧ m_u g = m_u h) hc hw6
    (fun g a k v ha hg => have q := mI_sI hg.1 (a := a) (k := k) (v := v) (by intro e; subst e; revert ha; decide) (fun q => by exfalso; simp at ha q; omega); ⟨q.1, q.2.trans hg.2⟩)
    (fun g k v hv hg => have q := mI_sI hg.1 (a := 82) (k := k) (v := v) (by decide) (fun _ => hv); ⟨q.1, q.2.trans hg.2⟩)
    (fun g i t _ hg => have q := mI_mv hg.1 (A := 85) (i := i) (B := 85) (t := t) (by decide) (by decide); ⟨q.1, q.2.trans hg.2⟩) (fun g i t hg => have q := mI_mv hg.1 (A := 86) (i := i) (B := 86) (t := t) (by decide) (by decide); ⟨q.1, q.2.trans hg.2⟩) (fun g w _ hg => have q := mI_sI hg.1 (a := 84) (k := c) (v := nI w) (by decide) (fun q => absurd q (by decide)); ⟨q.1, q.2.trans hg.2⟩) ⟨hi, rfl⟩
theorem rp_I {h : ha_H} (hi : mo_I h) (hdw : mo_dw h) {k : Int32} {c f : Nat} (hc : c < 3) : mo_I (m_replied h k c f) := (rp_II hi hc (m_wE hdw hc).2).1
theorem cM_deliver (G : mt_G) (h : ha_H) (hi : mo_I h) (hp : mo_dp h) (hdw : mo_dw h) (hms : mo_ms h) (i : Int32) : rn_M G xM_deliver (6, 0, 0) [.inr (some 62), .inl i] h (rn_i (fun r h' => r = (m_deliver h i).1 ∧ (m_deliver h i).2 = h')) := by
  have hm := hi.1
  have hu := hi.2.2.1
  have h60 := hi.2.2.2
  refine rn_of (by decide +kernel) (Nat.le_of_ble_eq_true rfl) ?_
  show rn_W G xM_deliver (6, 0, 0) 0 0 0 [some (.inr (some 62)), some (.inl i), none, none, none, none, none, none, none, none] [] h _
  refine rw_iload_n (pc := 0) dM_deliver_0 rfl ?_
  refine rw_iconst (pc := 1) (x := nI 0) dM_deliver_1 (by decide) ?_
  refine rw_aload_n (pc := 2) dM_deliver_2 rfl ?_
  refine rw_getI (pc := 3) (x := nI (m_u h)) flM_135_M dM_deliver_3 (mo_o62 hm) (mo_S62 hm) hu ?_
  refine rw_iconst (pc := 6) (x := nI 1) dM_deliver_6 (by decide) ?_
  refine rw_isub (pc := 7) (v := nI (m_u h) - nI 1) dM_deliver_7 rfl ?_
  refine rw_si (pc := 8) (z' := (0, 0, 0)) (rc' := 0) (rs' := 0) (av := [.inl i, .inl (nI 0), .inl (nI (m_u h) - nI 1)]) (st := []) mlM_138 msM_in dM_deliver_8 (cM_in G _ _ _ _) rfl rfl (Nat.le_of_ble_eq_true rfl) (by decide) rfl rfl (fun r1 h1 q1 => ?_)
  obtain ⟨rfl, rfl⟩ := q1
  refine rw_ifne (pc := 11) dM_deliver_11 (tgt := 16) rfl (fun c2 => ?_) (fun c2 => ?_)
  · skip
    obtain ⟨j, hj, rfl⟩ := mi_idx h60 c2
    have e9 : m_deliver h (nI j) = (nI 1, m_dl h j) := by unfold m_deliver; rw [if_neg c2, nI_clamp (by omega)]
    have t221 : ∀ (k x m v : Int32) (c f t : Nat) (y : Bool) (g : ha_H), c < 3 → f < 4 → t < 16 → mo_ok g → m_dl5 g k c f = m_dl h j → rn_W G xM_deliver (6, 0, 0) 0 0 221 [some (.inr (some 62)), some (.inl (nI j)), some (.inl k), some (.inl (nI c)), some (.inl (nI f)), some (.inl x), some (.inl m), some (.inl (m_bi y)), some (.inl (nI t)), some (.inl v)] [] g (rn_i (fun r h' => r = (m_deliver h (nI j)).1 ∧ (m_deliver h (nI j)).2 = h')) := by
      intro k x m v c f t y g hc hf ht hm he
      refine rw_iload_n (pc := 221) dM_deliver_221 rfl ?_
      refine rw_bipush (pc := 222) (x := nI 8) dM_deliver_222 (by decide) ?_
      refine rw_icmpne (pc := 224) dM_deliver_224 (tgt := 248) rfl (fun c3 => ?_) (fun c3 => ?_)
      · skip
        refine rw_iconst (pc := 248) (x := nI 1) dM_deliver_248 (by decide) ?_
        have e8 : m_dl5 g k c f = g := by simp [m_dl5, c3]
        exact rw_zret (pc := 249) dM_deliver_249 rfl (Or.inr rfl) ⟨_, rfl, by rw [e9], by rw [e9]; exact he.symm.trans e8⟩
      · skip
        refine rw_aload_n (pc := 227) dM_deliver_227 rfl ?_
        refine rw_getR (pc := 228) (x := some 63) flM_7_M dM_deliver_228 (mo_o62 hm) (mo_S62 hm) (mo_R63 hm) ?_
        refine rw_iload_n (pc := 231) dM_deliver_231 rfl ?_
        refine rw_zald (pc := 232) (v := hp_I g 63 c) (i := c) dM_deliver_232 (mo_o63 hm) (mo_S63 hm) (ix_nI (by omega) (by decide)) rfl ?_
        refine rw_ifne (pc := 233) dM_deliver_233 (tgt := 248) rfl (fun c4 => ?_) (fun c4 => ?_)
        · skip
          refine rw_iconst (pc := 248) (x := nI 1) dM_deliver_248 (by decide) ?_
          have e8 : m_dl5 g k c f = g := by simp [m_dl5, c3, c4]
          exact rw_zret (pc := 249) dM_deliver_249 rfl (Or.inr rfl) ⟨_, rfl, by rw [e9], by rw [e9]; exact he.symm.trans e8⟩
        · skip
          refine rw_aload_n (pc := 236) dM_deliver_236 rfl ?_
          refine rw_getR (pc := 237) (x := some 81) flM_65_M dM_deliver_237 (mo_o62 hm) (mo_S62 hm) (mo_R81 hm) ?_
          refine rw_iconst (pc := 240) (x := nI 4) dM_deliver_240 (by decide) ?_
          refine rw_iload_n (pc := 241) dM_deliver_241 rfl ?_
          refine rw_imul (pc := 242) (v := nI (4 * c)) dM_deliver_242 (pk_mul _ _) ?_
          refine rw_iload (pc := 243) dM_deliver_243 rfl ?_
          refine rw_iadd (pc := 245) (v := nI (4 * c + f)) dM_deliver_245 (nI_add _ _) ?_
          refine rw_iconst (pc := 246) (x := nI 1) dM_deliver_246 (by decide) ?_
          refine rw_zast (pc := 247) (i := (4 * c + f)) (Or.inr rfl) dM_deliver_247 (mo_o81 hm) (mo_S81 hm) (ix_nI (by omega) (by decide)) ?_
          replace hm := mo_sI (a := 81) (k := (4 * c + f)) (v := nI 1) hm
          refine rw_iconst (pc := 248) (x := nI 1) dM_deliver_248 (by decide) ?_
          have e8 : m_dl5 g k c f = hp_sI g 81 (4 * c + f) (nI 1) := by simp [m_dl5, c3, c4]
          exact rw_zret (pc := 249) dM_deliver_249 rfl (Or.inr rfl) ⟨_, rfl, by rw [e9], by rw [e9]; exact he.symm.trans e8⟩
    have t173 : ∀ (k x m v : Int32) (c f t : Nat) (y : Bool) (g : ha_H), c < 3 → f < 4 → t < 16 → mo_I g → mo_dw g → m_dl5 (m_dl4 g k c f x) k c f = m_dl h j → rn_W G xM_deliver (6, 0, 0) 0 0 173 [some (.inr (some 62)), some (.inl (nI j)), some (.inl k), some (.inl (nI c)), some (.inl (nI f)), some (.inl x), some (.inl m), some (.inl (m_bi y)), some (.inl (nI t)), some (.inl v)] [] g (rn_i (fun r h' => r = (m_deliver h (nI j)).1 ∧ (m_deliver h (nI j)).2 = h')) := by
      intro k x m v c f t y g hc hf ht hi hdw he
      have hm := hi.1
      refine rw_iload_n (pc := 173) dM_deliver_173 rfl ?_
      refine rw_iconst (pc := 174) (x := nI 5) dM_deliver_174 (by decide) ?_
      refine rw_icmplt (pc := 175) dM_deliver_175 (tgt := 221) rfl (fun c5 => ?_) (fun c5 => ?_)
      · skip
        have e8 : m_dl4 g k c f x = g := by simp [m_dl4, m_dlG, c5]
        rw [e8] at he
        exact t221 k x m v c f t y _ hc hf ht hm he
      · skip
        refine rw_iload_n (pc := 178) dM_deliver_178 rfl ?_
        refine rw_bipush (pc := 179) (x := nI 7) dM_deliver_179 (by decide) ?_
        refine rw_icmpgt (pc := 181) dM_deliver_181 (tgt := 221) rfl (fun c6 => ?_) (fun c6 => ?_)
        · skip
          have e8 : m_dl4 g k c f x = g := by simp [m_dl4, m_dlG, c5, c6]
          rw [e8] at he
          exact t221 k x m v c f t y _ hc hf ht hm he
        · skip
          refine rw_aload_n (pc := 184) dM_deliver_184 rfl ?_
          refine rw_getR (pc := 185) (x := some 63) flM_7_M dM_deliver_185 (mo_o62 hm) (mo_S62 hm) (mo_R63 hm) ?_
          refine rw_iload_n (pc := 188) dM_deliver_188 rfl ?_
          refine rw_zald (pc := 189) (v := hp_I g 63 c) (i := c) dM_deliver_189 (mo_o63 hm) (mo_S63 hm) (ix_nI (by omega) (by decide)) rfl ?_
          refine rw_ifne (pc := 190) dM_deliver_190 (tgt := 221) rfl (fun c7 => ?_) (fun c7 => ?_)
          · skip
            have e8 : m_dl4 g k c f x = g := by simp [m_dl4, m_dlG, c5, c6, c7]
            rw [e8] at he
            exact t221 k x m v c f t y _ hc hf ht hm he
          · skip
            refine rw_aload_n (pc := 193) dM_deliver_193 rfl ?_
            refine rw_getR (pc := 194) (x := some 87) flM_83_M dM_deliver_194 (mo_o62 hm) (mo_S62 hm) (mo_R87 hm) ?_
            refine rw_iload_n (pc := 197) dM_deliver_197 rfl ?_
            refine rw_iald (pc := 198) (v := hp_I g 87 c) (i := c) dM_deliver_198 (mo_o87 hm) (mo_S87 hm) (ix_nI (by omega) (by decide)) rfl ?_
            refine rw_ifle (pc := 199) dM_deliver_199 (tgt := 221) rfl (fun c8 => ?_) (fun c8 => ?_)
            · skip
              have e8 : m_dl4 g k c f x = g := by simp [m_dl4, m_dlG, c5, c6, c7, c8]
              rw [e8] at he
              exact t221 k x m v c f t y _ hc hf ht hm he
            · skip
              refine rw_aload_n (pc := 202) dM_deliver_202 rfl ?_
              refine rw_getR (pc := 203) (x := some 78) flM_56_M dM_deliver_203 (mo_o62 hm) (mo_S62 hm) (mo_R78 hm) ?_
              refine rw_iload_n (pc := 206) dM_deliver_206 rfl ?_
              refine rw_iald (pc := 207) (v := hp_I g 78 c) (i := c) dM_deliver_207 (mo_o78 hm) (mo_S78 hm) (ix_nI (by omega) (by decide)) rfl ?_
              refine rw_iload (pc := 208) dM_deliver_208 rfl ?_
              refine rw_icmpne (pc := 210) dM_deliver_210 (tgt := 221) rfl (fun c9 => ?_) (fun c9 => ?_)
              · skip
                have e8 : m_dl4 g k c f x = g := by simp [m_dl4, m_dlG, c5, c6, c7, c8, c9]
                rw [e8] at he
                exact t221 k x m v c f t y _ hc hf ht hm he
              · skip
                refine rw_aload_n (pc := 213) dM_deliver_213 rfl ?_
                refine rw_iload_n (pc := 214) dM_deliver_214 rfl ?_
                refine rw_iload_n (pc := 215) dM_deliver_215 rfl ?_
                refine rw_iload (pc := 216) dM_deliver_216 rfl ?_
                refine rw_vv (pc := 218) (z' := (1, 0, 0)) (rc' := 0) (rs' := 0) (av := [.inl k, .inl (nI c), .inl (nI f)]) (st := []) (ci := 10) mlM_167 miM_replied rfl mvM_replied_M dM_deliver_218 (mo_o62 hm) (mo_S62 hm) (cM_replied G _ hi hdw _ hc hf) rfl rfl (Nat.le_of_ble_eq_true rfl) (by decide) rfl rfl (fun h10 q10 => ?_)
                obtain rfl := q10
                have e8 : m_dl4 g k c f x = m_replied g k c f := by simp [m_dl4, m_dlG, c5, c6, c7, c8, c9]
                rw [e8] at he
                exact t221 k x m v c f t y _ hc hf ht (rp_I hi hdw hc).1 he
    have t137 : ∀ (k x m v : Int32) (c f t : Nat) (y : Bool) (g : ha_H), c < 3 → f < 4 → t < 16 → mo_I g → mo_dw g → m_dl5 (m_dl4 (m_dl3 g k c f x m y t v) k c f x) k c f = m_dl h j → rn_W G xM_deliver (6, 0, 0) 0 0 137 [some (.inr (some 62)), some (.inl (nI j)), some (.inl k), some (.inl (nI c)), some (.inl (nI f)), some (.inl x), some (.inl m), some (.inl (m_bi y)), some (.inl (nI t)), some (.inl v)] [] g (rn_i (fun r h' => r = (m_deliver h (nI j)).1 ∧ (m_deliver h (nI j)).2 = h')) := by
      intro k x m v c f t y g hc hf ht hi hdw he
      have hm := hi.1
      refine rw_iload_n (pc := 137) dM_deliver_137 rfl ?_
      refine rw_iconst (pc := 138) (x := nI 3) dM_deliver_138 (by decide) ?_
      refine rw_icmpgt (pc := 139) dM_deliver_139 (tgt := 173) rfl (fun c11 => ?_) (fun c11 => ?_)
      · skip
        have e8 : m_dl3 g k c f x m y t v = g := by simp [m_dl3, c11]
        rw [e8] at he
        exact t173 k x m v c f t y _ hc hf ht hi hdw he
      · skip
        refine rw_aload_n (pc := 142) dM_deliver_142 rfl ?_
        refine rw_getR (pc := 143) (x := some 63) flM_7_M dM_deliver_143 (mo_o62 hm) (mo_S62 hm) (mo_R63 hm) ?_
        refine rw_iconst (pc := 146) (x := nI 3) dM_deliver_146 (by decide) ?_
        refine rw_zald (pc := 147) (v := hp_I g 63 3) (i := 3) dM_deliver_147 (mo_o63 hm) (mo_S63 hm) (ix_nI (by omega) (by decide)) rfl ?_
        refine rw_ifne (pc := 148) dM_deliver_148 (tgt := 173) rfl (fun c12 => ?_) (fun c12 => ?_)
        · skip
          have e8 : m_dl3 g k c f x m y t v = g := by simp [m_dl3, c11, c12]
          rw [e8] at he
          exact t173 k x m v c f t y _ hc hf ht hi hdw he
        · skip
          refine rw_aload_n (pc := 151) dM_deliver_151 rfl ?_
          refine rw_iload_n (pc := 152) dM_deliver_152 rfl ?_
          refine rw_iload_n (pc := 153) dM_deliver_153 rfl ?_
          refine rw_iload (pc := 154) dM_deliver_154 rfl ?_
          refine rw_iload (pc := 156) dM_deliver_156 rfl ?_
          refine rw_iload (pc := 158) dM_deliver_158 rfl ?_
          refine rw_iload (pc := 160) dM_deliver_160 rfl ?_
          refine rw_iload (pc := 162) dM_deliver_162 rfl ?_
          refine rw_iload (pc := 164) dM_deliver_164 rfl ?_
          refine rw_vv (pc := 166) (z' := (5, 0, 0)) (rc' := 0) (rs' := 0) (av := [.inl k, .inl (nI c), .inl (nI f), .inl x, .inl m, .inl (m_bi y), .inl (nI t), .inl v]) (st := []) (ci := 10) mlM_160 miM_request rfl mvM_request_M dM_deliver_166 (mo_o62 hm) (mo_S62 hm) (cM_request G _ hi _ hc hf _ _ _ ht _) rfl rfl (Nat.le_of_ble_eq_true rfl) (by decide) rfl rfl (fun h13 q13 => ?_)
          obtain rfl := q13
          have hi2 := mI_rq hi (k := k) (c := c) (f := f) (x := x) (m := m) (cl := y) (t := t) (v := v)
          replace hm := hi2.1
          refine rw_aload_n (pc := 169) dM_deliver_169 rfl ?_
          refine rw_vv (pc := 170) (z' := (4, 0, 0)) (rc' := 0) (rs' := 0) (av := []) (st := []) (ci := 10) mlM_164 miM_serveLines rfl mvM_serveLines_M dM_deliver_170 (mo_o62 hm) (mo_S62 hm) (cM_serveLines G _ hi2) rfl rfl (Nat.le_of_ble_eq_true rfl) (by decide) rfl rfl (fun h14 q14 => ?_)
          obtain rfl := q14
          have e8 : m_dl3 g k c f x m y t v = m_serve (m_rq g k c f x m y t v) := by simp [m_dl3, c11, c12]
          rw [e8] at he
          exact t173 k x m v c f t y _ hc hf ht (mI_svN 4 hi2) (dw_sm (sm_tr sm_rq sm_serve) (by decide) hdw) he
    have t131 : ∀ (k x m v : Int32) (c f t : Nat) (y : Bool) (g : ha_H), c < 3 → f < 4 → t < 16 → mo_I g → m_u g = m_u h → mo_dw g → m_dl5 (m_dl4 (m_dl3 (m_drop g (m_u h) j) k c f x m y t v) k c f x) k c f = m_dl h j → rn_W G xM_deliver (6, 0, 0) 0 0 131 [some (.inr (some 62)), some (.inl (nI j)), some (.inl k), some (.inl (nI c)), some (.inl (nI f)), some (.inl x), some (.inl m), some (.inl (m_bi y)), some (.inl (nI t)), some (.inl v)] [] g (rn_i (fun r h' => r = (m_deliver h (nI j)).1 ∧ (m_deliver h (nI j)).2 = h')) := by
      intro k x m v c f t y g hc hf ht hi eu hdw he
      have hm := hi.1
      have hu := hi.2.2.1
      have e7 : m_dropH g (m_u g) (nI j) = m_drop g (m_u h) j := by unfold m_dropH; rw [eu, if_neg c2, nI_clamp (by omega)]
      have hj2 : j < m_u g := by omega
      have hi3 : mo_I (m_drop g (m_u h) j) := by have hz := (mI_drop hi hj2).1; rw [eu] at hz; exact hz
      refine rw_aload_n (pc := 131) dM_deliver_131 rfl ?_
      refine rw_iload_n (pc := 132) dM_deliver_132 rfl ?_
      refine rw_vi (pc := 133) (z' := (1, 0, 0)) (rc' := 0) (rs' := 0) (av := [.inl (nI j)]) (st := []) (ci := 10) mlM_156 miM_drop rfl mvM_drop_M dM_deliver_133 (mo_o62 hm) (mo_S62 hm) (cM_drop G _ hm hi.2.1 hu hi.2.2.2 _) rfl rfl (Nat.le_of_ble_eq_true rfl) (by decide) rfl rfl (fun r15 h15 q15 => ?_)
      obtain ⟨rfl, rfl⟩ := q15
      rw [e7]
      refine rw_pop (pc := 136) dM_deliver_136 ?_
      exact t137 k x m v c f t y _ hc hf ht hi3 (dw_sm sm_drop (by decide) hdw) he
    obtain ⟨⟨c, hc, ec⟩, ⟨f, hf, ef⟩, ⟨p, hp4, ep⟩⟩ := hms j hj
    obtain ⟨k, ek0⟩ : ∃ t, hp_I h 94 j = t := ⟨_, rfl⟩
    obtain ⟨x, ex0⟩ : ∃ t, hp_I h 97 j = t := ⟨_, rfl⟩
    obtain ⟨m, em0⟩ : ∃ t, hp_I h 98 j = t := ⟨_, rfl⟩
    obtain ⟨v, ev0⟩ : ∃ t, hp_I h 101 j = t := ⟨_, rfl⟩
    have ey := m_bof (hi.2.1 99 (by decide) j)
    obtain ⟨y, hy0⟩ : ∃ b, (!decide (hp_I h 99 j = 0)) = b := ⟨_, rfl⟩
    rw [hy0] at ey
    have eX : m_dl h j = m_dlX h (m_u h) k c f x m y (4 * f + p) v j := by unfold m_dl; rw [ec, ef, ep, ek0, ex0, em0, ev0, hy0, nI_clamp (show c < 2 ^ 31 by omega), nI_clamp (show f < 2 ^ 31 by omega), nI_clamp (show p < 2 ^ 31 by omega)]
    obtain ⟨hw, hw6⟩ := m_wE hdw hc
    refine rw_aload_n (pc := 16) dM_deliver_16 rfl ?_
    refine rw_getR (pc := 17) (x := some 94) flM_104_M dM_deliver_17 (mo_o62 hm) (mo_S62 hm) (mo_R94 hm) ?_
    refine rw_iload_n (pc := 20) dM_deliver_20 rfl ?_
    refine rw_iald (pc := 21) (v := k) (i := j) dM_deliver_21 (mo_o94 hm) (mo_S94 hm) (ix_nI (by omega) (by decide)) ek0 ?_
    refine rw_istore_n (pc := 22) (L' := [some (.inr (some 62)), some (.inl (nI j)), some (.inl k), none, none, none, none, none, none, none]) dM_deliver_22 (by decide) rfl ?_
    refine rw_aload_n (pc := 23) dM_deliver_23 rfl ?_
    refine rw_getR (pc := 24) (x := some 95) flM_107_M dM_deliver_24 (mo_o62 hm) (mo_S62 hm) (mo_R95 hm) ?_
    refine rw_iload_n (pc := 27) dM_deliver_27 rfl ?_
    refine rw_iald (pc := 28) (v := nI c) (i := j) dM_deliver_28 (mo_o95 hm) (mo_S95 hm) (ix_nI (by omega) (by decide)) ec ?_
    refine rw_istore_n (pc := 29) (L' := [some (.inr (some 62)), some (.inl (nI j)), some (.inl k), some (.inl (nI c)), none, none, none, none, none, none]) dM_deliver_29 (by decide) rfl ?_
    refine rw_aload_n (pc := 30) dM_deliver_30 rfl ?_
    refine rw_getR (pc := 31) (x := some 96) flM_110_M dM_deliver_31 (mo_o62 hm) (mo_S62 hm) (mo_R96 hm) ?_
    refine rw_iload_n (pc := 34) dM_deliver_34 rfl ?_
    refine rw_iald (pc := 35) (v := nI f) (i := j) dM_deliver_35 (mo_o96 hm) (mo_S96 hm) (ix_nI (by omega) (by decide)) ef ?_
    refine rw_istore (pc := 36) (L' := [some (.inr (some 62)), some (.inl (nI j)), some (.inl k), some (.inl (nI c)), some (.inl (nI f)), none, none, none, none, none]) dM_deliver_36 (by decide) rfl ?_
    refine rw_aload_n (pc := 38) dM_deliver_38 rfl ?_
    refine rw_getR (pc := 39) (x := some 97) flM_113_M dM_deliver_39 (mo_o62 hm) (mo_S62 hm) (mo_R97 hm) ?_
    refine rw_iload_n (pc := 42) dM_deliver_42 rfl ?_
    refine rw_iald (pc := 43) (v := x) (i := j) dM_deliver_43 (mo_o97 hm) (mo_S97 hm) (ix_nI (by omega) (by decide)) ex0 ?_
    refine rw_istore (pc := 44) (L' := [some (.inr (some 62)), some (.inl (nI j)), some (.inl k), some (.inl (nI c)), some (.inl (nI f)), some (.inl x), none, none, none, none]) dM_deliver_44 (by decide) rfl ?_
    refine rw_aload_n (pc := 46) dM_deliver_46 rfl ?_
    refine rw_getR (pc := 47) (x := some 98) flM_116_M dM_deliver_47 (mo_o62 hm) (mo_S62 hm) (mo_R98 hm) ?_
    refine rw_iload_n (pc := 50) dM_deliver_50 rfl ?_
    refine rw_iald (pc := 51) (v := m) (i := j) dM_deliver_51 (mo_o98 hm) (mo_S98 hm) (ix_nI (by omega) (by decide)) em0 ?_
    refine rw_istore (pc := 52) (L' := [some (.inr (some 62)), some (.inl (nI j)), some (.inl k), some (.inl (nI c)), some (.inl (nI f)), some (.inl x), some (.inl m), none, none, none]) dM_deliver_52 (by decide) rfl ?_
    refine rw_aload_n (pc := 54) dM_deliver_54 rfl ?_
    refine rw_getR (pc := 55) (x := some 99) flM_119_M dM_deliver_55 (mo_o62 hm) (mo_S62 hm) (mo_R99 hm) ?_
    refine rw_iload_n (pc := 58) dM_deliver_58 rfl ?_
    refine rw_zald (pc := 59) (v := m_bi y) (i := j) dM_deliver_59 (mo_o99 hm) (mo_S99 hm) (ix_nI (by omega) (by decide)) ey ?_
    refine rw_istore (pc := 60) (L' := [some (.inr (some 62)), some (.inl (nI j)), some (.inl k), some (.inl (nI c)), some (.inl (nI f)), some (.inl x), some (.inl m), some (.inl (m_bi y)), none, none]) dM_deliver_60 (by decide) rfl ?_
    refine rw_iconst (pc := 62) (x := nI 4) dM_deliver_62 (by decide) ?_
    refine rw_iload (pc := 63) dM_deliver_63 rfl ?_
    refine rw_imul (pc := 65) (v := nI (4 * f)) dM_deliver_65 (pk_mul _ _) ?_
    refine rw_aload_n (pc := 66) dM_deliver_66 rfl ?_
    refine rw_getR (pc := 67) (x := some 100) flM_122_M dM_deliver_67 (mo_o62 hm) (mo_S62 hm) (mo_R100 hm) ?_
    refine rw_iload_n (pc := 70) dM_deliver_70 rfl ?_
    refine rw_iald (pc := 71) (v := nI p) (i := j) dM_deliver_71 (mo_o100 hm) (mo_S100 hm) (ix_nI (by omega) (by decide)) ep ?_
    refine rw_iadd (pc := 72) (v := nI (4 * f + p)) dM_deliver_72 (nI_add _ _) ?_
    refine rw_istore (pc := 73) (L' := [some (.inr (some 62)), some (.inl (nI j)), some (.inl k), some (.inl (nI c)), some (.inl (nI f)), some (.inl x), some (.inl m), some (.inl (m_bi y)), some (.inl (nI (4 * f + p))), none]) dM_deliver_73 (by decide) rfl ?_
    refine rw_aload_n (pc := 75) dM_deliver_75 rfl ?_
    refine rw_getR (pc := 76) (x := some 101) flM_125_M dM_deliver_76 (mo_o62 hm) (mo_S62 hm) (mo_R101 hm) ?_
    refine rw_iload_n (pc := 79) dM_deliver_79 rfl ?_
    refine rw_iald (pc := 80) (v := v) (i := j) dM_deliver_80 (mo_o101 hm) (mo_S101 hm) (ix_nI (by omega) (by decide)) ev0 ?_
    refine rw_istore (pc := 81) (L' := [some (.inr (some 62)), some (.inl (nI j)), some (.inl k), some (.inl (nI c)), some (.inl (nI f)), some (.inl x), some (.inl m), some (.inl (m_bi y)), some (.inl (nI (4 * f + p))), some (.inl v)]) dM_deliver_81 (by decide) rfl ?_
    refine rw_iload_n (pc := 83) dM_deliver_83 rfl ?_
    refine rw_iconst (pc := 84) (x := nI 4) dM_deliver_84 (by decide) ?_
    refine rw_icmpne (pc := 85) dM_deliver_85 (tgt := 131) rfl (fun c16 => ?_) (fun c16 => ?_)
    · skip
      have e8 : m_dl1 h k c f x m y j = h := by simp [m_dl1, m_dlG, c16]
      refine t131 k x m v c f (4 * f + p) y _ hc hf (by omega) hi rfl hdw ?_
      rw [eX]
      unfold m_dlX
      rw [e8]
    · skip
      refine rw_aload_n (pc := 88) dM_deliver_88 rfl ?_
      refine rw_getR (pc := 89) (x := some 63) flM_7_M dM_deliver_89 (mo_o62 hm) (mo_S62 hm) (mo_R63 hm) ?_
      refine rw_iload_n (pc := 92) dM_deliver_92 rfl ?_
      refine rw_zald (pc := 93) (v := hp_I h 63 c) (i := c) dM_deliver_93 (mo_o63 hm) (mo_S63 hm) (ix_nI (by omega) (by decide)) rfl ?_
      refine rw_ifne (pc := 94) dM_deliver_94 (tgt := 131) rfl (fun c17 => ?_) (fun c17 => ?_)
      · skip
        have e8 : m_dl1 h k c f x m y j = h := by simp [m_dl1, m_dlG, c16, c17]
        refine t131 k x m v c f (4 * f + p) y _ hc hf (by omega) hi rfl hdw ?_
        rw [eX]
        unfold m_dlX
        rw [e8]
      · skip
        refine rw_aload_n (pc := 97) dM_deliver_97 rfl ?_
        refine rw_getR (pc := 98) (x := some 87) flM_83_M dM_deliver_98 (mo_o62 hm) (mo_S62 hm) (mo_R87 hm) ?_
        refine rw_iload_n (pc := 101) dM_deliver_101 rfl ?_
        refine rw_iald (pc := 102) (v := hp_I h 87 c) (i := c) dM_deliver_102 (mo_o87 hm) (mo_S87 hm) (ix_nI (by omega) (by decide)) rfl ?_
        refine rw_ifle (pc := 103) dM_deliver_103 (tgt := 131) rfl (fun c18 => ?_) (fun c18 => ?_)
        · skip
          have e8 : m_dl1 h k c f x m y j = h := by simp [m_dl1, m_dlG, c16, c17, c18]
          refine t131 k x m v c f (4 * f + p) y _ hc hf (by omega) hi rfl hdw ?_
          rw [eX]
          unfold m_dlX
          rw [e8]
        · skip
          refine rw_aload_n (pc := 106) dM_deliver_106 rfl ?_
          refine rw_getR (pc := 107) (x := some 78) flM_56_M dM_deliver_107 (mo_o62 hm) (mo_S62 hm) (mo_R78 hm) ?_
          refine rw_iload_n (pc := 110) dM_deliver_110 rfl ?_
          refine rw_iald (pc := 111) (v := hp_I h 78 c) (i := c) dM_deliver_111 (mo_o78 hm) (mo_S78 hm) (ix_nI (by omega) (by decide)) rfl ?_
          refine rw_iload (pc := 112) dM_deliver_112 rfl ?_
          refine rw_icmpne (pc := 114) dM_deliver_114 (tgt := 131) rfl (fun c19 => ?_) (fun c19 => ?_)
          · skip
            have e8 : m_dl1 h k c f x m y j = h := by simp [m_dl1, m_dlG, c16, c17, c18, c19]
            refine t131 k x m v c f (4 * f + p) y _ hc hf (by omega) hi rfl hdw ?_
            rw [eX]
            unfold m_dlX
            rw [e8]
          · skip
            refine rw_aload_n (pc := 117) dM_deliver_117 rfl ?_
            refine rw_iload_n (pc := 118) dM_deliver_118 rfl ?_
            refine rw_iload (pc := 119) dM_deliver_119 rfl ?_
            refine rw_iload (pc := 121) dM_deliver_121 rfl ?_
            refine rw_iload (pc := 123) dM_deliver_123 rfl ?_
            refine rw_iconst (pc := 125) (x := nI 4) dM_deliver_125 (by decide) ?_
            refine rw_iload_n (pc := 126) dM_deliver_126 rfl ?_
            refine rw_imul (pc := 127) (v := nI (4 * j)) dM_deliver_127 (pk_mul _ _) ?_
            refine rw_vv (pc := 128) (z' := (1, 0, 0)) (rc' := 0) (rs' := 0) (av := [.inl (nI c), .inl (nI f), .inl m, .inl (m_bi y), .inl (nI (4 * j))]) (st := []) (ci := 10) mlM_152 miM_granted rfl mvM_granted_M dM_deliver_128 (mo_o62 hm) (mo_S62 hm) (cM_granted G _ hi hp hdw hc hf _ _ (by omega)) rfl rfl (Nat.le_of_ble_eq_true rfl) (by decide) rfl rfl (fun h20 q20 => ?_)
            obtain rfl := q20
            have e8 : m_dl1 h k c f x m y j = m_granted h c f m y (4 * j) := by simp [m_dl1, m_dlG, c16, c17, c18, c19]
            refine t131 k x m v c f (4 * f + p) y _ hc hf (by omega) (gd_I hi hc hw6).1 (gd_I hi hc hw6).2 (gd_dw hdw hc hw6) ?_
            rw [eX]
            unfold m_dlX
            rw [e8]
  · skip
    refine rw_iconst (pc := 14) (x := nI 0) dM_deliver_14 (by decide) ?_
    exact rw_zret (pc := 15) dM_deliver_15 rfl (Or.inl rfl) ⟨_, rfl, by unfold m_deliver; rw [if_pos c2], by unfold m_deliver; rw [if_pos c2]⟩
