theorem cs_HS {h h' : ha_H} (e : ∀ x, hp_S h' x = hp_S h x) (H : cs_H h) : cs_H h' := by
  have : hp_S h' = hp_S h := funext e
  unfold cs_H at H ⊢
  rw [this]
  exact H
theorem wl_any {L : Nat} {n : List ab_M} {su : Bool} {sn : Int32} {sg : Bool} {se : Int32} {pg : Nat → Nat → Int32} {md : Nat → Nat → Nat} {en : Nat → Nat → Int32} {sd : Nat → Option ab_M} {ln : Nat → List ab_M} {C : Nat → ab_C} {h h' : ha_H} (H : CV L n su sn sg se pg md en sd ln C h) {f : Nat} (hf : f < 4) {l' : List ab_M} (hn : hp_n h' = hp_n h) (hS : ∀ x, hp_S h' x = hp_S h x) (hI : ∀ x y, ¬ x = 20 + 2 * f → hp_I h' x y = hp_I h x y) (hR : ∀ x y, ¬ x = 21 + 2 * f → hp_R h' x y = hp_R h x y) (q : cv_l f l' h') : CV L n su sn sg se pg md en sd (fu ln f l') C h' := by
  obtain ⟨H0, HL, Hn, Hsu, Hsn, Hsg, Hse, Hpg, Hmd, Hen, Hsd, Hln, HC⟩ := H
  have d : hp_dy h h' := ⟨by omega, fun x h1 _ => ⟨fun y => hI x y (by omega), fun y => hR x y (by omega), hS x⟩⟩
  have se' : ∀ lo hi, (hi ≤ 20 + 2 * f ∨ 22 + 2 * f ≤ lo) → se_ h h' lo hi := fun lo hi hq x h1 h2 => ⟨fun y => hI x y (by omega), fun y => hR x y (by omega)⟩
  refine ⟨⟨by rw [hn]; exact H0.1, cs_HS hS H0.2.1, fun x y t z => by rw [hR x y (by unfold cs_T at z; omega)]; exact H0.2.2 x y t z⟩, kL HL (hI _ _ (by omega)) (fun c _ => hI _ _ (by omega)), kN Hn d (se' _ _ (by omega)), by rw [hI _ _ (by omega)]; exact Hsu, by rw [hI _ _ (by omega)]; exact Hsn, by rw [hI _ _ (by omega)]; exact Hsg, by rw [hI _ _ (by omega)]; exact Hse, kpg Hpg (se' _ _ (by omega)), kmd Hmd (se' _ _ (by omega)), ken Hen (se' _ _ (by omega)), ksd Hsd d (se' _ _ (by omega)), fun g hg => ?_, kCs HC d (se' _ _ (by omega))⟩
  by_cases e : g = f
  · subst e
    rw [fu_at]
    exact q
  · rw [fu_ne _ _ e]
    exact kl (Hln g hg) d (se' _ _ (by omega))
theorem cl_0 {h : ha_H} {f : Nat} (z : hp_I h (20 + 2 * f) 1 = nI 0) : cv_l f [] h := ⟨z, by decide, fun k m q => by cases q⟩
theorem cl_1 {h : ha_H} {f i : Nat} {a : ab_M} (z : hp_I h (20 + 2 * f) 1 = nI 1) (k0 : am_k a = 1) (r0 : hp_R h (21 + 2 * f) 0 = some i) (m0 : cv_M h i a) : cv_l f [a] h := ⟨z, Nat.le_of_ble_eq_true rfl, fun k m q => by
  rcases k with _ | k
  · cases q
    exact ⟨k0, i, r0, m0⟩
  · cases q⟩
theorem cl_2 {h : ha_H} {f i j : Nat} {a b : ab_M} (z : hp_I h (20 + 2 * f) 1 = nI 2) (k0 : am_k a = 1) (r0 : hp_R h (21 + 2 * f) 0 = some i) (m0 : cv_M h i a) (k1 : am_k b = 1) (r1 : hp_R h (21 + 2 * f) 1 = some j) (m1 : cv_M h j b) : cv_l f [a, b] h := ⟨z, Nat.le_of_ble_eq_true rfl, fun k m q => by
  rcases k with _ | _ | k
  · cases q
    exact ⟨k0, i, r0, m0⟩
  · cases q
    exact ⟨k1, j, r1, m1⟩
  · cases q⟩
theorem cl_3 {h : ha_H} {f i j e : Nat} {a b c : ab_M} (z : hp_I h (20 + 2 * f) 1 = nI 3) (k0 : am_k a = 1) (r0 : hp_R h (21 + 2 * f) 0 = some i) (m0 : cv_M h i a) (k1 : am_k b = 1) (r1 : hp_R h (21 + 2 * f) 1 = some j) (m1 : cv_M h j b) (k2 : am_k c = 1) (r2 : hp_R h (21 + 2 * f) 2 = some e) (m2 : cv_M h e c) : cv_l f [a, b, c] h := ⟨z, Nat.le_of_ble_eq_true rfl, fun k m q => by
  rcases k with _ | _ | _ | k
  · cases q
    exact ⟨k0, i, r0, m0⟩
  · cases q
    exact ⟨k1, j, r1, m1⟩
  · cases q
    exact ⟨k2, e, r2, m2⟩
  · cases q⟩
def f_pl : List ab_M → Nat → Nat
  | [], _ => 0
  | m :: l, c => if am_c m = c then 0 else f_pl l c + 1
def f_out : List ab_M → Nat → List ab_M
  | [], _ => []
  | m :: l, c => if am_c m = c then l else m :: f_out l c
def f_of : List ab_M → Nat → Option ab_M
  | [], _ => none
  | m :: l, c => if am_c m = c then some m else f_of l c
def f_add (l : List ab_M) (m : ab_M) : List ab_M := if l.length < 3 then l ++ [m] else l
theorem cQ_placeOf (G : mt_G) (h : ha_H) {L : Nat} {n : List ab_M} {su : Bool} {sn : Int32} {sg : Bool} {se : Int32} {pg : Nat → Nat → Int32} {md : Nat → Nat → Nat} {en : Nat → Nat → Int32} {sd : Nat → Option ab_M} {ln : Nat → List ab_M} {C : Nat → ab_C} (hc : CV L n su sn sg se pg md en sd ln C h) {f : Nat} (hf : f < 4) {c : Nat} (hl : c < 3) : rn_M G xQ_placeOf (0, 0, 0) [.inr (some (20 + 2 * f)), .inl (nI c)] h (rn_i (fun r h' => r = nI (f_pl (ln f) c) ∧ h = h')) := by
  refine rn_of (by decide +kernel) (Nat.le_of_ble_eq_true rfl) ?_
  show rn_W G xQ_placeOf (0, 0, 0) 0 0 0 [some (.inr (some (20 + 2 * f))), some (.inl (nI c)), none] [] h _
  obtain ⟨l, hl0⟩ : ∃ l, ln f = l := ⟨_, rfl⟩
  have hq := cp_ln hc f hf
  rw [hl0] at hq
  try rw [hl0]
  have hf0 := hf
  have hoQ : hp_ok h (20 + 2 * f) := cs_o hc (by omega) (by omega)
  have hsQ := cs_SQ hc hf
  have hoq : hp_ok h (21 + 2 * f) := cs_o hc (by omega) (by omega)
  have hsq := cs_Sq hc hf
  have hrq := cr_Q hc hf
  have hle := le_rf h
  rcases l with _ | ⟨a0, _ | ⟨a1, _ | ⟨a2, _ | ⟨a3, l⟩⟩⟩⟩
  · skip
    have hz : hp_I h (20 + 2 * f) 1 = nI 0 := hq.1
    refine rw_iconst (pc := 0) (x := nI 0) dQ_placeOf_0 (by decide) ?_
    refine rw_istore_n (pc := 1) (L' := [some (.inr (some (20 + 2 * f))), some (.inl (nI c)), some (.inl (nI 0))]) dQ_placeOf_1 (by decide) rfl ?_
    refine rw_iload_n (pc := 2) dQ_placeOf_2 rfl ?_
    refine rw_aload_n (pc := 3) dQ_placeOf_3 rfl ?_
    refine rw_getI (pc := 4) (x := nI 0) flQ_17_Q dQ_placeOf_4 hoQ hsQ hz ?_
    refine rw_icmpge (pc := 7) dQ_placeOf_7 (tgt := 31) rfl (fun c1 => ?_) (fun c1 => ?_)
    · skip
      replace c1 : 0 ≤ 0 := (nI_leI (a := 0) (b := 0) (by omega) (by omega)).mp c1
      refine rw_aload_n (pc := 31) dQ_placeOf_31 rfl ?_
      refine rw_getI (pc := 32) (x := nI 0) flQ_17_Q dQ_placeOf_32 hoQ hsQ hz ?_
      exact rw_iret (pc := 35) dQ_placeOf_35 rfl ⟨_, rfl, by simp [f_pl], rfl⟩
    · skip
      replace c1 : ¬ (0 ≤ 0) := fun qz => c1 ((nI_leI (a := 0) (b := 0) (by omega) (by omega)).mpr qz)
      exact absurd (by decide) c1
  · skip
    have hz : hp_I h (20 + 2 * f) 1 = nI 1 := hq.1
    obtain ⟨k0, i0, r0, m0⟩ := hq.2.2 0 a0 rfl
    have b0 := m0.2.2.1
    refine rw_iconst (pc := 0) (x := nI 0) dQ_placeOf_0 (by decide) ?_
    refine rw_istore_n (pc := 1) (L' := [some (.inr (some (20 + 2 * f))), some (.inl (nI c)), some (.inl (nI 0))]) dQ_placeOf_1 (by decide) rfl ?_
    refine rw_iload_n (pc := 2) dQ_placeOf_2 rfl ?_
    refine rw_aload_n (pc := 3) dQ_placeOf_3 rfl ?_
    refine rw_getI (pc := 4) (x := nI 1) flQ_17_Q dQ_placeOf_4 hoQ hsQ hz ?_
    refine rw_icmpge (pc := 7) dQ_placeOf_7 (tgt := 31) rfl (fun c2 => ?_) (fun c2 => ?_)
    · skip
      replace c2 : 1 ≤ 0 := (nI_leI (a := 1) (b := 0) (by omega) (by omega)).mp c2
      exact absurd c2 (by decide)
    · skip
      replace c2 : ¬ (1 ≤ 0) := fun qz => c2 ((nI_leI (a := 1) (b := 0) (by omega) (by omega)).mpr qz)
      refine rw_aload_n (pc := 10) dQ_placeOf_10 rfl ?_
      refine rw_getR (pc := 11) (x := some (21 + 2 * f)) flQ_11_Q dQ_placeOf_11 hoQ hsQ hrq ?_
      refine rw_iload_n (pc := 14) dQ_placeOf_14 rfl ?_
      refine rw_aald (pc := 15) (v := some i0) (i := 0) (t := 5) rfl ⟨rfl, by decide⟩ dQ_placeOf_15 hoq hsq (ix_nI (by omega) (by decide)) r0 ?_
      refine rw_getI (pc := 16) (x := nI (am_c a0)) flQ_25_R dQ_placeOf_16 (cm_o m0) (cm_q m0 (by omega)).2.1 m0.2.1.2.1 ?_
      refine rw_iload_n (pc := 19) dQ_placeOf_19 rfl ?_
      refine rw_icmpne (pc := 20) dQ_placeOf_20 (tgt := 25) rfl (fun c3 => ?_) (fun c3 => ?_)
      · skip
        replace c3 : ¬ ((am_c a0) = c) := fun qz => c3 ((nI_eq (a := (am_c a0)) (b := c) (by omega) (by omega)).mpr qz)
        refine rw_iinc (pc := 25) (x := nI 0) (y := nI 1) (L' := [some (.inr (some (20 + 2 * f))), some (.inl (nI c)), some (.inl (nI 1))]) dQ_placeOf_25 (by decide) rfl (by decide) rfl ?_
        refine rw_goto (pc := 28) dQ_placeOf_28 (tgt := 2) rfl ?_
        refine rw_iload_n (pc := 2) dQ_placeOf_2 rfl ?_
        refine rw_aload_n (pc := 3) dQ_placeOf_3 rfl ?_
        refine rw_getI (pc := 4) (x := nI 1) flQ_17_Q dQ_placeOf_4 hoQ hsQ hz ?_
        refine rw_icmpge (pc := 7) dQ_placeOf_7 (tgt := 31) rfl (fun c4 => ?_) (fun c4 => ?_)
        · skip
          replace c4 : 1 ≤ 1 := (nI_leI (a := 1) (b := 1) (by omega) (by omega)).mp c4
          refine rw_aload_n (pc := 31) dQ_placeOf_31 rfl ?_
          refine rw_getI (pc := 32) (x := nI 1) flQ_17_Q dQ_placeOf_32 hoQ hsQ hz ?_
          exact rw_iret (pc := 35) dQ_placeOf_35 rfl ⟨_, rfl, by simp [f_pl, c3], rfl⟩
        · skip
          replace c4 : ¬ (1 ≤ 1) := fun qz => c4 ((nI_leI (a := 1) (b := 1) (by omega) (by omega)).mpr qz)
          exact absurd (by decide) c4
      · skip
        replace c3 : (am_c a0) = c := (nI_eq (a := (am_c a0)) (b := c) (by omega) (by omega)).mp c3
        refine rw_iload_n (pc := 23) dQ_placeOf_23 rfl ?_
        exact rw_iret (pc := 24) dQ_placeOf_24 rfl ⟨_, rfl, by simp [f_pl, c3], rfl⟩
  · skip
    have hz : hp_I h (20 + 2 * f) 1 = nI 2 := hq.1
    obtain ⟨k0, i0, r0, m0⟩ := hq.2.2 0 a0 rfl
    have b0 := m0.2.2.1
    obtain ⟨k1, i1, r1, m1⟩ := hq.2.2 1 a1 rfl
    have b1 := m1.2.2.1
    refine rw_iconst (pc := 0) (x := nI 0) dQ_placeOf_0 (by decide) ?_
    refine rw_istore_n (pc := 1) (L' := [some (.inr (some (20 + 2 * f))), some (.inl (nI c)), some (.inl (nI 0))]) dQ_placeOf_1 (by decide) rfl ?_
    refine rw_iload_n (pc := 2) dQ_placeOf_2 rfl ?_
    refine rw_aload_n (pc := 3) dQ_placeOf_3 rfl ?_
    refine rw_getI (pc := 4) (x := nI 2) flQ_17_Q dQ_placeOf_4 hoQ hsQ hz ?_
    refine rw_icmpge (pc := 7) dQ_placeOf_7 (tgt := 31) rfl (fun c5 => ?_) (fun c5 => ?_)
    · skip
      replace c5 : 2 ≤ 0 := (nI_leI (a := 2) (b := 0) (by omega) (by omega)).mp c5
      exact absurd c5 (by decide)
    · skip
      replace c5 : ¬ (2 ≤ 0) := fun qz => c5 ((nI_leI (a := 2) (b := 0) (by omega) (by omega)).mpr qz)
      refine rw_aload_n (pc := 10) dQ_placeOf_10 rfl ?_
      refine rw_getR (pc := 11) (x := some (21 + 2 * f)) flQ_11_Q dQ_placeOf_11 hoQ hsQ hrq ?_
      refine rw_iload_n (pc := 14) dQ_placeOf_14 rfl ?_
      refine rw_aald (pc := 15) (v := some i0) (i := 0) (t := 5) rfl ⟨rfl, by decide⟩ dQ_placeOf_15 hoq hsq (ix_nI (by omega) (by decide)) r0 ?_
      refine rw_getI (pc := 16) (x := nI (am_c a0)) flQ_25_R dQ_placeOf_16 (cm_o m0) (cm_q m0 (by omega)).2.1 m0.2.1.2.1 ?_
      refine rw_iload_n (pc := 19) dQ_placeOf_19 rfl ?_
      refine rw_icmpne (pc := 20) dQ_placeOf_20 (tgt := 25) rfl (fun c6 => ?_) (fun c6 => ?_)
      · skip
        replace c6 : ¬ ((am_c a0) = c) := fun qz => c6 ((nI_eq (a := (am_c a0)) (b := c) (by omega) (by omega)).mpr qz)
        refine rw_iinc (pc := 25) (x := nI 0) (y := nI 1) (L' := [some (.inr (some (20 + 2 * f))), some (.inl (nI c)), some (.inl (nI 1))]) dQ_placeOf_25 (by decide) rfl (by decide) rfl ?_
        refine rw_goto (pc := 28) dQ_placeOf_28 (tgt := 2) rfl ?_
        refine rw_iload_n (pc := 2) dQ_placeOf_2 rfl ?_
        refine rw_aload_n (pc := 3) dQ_placeOf_3 rfl ?_
        refine rw_getI (pc := 4) (x := nI 2) flQ_17_Q dQ_placeOf_4 hoQ hsQ hz ?_
        refine rw_icmpge (pc := 7) dQ_placeOf_7 (tgt := 31) rfl (fun c7 => ?_) (fun c7 => ?_)
        · skip
          replace c7 : 2 ≤ 1 := (nI_leI (a := 2) (b := 1) (by omega) (by omega)).mp c7
          exact absurd c7 (by decide)
        · skip
          replace c7 : ¬ (2 ≤ 1) := fun qz => c7 ((nI_leI (a := 2) (b := 1) (by omega) (by omega)).mpr qz)
          refine rw_aload_n (pc := 10) dQ_placeOf_10 rfl ?_
          refine rw_getR (pc := 11) (x := some (21 + 2 * f)) flQ_11_Q dQ_placeOf_11 hoQ hsQ hrq ?_
          refine rw_iload_n (pc := 14) dQ_placeOf_14 rfl ?_
          refine rw_aald (pc := 15) (v := some i1) (i := 1) (t := 5) rfl ⟨rfl, by decide⟩ dQ_placeOf_15 hoq hsq (ix_nI (by omega) (by decide)) r1 ?_
          refine rw_getI (pc := 16) (x := nI (am_c a1)) flQ_25_R dQ_placeOf_16 (cm_o m1) (cm_q m1 (by omega)).2.1 m1.2.1.2.1 ?_
          refine rw_iload_n (pc := 19) dQ_placeOf_19 rfl ?_
          refine rw_icmpne (pc := 20) dQ_placeOf_20 (tgt := 25) rfl (fun c8 => ?_) (fun c8 => ?_)
          · skip
            replace c8 : ¬ ((am_c a1) = c) := fun qz => c8 ((nI_eq (a := (am_c a1)) (b := c) (by omega) (by omega)).mpr qz)
            refine rw_iinc (pc := 25) (x := nI 1) (y := nI 2) (L' := [some (.inr (some (20 + 2 * f))), some (.inl (nI c)), some (.inl (nI 2))]) dQ_placeOf_25 (by decide) rfl (by decide) rfl ?_
            refine rw_goto (pc := 28) dQ_placeOf_28 (tgt := 2) rfl ?_
            refine rw_iload_n (pc := 2) dQ_placeOf_2 rfl ?_
            refine rw_aload_n (pc := 3) dQ_placeOf_3 rfl ?_
            refine rw_getI (pc := 4) (x := nI 2) flQ_17_Q dQ_placeOf_4 hoQ hsQ hz ?_
            refine rw_icmpge (pc := 7) dQ_placeOf_7 (tgt := 31) rfl (fun c9 => ?_) (fun c9 => ?_)
            · skip
              replace c9 : 2 ≤ 2 := (nI_leI (a := 2) (b := 2) (by omega) (by omega)).mp c9
              refine rw_aload_n (pc := 31) dQ_placeOf_31 rfl ?_
              refine rw_getI (pc := 32) (x := nI 2) flQ_17_Q dQ_placeOf_32 hoQ hsQ hz ?_
              exact rw_iret (pc := 35) dQ_placeOf_35 rfl ⟨_, rfl, by simp [f_pl, c6, c8], rfl⟩
            · skip
              replace c9 : ¬ (2 ≤ 2) := fun qz => c9 ((nI_leI (a := 2) (b := 2) (by omega) (by omega)).mpr qz)
              exact absurd (by decide) c9
          · skip
            replace c8 : (am_c a1) = c := (nI_eq (a := (am_c a1)) (b := c) (by omega) (by omega)).mp c8
            refine rw_iload_n (pc := 23) dQ_placeOf_23 rfl ?_
            exact rw_iret (pc := 24) dQ_placeOf_24 rfl ⟨_, rfl, by simp [f_pl, c6, c8], rfl⟩
      · skip
        replace c6 : (am_c a0) = c := (nI_eq (a := (am_c a0)) (b := c) (by omega) (by omega)).mp c6
        refine rw_iload_n (pc := 23) dQ_placeOf_23 rfl ?_
        exact rw_iret (pc := 24) dQ_placeOf_24 rfl ⟨_, rfl, by simp [f_pl, c6], rfl⟩
  · skip
    have hz : hp_I h (20 + 2 * f) 1 = nI 3 := hq.1
    obtain ⟨k0, i0, r0, m0⟩ := hq.2.2 0 a0 rfl
    have b0 := m0.2.2.1
    obtain ⟨k1, i1, r1, m1⟩ := hq.2.2 1 a1 rfl
    have b1 := m1.2.2.1
    obtain ⟨k2, i2, r2, m2⟩ := hq.2.2 2 a2 rfl
    have b2 := m2.2.2.1
    refine rw_iconst (pc := 0) (x := nI 0) dQ_placeOf_0 (by decide) ?_
    refine rw_istore_n (pc := 1) (L' := [some (.inr (some (20 + 2 * f))), some (.inl (nI c)), some (.inl (nI 0))]) dQ_placeOf_1 (by decide) rfl ?_
    refine rw_iload_n (pc := 2) dQ_placeOf_2 rfl ?_
    refine rw_aload_n (pc := 3) dQ_placeOf_3 rfl ?_
    refine rw_getI (pc := 4) (x := nI 3) flQ_17_Q dQ_placeOf_4 hoQ hsQ hz ?_
    refine rw_icmpge (pc := 7) dQ_placeOf_7 (tgt := 31) rfl (fun c10 => ?_) (fun c10 => ?_)
    · skip
      replace c10 : 3 ≤ 0 := (nI_leI (a := 3) (b := 0) (by omega) (by omega)).mp c10
      exact absurd c10 (by decide)
    · skip
      replace c10 : ¬ (3 ≤ 0) := fun qz => c10 ((nI_leI (a := 3) (b := 0) (by omega) (by omega)).mpr qz)
      refine rw_aload_n (pc := 10) dQ_placeOf_10 rfl ?_
      refine rw_getR (pc := 11) (x := some (21 + 2 * f)) flQ_11_Q dQ_placeOf_11 hoQ hsQ hrq ?_
      refine rw_iload_n (pc := 14) dQ_placeOf_14 rfl ?_
      refine rw_aald (pc := 15) (v := some i0) (i := 0) (t := 5) rfl ⟨rfl, by decide⟩ dQ_placeOf_15 hoq hsq (ix_nI (by omega) (by decide)) r0 ?_
      refine rw_getI (pc := 16) (x := nI (am_c a0)) flQ_25_R dQ_placeOf_16 (cm_o m0) (cm_q m0 (by omega)).2.1 m0.2.1.2.1 ?_
      refine rw_iload_n (pc := 19) dQ_placeOf_19 rfl ?_
      refine rw_icmpne (pc := 20) dQ_placeOf_20 (tgt := 25) rfl (fun c11 => ?_) (fun c11 => ?_)
      · skip
        replace c11 : ¬ ((am_c a0) = c) := fun qz => c11 ((nI_eq (a := (am_c a0)) (b := c) (by omega) (by omega)).mpr qz)
        refine rw_iinc (pc := 25) (x := nI 0) (y := nI 1) (L' := [some (.inr (some (20 + 2 * f))), some (.inl (nI c)), some (.inl (nI 1))]) dQ_placeOf_25 (by decide) rfl (by decide) rfl ?_
        refine rw_goto (pc := 28) dQ_placeOf_28 (tgt := 2) rfl ?_
        refine rw_iload_n (pc := 2) dQ_placeOf_2 rfl ?_
        refine rw_aload_n (pc := 3) dQ_placeOf_3 rfl ?_
        refine rw_getI (pc := 4) (x := nI 3) flQ_17_Q dQ_placeOf_4 hoQ hsQ hz ?_
        refine rw_icmpge (pc := 7) dQ_placeOf_7 (tgt := 31) rfl (fun c12 => ?_) (fun c12 => ?_)
        · skip
          replace c12 : 3 ≤ 1 := (nI_leI (a := 3) (b := 1) (by omega) (by omega)).mp c12
          exact absurd c12 (by decide)
        · skip
          replace c12 : ¬ (3 ≤ 1) := fun qz => c12 ((nI_leI (a := 3) (b := 1) (by omega) (by omega)).mpr qz)
          refine rw_aload_n (pc := 10) dQ_placeOf_10 rfl ?_
          refine rw_getR (pc := 11) (x := some (21 + 2 * f)) flQ_11_Q dQ_placeOf_11 hoQ hsQ hrq ?_
          refine rw_iload_n (pc := 14) dQ_placeOf_14 rfl ?_
          refine rw_aald (pc := 15) (v := some i1) (i := 1) (t := 5) rfl ⟨rfl, by decide⟩ dQ_placeOf_15 hoq hsq (ix_nI (by omega) (by decide)) r1 ?_
          refine rw_getI (pc := 16) (x := nI (am_c a1)) flQ_25_R dQ_placeOf_16 (cm_o m1) (cm_q m1 (by omega)).2.1 m1.2.1.2.1 ?_
          refine rw_iload_n (pc := 19) dQ_placeOf_19 rfl ?_
          refine rw_icmpne (pc := 20) dQ_placeOf_20 (tgt := 25) rfl (fun c13 => ?_) (fun c13 => ?_)
          · skip
            replace c13 : ¬ ((am_c a1) = c) := fun qz => c13 ((nI_eq (a := (am_c a1)) (b := c) (by omega) (by omega)).mpr qz)
            refine rw_iinc (pc := 25) (x := nI 1) (y := nI 2) (L' := [some (.inr (some (20 + 2 * f))), some (.inl (nI c)), some (.inl (nI 2))]) dQ_placeOf_25 (by decide) rfl (by decide) rfl ?_
            refine rw_goto (pc := 28) dQ_placeOf_28 (tgt := 2) rfl ?_
            refine rw_iload_n (pc := 2) dQ_placeOf_2 rfl ?_
            refine rw_aload_n (pc := 3) dQ_placeOf_3 rfl ?_
            refine rw_getI (pc := 4) (x := nI 3) flQ_17_Q dQ_placeOf_4 hoQ hsQ hz ?_
            refine rw_icmpge (pc := 7) dQ_placeOf_7 (tgt := 31) rfl (fun c14 => ?_) (fun c14 => ?_)
            · skip
              replace c14 : 3 ≤ 2 := (nI_leI (a := 3) (b := 2) (by omega) (by omega)).mp c14
              exact absurd c14 (by decide)
            · skip
              replace c14 : ¬ (3 ≤ 2) := fun qz => c14 ((nI_leI (a := 3) (b := 2) (by omega) (by omega)).mpr qz)
              refine rw_aload_n (pc := 10) dQ_placeOf_10 rfl ?_
              refine rw_getR (pc := 11) (x := some (21 + 2 * f)) flQ_11_Q dQ_placeOf_11 hoQ hsQ hrq ?_
              refine rw_iload_n (pc := 14) dQ_placeOf_14 rfl ?_
              refine rw_aald (pc := 15) (v := some i2) (i := 2) (t := 5) rfl ⟨rfl, by decide⟩ dQ_placeOf_15 hoq hsq (ix_nI (by omega) (by decide)) r2 ?_
              refine rw_getI (pc := 16) (x := nI (am_c a2)) flQ_25_R dQ_placeOf_16 (cm_o m2) (cm_q m2 (by omega)).2.1 m2.2.1.2.1 ?_
              refine rw_iload_n (pc := 19) dQ_placeOf_19 rfl ?_
              refine rw_icmpne (pc := 20) dQ_placeOf_20 (tgt := 25) rfl (fun c15 => ?_) (fun c15 => ?_)
              · skip
                replace c15 : ¬ ((am_c a2) = c) := fun qz => c15 ((nI_eq (a := (am_c a2)) (b := c) (by omega) (by omega)).mpr qz)
                refine rw_iinc (pc := 25) (x := nI 2) (y := nI 3) (L' := [some (.inr (some (20 + 2 * f))), some (.inl (nI c)), some (.inl (nI 3))]) dQ_placeOf_25 (by decide) rfl (by decide) rfl ?_
                refine rw_goto (pc := 28) dQ_placeOf_28 (tgt := 2) rfl ?_
                refine rw_iload_n (pc := 2) dQ_placeOf_2 rfl ?_
                refine rw_aload_n (pc := 3) dQ_placeOf_3 rfl ?_
                refine rw_getI (pc := 4) (x := nI 3) flQ_17_Q dQ_placeOf_4 hoQ hsQ hz ?_
                refine rw_icmpge (pc := 7) dQ_placeOf_7 (tgt := 31) rfl (fun c16 => ?_) (fun c16 => ?_)
                · skip
                  replace c16 : 3 ≤ 3 := (nI_leI (a := 3) (b := 3) (by omega) (by omega)).mp c16
                  refine rw_aload_n (pc := 31) dQ_placeOf_31 rfl ?_
                  refine rw_getI (pc := 32) (x := nI 3) flQ_17_Q dQ_placeOf_32 hoQ hsQ hz ?_
                  exact rw_iret (pc := 35) dQ_placeOf_35 rfl ⟨_, rfl, by simp [f_pl, c11, c13, c15], rfl⟩
                · skip
                  replace c16 : ¬ (3 ≤ 3) := fun qz => c16 ((nI_leI (a := 3) (b := 3) (by omega) (by omega)).mpr qz)
                  exact absurd (by decide) c16
              · skip
                replace c15 : (am_c a2) = c := (nI_eq (a := (am_c a2)) (b := c) (by omega) (by omega)).mp c15
                refine rw_iload_n (pc := 23) dQ_placeOf_23 rfl ?_
                exact rw_iret (pc := 24) dQ_placeOf_24 rfl ⟨_, rfl, by simp [f_pl, c11, c13, c15], rfl⟩
          · skip
            replace c13 : (am_c a1) = c := (nI_eq (a := (am_c a1)) (b := c) (by omega) (by omega)).mp c13
            refine rw_iload_n (pc := 23) dQ_placeOf_23 rfl ?_
            exact rw_iret (pc := 24) dQ_placeOf_24 rfl ⟨_, rfl, by simp [f_pl, c11, c13], rfl⟩
      · skip
        replace c11 : (am_c a0) = c := (nI_eq (a := (am_c a0)) (b := c) (by omega) (by omega)).mp c11
        refine rw_iload_n (pc := 23) dQ_placeOf_23 rfl ?_
        exact rw_iret (pc := 24) dQ_placeOf_24 rfl ⟨_, rfl, by simp [f_pl, c11], rfl⟩
  · skip
    exact absurd hq.2.1 (by simp only [List.length_cons]; omega)
theorem cQ_first (G : mt_G) (h : ha_H) {L : Nat} {n : List ab_M} {su : Bool} {sn : Int32} {sg : Bool} {se : Int32} {pg : Nat → Nat → Int32} {md : Nat → Nat → Nat} {en : Nat → Nat → Int32} {sd : Nat → Option ab_M} {ln : Nat → List ab_M} {C : Nat → ab_C} (hc : CV L n su sn sg se pg md en sd ln C h) {f : Nat} (hf : f < 4) : rn_M G xQ_first (0, 0, 0) [.inr (some (20 + 2 * f))] h (rn_r (fun r h' => h = h' ∧ cv_O 1 1 h r (ln f).head?)) := by
  refine rn_of (by decide +kernel) (Nat.le_of_ble_eq_true rfl) ?_
  show rn_W G xQ_first (0, 0, 0) 0 0 0 [some (.inr (some (20 + 2 * f)))] [] h _
  obtain ⟨l, hl0⟩ : ∃ l, ln f = l := ⟨_, rfl⟩
  have hq := cp_ln hc f hf
  rw [hl0] at hq
  try rw [hl0]
  have hf0 := hf
  have hoQ : hp_ok h (20 + 2 * f) := cs_o hc (by omega) (by omega)
  have hsQ := cs_SQ hc hf
  have hoq : hp_ok h (21 + 2 * f) := cs_o hc (by omega) (by omega)
  have hsq := cs_Sq hc hf
  have hrq := cr_Q hc hf
  have hle := le_rf h
  rcases l with _ | ⟨a0, _ | ⟨a1, _ | ⟨a2, _ | ⟨a3, l⟩⟩⟩⟩
  · skip
    have hz : hp_I h (20 + 2 * f) 1 = nI 0 := hq.1
    refine rw_aload_n (pc := 0) dQ_first_0 rfl ?_
    refine rw_getI (pc := 1) (x := nI 0) flQ_17_Q dQ_first_1 hoQ hsQ hz ?_
    refine rw_ifle (pc := 4) dQ_first_4 (tgt := 16) rfl (fun c1 => ?_) (fun c1 => ?_)
    · skip
      replace c1 : 0 ≤ 0 := (nI_leI (a := 0) (b := 0) (by omega) (by omega)).mp c1
      refine rw_null (pc := 16) dQ_first_16 ?_
      exact rw_aret (pc := 17) dQ_first_17 rfl (Or.inl ⟨_, rfl⟩) ⟨_, rfl, rfl, Or.inl ⟨rfl, rfl⟩⟩
    · skip
      replace c1 : ¬ (0 ≤ 0) := fun qz => c1 ((nI_leI (a := 0) (b := 0) (by omega) (by omega)).mpr qz)
      exact absurd (by decide) c1
  · skip
    have hz : hp_I h (20 + 2 * f) 1 = nI 1 := hq.1
    obtain ⟨k0, i0, r0, m0⟩ := hq.2.2 0 a0 rfl
    have b0 := m0.2.2.1
    refine rw_aload_n (pc := 0) dQ_first_0 rfl ?_
    refine rw_getI (pc := 1) (x := nI 1) flQ_17_Q dQ_first_1 hoQ hsQ hz ?_
    refine rw_ifle (pc := 4) dQ_first_4 (tgt := 16) rfl (fun c2 => ?_) (fun c2 => ?_)
    · skip
      replace c2 : 1 ≤ 0 := (nI_leI (a := 1) (b := 0) (by omega) (by omega)).mp c2
      exact absurd c2 (by decide)
    · skip
      replace c2 : ¬ (1 ≤ 0) := fun qz => c2 ((nI_leI (a := 1) (b := 0) (by omega) (by omega)).mpr qz)
      refine rw_aload_n (pc := 7) dQ_first_7 rfl ?_
      refine rw_getR (pc := 8) (x := some (21 + 2 * f)) flQ_11_Q dQ_first_8 hoQ hsQ hrq ?_
      refine rw_iconst (pc := 11) (x := nI 0) dQ_first_11 (by decide) ?_
      refine rw_aald (pc := 12) (v := some i0) (i := 0) (t := 5) rfl ⟨rfl, by decide⟩ dQ_first_12 hoq hsq (ix_nI (by omega) (by decide)) r0 ?_
      refine rw_goto (pc := 13) dQ_first_13 (tgt := 17) rfl ?_
      exact rw_aret (pc := 17) dQ_first_17 rfl (Or.inl ⟨_, rfl⟩) ⟨_, rfl, rfl, Or.inr ⟨_, _, rfl, rfl, by omega, by omega, m0⟩⟩
  · skip
    have hz : hp_I h (20 + 2 * f) 1 = nI 2 := hq.1
    obtain ⟨k0, i0, r0, m0⟩ := hq.2.2 0 a0 rfl
    have b0 := m0.2.2.1
    obtain ⟨k1, i1, r1, m1⟩ := hq.2.2 1 a1 rfl
    have b1 := m1.2.2.1
    refine rw_aload_n (pc := 0) dQ_first_0 rfl ?_
    refine rw_getI (pc := 1) (x := nI 2) flQ_17_Q dQ_first_1 hoQ hsQ hz ?_
    refine rw_ifle (pc := 4) dQ_first_4 (tgt := 16) rfl (fun c3 => ?_) (fun c3 => ?_)
    · skip
      replace c3 : 2 ≤ 0 := (nI_leI (a := 2) (b := 0) (by omega) (by omega)).mp c3
      exact absurd c3 (by decide)
    · skip
      replace c3 : ¬ (2 ≤ 0) := fun qz => c3 ((nI_leI (a := 2) (b := 0) (by omega) (by omega)).mpr qz)
      refine rw_aload_n (pc := 7) dQ_first_7 rfl ?_
      refine rw_getR (pc := 8) (x := some (21 + 2 * f)) flQ_11_Q dQ_first_8 hoQ hsQ hrq ?_
      refine rw_iconst (pc := 11) (x := nI 0) dQ_first_11 (by decide) ?_
      refine rw_aald (pc := 12) (v := some i0) (i := 0) (t := 5) rfl ⟨rfl, by decide⟩ dQ_first_12 hoq hsq (ix_nI (by omega) (by decide)) r0 ?_
      refine rw_goto (pc := 13) dQ_first_13 (tgt := 17) rfl ?_
      exact rw_aret (pc := 17) dQ_first_17 rfl (Or.inl ⟨_, rfl⟩) ⟨_, rfl, rfl, Or.inr ⟨_, _, rfl, rfl, by omega, by omega, m0⟩⟩
  · skip
    have hz : hp_I h (20 + 2 * f) 1 = nI 3 := hq.1
    obtain ⟨k0, i0, r0, m0⟩ := hq.2.2 0 a0 rfl
    have b0 := m0.2.2.1
    obtain ⟨k1, i1, r1, m1⟩ := hq.2.2 1 a1 rfl
    have b1 := m1.2.2.1
    obtain ⟨k2, i2, r2, m2⟩ := hq.2.2 2 a2 rfl
    have b2 := m2.2.2.1
    refine rw_aload_n (pc := 0) dQ_first_0 rfl ?_
    refine rw_getI (pc := 1) (x := nI 3) flQ_17_Q dQ_first_1 hoQ hsQ hz ?_
    refine rw_ifle (pc := 4) dQ_first_4 (tgt := 16) rfl (fun c4 => ?_) (fun c4 => ?_)
    · skip
      replace c4 : 3 ≤ 0 := (nI_leI (a := 3) (b := 0) (by omega) (by omega)).mp c4
      exact absurd c4 (by decide)
    · skip
      replace c4 : ¬ (3 ≤ 0) := fun qz => c4 ((nI_leI (a := 3) (b := 0) (by omega) (by omega)).mpr qz)
      refine rw_aload_n (pc := 7) dQ_first_7 rfl ?_
      refine rw_getR (pc := 8) (x := some (21 + 2 * f)) flQ_11_Q dQ_first_8 hoQ hsQ hrq ?_
      refine rw_iconst (pc := 11) (x := nI 0) dQ_first_11 (by decide) ?_
      refine rw_aald (pc := 12) (v := some i0) (i := 0) (t := 5) rfl ⟨rfl, by decide⟩ dQ_first_12 hoq hsq (ix_nI (by omega) (by decide)) r0 ?_
      refine rw_goto (pc := 13) dQ_first_13 (tgt := 17) rfl ?_
      exact rw_aret (pc := 17) dQ_first_17 rfl (Or.inl ⟨_, rfl⟩) ⟨_, rfl, rfl, Or.inr ⟨_, _, rfl, rfl, by omega, by omega, m0⟩⟩
  · skip
    exact absurd hq.2.1 (by simp only [List.length_cons]; omega)
theorem rn_M.eq_l {G : mt_G} {X : mt_X} {z : Nat × Nat × Nat} {av : List ha_V} {h : ha_H} {l l' : List ab_M} {c : Nat} (H : rn_M G X z av h (rn_i (fun r h' => r = nI (f_pl l c) ∧ h = h'))) (e : l = l') : rn_M G X z av h (rn_i (fun r h' => r = nI (f_pl l' c) ∧ h = h')) := e ▸ H
theorem cQ_ofClient (G : mt_G) (h : ha_H) {L : Nat} {n : List ab_M} {su : Bool} {sn : Int32} {sg : Bool} {se : Int32} {pg : Nat → Nat → Int32} {md : Nat → Nat → Nat} {en : Nat → Nat → Int32} {sd : Nat → Option ab_M} {ln : Nat → List ab_M} {C : Nat → ab_C} (hc : CV L n su sn sg se pg md en sd ln C h) {f : Nat} (hf : f < 4) {c : Nat} (hl : c < 3) : rn_M G xQ_ofClient (1, 0, 0) [.inr (some (20 + 2 * f)), .inl (nI c)] h (rn_r (fun r h' => h = h' ∧ cv_O 1 1 h r (f_of (ln f) c))) := by
  refine rn_of (by decide +kernel) (Nat.le_of_ble_eq_true rfl) ?_
  show rn_W G xQ_ofClient (1, 0, 0) 0 0 0 [some (.inr (some (20 + 2 * f))), some (.inl (nI c)), none] [] h _
  obtain ⟨l, hl0⟩ : ∃ l, ln f = l := ⟨_, rfl⟩
  have hq := cp_ln hc f hf
  rw [hl0] at hq
  try rw [hl0]
  have hf0 := hf
  have hoQ : hp_ok h (20 + 2 * f) := cs_o hc (by omega) (by omega)
  have hsQ := cs_SQ hc hf
  have hoq : hp_ok h (21 + 2 * f) := cs_o hc (by omega) (by omega)
  have hsq := cs_Sq hc hf
  have hrq := cr_Q hc hf
  have hle := le_rf h
  rcases l with _ | ⟨a0, _ | ⟨a1, _ | ⟨a2, _ | ⟨a3, l⟩⟩⟩⟩
  · skip
    have hz : hp_I h (20 + 2 * f) 1 = nI 0 := hq.1
    refine rw_aload_n (pc := 0) dQ_ofClient_0 rfl ?_
    refine rw_iload_n (pc := 1) dQ_ofClient_1 rfl ?_
    refine rw_vi (pc := 2) (z' := (0, 0, 0)) (rc' := 0) (rs' := 0) (av := [.inl (nI c)]) (st := []) (ci := 3) mlQ_21 miQ_placeOf rfl mvQ_placeOf_Q dQ_ofClient_2 hoQ hsQ ((cQ_placeOf G h hc hf hl).eq_l hl0) rfl rfl (Nat.le_of_ble_eq_true rfl) (by decide) rfl rfl (fun r1 h1 q1 => ?_)
    obtain ⟨rfl, rfl⟩ := q1
    rw [show f_pl [] c = 0 from by simp [f_pl]]
    refine rw_istore_n (pc := 5) (L' := [some (.inr (some (20 + 2 * f))), some (.inl (nI c)), some (.inl (nI 0))]) dQ_ofClient_5 (by decide) rfl ?_
    refine rw_iload_n (pc := 6) dQ_ofClient_6 rfl ?_
    refine rw_aload_n (pc := 7) dQ_ofClient_7 rfl ?_
    refine rw_getI (pc := 8) (x := nI 0) flQ_17_Q dQ_ofClient_8 hoQ hsQ hz ?_
    refine rw_icmpge (pc := 11) dQ_ofClient_11 (tgt := 23) rfl (fun c2 => ?_) (fun c2 => ?_)
    · skip
      replace c2 : 0 ≤ 0 := (nI_leI (a := 0) (b := 0) (by omega) (by omega)).mp c2
      refine rw_null (pc := 23) dQ_ofClient_23 ?_
      exact rw_aret (pc := 24) dQ_ofClient_24 rfl (Or.inl ⟨_, rfl⟩) ⟨_, rfl, rfl, Or.inl ⟨by simp [f_of], rfl⟩⟩
    · skip
      replace c2 : ¬ (0 ≤ 0) := fun qz => c2 ((nI_leI (a := 0) (b := 0) (by omega) (by omega)).mpr qz)
      exact absurd (by decide) c2
  · skip
    have hz : hp_I h (20 + 2 * f) 1 = nI 1 := hq.1
    obtain ⟨k0, i0, r0, m0⟩ := hq.2.2 0 a0 rfl
    have b0 := m0.2.2.1
    refine rw_aload_n (pc := 0) dQ_ofClient_0 rfl ?_
    refine rw_iload_n (pc := 1) dQ_ofClient_1 rfl ?_
    refine rw_vi (pc := 2) (z' := (0, 0, 0)) (rc' := 0) (rs' := 0) (av := [.inl (nI c)]) (st := []) (ci := 3) mlQ_21 miQ_placeOf rfl mvQ_placeOf_Q dQ_ofClient_2 hoQ hsQ ((cQ_placeOf G h hc hf hl).eq_l hl0) rfl rfl (Nat.le_of_ble_eq_true rfl) (by decide) rfl rfl (fun r3 h3 q3 => ?_)
    obtain ⟨rfl, rfl⟩ := q3
    by_cases z0 : am_c a0 = c
    · skip
      rw [show f_pl [a0] c = 0 from by simp [f_pl, z0]]
      refine rw_istore_n (pc := 5) (L' := [some (.inr (some (20 + 2 * f))), some (.inl (nI c)), some (.inl (nI 0))]) dQ_ofClient_5 (by decide) rfl ?_
      refine rw_iload_n (pc := 6) dQ_ofClient_6 rfl ?_
      refine rw_aload_n (pc := 7) dQ_ofClient_7 rfl ?_
      refine rw_getI (pc := 8) (x := nI 1) flQ_17_Q dQ_ofClient_8 hoQ hsQ hz ?_
      refine rw_icmpge (pc := 11) dQ_ofClient_11 (tgt := 23) rfl (fun c4 => ?_) (fun c4 => ?_)
      · skip
        replace c4 : 1 ≤ 0 := (nI_leI (a := 1) (b := 0) (by omega) (by omega)).mp c4
        exact absurd c4 (by decide)
      · skip
        replace c4 : ¬ (1 ≤ 0) := fun qz => c4 ((nI_leI (a := 1) (b := 0) (by omega) (by omega)).mpr qz)
        refine rw_aload_n (pc := 14) dQ_ofClient_14 rfl ?_
        refine rw_getR (pc := 15) (x := some (21 + 2 * f)) flQ_11_Q dQ_ofClient_15 hoQ hsQ hrq ?_
        refine rw_iload_n (pc := 18) dQ_ofClient_18 rfl ?_
        refine rw_aald (pc := 19) (v := some i0) (i := 0) (t := 5) rfl ⟨rfl, by decide⟩ dQ_ofClient_19 hoq hsq (ix_nI (by omega) (by decide)) r0 ?_
        refine rw_goto (pc := 20) dQ_ofClient_20 (tgt := 24) rfl ?_
        exact rw_aret (pc := 24) dQ_ofClient_24 rfl (Or.inl ⟨_, rfl⟩) ⟨_, rfl, rfl, Or.inr ⟨a0, i0, by simp [f_of, z0], rfl, by omega, by omega, m0⟩⟩
    · skip
      rw [show f_pl [a0] c = 1 from by simp [f_pl, z0]]
      refine rw_istore_n (pc := 5) (L' := [some (.inr (some (20 + 2 * f))), some (.inl (nI c)), some (.inl (nI 1))]) dQ_ofClient_5 (by decide) rfl ?_
      refine rw_iload_n (pc := 6) dQ_ofClient_6 rfl ?_
      refine rw_aload_n (pc := 7) dQ_ofClient_7 rfl ?_
      refine rw_getI (pc := 8) (x := nI 1) flQ_17_Q dQ_ofClient_8 hoQ hsQ hz ?_
      refine rw_icmpge (pc := 11) dQ_ofClient_11 (tgt := 23) rfl (fun c5 => ?_) (fun c5 => ?_)
      · skip
        replace c5 : 1 ≤ 1 := (nI_leI (a := 1) (b := 1) (by omega) (by omega)).mp c5
        refine rw_null (pc := 23) dQ_ofClient_23 ?_
        exact rw_aret (pc := 24) dQ_ofClient_24 rfl (Or.inl ⟨_, rfl⟩) ⟨_, rfl, rfl, Or.inl ⟨by simp [f_of, z0], rfl⟩⟩
      · skip
        replace c5 : ¬ (1 ≤ 1) := fun qz => c5 ((nI_leI (a := 1) (b := 1) (by omega) (by omega)).mpr qz)
        exact absurd (by decide) c5
  · skip
    have hz : hp_I h (20 + 2 * f) 1 = nI 2 := hq.1
    obtain ⟨k0, i0, r0, m0⟩ := hq.2.2 0 a0 rfl
    have b0 := m0.2.2.1
    obtain ⟨k1, i1, r1, m1⟩ := hq.2.2 1 a1 rfl
    have b1 := m1.2.2.1
    refine rw_aload_n (pc := 0) dQ_ofClient_0 rfl ?_
    refine rw_iload_n (pc := 1) dQ_ofClient_1 rfl ?_
    refine rw_vi (pc := 2) (z' := (0, 0, 0)) (rc' := 0) (rs' := 0) (av := [.inl (nI c)]) (st := []) (ci := 3) mlQ_21 miQ_placeOf rfl mvQ_placeOf_Q dQ_ofClient_2 hoQ hsQ ((cQ_placeOf G h hc hf hl).eq_l hl0) rfl rfl (Nat.le_of_ble_eq_true rfl) (by decide) rfl rfl (fun r6 h6 q6 => ?_)
    obtain ⟨rfl, rfl⟩ := q6
    by_cases z0 : am_c a0 = c
    · skip
      rw [show f_pl [a0, a1] c = 0 from by simp [f_pl, z0]]
      refine rw_istore_n (pc := 5) (L' := [some (.inr (some (20 + 2 * f))), some (.inl (nI c)), some (.inl (nI 0))]) dQ_ofClient_5 (by decide) rfl ?_
      refine rw_iload_n (pc := 6) dQ_ofClient_6 rfl ?_
      refine rw_aload_n (pc := 7) dQ_ofClient_7 rfl ?_
      refine rw_getI (pc := 8) (x := nI 2) flQ_17_Q dQ_ofClient_8 hoQ hsQ hz ?_
      refine rw_icmpge (pc := 11) dQ_ofClient_11 (tgt := 23) rfl (fun c7 => ?_) (fun c7 => ?_)
      · skip
        replace c7 : 2 ≤ 0 := (nI_leI (a := 2) (b := 0) (by omega) (by omega)).mp c7
        exact absurd c7 (by decide)
      · skip
        replace c7 : ¬ (2 ≤ 0) := fun qz => c7 ((nI_leI (a := 2) (b := 0) (by omega) (by omega)).mpr qz)
        refine rw_aload_n (pc := 14) dQ_ofClient_14 rfl ?_
        refine rw_getR (pc := 15) (x := some (21 + 2 * f)) flQ_11_Q dQ_ofClient_15 hoQ hsQ hrq ?_
        refine rw_iload_n (pc := 18) dQ_ofClient_18 rfl ?_
        refine rw_aald (pc := 19) (v := some i0) (i := 0) (t := 5) rfl ⟨rfl, by decide⟩ dQ_ofClient_19 hoq hsq (ix_nI (by omega) (by decide)) r0 ?_
        refine rw_goto (pc := 20) dQ_ofClient_20 (tgt := 24) rfl ?_
        exact rw_aret (pc := 24) dQ_ofClient_24 rfl (Or.inl ⟨_, rfl⟩) ⟨_, rfl, rfl, Or.inr ⟨a0, i0, by simp [f_of, z0], rfl, by omega, by omega, m0⟩⟩
    · skip
      by_cases z1 : am_c a1 = c
      · skip
        rw [show f_pl [a0, a1] c = 1 from by simp [f_pl, z0, z1]]
        refine rw_istore_n (pc := 5) (L' := [some (.inr (some (20 + 2 * f))), some (.inl (nI c)), some (.inl (nI 1))]) dQ_ofClient_5 (by decide) rfl ?_
        refine rw_iload_n (pc := 6) dQ_ofClient_6 rfl ?_
        refine rw_aload_n (pc := 7) dQ_ofClient_7 rfl ?_
        refine rw_getI (pc := 8) (x := nI 2) flQ_17_Q dQ_ofClient_8 hoQ hsQ hz ?_
        refine rw_icmpge (pc := 11) dQ_ofClient_11 (tgt := 23) rfl (fun c8 => ?_) (fun c8 => ?_)
        · skip
          replace c8 : 2 ≤ 1 := (nI_leI (a := 2) (b := 1) (by omega) (by omega)).mp c8
          exact absurd c8 (by decide)
        · skip
          replace c8 : ¬ (2 ≤ 1) := fun qz => c8 ((nI_leI (a := 2) (b := 1) (by omega) (by omega)).mpr qz)
          refine rw_aload_n (pc := 14) dQ_ofClient_14 rfl ?_
          refine rw_getR (pc := 15) (x := some (21 + 2 * f)) flQ_11_Q dQ_ofClient_15 hoQ hsQ hrq ?_
          refine rw_iload_n (pc := 18) dQ_ofClient_18 rfl ?_
          refine rw_aald (pc := 19) (v := some i1) (i := 1) (t := 5) rfl ⟨rfl, by decide⟩ dQ_ofClient_19 hoq hsq (ix_nI (by omega) (by decide)) r1 ?_
          refine rw_goto (pc := 20) dQ_ofClient_20 (tgt := 24) rfl ?_
          exact rw_aret (pc := 24) dQ_ofClient_24 rfl (Or.inl ⟨_, rfl⟩) ⟨_, rfl, rfl, Or.inr ⟨a1, i1, by simp [f_of, z0, z1], rfl, by omega, by omega, m1⟩⟩
      · skip
        rw [show f_pl [a0, a1] c = 2 from by simp [f_pl, z0, z1]]
        refine rw_istore_n (pc := 5) (L' := [some (.inr (some (20 + 2 * f))), some (.inl (nI c)), some (.inl (nI 2))]) dQ_ofClient_5 (by decide) rfl ?_
        refine rw_iload_n (pc := 6) dQ_ofClient_6 rfl ?_
        refine rw_aload_n (pc := 7) dQ_ofClient_7 rfl ?_
        refine rw_getI (pc := 8) (x := nI 2) flQ_17_Q dQ_ofClient_8 hoQ hsQ hz ?_
        refine rw_icmpge (pc := 11) dQ_ofClient_11 (tgt := 23) rfl (fun c9 => ?_) (fun c9 => ?_)
        · skip
          replace c9 : 2 ≤ 2 := (nI_leI (a := 2) (b := 2) (by omega) (by omega)).mp c9
          refine rw_null (pc := 23) dQ_ofClient_23 ?_
          exact rw_aret (pc := 24) dQ_ofClient_24 rfl (Or.inl ⟨_, rfl⟩) ⟨_, rfl, rfl, Or.inl ⟨by simp [f_of, z0, z1], rfl⟩⟩
        · skip
          replace c9 : ¬ (2 ≤ 2) := fun qz => c9 ((nI_leI (a := 2) (b := 2) (by omega) (by omega)).mpr qz)
          exact absurd (by decide) c9
  · skip
    have hz : hp_I h (20 + 2 * f) 1 = nI 3 := hq.1
    obtain ⟨k0, i0, r0, m0⟩ := hq.2.2 0 a0 rfl
    have b0 := m0.2.2.1
    obtain ⟨k1, i1, r1, m1⟩ := hq.2.2 1 a1 rfl
    have b1 := m1.2.2.1
    obtain ⟨k2, i2, r2, m2⟩ := hq.2.2 2 a2 rfl
    have b2 := m2.2.2.1
    refine rw_aload_n (pc := 0) dQ_ofClient_0 rfl ?_
    refine rw_iload_n (pc := 1) dQ_ofClient_1 rfl ?_
    refine rw_vi (pc := 2) (z' := (0, 0, 0)) (rc' := 0) (rs' := 0) (av := [.inl (nI c)]) (st := []) (ci := 3) mlQ_21 miQ_placeOf rfl mvQ_placeOf_Q dQ_ofClient_2 hoQ hsQ ((cQ_placeOf G h hc hf hl).eq_l hl0) rfl rfl (Nat.le_of_ble_eq_true rfl) (by decide) rfl rfl (fun r10 h10 q10 => ?_)
    obtain ⟨rfl, rfl⟩ := q10
    by_cases z0 : am_c a0 = c
    · skip
      rw [show f_pl [a0, a1, a2] c = 0 from by simp [f_pl, z0]]
      refine rw_istore_n (pc := 5) (L' := [some (.inr (some (20 + 2 * f))), some (.inl (nI c)), some (.inl (nI 0))]) dQ_ofClient_5 (by decide) rfl ?_
      refine rw_iload_n (pc := 6) dQ_ofClient_6 rfl ?_
      refine rw_aload_n (pc := 7) dQ_ofClient_7 rfl ?_
      refine rw_getI (pc := 8) (x := nI 3) flQ_17_Q dQ_ofClient_8 hoQ hsQ hz ?_
      refine rw_icmpge (pc := 11) dQ_ofClient_11 (tgt := 23) rfl (fun c11 => ?_) (fun c11 => ?_)
      · skip
        replace c11 : 3 ≤ 0 := (nI_leI (a := 3) (b := 0) (by omega) (by omega)).mp c11
        exact absurd c11 (by decide)
      · skip
        replace c11 : ¬ (3 ≤ 0) := fun qz => c11 ((nI_leI (a := 3) (b := 0) (by omega) (by omega)).mpr qz)
        refine rw_aload_n (pc := 14) dQ_ofClient_14 rfl ?_
        refine rw_getR (pc := 15) (x := some (21 + 2 * f)) flQ_11_Q dQ_ofClient_15 hoQ hsQ hrq ?_
        refine rw_iload_n (pc := 18) dQ_ofClient_18 rfl ?_
        refine rw_aald (pc := 19) (v := some i0) (i := 0) (t := 5) rfl ⟨rfl, by decide⟩ dQ_ofClient_19 hoq hsq (ix_nI (by omega) (by decide)) r0 ?_
        refine rw_goto (pc := 20) dQ_ofClient_20 (tgt := 24) rfl ?_
        exact rw_aret (pc := 24) dQ_ofClient_24 rfl (Or.inl ⟨_, rfl⟩) ⟨_, rfl, rfl, Or.inr ⟨a0, i0, by simp [f_of, z0], rfl, by omega, by omega, m0⟩⟩
    · skip
      by_cases z1 : am_c a1 = c
      · skip
        rw [show f_pl [a0, a1, a2] c = 1 from by simp [f_pl, z0, z1]]
        refine rw_istore_n (pc := 5) (L' := [some (.inr (some (20 + 2 * f))), some (.inl (nI c)), some (.inl (nI 1))]) dQ_ofClient_5 (by decide) rfl ?_
        refine rw_iload_n (pc := 6) dQ_ofClient_6 rfl ?_
        refine rw_aload_n (pc := 7) dQ_ofClient_7 rfl ?_
        refine rw_getI (pc := 8) (x := nI 3) flQ_17_Q dQ_ofClient_8 hoQ hsQ hz ?_
        refine rw_icmpge (pc := 11) dQ_ofClient_11 (tgt := 23) rfl (fun c12 => ?_) (fun c12 => ?_)
        · skip
          replace c12 : 3 ≤ 1 := (nI_leI (a := 3) (b := 1) (by omega) (by omega)).mp c12
          exact absurd c12 (by decide)
        · skip
          replace c12 : ¬ (3 ≤ 1) := fun qz => c12 ((nI_leI (a := 3) (b := 1) (by omega) (by omega)).mpr qz)
          refine rw_aload_n (pc := 14) dQ_ofClient_14 rfl ?_
          refine rw_getR (pc := 15) (x := some (21 + 2 * f)) flQ_11_Q dQ_ofClient_15 hoQ hsQ hrq ?_
          refine rw_iload_n (pc := 18) dQ_ofClient_18 rfl ?_
          refine rw_aald (pc := 19) (v := some i1) (i := 1) (t := 5) rfl ⟨rfl, by decide⟩ dQ_ofClient_19 hoq hsq (ix_nI (by omega) (by decide)) r1 ?_
          refine rw_goto (pc := 20) dQ_ofClient_20 (tgt := 24) rfl ?_
          exact rw_aret (pc := 24) dQ_ofClient_24 rfl (Or.inl ⟨_, rfl⟩) ⟨_, rfl, rfl, Or.inr ⟨a1, i1, by simp [f_of, z0, z1], rfl, by omega, by omega, m1⟩⟩
      · skip
        by_cases z2 : am_c a2 = c
        · skip
          rw [show f_pl [a0, a1, a2] c = 2 from by simp [f_pl, z0, z1, z2]]
          refine rw_istore_n (pc := 5) (L' := [some (.inr (some (20 + 2 * f))), some (.inl (nI c)), some (.inl (nI 2))]) dQ_ofClient_5 (by decide) rfl ?_
          refine rw_iload_n (pc := 6) dQ_ofClient_6 rfl ?_
          refine rw_aload_n (pc := 7) dQ_ofClient_7 rfl ?_
          refine rw_getI (pc := 8) (x := nI 3) flQ_17_Q dQ_ofClient_8 hoQ hsQ hz ?_
          refine rw_icmpge (pc := 11) dQ_ofClient_11 (tgt := 23) rfl (fun c13 => ?_) (fun c13 => ?_)
          · skip
            replace c13 : 3 ≤ 2 := (nI_leI (a := 3) (b := 2) (by omega) (by omega)).mp c13
            exact absurd c13 (by decide)
          · skip
            replace c13 : ¬ (3 ≤ 2) := fun qz => c13 ((nI_leI (a := 3) (b := 2) (by omega) (by omega)).mpr qz)
            refine rw_aload_n (pc := 14) dQ_ofClient_14 rfl ?_
            refine rw_getR (pc := 15) (x := some (21 + 2 * f)) flQ_11_Q dQ_ofClient_15 hoQ hsQ hrq ?_
            refine rw_iload_n (pc := 18) dQ_ofClient_18 rfl ?_
            refine rw_aald (pc := 19) (v := some i2) (i := 2) (t := 5) rfl ⟨rfl, by decide⟩ dQ_ofClient_19 hoq hsq (ix_nI (by omega) (by decide)) r2 ?_
            refine rw_goto (pc := 20) dQ_ofClient_20 (tgt := 24) rfl ?_
            exact rw_aret (pc := 24) dQ_ofClient_24 rfl (Or.inl ⟨_, rfl⟩) ⟨_, rfl, rfl, Or.inr ⟨a2, i2, by simp [f_of, z0, z1, z2], rfl, by omega, by omega, m2⟩⟩
        · skip
          rw [show f_pl [a0, a1, a2] c = 3 from by simp [f_pl, z0, z1, z2]]
          refine rw_istore_n (pc := 5) (L' := [some (.inr (some (20 + 2 * f))), some (.inl (nI c)), some (.inl (nI 3))]) dQ_ofClient_5 (by decide) rfl ?_
          refine rw_iload_n (pc := 6) dQ_ofClient_6 rfl ?_
          refine rw_aload_n (pc := 7) dQ_ofClient_7 rfl ?_
          refine rw_getI (pc := 8) (x := nI 3) flQ_17_Q dQ_ofClient_8 hoQ hsQ hz ?_
          refine rw_icmpge (pc := 11) dQ_ofClient_11 (tgt := 23) rfl (fun c14 => ?_) (fun c14 => ?_)
          · skip
            replace c14 : 3 ≤ 3 := (nI_leI (a := 3) (b := 3) (by omega) (by omega)).mp c14
            refine rw_null (pc := 23) dQ_ofClient_23 ?_
            exact rw_aret (pc := 24) dQ_ofClient_24 rfl (Or.inl ⟨_, rfl⟩) ⟨_, rfl, rfl, Or.inl ⟨by simp [f_of, z0, z1, z2], rfl⟩⟩
          · skip
            replace c14 : ¬ (3 ≤ 3) := fun qz => c14 ((nI_leI (a := 3) (b := 3) (by omega) (by omega)).mpr qz)
            exact absurd (by decide) c14
  · skip
    exact absurd hq.2.1 (by simp only [List.length_cons]; omega)
theorem cQ_takeOut (G : mt_G) (h : ha_H) {L : Nat} {n : List ab_M} {su : Bool} {sn : Int32} {sg : Bool} {se : Int32} {pg : Nat → Nat → Int32} {md : Nat → Nat → Nat} {en : Nat → Nat → Int32} {sd : Nat → Option ab_M} {ln : Nat → List ab_M} {C : Nat → ab_C} (hc : CV L n su sn sg se pg md en sd ln C h) {f : Nat} (hf : f < 4) {c : Nat} (hl : c < 3) : rn_M G xQ_takeOut (1, 0, 0) [.inr (some (20 + 2 * f)), .inl (nI c)] h (rn_v (fun h' => CV L n su sn sg se pg md en sd (fu ln f (f_out (ln f) c)) C h' ∧ hp_le h h')) := by
  refine rn_of (by decide +kernel) (Nat.le_of_ble_eq_true rfl) ?_
  show rn_W G xQ_takeOut (1, 0, 0) 0 0 0 [some (.inr (some (20 + 2 * f))), some (.inl (nI c)), none, none] [] h _
  obtain ⟨l, hl0⟩ : ∃ l, ln f = l := ⟨_, rfl⟩
  have hq := cp_ln hc f hf
  rw [hl0] at hq
  try rw [hl0]
  have hf0 := hf
  have hoQ : hp_ok h (20 + 2 * f) := cs_o hc (by omega) (by omega)
  have hsQ := cs_SQ hc hf
  have hoq : hp_ok h (21 + 2 * f) := cs_o hc (by omega) (by omega)
  have hsq := cs_Sq hc hf
  have hrq := cr_Q hc hf
  have hle := le_rf h
  rcases l with _ | ⟨a0, _ | ⟨a1, _ | ⟨a2, _ | ⟨a3, l⟩⟩⟩⟩
  · skip
    have hz : hp_I h (20 + 2 * f) 1 = nI 0 := hq.1
    refine rw_aload_n (pc := 0) dQ_takeOut_0 rfl ?_
    refine rw_iload_n (pc := 1) dQ_takeOut_1 rfl ?_
    refine rw_vi (pc := 2) (z' := (0, 0, 0)) (rc' := 0) (rs' := 0) (av := [.inl (nI c)]) (st := []) (ci := 3) mlQ_21 miQ_placeOf rfl mvQ_placeOf_Q dQ_takeOut_2 hoQ hsQ ((cQ_placeOf G h hc hf hl).eq_l hl0) rfl rfl (Nat.le_of_ble_eq_true rfl) (by decide) rfl rfl (fun r1 h1 q1 => ?_)
    obtain ⟨rfl, rfl⟩ := q1
    rw [show f_pl [] c = 0 from by simp [f_pl]]
    refine rw_istore_n (pc := 5) (L' := [some (.inr (some (20 + 2 * f))), some (.inl (nI c)), some (.inl (nI 0)), none]) dQ_takeOut_5 (by decide) rfl ?_
    refine rw_iload_n (pc := 6) dQ_takeOut_6 rfl ?_
    refine rw_aload_n (pc := 7) dQ_takeOut_7 rfl ?_
    refine rw_getI (pc := 8) (x := nI 0) flQ_17_Q dQ_takeOut_8 hoQ hsQ hz ?_
    refine rw_icmpge (pc := 11) dQ_takeOut_11 (tgt := 64) rfl (fun c2 => ?_) (fun c2 => ?_)
    · skip
      replace c2 : 0 ≤ 0 := (nI_leI (a := 0) (b := 0) (by omega) (by omega)).mp c2
      rw [show f_out [] c = [] from by simp [f_out]]
      exact rw_vret (pc := 64) dQ_takeOut_64 rfl ⟨rfl, wl_any hc hf0 (by rfl) (fun x => by rfl) (fun x y hx => by simp [hp_I_sI, hp_I_sR, hx]) (fun x y hx => by simp [hp_R_sI, hp_R_sR, hx]) (cl_0 hz), hle⟩
    · skip
      replace c2 : ¬ (0 ≤ 0) := fun qz => c2 ((nI_leI (a := 0) (b := 0) (by omega) (by omega)).mpr qz)
      exact absurd (by decide) c2
  · skip
    have hz : hp_I h (20 + 2 * f) 1 = nI 1 := hq.1
    obtain ⟨k0, i0, r0, m0⟩ := hq.2.2 0 a0 rfl
    have b0 := m0.2.2.1
    refine rw_aload_n (pc := 0) dQ_takeOut_0 rfl ?_
    refine rw_iload_n (pc := 1) dQ_takeOut_1 rfl ?_
    refine rw_vi (pc := 2) (z' := (0, 0, 0)) (rc' := 0) (rs' := 0) (av := [.inl (nI c)]) (st := []) (ci := 3) mlQ_21 miQ_placeOf rfl mvQ_placeOf_Q dQ_takeOut_2 hoQ hsQ ((cQ_placeOf G h hc hf hl).eq_l hl0) rfl rfl (Nat.le_of_ble_eq_true rfl) (by decide) rfl rfl (fun r3 h3 q3 => ?_)
    obtain ⟨rfl, rfl⟩ := q3
    by_cases z0 : am_c a0 = c
    · skip
      rw [show f_pl [a0] c = 0 from by simp [f_pl, z0]]
      refine rw_istore_n (pc := 5) (L' := [some (.inr (some (20 + 2 * f))), some (.inl (nI c)), some (.inl (nI 0)), none]) dQ_takeOut_5 (by decide) rfl ?_
      refine rw_iload_n (pc := 6) dQ_takeOut_6 rfl ?_
      refine rw_aload_n (pc := 7) dQ_takeOut_7 rfl ?_
      refine rw_getI (pc := 8) (x := nI 1) flQ_17_Q dQ_takeOut_8 hoQ hsQ hz ?_
      refine rw_icmpge (pc := 11) dQ_takeOut_11 (tgt := 64) rfl (fun c4 => ?_) (fun c4 => ?_)
      · skip
        replace c4 : 1 ≤ 0 := (nI_leI (a := 1) (b := 0) (by omega) (by omega)).mp c4
        exact absurd c4 (by decide)
      · skip
        replace c4 : ¬ (1 ≤ 0) := fun qz => c4 ((nI_leI (a := 1) (b := 0) (by omega) (by omega)).mpr qz)
        refine rw_aload_n (pc := 14) dQ_takeOut_14 rfl ?_
        refine rw_dup (pc := 15) dQ_takeOut_15 ?_
        refine rw_getI (pc := 16) (x := nI 1) flQ_17_Q dQ_takeOut_16 hoQ hsQ hz ?_
        refine rw_iconst (pc := 19) (x := nI 1) dQ_takeOut_19 (by decide) ?_
        refine rw_isub (pc := 20) (v := nI 0) dQ_takeOut_20 (by decide) ?_
        refine rw_putI (pc := 21) pfQ_17_Q dQ_takeOut_21 hoQ hsQ ?_
        replace hoQ := ok_sI (A := (20 + 2 * f)) (k := 1) (v := nI 0) hoQ
        replace hsQ := sh_sI (A := (20 + 2 * f)) (k := 1) (v := nI 0) hsQ
        replace hoq := ok_sI (A := (20 + 2 * f)) (k := 1) (v := nI 0) hoq
        replace hsq := sh_sI (A := (20 + 2 * f)) (k := 1) (v := nI 0) hsq
        replace m0 := cm_le m0 (le_sI (h := h) (A := (20 + 2 * f)) (k := 1) (v := nI 0) (by omega))
        replace hle := le_tr hle (le_sI (h := h) (A := (20 + 2 * f)) (k := 1) (v := nI 0) (by omega))
        replace hrq := rR_sI (A := (20 + 2 * f)) (k := 1) (v := nI 0) hrq
        replace r0 := rR_sI (A := (20 + 2 * f)) (k := 1) (v := nI 0) r0
        have e5 : hp_I (hp_sI h (20 + 2 * f) 1 (nI 0)) (20 + 2 * f) 1 = (nI 0) := hI_set
        refine rw_iload_n (pc := 24) dQ_takeOut_24 rfl ?_
        refine rw_istore_n (pc := 25) (L' := [some (.inr (some (20 + 2 * f))), some (.inl (nI c)), some (.inl (nI 0)), some (.inl (nI 0))]) dQ_takeOut_25 (by decide) rfl ?_
        refine rw_iload_n (pc := 26) dQ_takeOut_26 rfl ?_
        refine rw_aload_n (pc := 27) dQ_takeOut_27 rfl ?_
        refine rw_getI (pc := 28) (x := nI 0) flQ_17_Q dQ_takeOut_28 hoQ hsQ e5 ?_
        refine rw_icmpge (pc := 31) dQ_takeOut_31 (tgt := 54) rfl (fun c6 => ?_) (fun c6 => ?_)
        · skip
          replace c6 : 0 ≤ 0 := (nI_leI (a := 0) (b := 0) (by omega) (by omega)).mp c6
          refine rw_aload_n (pc := 54) dQ_takeOut_54 rfl ?_
          refine rw_getR (pc := 55) (x := some (21 + 2 * f)) flQ_11_Q dQ_takeOut_55 hoQ hsQ hrq ?_
          refine rw_aload_n (pc := 58) dQ_takeOut_58 rfl ?_
          refine rw_getI (pc := 59) (x := nI 0) flQ_17_Q dQ_takeOut_59 hoQ hsQ e5 ?_
          refine rw_null (pc := 62) dQ_takeOut_62 ?_
          refine rw_aastN (pc := 63) (i := 0) (t := 5) rfl (by decide) dQ_takeOut_63 hoq hsq (ix_nI (by omega) (by decide)) ?_
          replace hoQ := ok_sR (A := (21 + 2 * f)) (k := 0) (v := none) hoQ
          replace hsQ := sh_sR (A := (21 + 2 * f)) (k := 0) (v := none) hsQ
          replace hoq := ok_sR (A := (21 + 2 * f)) (k := 0) (v := none) hoq
          replace hsq := sh_sR (A := (21 + 2 * f)) (k := 0) (v := none) hsq
          replace m0 := cm_le m0 (le_sR (h := (hp_sI h (20 + 2 * f) 1 (nI 0))) (A := (21 + 2 * f)) (k := 0) (v := none) (by omega))
          replace hle := le_tr hle (le_sR (h := (hp_sI h (20 + 2 * f) 1 (nI 0))) (A := (21 + 2 * f)) (k := 0) (v := none) (by omega))
          replace e5 := hR_of (A := (21 + 2 * f)) (k := 0) (v := none) e5
          replace hrq := rR_sR (A := (21 + 2 * f)) (k := 0) (v := none) (by omega) hrq
          have e7 : hp_R (hp_sR (hp_sI h (20 + 2 * f) 1 (nI 0)) (21 + 2 * f) 0 none) (21 + 2 * f) 0 = none := rR_set
          rw [show f_out [a0] c = [] from by simp [f_out, z0]]
          exact rw_vret (pc := 64) dQ_takeOut_64 rfl ⟨rfl, wl_any hc hf0 (by rfl) (fun x => by rfl) (fun x y hx => by simp [hp_I_sI, hp_I_sR, hx]) (fun x y hx => by simp [hp_R_sI, hp_R_sR, hx]) (cl_0 e5), hle⟩
        · skip
          replace c6 : ¬ (0 ≤ 0) := fun qz => c6 ((nI_leI (a := 0) (b := 0) (by omega) (by omega)).mpr qz)
          exact absurd (by decide) c6
    · skip
      rw [show f_pl [a0] c = 1 from by simp [f_pl, z0]]
      refine rw_istore_n (pc := 5) (L' := [some (.inr (some (20 + 2 * f))), some (.inl (nI c)), some (.inl (nI 1)), none]) dQ_takeOut_5 (by decide) rfl ?_
      refine rw_iload_n (pc := 6) dQ_takeOut_6 rfl ?_
      refine rw_aload_n (pc := 7) dQ_takeOut_7 rfl ?_
      refine rw_getI (pc := 8) (x := nI 1) flQ_17_Q dQ_takeOut_8 hoQ hsQ hz ?_
      refine rw_icmpge (pc := 11) dQ_takeOut_11 (tgt := 64) rfl (fun c8 => ?_) (fun c8 => ?_)
      · skip
        replace c8 : 1 ≤ 1 := (nI_leI (a := 1) (b := 1) (by omega) (by omega)).mp c8
        rw [show f_out [a0] c = [a0] from by simp [f_out, z0]]
        exact rw_vret (pc := 64) dQ_takeOut_64 rfl ⟨rfl, wl_any hc hf0 (by rfl) (fun x => by rfl) (fun x y hx => by simp [hp_I_sI, hp_I_sR, hx]) (fun x y hx => by simp [hp_R_sI, hp_R_sR, hx]) (cl_1 hz (by omega) r0 m0), hle⟩
      · skip
        replace c8 : ¬ (1 ≤ 1) := fun qz => c8 ((nI_leI (a := 1) (b := 1) (by omega) (by omega)).mpr qz)
        exact absurd (by decide) c8
  · skip
    have hz : hp_I h (20 + 2 * f) 1 = nI 2 := hq.1
    obtain ⟨k0, i0, r0, m0⟩ := hq.2.2 0 a0 rfl
    have b0 := m0.2.2.1
    obtain ⟨k1, i1, r1, m1⟩ := hq.2.2 1 a1 rfl
    have b1 := m1.2.2.1
    refine rw_aload_n (pc := 0) dQ_takeOut_0 rfl ?_
    refine rw_iload_n (pc := 1) dQ_takeOut_1 rfl ?_
    refine rw_vi (pc := 2) (z' := (0, 0, 0)) (rc' := 0) (rs' := 0) (av := [.inl (nI c)]) (st := []) (ci := 3) mlQ_21 miQ_placeOf rfl mvQ_placeOf_Q dQ_takeOut_2 hoQ hsQ ((cQ_placeOf G h hc hf hl).eq_l hl0) rfl rfl (Nat.le_of_ble_eq_true rfl) (by decide) rfl rfl (fun r9 h9 q9 => ?_)
    obtain ⟨rfl, rfl⟩ := q9
    by_cases z0 : am_c a0 = c
    · skip
      rw [show f_pl [a0, a1] c = 0 from by simp [f_pl, z0]]
      refine rw_istore_n (pc := 5) (L' := [some (.inr (some (20 + 2 * f))), some (.inl (nI c)), some (.inl (nI 0)), none]) dQ_takeOut_5 (by decide) rfl ?_
      refine rw_iload_n (pc := 6) dQ_takeOut_6 rfl ?_
      refine rw_aload_n (pc := 7) dQ_takeOut_7 rfl ?_
      refine rw_getI (pc := 8) (x := nI 2) flQ_17_Q dQ_takeOut_8 hoQ hsQ hz ?_
      refine rw_icmpge (pc := 11) dQ_takeOut_11 (tgt := 64) rfl (fun c10 => ?_) (fun c10 => ?_)
      · skip
        replace c10 : 2 ≤ 0 := (nI_leI (a := 2) (b := 0) (by omega) (by omega)).mp c10
        exact absurd c10 (by decide)
      · skip
        replace c10 : ¬ (2 ≤ 0) := fun qz => c10 ((nI_leI (a := 2) (b := 0) (by omega) (by omega)).mpr qz)
        refine rw_aload_n (pc := 14) dQ_takeOut_14 rfl ?_
        refine rw_dup (pc := 15) dQ_takeOut_15 ?_
        refine rw_getI (pc := 16) (x := nI 2) flQ_17_Q dQ_takeOut_16 hoQ hsQ hz ?_
        refine rw_iconst (pc := 19) (x := nI 1) dQ_takeOut_19 (by decide) ?_
        refine rw_isub (pc := 20) (v := nI 1) dQ_takeOut_20 (by decide) ?_
        refine rw_putI (pc := 21) pfQ_17_Q dQ_takeOut_21 hoQ hsQ ?_
        replace hoQ := ok_sI (A := (20 + 2 * f)) (k := 1) (v := nI 1) hoQ
        replace hsQ := sh_sI (A := (20 + 2 * f)) (k := 1) (v := nI 1) hsQ
        replace hoq := ok_sI (A := (20 + 2 * f)) (k := 1) (v := nI 1) hoq
        replace hsq := sh_sI (A := (20 + 2 * f)) (k := 1) (v := nI 1) hsq
        replace m0 := cm_le m0 (le_sI (h := h) (A := (20 + 2 * f)) (k := 1) (v := nI 1) (by omega))
        replace m1 := cm_le m1 (le_sI (h := h) (A := (20 + 2 * f)) (k := 1) (v := nI 1) (by omega))
        replace hle := le_tr hle (le_sI (h := h) (A := (20 + 2 * f)) (k := 1) (v := nI 1) (by omega))
        replace hrq := rR_sI (A := (20 + 2 * f)) (k := 1) (v := nI 1) hrq
        replace r0 := rR_sI (A := (20 + 2 * f)) (k := 1) (v := nI 1) r0
        replace r1 := rR_sI (A := (20 + 2 * f)) (k := 1) (v := nI 1) r1
        have e11 : hp_I (hp_sI h (20 + 2 * f) 1 (nI 1)) (20 + 2 * f) 1 = (nI 1) := hI_set
        refine rw_iload_n (pc := 24) dQ_takeOut_24 rfl ?_
        refine rw_istore_n (pc := 25) (L' := [some (.inr (some (20 + 2 * f))), some (.inl (nI c)), some (.inl (nI 0)), some (.inl (nI 0))]) dQ_takeOut_25 (by decide) rfl ?_
        refine rw_iload_n (pc := 26) dQ_takeOut_26 rfl ?_
        refine rw_aload_n (pc := 27) dQ_takeOut_27 rfl ?_
        refine rw_getI (pc := 28) (x := nI 1) flQ_17_Q dQ_takeOut_28 hoQ hsQ e11 ?_
        refine rw_icmpge (pc := 31) dQ_takeOut_31 (tgt := 54) rfl (fun c12 => ?_) (fun c12 => ?_)
        · skip
          replace c12 : 1 ≤ 0 := (nI_leI (a := 1) (b := 0) (by omega) (by omega)).mp c12
          exact absurd c12 (by decide)
        · skip
          replace c12 : ¬ (1 ≤ 0) := fun qz => c12 ((nI_leI (a := 1) (b := 0) (by omega) (by omega)).mpr qz)
          refine rw_aload_n (pc := 34) dQ_takeOut_34 rfl ?_
          refine rw_getR (pc := 35) (x := some (21 + 2 * f)) flQ_11_Q dQ_takeOut_35 hoQ hsQ hrq ?_
          refine rw_iload_n (pc := 38) dQ_takeOut_38 rfl ?_
          refine rw_aload_n (pc := 39) dQ_takeOut_39 rfl ?_
          refine rw_getR (pc := 40) (x := some (21 + 2 * f)) flQ_11_Q dQ_takeOut_40 hoQ hsQ hrq ?_
          refine rw_iload_n (pc := 43) dQ_takeOut_43 rfl ?_
          refine rw_iconst (pc := 44) (x := nI 1) dQ_takeOut_44 (by decide) ?_
          refine rw_iadd (pc := 45) (v := nI 1) dQ_takeOut_45 (by decide) ?_
          refine rw_aald (pc := 46) (v := some i1) (i := 1) (t := 5) rfl ⟨rfl, by decide⟩ dQ_takeOut_46 hoq hsq (ix_nI (by omega) (by decide)) r1 ?_
          refine rw_aast (pc := 47) (i := 0) so_5_R (by decide) dQ_takeOut_47 hoq hsq (ix_nI (by omega) (by decide)) (cm_o m1) (cm_q m1 (by omega)).2.1 ?_
          replace hoQ := ok_sR (A := (21 + 2 * f)) (k := 0) (v := some i1) hoQ
          replace hsQ := sh_sR (A := (21 + 2 * f)) (k := 0) (v := some i1) hsQ
          replace hoq := ok_sR (A := (21 + 2 * f)) (k := 0) (v := some i1) hoq
          replace hsq := sh_sR (A := (21 + 2 * f)) (k := 0) (v := some i1) hsq
          replace m0 := cm_le m0 (le_sR (h := (hp_sI h (20 + 2 * f) 1 (nI 1))) (A := (21 + 2 * f)) (k := 0) (v := some i1) (by omega))
          replace m1 := cm_le m1 (le_sR (h := (hp_sI h (20 + 2 * f) 1 (nI 1))) (A := (21 + 2 * f)) (k := 0) (v := some i1) (by omega))
          replace hle := le_tr hle (le_sR (h := (hp_sI h (20 + 2 * f) 1 (nI 1))) (A := (21 + 2 * f)) (k := 0) (v := some i1) (by omega))
          replace e11 := hR_of (A := (21 + 2 * f)) (k := 0) (v := some i1) e11
          replace hrq := rR_sR (A := (21 + 2 * f)) (k := 0) (v := some i1) (by omega) hrq
          replace r1 := rR_sR2 (A := (21 + 2 * f)) (k := 0) (v := some i1) (by omega) r1
          have e13 : hp_R (hp_sR (hp_sI h (20 + 2 * f) 1 (nI 1)) (21 + 2 * f) 0 (some i1)) (21 + 2 * f) 0 = (some i1) := rR_set
          refine rw_iinc (pc := 48) (x := nI 0) (y := nI 1) (L' := [some (.inr (some (20 + 2 * f))), some (.inl (nI c)), some (.inl (nI 0)), some (.inl (nI 1))]) dQ_takeOut_48 (by decide) rfl (by decide) rfl ?_
          refine rw_goto (pc := 51) dQ_takeOut_51 (tgt := 26) rfl ?_
          refine rw_iload_n (pc := 26) dQ_takeOut_26 rfl ?_
          refine rw_aload_n (pc := 27) dQ_takeOut_27 rfl ?_
          refine rw_getI (pc := 28) (x := nI 1) flQ_17_Q dQ_takeOut_28 hoQ hsQ e11 ?_
          refine rw_icmpge (pc := 31) dQ_takeOut_31 (tgt := 54) rfl (fun c14 => ?_) (fun c14 => ?_)
          · skip
            replace c14 : 1 ≤ 1 := (nI_leI (a := 1) (b := 1) (by omega) (by omega)).mp c14
            refine rw_aload_n (pc := 54) dQ_takeOut_54 rfl ?_
            refine rw_getR (pc := 55) (x := some (21 + 2 * f)) flQ_11_Q dQ_takeOut_55 hoQ hsQ hrq ?_
            refine rw_aload_n (pc := 58) dQ_takeOut_58 rfl ?_
            refine rw_getI (pc := 59) (x := nI 1) flQ_17_Q dQ_takeOut_59 hoQ hsQ e11 ?_
            refine rw_null (pc := 62) dQ_takeOut_62 ?_
            refine rw_aastN (pc := 63) (i := 1) (t := 5) rfl (by decide) dQ_takeOut_63 hoq hsq (ix_nI (by omega) (by decide)) ?_
            replace hoQ := ok_sR (A := (21 + 2 * f)) (k := 1) (v := none) hoQ
            replace hsQ := sh_sR (A := (21 + 2 * f)) (k := 1) (v := none) hsQ
            replace hoq := ok_sR (A := (21 + 2 * f)) (k := 1) (v := none) hoq
            replace hsq := sh_sR (A := (21 + 2 * f)) (k := 1) (v := none) hsq
            replace m0 := cm_le m0 (le_sR (h := (hp_sR (hp_sI h (20 + 2 * f) 1 (nI 1)) (21 + 2 * f) 0 (some i1))) (A := (21 + 2 * f)) (k := 1) (v := none) (by omega))
            replace m1 := cm_le m1 (le_sR (h := (hp_sR (hp_sI h (20 + 2 * f) 1 (nI 1)) (21 + 2 * f) 0 (some i1))) (A := (21 + 2 * f)) (k := 1) (v := none) (by omega))
            replace hle := le_tr hle (le_sR (h := (hp_sR (hp_sI h (20 + 2 * f) 1 (nI 1)) (21 + 2 * f) 0 (some i1))) (A := (21 + 2 * f)) (k := 1) (v := none) (by omega))
            replace e11 := hR_of (A := (21 + 2 * f)) (k := 1) (v := none) e11
            replace hrq := rR_sR (A := (21 + 2 * f)) (k := 1) (v := none) (by omega) hrq
            replace e13 := rR_sR2 (A := (21 + 2 * f)) (k := 1) (v := none) (by omega) e13
            have e15 : hp_R (hp_sR (hp_sR (hp_sI h (20 + 2 * f) 1 (nI 1)) (21 + 2 * f) 0 (some i1)) (21 + 2 * f) 1 none) (21 + 2 * f) 1 = none := rR_set
            rw [show f_out [a0, a1] c = [a1] from by simp [f_out, z0]]
            exact rw_vret (pc := 64) dQ_takeOut_64 rfl ⟨rfl, wl_any hc hf0 (by rfl) (fun x => by rfl) (fun x y hx => by simp [hp_I_sI, hp_I_sR, hx]) (fun x y hx => by simp [hp_R_sI, hp_R_sR, hx]) (cl_1 e11 (by omega) e13 m1), hle⟩
          · skip
            replace c14 : ¬ (1 ≤ 1) := fun qz => c14 ((nI_leI (a := 1) (b := 1) (by omega) (by omega)).mpr qz)
            exact absurd (by decide) c14
    · skip
      by_cases z1 : am_c a1 = c
      · skip
        rw [show f_pl [a0, a1] c = 1 from by simp [f_pl, z0, z1]]
        refine rw_istore_n (pc := 5) (L' := [some (.inr (some (20 + 2 * f))), some (.inl (nI c)), some (.inl (nI 1)), none]) dQ_takeOut_5 (by decide) rfl ?_
        refine rw_iload_n (pc := 6) dQ_takeOut_6 rfl ?_
        refine rw_aload_n (pc := 7) dQ_takeOut_7 rfl ?_
        refine rw_getI (pc := 8) (x := nI 2) flQ_17_Q dQ_takeOut_8 hoQ hsQ hz ?_
        refine rw_icmpge (pc := 11) dQ_takeOut_11 (tgt := 64) rfl (fun c16 => ?_) (fun c16 => ?_)
        · skip
          replace c16 : 2 ≤ 1 := (nI_leI (a := 2) (b := 1) (by omega) (by omega)).mp c16
          exact absurd c16 (by decide)
        · skip
          replace c16 : ¬ (2 ≤ 1) := fun qz => c16 ((nI_leI (a := 2) (b := 1) (by omega) (by omega)).mpr qz)
          refine rw_aload_n (pc := 14) dQ_takeOut_14 rfl ?_
          refine rw_dup (pc := 15) dQ_takeOut_15 ?_
          refine rw_getI (pc := 16) (x := nI 2) flQ_17_Q dQ_takeOut_16 hoQ hsQ hz ?_
          refine rw_iconst (pc := 19) (x := nI 1) dQ_takeOut_19 (by decide) ?_
          refine rw_isub (pc := 20) (v := nI 1) dQ_takeOut_20 (by decide) ?_
          refine rw_putI (pc := 21) pfQ_17_Q dQ_takeOut_21 hoQ hsQ ?_
          replace hoQ := ok_sI (A := (20 + 2 * f)) (k := 1) (v := nI 1) hoQ
          replace hsQ := sh_sI (A := (20 + 2 * f)) (k := 1) (v := nI 1) hsQ
          replace hoq := ok_sI (A := (20 + 2 * f)) (k := 1) (v := nI 1) hoq
          replace hsq := sh_sI (A := (20 + 2 * f)) (k := 1) (v := nI 1) hsq
          replace m0 := cm_le m0 (le_sI (h := h) (A := (20 + 2 * f)) (k := 1) (v := nI 1) (by omega))
          replace m1 := cm_le m1 (le_sI (h := h) (A := (20 + 2 * f)) (k := 1) (v := nI 1) (by omega))
          replace hle := le_tr hle (le_sI (h := h) (A := (20 + 2 * f)) (k := 1) (v := nI 1) (by omega))
          replace hrq := rR_sI (A := (20 + 2 * f)) (k := 1) (v := nI 1) hrq
          replace r0 := rR_sI (A := (20 + 2 * f)) (k := 1) (v := nI 1) r0
          replace r1 := rR_sI (A := (20 + 2 * f)) (k := 1) (v := nI 1) r1
          have e17 : hp_I (hp_sI h (20 + 2 * f) 1 (nI 1)) (20 + 2 * f) 1 = (nI 1) := hI_set
          refine rw_iload_n (pc := 24) dQ_takeOut_24 rfl ?_
          refine rw_istore_n (pc := 25) (L' := [some (.inr (some (20 + 2 * f))), some (.inl (nI c)), some (.inl (nI 1)), some (.inl (nI 1))]) dQ_takeOut_25 (by decide) rfl ?_
          refine rw_iload_n (pc := 26) dQ_takeOut_26 rfl ?_
          refine rw_aload_n (pc := 27) dQ_takeOut_27 rfl ?_
          refine rw_getI (pc := 28) (x := nI 1) flQ_17_Q dQ_takeOut_28 hoQ hsQ e17 ?_
          refine rw_icmpge (pc := 31) dQ_takeOut_31 (tgt := 54) rfl (fun c18 => ?_) (fun c18 => ?_)
          · skip
            replace c18 : 1 ≤ 1 := (nI_leI (a := 1) (b := 1) (by omega) (by omega)).mp c18
            refine rw_aload_n (pc := 54) dQ_takeOut_54 rfl ?_
            refine rw_getR (pc := 55) (x := some (21 + 2 * f)) flQ_11_Q dQ_takeOut_55 hoQ hsQ hrq ?_
            refine rw_aload_n (pc := 58) dQ_takeOut_58 rfl ?_
            refine rw_getI (pc := 59) (x := nI 1) flQ_17_Q dQ_takeOut_59 hoQ hsQ e17 ?_
            refine rw_null (pc := 62) dQ_takeOut_62 ?_
            refine rw_aastN (pc := 63) (i := 1) (t := 5) rfl (by decide) dQ_takeOut_63 hoq hsq (ix_nI (by omega) (by decide)) ?_
            replace hoQ := ok_sR (A := (21 + 2 * f)) (k := 1) (v := none) hoQ
            replace hsQ := sh_sR (A := (21 + 2 * f)) (k := 1) (v := none) hsQ
            replace hoq := ok_sR (A := (21 + 2 * f)) (k := 1) (v := none) hoq
            replace hsq := sh_sR (A := (21 + 2 * f)) (k := 1) (v := none) hsq
            replace m0 := cm_le m0 (le_sR (h := (hp_sI h (20 + 2 * f) 1 (nI 1))) (A := (21 + 2 * f)) (k := 1) (v := none) (by omega))
            replace m1 := cm_le m1 (le_sR (h := (hp_sI h (20 + 2 * f) 1 (nI 1))) (A := (21 + 2 * f)) (k := 1) (v := none) (by omega))
            replace hle := le_tr hle (le_sR (h := (hp_sI h (20 + 2 * f) 1 (nI 1))) (A := (21 + 2 * f)) (k := 1) (v := none) (by omega))
            replace e17 := hR_of (A := (21 + 2 * f)) (k := 1) (v := none) e17
            replace hrq := rR_sR (A := (21 + 2 * f)) (k := 1) (v := none) (by omega) hrq
            replace r0 := rR_sR2 (A := (21 + 2 * f)) (k := 1) (v := none) (by omega) r0
            have e19 : hp_R (hp_sR (hp_sI h (20 + 2 * f) 1 (nI 1)) (21 + 2 * f) 1 none) (21 + 2 * f) 1 = none := rR_set
            rw [show f_out [a0, a1] c = [a0] from by simp [f_out, z0, z1]]
            exact rw_vret (pc := 64) dQ_takeOut_64 rfl ⟨rfl, wl_any hc hf0 (by rfl) (fun x => by rfl) (fun x y hx => by simp [hp_I_sI, hp_I_sR, hx]) (fun x y hx => by simp [hp_R_sI, hp_R_sR, hx]) (cl_1 e17 (by omega) r0 m0), hle⟩
          · skip
            replace c18 : ¬ (1 ≤ 1) := fun qz => c18 ((nI_leI (a := 1) (b := 1) (by omega) (by omega)).mpr qz)
            exact absurd (by decide) c18
      · skip
        rw [show f_pl [a0, a1] c = 2 from by simp [f_pl, z0, z1]]
        refine rw_istore_n (pc := 5) (L' := [some (.inr (some (20 + 2 * f))), some (.inl (nI c)), some (.inl (nI 2)), none]) dQ_takeOut_5 (by decide) rfl ?_
        refine rw_iload_n (pc := 6) dQ_takeOut_6 rfl ?_
        refine rw_aload_n (pc := 7) dQ_takeOut_7 rfl ?_
        refine rw_getI (pc := 8) (x := nI 2) flQ_17_Q dQ_takeOut_8 hoQ hsQ hz ?_
        refine rw_icmpge (pc := 11) dQ_takeOut_11 (tgt := 64) rfl (fun c20 => ?_) (fun c20 => ?_)
        · skip
          replace c20 : 2 ≤ 2 := (nI_leI (a := 2) (b := 2) (by omega) (by omega)).mp c20
          rw [show f_out [a0, a1] c = [a0, a1] from by simp [f_out, z0, z1]]
          exact rw_vret (pc := 64) dQ_takeOut_64 rfl ⟨rfl, wl_any hc hf0 (by rfl) (fun x => by rfl) (fun x y hx => by simp [hp_I_sI, hp_I_sR, hx]) (fun x y hx => by simp [hp_R_sI, hp_R_sR, hx]) (cl_2 hz (by omega) r0 m0 (by omega) r1 m1), hle⟩
        · skip
          replace c20 : ¬ (2 ≤ 2) := fun qz => c20 ((nI_leI (a := 2) (b := 2) (by omega) (by omega)).mpr qz)
          exact absurd (by decide) c20
  · skip
    have hz : hp_I h (20 + 2 * f) 1 = nI 3 := hq.1
    obtain ⟨k0, i0, r0, m0⟩ := hq.2.2 0 a0 rfl
    have b0 := m0.2.2.1
    obtain ⟨k1, i1, r1, m1⟩ := hq.2.2 1 a1 rfl
    have b1 := m1.2.2.1
    obtain ⟨k2, i2, r2, m2⟩ := hq.2.2 2 a2 rfl
    have b2 := m2.2.2.1
    refine rw_aload_n (pc := 0) dQ_takeOut_0 rfl ?_
    refine rw_iload_n (pc := 1) dQ_takeOut_1 rfl ?_
    refine rw_vi (pc := 2) (z' := (0, 0, 0)) (rc' := 0) (rs' := 0) (av := [.inl (nI c)]) (st := []) (ci := 3) mlQ_21 miQ_placeOf rfl mvQ_placeOf_Q dQ_takeOut_2 hoQ hsQ ((cQ_placeOf G h hc hf hl).eq_l hl0) rfl rfl (Nat.le_of_ble_eq_true rfl) (by decide) rfl rfl (fun r21 h21 q21 => ?_)
    obtain ⟨rfl, rfl⟩ := q21
    by_cases z0 : am_c a0 = c
    · skip
      rw [show f_pl [a0, a1, a2] c = 0 from by simp [f_pl, z0]]
      refine rw_istore_n (pc := 5) (L' := [some (.inr (some (20 + 2 * f))), some (.inl (nI c)), some (.inl (nI 0)), none]) dQ_takeOut_5 (by decide) rfl ?_
      refine rw_iload_n (pc := 6) dQ_takeOut_6 rfl ?_
      refine rw_aload_n (pc := 7) dQ_takeOut_7 rfl ?_
      refine rw_getI (pc := 8) (x := nI 3) flQ_17_Q dQ_takeOut_8 hoQ hsQ hz ?_
      refine rw_icmpge (pc := 11) dQ_takeOut_11 (tgt := 64) rfl (fun c22 => ?_) (fun c22 => ?_)
      · skip
        replace c22 : 3 ≤ 0 := (nI_leI (a := 3) (b := 0) (by omega) (by omega)).mp c22
        exact absurd c22 (by decide)
      · skip
        replace c22 : ¬ (3 ≤ 0) := fun qz => c22 ((nI_leI (a := 3) (b := 0) (by omega) (by omega)).mpr qz)
        refine rw_aload_n (pc := 14) dQ_takeOut_14 rfl ?_
        refine rw_dup (pc := 15) dQ_takeOut_15 ?_
        refine rw_getI (pc := 16) (x := nI 3) flQ_17_Q dQ_takeOut_16 hoQ hsQ hz ?_
        refine rw_iconst (pc := 19) (x := nI 1) dQ_takeOut_19 (by decide) ?_
        refine rw_isub (pc := 20) (v := nI 2) dQ_takeOut_20 (by decide) ?_
        refine rw_putI (pc := 21) pfQ_17_Q dQ_takeOut_21 hoQ hsQ ?_
        replace hoQ := ok_sI (A := (20 + 2 * f)) (k := 1) (v := nI 2) hoQ
        replace hsQ := sh_sI (A := (20 + 2 * f)) (k := 1) (v := nI 2) hsQ
        replace hoq := ok_sI (A := (20 + 2 * f)) (k := 1) (v := nI 2) hoq
        replace hsq := sh_sI (A := (20 + 2 * f)) (k := 1) (v := nI 2) hsq
        replace m0 := cm_le m0 (le_sI (h := h) (A := (20 + 2 * f)) (k := 1) (v := nI 2) (by omega))
        replace m1 := cm_le m1 (le_sI (h := h) (A := (20 + 2 * f)) (k := 1) (v := nI 2) (by omega))
        replace m2 := cm_le m2 (le_sI (h := h) (A := (20 + 2 * f)) (k := 1) (v := nI 2) (by omega))
        replace hle := le_tr hle (le_sI (h := h) (A := (20 + 2 * f)) (k := 1) (v := nI 2) (by omega))
        replace hrq := rR_sI (A := (20 + 2 * f)) (k := 1) (v := nI 2) hrq
        replace r0 := rR_sI (A := (20 + 2 * f)) (k := 1) (v := nI 2) r0
        replace r1 := rR_sI (A := (20 + 2 * f)) (k := 1) (v := nI 2) r1
        replace r2 := rR_sI (A := (20 + 2 * f)) (k := 1) (v := nI 2) r2
        have e23 : hp_I (hp_sI h (20 + 2 * f) 1 (nI 2)) (20 + 2 * f) 1 = (nI 2) := hI_set
        refine rw_iload_n (pc := 24) dQ_takeOut_24 rfl ?_
        refine rw_istore_n (pc := 25) (L' := [some (.inr (some (20 + 2 * f))), some (.inl (nI c)), some (.inl (nI 0)), some (.inl (nI 0))]) dQ_takeOut_25 (by decide) rfl ?_
        refine rw_iload_n (pc := 26) dQ_takeOut_26 rfl ?_
        refine rw_aload_n (pc := 27) dQ_takeOut_27 rfl ?_
        refine rw_getI (pc := 28) (x := nI 2) flQ_17_Q dQ_takeOut_28 hoQ hsQ e23 ?_
        refine rw_icmpge (pc := 31) dQ_takeOut_31 (tgt := 54) rfl (fun c24 => ?_) (fun c24 => ?_)
        · skip
          replace c24 : 2 ≤ 0 := (nI_leI (a := 2) (b := 0) (by omega) (by omega)).mp c24
          exact absurd c24 (by decide)
        · skip
          replace c24 : ¬ (2 ≤ 0) := fun qz => c24 ((nI_leI (a := 2) (b := 0) (by omega) (by omega)).mpr qz)
          refine rw_aload_n (pc := 34) dQ_takeOut_34 rfl ?_
          refine rw_getR (pc := 35) (x := some (21 + 2 * f)) flQ_11_Q dQ_takeOut_35 hoQ hsQ hrq ?_
          refine rw_iload_n (pc := 38) dQ_takeOut_38 rfl ?_
          refine rw_aload_n (pc := 39) dQ_takeOut_39 rfl ?_
          refine rw_getR (pc := 40) (x := some (21 + 2 * f)) flQ_11_Q dQ_takeOut_40 hoQ hsQ hrq ?_
          refine rw_iload_n (pc := 43) dQ_takeOut_43 rfl ?_
          refine rw_iconst (pc := 44) (x := nI 1) dQ_takeOut_44 (by decide) ?_
          refine rw_iadd (pc := 45) (v := nI 1) dQ_takeOut_45 (by decide) ?_
          refine rw_aald (pc := 46) (v := some i1) (i := 1) (t := 5) rfl ⟨rfl, by decide⟩ dQ_takeOut_46 hoq hsq (ix_nI (by omega) (by decide)) r1 ?_
          refine rw_aast (pc := 47) (i := 0) so_5_R (by decide) dQ_takeOut_47 hoq hsq (ix_nI (by omega) (by decide)) (cm_o m1) (cm_q m1 (by omega)).2.1 ?_
          replace hoQ := ok_sR (A := (21 + 2 * f)) (k := 0) (v := some i1) hoQ
          replace hsQ := sh_sR (A := (21 + 2 * f)) (k := 0) (v := some i1) hsQ
          replace hoq := ok_sR (A := (21 + 2 * f)) (k := 0) (v := some i1) hoq
          replace hsq := sh_sR (A := (21 + 2 * f)) (k := 0) (v := some i1) hsq
          replace m0 := cm_le m0 (le_sR (h := (hp_sI h (20 + 2 * f) 1 (nI 2))) (A := (21 + 2 * f)) (k := 0) (v := some i1) (by omega))
          replace m1 := cm_le m1 (le_sR (h := (hp_sI h (20 + 2 * f) 1 (nI 2))) (A := (21 + 2 * f)) (k := 0) (v := some i1) (by omega))
          replace m2 := cm_le m2 (le_sR (h := (hp_sI h (20 + 2 * f) 1 (nI 2))) (A := (21 + 2 * f)) (k := 0) (v := some i1) (by omega))
          replace hle := le_tr hle (le_sR (h := (hp_sI h (20 + 2 * f) 1 (nI 2))) (A := (21 + 2 * f)) (k := 0) (v := some i1) (by omega))
          replace e23 := hR_of (A := (21 + 2 * f)) (k := 0) (v := some i1) e23
          replace hrq := rR_sR (A := (21 + 2 * f)) (k := 0) (v := some i1) (by omega) hrq
          replace r1 := rR_sR2 (A := (21 + 2 * f)) (k := 0) (v := some i1) (by omega) r1
          replace r2 := rR_sR2 (A := (21 + 2 * f)) (k := 0) (v := some i1) (by omega) r2
          have e25 : hp_R (hp_sR (hp_sI h (20 + 2 * f) 1 (nI 2)) (21 + 2 * f) 0 (some i1)) (21 + 2 * f) 0 = (some i1) := rR_set
          refine rw_iinc (pc := 48) (x := nI 0) (y := nI 1) (L' := [some (.inr (some (20 + 2 * f))), some (.inl (nI c)), some (.inl (nI 0)), some (.inl (nI 1))]) dQ_takeOut_48 (by decide) rfl (by decide) rfl ?_
          refine rw_goto (pc := 51) dQ_takeOut_51 (tgt := 26) rfl ?_
          refine rw_iload_n (pc := 26) dQ_takeOut_26 rfl ?_
          refine rw_aload_n (pc := 27) dQ_takeOut_27 rfl ?_
          refine rw_getI (pc := 28) (x := nI 2) flQ_17_Q dQ_takeOut_28 hoQ hsQ e23 ?_
          refine rw_icmpge (pc := 31) dQ_takeOut_31 (tgt := 54) rfl (fun c26 => ?_) (fun c26 => ?_)
          · skip
            replace c26 : 2 ≤ 1 := (nI_leI (a := 2) (b := 1) (by omega) (by omega)).mp c26
            exact absurd c26 (by decide)
          · skip
            replace c26 : ¬ (2 ≤ 1) := fun qz => c26 ((nI_leI (a := 2) (b := 1) (by omega) (by omega)).mpr qz)
            refine rw_aload_n (pc := 34) dQ_takeOut_34 rfl ?_
            refine rw_getR (pc := 35) (x := some (21 + 2 * f)) flQ_11_Q dQ_takeOut_35 hoQ hsQ hrq ?_
            refine rw_iload_n (pc := 38) dQ_takeOut_38 rfl ?_
            refine rw_aload_n (pc := 39) dQ_takeOut_39 rfl ?_
            refine rw_getR (pc := 40) (x := some (21 + 2 * f)) flQ_11_Q dQ_takeOut_40 hoQ hsQ hrq ?_
            refine rw_iload_n (pc := 43) dQ_takeOut_43 rfl ?_
            refine rw_iconst (pc := 44) (x := nI 1) dQ_takeOut_44 (by decide) ?_
            refine rw_iadd (pc := 45) (v := nI 2) dQ_takeOut_45 (by decide) ?_
            refine rw_aald (pc := 46) (v := some i2) (i := 2) (t := 5) rfl ⟨rfl, by decide⟩ dQ_takeOut_46 hoq hsq (ix_nI (by omega) (by decide)) r2 ?_
            refine rw_aast (pc := 47) (i := 1) so_5_R (by decide) dQ_takeOut_47 hoq hsq (ix_nI (by omega) (by decide)) (cm_o m2) (cm_q m2 (by omega)).2.1 ?_
            replace hoQ := ok_sR (A := (21 + 2 * f)) (k := 1) (v := some i2) hoQ
            replace hsQ := sh_sR (A := (21 + 2 * f)) (k := 1) (v := some i2) hsQ
            replace hoq := ok_sR (A := (21 + 2 * f)) (k := 1) (v := some i2) hoq
            replace hsq := sh_sR (A := (21 + 2 * f)) (k := 1) (v := some i2) hsq
            replace m0 := cm_le m0 (le_sR (h := (hp_sR (hp_sI h (20 + 2 * f) 1 (nI 2)) (21 + 2 * f) 0 (some i1))) (A := (21 + 2 * f)) (k := 1) (v := some i2) (by omega))
            replace m1 := cm_le m1 (le_sR (h := (hp_sR (hp_sI h (20 + 2 * f) 1 (nI 2)) (21 + 2 * f) 0 (some i1))) (A := (21 + 2 * f)) (k := 1) (v := some i2) (by omega))
            replace m2 := cm_le m2 (le_sR (h := (hp_sR (hp_sI h (20 + 2 * f) 1 (nI 2)) (21 + 2 * f) 0 (some i1))) (A := (21 + 2 * f)) (k := 1) (v := some i2) (by omega))
            replace hle := le_tr hle (le_sR (h := (hp_sR (hp_sI h (20 + 2 * f) 1 (nI 2)) (21 + 2 * f) 0 (some i1))) (A := (21 + 2 * f)) (k := 1) (v := some i2) (by omega))
            replace e23 := hR_of (A := (21 + 2 * f)) (k := 1) (v := some i2) e23
            replace hrq := rR_sR (A := (21 + 2 * f)) (k := 1) (v := some i2) (by omega) hrq
            replace r2 := rR_sR2 (A := (21 + 2 * f)) (k := 1) (v := some i2) (by omega) r2
            replace e25 := rR_sR2 (A := (21 + 2 * f)) (k := 1) (v := some i2) (by omega) e25
            have e27 : hp_R (hp_sR (hp_sR (hp_sI h (20 + 2 * f) 1 (nI 2)) (21 + 2 * f) 0 (some i1)) (21 + 2 * f) 1 (some i2)) (21 + 2 * f) 1 = (some i2) := rR_set
            refine rw_iinc (pc := 48) (x := nI 1) (y := nI 2) (L' := [some (.inr (some (20 + 2 * f))), some (.inl (nI c)), some (.inl (nI 0)), some (.inl (nI 2))]) dQ_takeOut_48 (by decide) rfl (by decide) rfl ?_
            refine rw_goto (pc := 51) dQ_takeOut_51 (tgt := 26) rfl ?_
            refine rw_iload_n (pc := 26) dQ_takeOut_26 rfl ?_
            refine rw_aload_n (pc := 27) dQ_takeOut_27 rfl ?_
            refine rw_getI (pc := 28) (x := nI 2) flQ_17_Q dQ_takeOut_28 hoQ hsQ e23 ?_
            refine rw_icmpge (pc := 31) dQ_takeOut_31 (tgt := 54) rfl (fun c28 => ?_) (fun c28 => ?_)
            · skip
              replace c28 : 2 ≤ 2 := (nI_leI (a := 2) (b := 2) (by omega) (by omega)).mp c28
              refine rw_aload_n (pc := 54) dQ_takeOut_54 rfl ?_
              refine rw_getR (pc := 55) (x := some (21 + 2 * f)) flQ_11_Q dQ_takeOut_55 hoQ hsQ hrq ?_
              refine rw_aload_n (pc := 58) dQ_takeOut_58 rfl ?_
              refine rw_getI (pc := 59) (x := nI 2) flQ_17_Q dQ_takeOut_59 hoQ hsQ e23 ?_
              refine rw_null (pc := 62) dQ_takeOut_62 ?_
              refine rw_aastN (pc := 63) (i := 2) (t := 5) rfl (by decide) dQ_takeOut_63 hoq hsq (ix_nI (by omega) (by decide)) ?_
              replace hoQ := ok_sR (A := (21 + 2 * f)) (k := 2) (v := none) hoQ
              replace hsQ := sh_sR (A := (21 + 2 * f)) (k := 2) (v := none) hsQ
              replace hoq := ok_sR (A := (21 + 2 * f)) (k := 2) (v := none) hoq
              replace hsq := sh_sR (A := (21 + 2 * f)) (k := 2) (v := none) hsq
              replace m0 := cm_le m0 (le_sR (h := (hp_sR (hp_sR (hp_sI h (20 + 2 * f) 1 (nI 2)) (21 + 2 * f) 0 (some i1)) (21 + 2 * f) 1 (some i2))) (A := (21 + 2 * f)) (k := 2) (v := none) (by omega))
              replace m1 := cm_le m1 (le_sR (h := (hp_sR (hp_sR (hp_sI h (20 + 2 * f) 1 (nI 2)) (21 + 2 * f) 0 (some i1)) (21 + 2 * f) 1 (some i2))) (A := (21 + 2 * f)) (k := 2) (v := none) (by omega))
              replace m2 := cm_le m2 (le_sR (h := (hp_sR (hp_sR (hp_sI h (20 + 2 * f) 1 (nI 2)) (21 + 2 * f) 0 (some i1)) (21 + 2 * f) 1 (some i2))) (A := (21 + 2 * f)) (k := 2) (v := none) (by omega))
              replace hle := le_tr hle (le_sR (h := (hp_sR (hp_sR (hp_sI h (20 + 2 * f) 1 (nI 2)) (21 + 2 * f) 0 (some i1)) (21 + 2 * f) 1 (some i2))) (A := (21 + 2 * f)) (k := 2) (v := none) (by omega))
              replace e23 := hR_of (A := (21 + 2 * f)) (k := 2) (v := none) e23
              replace hrq := rR_sR (A := (21 + 2 * f)) (k := 2) (v := none) (by omega) hrq
              replace e25 := rR_sR2 (A := (21 + 2 * f)) (k := 2) (v := none) (by omega) e25
              replace e27 := rR_sR2 (A := (21 + 2 * f)) (k := 2) (v := none) (by omega) e27
              have e29 : hp_R (hp_sR (hp_sR (hp_sR (hp_sI h (20 + 2 * f) 1 (nI 2)) (21 + 2 * f) 0 (some i1)) (21 + 2 * f) 1 (some i2)) (21 + 2 * f) 2 none) (21 + 2 * f) 2 = none := rR_set
              rw [show f_out [a0, a1, a2] c = [a1, a2] from by simp [f_out, z0]]
              exact rw_vret (pc := 64) dQ_takeOut_64 rfl ⟨rfl, wl_any hc hf0 (by rfl) (fun x => by rfl) (fun x y hx => by simp [hp_I_sI, hp_I_sR, hx]) (fun x y hx => by simp [hp_R_sI, hp_R_sR, hx]) (cl_2 e23 (by omega) e25 m1 (by omega) e27 m2), hle⟩
            · skip
              replace c28 : ¬ (2 ≤ 2) := fun qz => c28 ((nI_leI (a := 2) (b := 2) (by omega) (by omega)).mpr qz)
              exact absurd (by decide) c28
    · skip
      by_cases z1 : am_c a1 = c
      · skip
        rw [show f_pl [a0, a1, a2] c = 1 from by simp [f_pl, z0, z1]]
        refine rw_istore_n (pc := 5) (L' := [some (.inr (some (20 + 2 * f))), some (.inl (nI c)), some (.inl (nI 1)), none]) dQ_takeOut_5 (by decide) rfl ?_
        refine rw_iload_n (pc := 6) dQ_takeOut_6 rfl ?_
        refine rw_aload_n (pc := 7) dQ_takeOut_7 rfl ?_
        refine rw_getI (pc := 8) (x := nI 3) flQ_17_Q dQ_takeOut_8 hoQ hsQ hz ?_
        refine rw_icmpge (pc := 11) dQ_takeOut_11 (tgt := 64) rfl (fun c30 => ?_) (fun c30 => ?_)
        · skip
          replace c30 : 3 ≤ 1 := (nI_leI (a := 3) (b := 1) (by omega) (by omega)).mp c30
          exact absurd c30 (by decide)
        · skip
          replace c30 : ¬ (3 ≤ 1) := fun qz => c30 ((nI_leI (a := 3) (b := 1) (by omega) (by omega)).mpr qz)
          refine rw_aload_n (pc := 14) dQ_takeOut_14 rfl ?_
          refine rw_dup (pc := 15) dQ_takeOut_15 ?_
          refine rw_getI (pc := 16) (x := nI 3) flQ_17_Q dQ_takeOut_16 hoQ hsQ hz ?_
          refine rw_iconst (pc := 19) (x := nI 1) dQ_takeOut_19 (by decide) ?_
          refine rw_isub (pc := 20) (v := nI 2) dQ_takeOut_20 (by decide) ?_
          refine rw_putI (pc := 21) pfQ_17_Q dQ_takeOut_21 hoQ hsQ ?_
          replace hoQ := ok_sI (A := (20 + 2 * f)) (k := 1) (v := nI 2) hoQ
          replace hsQ := sh_sI (A := (20 + 2 * f)) (k := 1) (v := nI 2) hsQ
          replace hoq := ok_sI (A := (20 + 2 * f)) (k := 1) (v := nI 2) hoq
          replace hsq := sh_sI (A := (20 + 2 * f)) (k := 1) (v := nI 2) hsq
          replace m0 := cm_le m0 (le_sI (h := h) (A := (20 + 2 * f)) (k := 1) (v := nI 2) (by omega))
          replace m1 := cm_le m1 (le_sI (h := h) (A := (20 + 2 * f)) (k := 1) (v := nI 2) (by omega))
          replace m2 := cm_le m2 (le_sI (h := h) (A := (20 + 2 * f)) (k := 1) (v := nI 2) (by omega))
          replace hle := le_tr hle (le_sI (h := h) (A := (20 + 2 * f)) (k := 1) (v := nI 2) (by omega))
          replace hrq := rR_sI (A := (20 + 2 * f)) (k := 1) (v := nI 2) hrq
          replace r0 := rR_sI (A := (20 + 2 * f)) (k := 1) (v := nI 2) r0
          replace r1 := rR_sI (A := (20 + 2 * f)) (k := 1) (v := nI 2) r1
          replace r2 := rR_sI (A := (20 + 2 * f)) (k := 1) (v := nI 2) r2
          have e31 : hp_I (hp_sI h (20 + 2 * f) 1 (nI 2)) (20 + 2 * f) 1 = (nI 2) := hI_set
          refine rw_iload_n (pc := 24) dQ_takeOut_24 rfl ?_
          refine rw_istore_n (pc := 25) (L' := [some (.inr (some (20 + 2 * f))), some (.inl (nI c)), some (.inl (nI 1)), some (.inl (nI 1))]) dQ_takeOut_25 (by decide) rfl ?_
          refine rw_iload_n (pc := 26) dQ_takeOut_26 rfl ?_
          refine rw_aload_n (pc := 27) dQ_takeOut_27 rfl ?_
          refine rw_getI (pc := 28) (x := nI 2) flQ_17_Q dQ_takeOut_28 hoQ hsQ e31 ?_
          refine rw_icmpge (pc := 31) dQ_takeOut_31 (tgt := 54) rfl (fun c32 => ?_) (fun c32 => ?_)
          · skip
            replace c32 : 2 ≤ 1 := (nI_leI (a := 2) (b := 1) (by omega) (by omega)).mp c32
            exact absurd c32 (by decide)
          · skip
            replace c32 : ¬ (2 ≤ 1) := fun qz => c32 ((nI_leI (a := 2) (b := 1) (by omega) (by omega)).mpr qz)
            refine rw_aload_n (pc := 34) dQ_takeOut_34 rfl ?_
            refine rw_getR (pc := 35) (x := some (21 + 2 * f)) flQ_11_Q dQ_takeOut_35 hoQ hsQ hrq ?_
            refine rw_iload_n (pc := 38) dQ_takeOut_38 rfl ?_
            refine rw_aload_n (pc := 39) dQ_takeOut_39 rfl ?_
            refine rw_getR (pc := 40) (x := some (21 + 2 * f)) flQ_11_Q dQ_takeOut_40 hoQ hsQ hrq ?_
            refine rw_iload_n (pc := 43) dQ_takeOut_43 rfl ?_
            refine rw_iconst (pc := 44) (x := nI 1) dQ_takeOut_44 (by decide) ?_
            refine rw_iadd (pc := 45) (v := nI 2) dQ_takeOut_45 (by decide) ?_
            refine rw_aald (pc := 46) (v := some i2) (i := 2) (t := 5) rfl ⟨rfl, by decide⟩ dQ_takeOut_46 hoq hsq (ix_nI (by omega) (by decide)) r2 ?_
            refine rw_aast (pc := 47) (i := 1) so_5_R (by decide) dQ_takeOut_47 hoq hsq (ix_nI (by omega) (by decide)) (cm_o m2) (cm_q m2 (by omega)).2.1 ?_
            replace hoQ := ok_sR (A := (21 + 2 * f)) (k := 1) (v := some i2) hoQ
            replace hsQ := sh_sR (A := (21 + 2 * f)) (k := 1) (v := some i2) hsQ
            replace hoq := ok_sR (A := (21 + 2 * f)) (k := 1) (v := some i2) hoq
            replace hsq := sh_sR (A := (21 + 2 * f)) (k := 1) (v := some i2) hsq
            replace m0 := cm_le m0 (le_sR (h := (hp_sI h (20 + 2 * f) 1 (nI 2))) (A := (21 + 2 * f)) (k := 1) (v := some i2) (by omega))
            replace m1 := cm_le m1 (le_sR (h := (hp_sI h (20 + 2 * f) 1 (nI 2))) (A := (21 + 2 * f)) (k := 1) (v := some i2) (by omega))
            replace m2 := cm_le m2 (le_sR (h := (hp_sI h (20 + 2 * f) 1 (nI 2))) (A := (21 + 2 * f)) (k := 1) (v := some i2) (by omega))
            replace hle := le_tr hle (le_sR (h := (hp_sI h (20 + 2 * f) 1 (nI 2))) (A := (21 + 2 * f)) (k := 1) (v := some i2) (by omega))
            replace e31 := hR_of (A := (21 + 2 * f)) (k := 1) (v := some i2) e31
            replace hrq := rR_sR (A := (21 + 2 * f)) (k := 1) (v := some i2) (by omega) hrq
            replace r0 := rR_sR2 (A := (21 + 2 * f)) (k := 1) (v := some i2) (by omega) r0
            replace r2 := rR_sR2 (A := (21 + 2 * f)) (k := 1) (v := some i2) (by omega) r2
            have e33 : hp_R (hp_sR (hp_sI h (20 + 2 * f) 1 (nI 2)) (21 + 2 * f) 1 (some i2)) (21 + 2 * f) 1 = (some i2) := rR_set
            refine rw_iinc (pc := 48) (x := nI 1) (y := nI 2) (L' := [some (.inr (some (20 + 2 * f))), some (.inl (nI c)), some (.inl (nI 1)), some (.inl (nI 2))]) dQ_takeOut_48 (by decide) rfl (by decide) rfl ?_
            refine rw_goto (pc := 51) dQ_takeOut_51 (tgt := 26) rfl ?_
            refine rw_iload_n (pc := 26) dQ_takeOut_26 rfl ?_
            refine rw_aload_n (pc := 27) dQ_takeOut_27 rfl ?_
            refine rw_getI (pc := 28) (x := nI 2) flQ_17_Q dQ_takeOut_28 hoQ hsQ e31 ?_
            refine rw_icmpge (pc := 31) dQ_takeOut_31 (tgt := 54) rfl (fun c34 => ?_) (fun c34 => ?_)
            · skip
              replace c34 : 2 ≤ 2 := (nI_leI (a := 2) (b := 2) (by omega) (by omega)).mp c34
              refine rw_aload_n (pc := 54) dQ_takeOut_54 rfl ?_
              refine rw_getR (pc := 55) (x := some (21 + 2 * f)) flQ_11_Q dQ_takeOut_55 hoQ hsQ hrq ?_
              refine rw_aload_n (pc := 58) dQ_takeOut_58 rfl ?_
              refine rw_getI (pc := 59) (x := nI 2) flQ_17_Q dQ_takeOut_59 hoQ hsQ e31 ?_
              refine rw_null (pc := 62) dQ_takeOut_62 ?_
              refine rw_aastN (pc := 63) (i := 2) (t := 5) rfl (by decide) dQ_takeOut_63 hoq hsq (ix_nI (by omega) (by decide)) ?_
              replace hoQ := ok_sR (A := (21 + 2 * f)) (k := 2) (v := none) hoQ
              replace hsQ := sh_sR (A := (21 + 2 * f)) (k := 2) (v := none) hsQ
              replace hoq := ok_sR (A := (21 + 2 * f)) (k := 2) (v := none) hoq
              replace hsq := sh_sR (A := (21 + 2 * f)) (k := 2) (v := none) hsq
              replace m0 := cm_le m0 (le_sR (h := (hp_sR (hp_sI h (20 + 2 * f) 1 (nI 2)) (21 + 2 * f) 1 (some i2))) (A := (21 + 2 * f)) (k := 2) (v := none) (by omega))
              replace m1 := cm_le m1 (le_sR (h := (hp_sR (hp_sI h (20 + 2 * f) 1 (nI 2)) (21 + 2 * f) 1 (some i2))) (A := (21 + 2 * f)) (k := 2) (v := none) (by omega))
              replace m2 := cm_le m2 (le_sR (h := (hp_sR (hp_sI h (20 + 2 * f) 1 (nI 2)) (21 + 2 * f) 1 (some i2))) (A := (21 + 2 * f)) (k := 2) (v := none) (by omega))
              replace hle := le_tr hle (le_sR (h := (hp_sR (hp_sI h (20 + 2 * f) 1 (nI 2)) (21 + 2 * f) 1 (some i2))) (A := (21 + 2 * f)) (k := 2) (v := none) (by omega))
              replace e31 := hR_of (A := (21 + 2 * f)) (k := 2) (v := none) e31
              replace hrq := rR_sR (A := (21 + 2 * f)) (k := 2) (v := none) (by omega) hrq
              replace r0 := rR_sR2 (A := (21 + 2 * f)) (k := 2) (v := none) (by omega) r0
              replace e33 := rR_sR2 (A := (21 + 2 * f)) (k := 2) (v := none) (by omega) e33
              have e35 : hp_R (hp_sR (hp_sR (hp_sI h (20 + 2 * f) 1 (nI 2)) (21 + 2 * f) 1 (some i2)) (21 + 2 * f) 2 none) (21 + 2 * f) 2 = none := rR_set
              rw [show f_out [a0, a1, a2] c = [a0, a2] from by simp [f_out, z0, z1]]
              exact rw_vret (pc := 64) dQ_takeOut_64 rfl ⟨rfl, wl_any hc hf0 (by rfl) (fun x => by rfl) (fun x y hx => by simp [hp_I_sI, hp_I_sR, hx]) (fun x y hx => by simp [hp_R_sI, hp_R_sR, hx]) (cl_2 e31 (by omega) r0 m0 (by omega) e33 m2), hle⟩
            · skip
              replace c34 : ¬ (2 ≤ 2) := fun qz => c34 ((nI_leI (a := 2) (b := 2) (by omega) (by omega)).mpr qz)
              exact absurd (by decide) c34
      · skip
        by_cases z2 : am_c a2 = c
        · skip
          rw [show f_pl [a0, a1, a2] c = 2 from by simp [f_pl, z0, z1, z2]]
          refine rw_istore_n (pc := 5) (L' := [some (.inr (some (20 + 2 * f))), some (.inl (nI c)), some (.inl (nI 2)), none]) dQ_takeOut_5 (by decide) rfl ?_
          refine rw_iload_n (pc := 6) dQ_takeOut_6 rfl ?_
          refine rw_aload_n (pc := 7) dQ_takeOut_7 rfl ?_
          refine rw_getI (pc := 8) (x := nI 3) flQ_17_Q dQ_takeOut_8 hoQ hsQ hz ?_
          refine rw_icmpge (pc := 11) dQ_takeOut_11 (tgt := 64) rfl (fun c36 => ?_) (fun c36 => ?_)
          · skip
            replace c36 : 3 ≤ 2 := (nI_leI (a := 3) (b := 2) (by omega) (by omega)).mp c36
            exact absurd c36 (by decide)
          · skip
            replace c36 : ¬ (3 ≤ 2) := fun qz => c36 ((nI_leI (a := 3) (b := 2) (by omega) (by omega)).mpr qz)
            refine rw_aload_n (pc := 14) dQ_takeOut_14 rfl ?_
            refine rw_dup (pc := 15) dQ_takeOut_15 ?_
            refine rw_getI (pc := 16) (x := nI 3) flQ_17_Q dQ_takeOut_16 hoQ hsQ hz ?_
            refine rw_iconst (pc := 19) (x := nI 1) dQ_takeOut_19 (by decide) ?_
            refine rw_isub (pc := 20) (v := nI 2) dQ_takeOut_20 (by decide) ?_
            refine rw_putI (pc := 21) pfQ_17_Q dQ_takeOut_21 hoQ hsQ ?_
            replace hoQ := ok_sI (A := (20 + 2 * f)) (k := 1) (v := nI 2) hoQ
            replace hsQ := sh_sI (A := (20 + 2 * f)) (k := 1) (v := nI 2) hsQ
            replace hoq := ok_sI (A := (20 + 2 * f)) (k := 1) (v := nI 2) hoq
            replace hsq := sh_sI (A := (20 + 2 * f)) (k := 1) (v := nI 2) hsq
            replace m0 := cm_le m0 (le_sI (h := h) (A := (20 + 2 * f)) (k := 1) (v := nI 2) (by omega))
            replace m1 := cm_le m1 (le_sI (h := h) (A := (20 + 2 * f)) (k := 1) (v := nI 2) (by omega))
            replace m2 := cm_le m2 (le_sI (h := h) (A := (20 + 2 * f)) (k := 1) (v := nI 2) (by omega))
            replace hle := le_tr hle (le_sI (h := h) (A := (20 + 2 * f)) (k := 1) (v := nI 2) (by omega))
            replace hrq := rR_sI (A := (20 + 2 * f)) (k := 1) (v := nI 2) hrq
            replace r0 := rR_sI (A := (20 + 2 * f)) (k := 1) (v := nI 2) r0
            replace r1 := rR_sI (A := (20 + 2 * f)) (k := 1) (v := nI 2) r1
            replace r2 := rR_sI (A := (20 + 2 * f)) (k := 1) (v := nI 2) r2
            have e37 : hp_I (hp_sI h (20 + 2 * f) 1 (nI 2)) (20 + 2 * f) 1 = (nI 2) := hI_set
            refine rw_iload_n (pc := 24) dQ_takeOut_24 rfl ?_
            refine rw_istore_n (pc := 25) (L' := [some (.inr (some (20 + 2 * f))), some (.inl (nI c)), some (.inl (nI 2)), some (.inl (nI 2))]) dQ_takeOut_25 (by decide) rfl ?_
            refine rw_iload_n (pc := 26) dQ_takeOut_26 rfl ?_
            refine rw_aload_n (pc := 27) dQ_takeOut_27 rfl ?_
            refine rw_getI (pc := 28) (x := nI 2) flQ_17_Q dQ_takeOut_28 hoQ hsQ e37 ?_
            refine rw_icmpge (pc := 31) dQ_takeOut_31 (tgt := 54) rfl (fun c38 => ?_) (fun c38 => ?_)
            · skip
              replace c38 : 2 ≤ 2 := (nI_leI (a := 2) (b := 2) (by omega) (by omega)).mp c38
              refine rw_aload_n (pc := 54) dQ_takeOut_54 rfl ?_
              refine rw_getR (pc := 55) (x := some (21 + 2 * f)) flQ_11_Q dQ_takeOut_55 hoQ hsQ hrq ?_
              refine rw_aload_n (pc := 58) dQ_takeOut_58 rfl ?_
              refine rw_getI (pc := 59) (x := nI 2) flQ_17_Q dQ_takeOut_59 hoQ hsQ e37 ?_
              refine rw_null (pc := 62) dQ_takeOut_62 ?_
              refine rw_aastN (pc := 63) (i := 2) (t := 5) rfl (by decide) dQ_takeOut_63 hoq hsq (ix_nI (by omega) (by decide)) ?_
              replace hoQ := ok_sR (A := (21 + 2 * f)) (k := 2) (v := none) hoQ
              replace hsQ := sh_sR (A := (21 + 2 * f)) (k := 2) (v := none) hsQ
              replace hoq := ok_sR (A := (21 + 2 * f)) (k := 2) (v := none) hoq
              replace hsq := sh_sR (A := (21 + 2 * f)) (k := 2) (v := none) hsq
              replace m0 := cm_le m0 (le_sR (h := (hp_sI h (20 + 2 * f) 1 (nI 2))) (A := (21 + 2 * f)) (k := 2) (v := none) (by omega))
              replace m1 := cm_le m1 (le_sR (h := (hp_sI h (20 + 2 * f) 1 (nI 2))) (A := (21 + 2 * f)) (k := 2) (v := none) (by omega))
              replace m2 := cm_le m2 (le_sR (h := (hp_sI h (20 + 2 * f) 1 (nI 2))) (A := (21 + 2 * f)) (k := 2) (v := none) (by omega))
              replace hle := le_tr hle (le_sR (h := (hp_sI h (20 + 2 * f) 1 (nI 2))) (A := (21 + 2 * f)) (k := 2) (v := none) (by omega))
              replace e37 := hR_of (A := (21 + 2 * f)) (k := 2) (v := none) e37
              replace hrq := rR_sR (A := (21 + 2 * f)) (k := 2) (v := none) (by omega) hrq
              replace r0 := rR_sR2 (A := (21 + 2 * f)) (k := 2) (v := none) (by omega) r0
              replace r1 := rR_sR2 (A := (21 + 2 * f)) (k := 2) (v := none) (by omega) r1
              have e39 : hp_R (hp_sR (hp_sI h (20 + 2 * f) 1 (nI 2)) (21 + 2 * f) 2 none) (21 + 2 * f) 2 = none := rR_set
              rw [show f_out [a0, a1, a2] c = [a0, a1] from by simp [f_out, z0, z1, z2]]
              exact rw_vret (pc := 64) dQ_takeOut_64 rfl ⟨rfl, wl_any hc hf0 (by rfl) (fun x => by rfl) (fun x y hx => by simp [hp_I_sI, hp_I_sR, hx]) (fun x y hx => by simp [hp_R_sI, hp_R_sR, hx]) (cl_2 e37 (by omega) r0 m0 (by omega) r1 m1), hle⟩
            · skip
              replace c38 : ¬ (2 ≤ 2) := fun qz => c38 ((nI_leI (a := 2) (b := 2) (by omega) (by omega)).mpr qz)
              exact absurd (by decide) c38
        · skip
          rw [show f_pl [a0, a1, a2] c = 3 from by simp [f_pl, z0, z1, z2]]
          refine rw_istore_n (pc := 5) (L' := [some (.inr (some (20 + 2 * f))), some (.inl (nI c)), some (.inl (nI 3)), none]) dQ_takeOut_5 (by decide) rfl ?_
          refine rw_iload_n (pc := 6) dQ_takeOut_6 rfl ?_
          refine rw_aload_n (pc := 7) dQ_takeOut_7 rfl ?_
          refine rw_getI (pc := 8) (x := nI 3) flQ_17_Q dQ_takeOut_8 hoQ hsQ hz ?_
          refine rw_icmpge (pc := 11) dQ_takeOut_11 (tgt := 64) rfl (fun c40 => ?_) (fun c40 => ?_)
          · skip
            replace c40 : 3 ≤ 3 := (nI_leI (a := 3) (b := 3) (by omega) (by omega)).mp c40
            rw [show f_out [a0, a1, a2] c = [a0, a1, a2] from by simp [f_out, z0, z1, z2]]
            exact rw_vret (pc := 64) dQ_takeOut_64 rfl ⟨rfl, wl_any hc hf0 (by rfl) (fun x => by rfl) (fun x y hx => by simp [hp_I_sI, hp_I_sR, hx]) (fun x y hx => by simp [hp_R_sI, hp_R_sR, hx]) (cl_3 hz (by omega) r0 m0 (by omega) r1 m1 (by omega) r2 m2), hle⟩
          · skip
            replace c40 : ¬ (3 ≤ 3) := fun qz => c40 ((nI_leI (a := 3) (b := 3) (by omega) (by omega)).mpr qz)
            exact absurd (by decide) c40
  · skip
    exact absurd hq.2.1 (by simp only [List.length_cons]; omega)
theorem cQ_add (G : mt_G) (h : ha_H) {L : Nat} {n : List ab_M} {su : Bool} {sn : Int32} {sg : Bool} {se : Int32} {pg : Nat → Nat → Int32} {md : Nat → Nat → Nat} {en : Nat → Nat → Int32} {sd : Nat → Option ab_M} {ln : Nat → List ab_M} {C : Nat → ab_C} (hc : CV L n su sn sg se pg md en sd ln C h) {f : Nat} (hf : f < 4) {i : Nat} {m : ab_M} (hm : cv_M h i m) (hk : am_k m = 1) : rn_M G xQ_add (0, 0, 0) [.inr (some (20 + 2 * f)), .inr (some i)] h (rn_v (fun h' => CV L n su sn sg se pg md en sd (fu ln f (f_add (ln f) m)) C h' ∧ hp_le h h')) := by
  refine rn_of (by decide +kernel) (Nat.le_of_ble_eq_true rfl) ?_
  show rn_W G xQ_add (0, 0, 0) 0 0 0 [some (.inr (some (20 + 2 * f))), some (.inr (some i))] [] h _
  obtain ⟨l, hl0⟩ : ∃ l, ln f = l := ⟨_, rfl⟩
  have hq := cp_ln hc f hf
  rw [hl0] at hq
  try rw [hl0]
  have hf0 := hf
  have hoQ : hp_ok h (20 + 2 * f) := cs_o hc (by omega) (by omega)
  have hsQ := cs_SQ hc hf
  have hoq : hp_ok h (21 + 2 * f) := cs_o hc (by omega) (by omega)
  have hsq := cs_Sq hc hf
  have hrq := cr_Q hc hf
  have hle := le_rf h
  rcases l with _ | ⟨a0, _ | ⟨a1, _ | ⟨a2, _ | ⟨a3, l⟩⟩⟩⟩
  · skip
    have hz : hp_I h (20 + 2 * f) 1 = nI 0 := hq.1
    refine rw_aload_n (pc := 0) dQ_add_0 rfl ?_
    refine rw_getI (pc := 1) (x := nI 0) flQ_17_Q dQ_add_1 hoQ hsQ hz ?_
    refine rw_iconst (pc := 4) (x := nI 3) dQ_add_4 (by decide) ?_
    refine rw_icmpge (pc := 5) dQ_add_5 (tgt := 28) rfl (fun c1 => ?_) (fun c1 => ?_)
    · skip
      replace c1 : 3 ≤ 0 := (nI_leI (a := 3) (b := 0) (by omega) (by omega)).mp c1
      exact absurd c1 (by decide)
    · skip
      replace c1 : ¬ (3 ≤ 0) := fun qz => c1 ((nI_leI (a := 3) (b := 0) (by omega) (by omega)).mpr qz)
      refine rw_aload_n (pc := 8) dQ_add_8 rfl ?_
      refine rw_getR (pc := 9) (x := some (21 + 2 * f)) flQ_11_Q dQ_add_9 hoQ hsQ hrq ?_
      refine rw_aload_n (pc := 12) dQ_add_12 rfl ?_
      refine rw_getI (pc := 13) (x := nI 0) flQ_17_Q dQ_add_13 hoQ hsQ hz ?_
      refine rw_aload_n (pc := 16) dQ_add_16 rfl ?_
      refine rw_aast (pc := 17) (i := 0) so_5_R (by decide) dQ_add_17 hoq hsq (ix_nI (by omega) (by decide)) (cm_o hm) (cm_q hm (by omega)).2.1 ?_
      replace hoQ := ok_sR (A := (21 + 2 * f)) (k := 0) (v := some i) hoQ
      replace hsQ := sh_sR (A := (21 + 2 * f)) (k := 0) (v := some i) hsQ
      replace hoq := ok_sR (A := (21 + 2 * f)) (k := 0) (v := some i) hoq
      replace hsq := sh_sR (A := (21 + 2 * f)) (k := 0) (v := some i) hsq
      replace hm := cm_le hm (le_sR (h := h) (A := (21 + 2 * f)) (k := 0) (v := some i) (by omega))
      replace hle := le_tr hle (le_sR (h := h) (A := (21 + 2 * f)) (k := 0) (v := some i) (by omega))
      replace hz := hR_of (A := (21 + 2 * f)) (k := 0) (v := some i) hz
      replace hrq := rR_sR (A := (21 + 2 * f)) (k := 0) (v := some i) (by omega) hrq
      have e2 : hp_R (hp_sR h (21 + 2 * f) 0 (some i)) (21 + 2 * f) 0 = (some i) := rR_set
      refine rw_aload_n (pc := 18) dQ_add_18 rfl ?_
      refine rw_dup (pc := 19) dQ_add_19 ?_
      refine rw_getI (pc := 20) (x := nI 0) flQ_17_Q dQ_add_20 hoQ hsQ hz ?_
      refine rw_iconst (pc := 23) (x := nI 1) dQ_add_23 (by decide) ?_
      refine rw_iadd (pc := 24) (v := nI 1) dQ_add_24 (by decide) ?_
      refine rw_putI (pc := 25) pfQ_17_Q dQ_add_25 hoQ hsQ ?_
      replace hoQ := ok_sI (A := (20 + 2 * f)) (k := 1) (v := nI 1) hoQ
      replace hsQ := sh_sI (A := (20 + 2 * f)) (k := 1) (v := nI 1) hsQ
      replace hoq := ok_sI (A := (20 + 2 * f)) (k := 1) (v := nI 1) hoq
      replace hsq := sh_sI (A := (20 + 2 * f)) (k := 1) (v := nI 1) hsq
      replace hm := cm_le hm (le_sI (h := (hp_sR h (21 + 2 * f) 0 (some i))) (A := (20 + 2 * f)) (k := 1) (v := nI 1) (by omega))
      replace hle := le_tr hle (le_sI (h := (hp_sR h (21 + 2 * f) 0 (some i))) (A := (20 + 2 * f)) (k := 1) (v := nI 1) (by omega))
      replace hrq := rR_sI (A := (20 + 2 * f)) (k := 1) (v := nI 1) hrq
      replace e2 := rR_sI (A := (20 + 2 * f)) (k := 1) (v := nI 1) e2
      have e3 : hp_I (hp_sI (hp_sR h (21 + 2 * f) 0 (some i)) (20 + 2 * f) 1 (nI 1)) (20 + 2 * f) 1 = (nI 1) := hI_set
      rw [show f_add [] m = [m] from rfl]
      exact rw_vret (pc := 28) dQ_add_28 rfl ⟨rfl, wl_any hc hf0 (by rfl) (fun x => by rfl) (fun x y hx => by simp [hp_I_sI, hp_I_sR, hx]) (fun x y hx => by simp [hp_R_sI, hp_R_sR, hx]) (cl_1 e3 (by omega) e2 hm), hle⟩
  · skip
    have hz : hp_I h (20 + 2 * f) 1 = nI 1 := hq.1
    obtain ⟨k0, i0, r0, m0⟩ := hq.2.2 0 a0 rfl
    have b0 := m0.2.2.1
    refine rw_aload_n (pc := 0) dQ_add_0 rfl ?_
    refine rw_getI (pc := 1) (x := nI 1) flQ_17_Q dQ_add_1 hoQ hsQ hz ?_
    refine rw_iconst (pc := 4) (x := nI 3) dQ_add_4 (by decide) ?_
    refine rw_icmpge (pc := 5) dQ_add_5 (tgt := 28) rfl (fun c4 => ?_) (fun c4 => ?_)
    · skip
      replace c4 : 3 ≤ 1 := (nI_leI (a := 3) (b := 1) (by omega) (by omega)).mp c4
      exact absurd c4 (by decide)
    · skip
      replace c4 : ¬ (3 ≤ 1) := fun qz => c4 ((nI_leI (a := 3) (b := 1) (by omega) (by omega)).mpr qz)
      refine rw_aload_n (pc := 8) dQ_add_8 rfl ?_
      refine rw_getR (pc := 9) (x := some (21 + 2 * f)) flQ_11_Q dQ_add_9 hoQ hsQ hrq ?_
      refine rw_aload_n (pc := 12) dQ_add_12 rfl ?_
      refine rw_getI (pc := 13) (x := nI 1) flQ_17_Q dQ_add_13 hoQ hsQ hz ?_
      refine rw_aload_n (pc := 16) dQ_add_16 rfl ?_
      refine rw_aast (pc := 17) (i := 1) so_5_R (by decide) dQ_add_17 hoq hsq (ix_nI (by omega) (by decide)) (cm_o hm) (cm_q hm (by omega)).2.1 ?_
      replace hoQ := ok_sR (A := (21 + 2 * f)) (k := 1) (v := some i) hoQ
      replace hsQ := sh_sR (A := (21 + 2 * f)) (k := 1) (v := some i) hsQ
      replace hoq := ok_sR (A := (21 + 2 * f)) (k := 1) (v := some i) hoq
      replace hsq := sh_sR (A := (21 + 2 * f)) (k := 1) (v := some i) hsq
      replace m0 := cm_le m0 (le_sR (h := h) (A := (21 + 2 * f)) (k := 1) (v := some i) (by omega))
      replace hm := cm_le hm (le_sR (h := h) (A := (21 + 2 * f)) (k := 1) (v := some i) (by omega))
      replace hle := le_tr hle (le_sR (h := h) (A := (21 + 2 * f)) (k := 1) (v := some i) (by omega))
      replace hz := hR_of (A := (21 + 2 * f)) (k := 1) (v := some i) hz
      replace hrq := rR_sR (A := (21 + 2 * f)) (k := 1) (v := some i) (by omega) hrq
      replace r0 := rR_sR2 (A := (21 + 2 * f)) (k := 1) (v := some i) (by omega) r0
      have e5 : hp_R (hp_sR h (21 + 2 * f) 1 (some i)) (21 + 2 * f) 1 = (some i) := rR_set
      refine rw_aload_n (pc := 18) dQ_add_18 rfl ?_
      refine rw_dup (pc := 19) dQ_add_19 ?_
      refine rw_getI (pc := 20) (x := nI 1) flQ_17_Q dQ_add_20 hoQ hsQ hz ?_
      refine rw_iconst (pc := 23) (x := nI 1) dQ_add_23 (by decide) ?_
      refine rw_iadd (pc := 24) (v := nI 2) dQ_add_24 (by decide) ?_
      refine rw_putI (pc := 25) pfQ_17_Q dQ_add_25 hoQ hsQ ?_
      replace hoQ := ok_sI (A := (20 + 2 * f)) (k := 1) (v := nI 2) hoQ
      replace hsQ := sh_sI (A := (20 + 2 * f)) (k := 1) (v := nI 2) hsQ
      replace hoq := ok_sI (A := (20 + 2 * f)) (k := 1) (v := nI 2) hoq
      replace hsq := sh_sI (A := (20 + 2 * f)) (k := 1) (v := nI 2) hsq
      replace m0 := cm_le m0 (le_sI (h := (hp_sR h (21 + 2 * f) 1 (some i))) (A := (20 + 2 * f)) (k := 1) (v := nI 2) (by omega))
      replace hm := cm_le hm (le_sI (h := (hp_sR h (21 + 2 * f) 1 (some i))) (A := (20 + 2 * f)) (k := 1) (v := nI 2) (by omega))
      replace hle := le_tr hle (le_sI (h := (hp_sR h (21 + 2 * f) 1 (some i))) (A := (20 + 2 * f)) (k := 1) (v := nI 2) (by omega))
      replace hrq := rR_sI (A := (20 + 2 * f)) (k := 1) (v := nI 2) hrq
      replace r0 := rR_sI (A := (20 + 2 * f)) (k := 1) (v := nI 2) r0
      replace e5 := rR_sI (A := (20 + 2 * f)) (k := 1) (v := nI 2) e5
      have e6 : hp_I (hp_sI (hp_sR h (21 + 2 * f) 1 (some i)) (20 + 2 * f) 1 (nI 2)) (20 + 2 * f) 1 = (nI 2) := hI_set
      rw [show f_add [a0] m = [a0, m] from rfl]
      exact rw_vret (pc := 28) dQ_add_28 rfl ⟨rfl, wl_any hc hf0 (by rfl) (fun x => by rfl) (fun x y hx => by simp [hp_I_sI, hp_I_sR, hx]) (fun x y hx => by simp [hp_R_sI, hp_R_sR, hx]) (cl_2 e6 (by omega) r0 m0 (by omega) e5 hm), hle⟩
  · skip
    have hz : hp_I h (20 + 2 * f) 1 = nI 2 := hq.1
    obtain ⟨k0, i0, r0, m0⟩ := hq.2.2 0 a0 rfl
    have b0 := m0.2.2.1
    obtain ⟨k1, i1, r1, m1⟩ := hq.2.2 1 a1 rfl
    have b1 := m1.2.2.1
    refine rw_aload_n (pc := 0) dQ_add_0 rfl ?_
    refine rw_getI (pc := 1) (x := nI 2) flQ_17_Q dQ_add_1 hoQ hsQ hz ?_
    refine rw_iconst (pc := 4) (x := nI 3) dQ_add_4 (by decide) ?_
    refine rw_icmpge (pc := 5) dQ_add_5 (tgt := 28) rfl (fun c7 => ?_) (fun c7 => ?_)
    · skip
      replace c7 : 3 ≤ 2 := (nI_leI (a := 3) (b := 2) (by omega) (by omega)).mp c7
      exact absurd c7 (by decide)
    · skip
      replace c7 : ¬ (3 ≤ 2) := fun qz => c7 ((nI_leI (a := 3) (b := 2) (by omega) (by omega)).mpr qz)
      refine rw_aload_n (pc := 8) dQ_add_8 rfl ?_
      refine rw_getR (pc := 9) (x := some (21 + 2 * f)) flQ_11_Q dQ_add_9 hoQ hsQ hrq ?_
      refine rw_aload_n (pc := 12) dQ_add_12 rfl ?_
      refine rw_getI (pc := 13) (x := nI 2) flQ_17_Q dQ_add_13 hoQ hsQ hz ?_
      refine rw_aload_n (pc := 16) dQ_add_16 rfl ?_
      refine rw_aast (pc := 17) (i := 2) so_5_R (by decide) dQ_add_17 hoq hsq (ix_nI (by omega) (by decide)) (cm_o hm) (cm_q hm (by omega)).2.1 ?_
      replace hoQ := ok_sR (A := (21 + 2 * f)) (k := 2) (v := some i) hoQ
      replace hsQ := sh_sR (A := (21 + 2 * f)) (k := 2) (v := some i) hsQ
      replace hoq := ok_sR (A := (21 + 2 * f)) (k := 2) (v := some i) hoq
      replace hsq := sh_sR (A := (21 + 2 * f)) (k := 2) (v := some i) hsq
      replace m0 := cm_le m0 (le_sR (h := h) (A := (21 + 2 * f)) (k := 2) (v := some i) (by omega))
      replace m1 := cm_le m1 (le_sR (h := h) (A := (21 + 2 * f)) (k := 2) (v := some i) (by omega))
      replace hm := cm_le hm (le_sR (h := h) (A := (21 + 2 * f)) (k := 2) (v := some i) (by omega))
      replace hle := le_tr hle (le_sR (h := h) (A := (21 + 2 * f)) (k := 2) (v := some i) (by omega))
      replace hz := hR_of (A := (21 + 2 * f)) (k := 2) (v := some i) hz
      replace hrq := rR_sR (A := (21 + 2 * f)) (k := 2) (v := some i) (by omega) hrq
      replace r0 := rR_sR2 (A := (21 + 2 * f)) (k := 2) (v := some i) (by omega) r0
      replace r1 := rR_sR2 (A := (21 + 2 * f)) (k := 2) (v := some i) (by omega) r1
      have e8 : hp_R (hp_sR h (21 + 2 * f) 2 (some i)) (21 + 2 * f) 2 = (some i) := rR_set
      refine rw_aload_n (pc := 18) dQ_add_18 rfl ?_
      refine rw_dup (pc := 19) dQ_add_19 ?_
      refine rw_getI (pc := 20) (x := nI 2) flQ_17_Q dQ_add_20 hoQ hsQ hz ?_
      refine rw_iconst (pc := 23) (x := nI 1) dQ_add_23 (by decide) ?_
      refine rw_iadd (pc := 24) (v := nI 3) dQ_add_24 (by decide) ?_
      refine rw_putI (pc := 25) pfQ_17_Q dQ_add_25 hoQ hsQ ?_
      replace hoQ := ok_sI (A := (20 + 2 * f)) (k := 1) (v := nI 3) hoQ
      replace hsQ := sh_sI (A := (20 + 2 * f)) (k := 1) (v := nI 3) hsQ
      replace hoq := ok_sI (A := (20 + 2 * f)) (k := 1) (v := nI 3) hoq
      replace hsq := sh_sI (A := (20 + 2 * f)) (k := 1) (v := nI 3) hsq
      replace m0 := cm_le m0 (le_sI (h := (hp_sR h (21 + 2 * f) 2 (some i))) (A := (20 + 2 * f)) (k := 1) (v := nI 3) (by omega))
      replace m1 := cm_le m1 (le_sI (h := (hp_sR h (21 + 2 * f) 2 (some i))) (A := (20 + 2 * f)) (k := 1) (v := nI 3) (by omega))
      replace hm := cm_le hm (le_sI (h := (hp_sR h (21 + 2 * f) 2 (some i))) (A := (20 + 2 * f)) (k := 1) (v := nI 3) (by omega))
      replace hle := le_tr hle (le_sI (h := (hp_sR h (21 + 2 * f) 2 (some i))) (A := (20 + 2 * f)) (k := 1) (v := nI 3) (by omega))
      replace hrq := rR_sI (A := (20 + 2 * f)) (k := 1) (v := nI 3) hrq
      replace r0 := rR_sI (A := (20 + 2 * f)) (k := 1) (v := nI 3) r0
      replace r1 := rR_sI (A := (20 + 2 * f)) (k := 1) (v := nI 3) r1
      replace e8 := rR_sI (A := (20 + 2 * f)) (k := 1) (v := nI 3) e8
      have e9 : hp_I (hp_sI (hp_sR h (21 + 2 * f) 2 (some i)) (20 + 2 * f) 1 (nI 3)) (20 + 2 * f) 1 = (nI 3) := hI_set
      rw [show f_add [a0, a1] m = [a0, a1, m] from rfl]
      exact rw_vret (pc := 28) dQ_add_28 rfl ⟨rfl, wl_any hc hf0 (by rfl) (fun x => by rfl) (fun x y hx => by simp [hp_I_sI, hp_I_sR, hx]) (fun x y hx => by simp [hp_R_sI, hp_R_sR, hx]) (cl_3 e9 (by omega) r0 m0 (by omega) r1 m1 (by omega) e8 hm), hle⟩
  · skip
    have hz : hp_I h (20 + 2 * f) 1 = nI 3 := hq.1
    obtain ⟨k0, i0, r0, m0⟩ := hq.2.2 0 a0 rfl
    have b0 := m0.2.2.1
    obtain ⟨k1, i1, r1, m1⟩ := hq.2.2 1 a1 rfl
    have b1 := m1.2.2.1
    obtain ⟨k2, i2, r2, m2⟩ := hq.2.2 2 a2 rfl
    have b2 := m2.2.2.1
    refine rw_aload_n (pc := 0) dQ_add_0 rfl ?_
    refine rw_getI (pc := 1) (x := nI 3) flQ_17_Q dQ_add_1 hoQ hsQ hz ?_
    refine rw_iconst (pc := 4) (x := nI 3) dQ_add_4 (by decide) ?_
    refine rw_icmpge (pc := 5) dQ_add_5 (tgt := 28) rfl (fun c10 => ?_) (fun c10 => ?_)
    · skip
      replace c10 : 3 ≤ 3 := (nI_leI (a := 3) (b := 3) (by omega) (by omega)).mp c10
      rw [show f_add [a0, a1, a2] m = [a0, a1, a2] from rfl]
      exact rw_vret (pc := 28) dQ_add_28 rfl ⟨rfl, wl_any hc hf0 (by rfl) (fun x => by rfl) (fun x y hx => by simp [hp_I_sI, hp_I_sR, hx]) (fun x y hx => by simp [hp_R_sI, hp_R_sR, hx]) (cl_3 hz (by omega) r0 m0 (by omega) r1 m1 (by omega) r2 m2), hle⟩
    · skip
      replace c10 : ¬ (3 ≤ 3) := fun qz => c10 ((nI_leI (a := 3) (b := 3) (by omega) (by omega)).mpr qz)
      exact absurd (by decide) c10
  · skip
    exact absurd hq.2.1 (by simp only [List.length_cons]; omega)
theorem cQ_clear (G : mt_G) (h : ha_H) {L : Nat} {n : List ab_M} {su : Bool} {sn : Int32} {sg : Bool} {se : Int32} {pg : Nat → Nat → Int32} {md : Nat → Nat → Nat} {en : Nat → Nat → Int32} {sd : Nat → Option ab_M} {ln : Nat → List ab_M} {C : Nat → ab_C} (hc : CV L n su sn sg se pg md en sd ln C h) {f : Nat} (hf : f < 4) : rn_M G xQ_clear (0, 0, 0) [.inr (some (20 + 2 * f))] h (rn_v (fun h' => CV L n su sn sg se pg md en sd (fu ln f []) C h' ∧ hp_le h h')) := by
  refine rn_of (by decide +kernel) (Nat.le_of_ble_eq_true rfl) ?_
  show rn_W G xQ_clear (0, 0, 0) 0 0 0 [some (.inr (some (20 + 2 * f))), none] [] h _
  obtain ⟨l, hl0⟩ : ∃ l, ln f = l := ⟨_, rfl⟩
  have hq := cp_ln hc f hf
  rw [hl0] at hq
  try rw [hl0]
  have hf0 := hf
  have hoQ : hp_ok h (20 + 2 * f) := cs_o hc (by omega) (by omega)
  have hsQ := cs_SQ hc hf
  have hoq : hp_ok h (21 + 2 * f) := cs_o hc (by omega) (by omega)
  have hsq := cs_Sq hc hf
  have hrq := cr_Q hc hf
  have hle := le_rf h
  rcases l with _ | ⟨a0, _ | ⟨a1, _ | ⟨a2, _ | ⟨a3, l⟩⟩⟩⟩
  · skip
    have hz : hp_I h (20 + 2 * f) 1 = nI 0 := hq.1
    refine rw_iconst (pc := 0) (x := nI 0) dQ_clear_0 (by decide) ?_
    refine rw_istore_n (pc := 1) (L' := [some (.inr (some (20 + 2 * f))), some (.inl (nI 0))]) dQ_clear_1 (by decide) rfl ?_
    refine rw_iload_n (pc := 2) dQ_clear_2 rfl ?_
    refine rw_iconst (pc := 3) (x := nI 3) dQ_clear_3 (by decide) ?_
    refine rw_icmpge (pc := 4) dQ_clear_4 (tgt := 20) rfl (fun c1 => ?_) (fun c1 => ?_)
    · skip
      replace c1 : 3 ≤ 0 := (nI_leI (a := 3) (b := 0) (by omega) (by omega)).mp c1
      exact absurd c1 (by decide)
    · skip
      replace c1 : ¬ (3 ≤ 0) := fun qz => c1 ((nI_leI (a := 3) (b := 0) (by omega) (by omega)).mpr qz)
      refine rw_aload_n (pc := 7) dQ_clear_7 rfl ?_
      refine rw_getR (pc := 8) (x := some (21 + 2 * f)) flQ_11_Q dQ_clear_8 hoQ hsQ hrq ?_
      refine rw_iload_n (pc := 11) dQ_clear_11 rfl ?_
      refine rw_null (pc := 12) dQ_clear_12 ?_
      refine rw_aastN (pc := 13) (i := 0) (t := 5) rfl (by decide) dQ_clear_13 hoq hsq (ix_nI (by omega) (by decide)) ?_
      replace hoQ := ok_sR (A := (21 + 2 * f)) (k := 0) (v := none) hoQ
      replace hsQ := sh_sR (A := (21 + 2 * f)) (k := 0) (v := none) hsQ
      replace hoq := ok_sR (A := (21 + 2 * f)) (k := 0) (v := none) hoq
      replace hsq := sh_sR (A := (21 + 2 * f)) (k := 0) (v := none) hsq
      replace hle := le_tr hle (le_sR (h := h) (A := (21 + 2 * f)) (k := 0) (v := none) (by omega))
      replace hz := hR_of (A := (21 + 2 * f)) (k := 0) (v := none) hz
      replace hrq := rR_sR (A := (21 + 2 * f)) (k := 0) (v := none) (by omega) hrq
      have e2 : hp_R (hp_sR h (21 + 2 * f) 0 none) (21 + 2 * f) 0 = none := rR_set
      refine rw_iinc (pc := 14) (x := nI 0) (y := nI 1) (L' := [some (.inr (some (20 + 2 * f))), some (.inl (nI 1))]) dQ_clear_14 (by decide) rfl (by decide) rfl ?_
      refine rw_goto (pc := 17) dQ_clear_17 (tgt := 2) rfl ?_
      refine rw_iload_n (pc := 2) dQ_clear_2 rfl ?_
      refine rw_iconst (pc := 3) (x := nI 3) dQ_clear_3 (by decide) ?_
      refine rw_icmpge (pc := 4) dQ_clear_4 (tgt := 20) rfl (fun c3 => ?_) (fun c3 => ?_)
      · skip
        replace c3 : 3 ≤ 1 := (nI_leI (a := 3) (b := 1) (by omega) (by omega)).mp c3
        exact absurd c3 (by decide)
      · skip
        replace c3 : ¬ (3 ≤ 1) := fun qz => c3 ((nI_leI (a := 3) (b := 1) (by omega) (by omega)).mpr qz)
        refine rw_aload_n (pc := 7) dQ_clear_7 rfl ?_
        refine rw_getR (pc := 8) (x := some (21 + 2 * f)) flQ_11_Q dQ_clear_8 hoQ hsQ hrq ?_
        refine rw_iload_n (pc := 11) dQ_clear_11 rfl ?_
        refine rw_null (pc := 12) dQ_clear_12 ?_
        refine rw_aastN (pc := 13) (i := 1) (t := 5) rfl (by decide) dQ_clear_13 hoq hsq (ix_nI (by omega) (by decide)) ?_
        replace hoQ := ok_sR (A := (21 + 2 * f)) (k := 1) (v := none) hoQ
        replace hsQ := sh_sR (A := (21 + 2 * f)) (k := 1) (v := none) hsQ
        replace hoq := ok_sR (A := (21 + 2 * f)) (k := 1) (v := none) hoq
        replace hsq := sh_sR (A := (21 + 2 * f)) (k := 1) (v := none) hsq
        replace hle := le_tr hle (le_sR (h := (hp_sR h (21 + 2 * f) 0 none)) (A := (21 + 2 * f)) (k := 1) (v := none) (by omega))
        replace hz := hR_of (A := (21 + 2 * f)) (k := 1) (v := none) hz
        replace hrq := rR_sR (A := (21 + 2 * f)) (k := 1) (v := none) (by omega) hrq
        replace e2 := rR_sR2 (A := (21 + 2 * f)) (k := 1) (v := none) (by omega) e2
        have e4 : hp_R (hp_sR (hp_sR h (21 + 2 * f) 0 none) (21 + 2 * f) 1 none) (21 + 2 * f) 1 = none := rR_set
        refine rw_iinc (pc := 14) (x := nI 1) (y := nI 2) (L' := [some (.inr (some (20 + 2 * f))), some (.inl (nI 2))]) dQ_clear_14 (by decide) rfl (by decide) rfl ?_
        refine rw_goto (pc := 17) dQ_clear_17 (tgt := 2) rfl ?_
        refine rw_iload_n (pc := 2) dQ_clear_2 rfl ?_
        refine rw_iconst (pc := 3) (x := nI 3) dQ_clear_3 (by decide) ?_
        refine rw_icmpge (pc := 4) dQ_clear_4 (tgt := 20) rfl (fun c5 => ?_) (fun c5 => ?_)
        · skip
          replace c5 : 3 ≤ 2 := (nI_leI (a := 3) (b := 2) (by omega) (by omega)).mp c5
          exact absurd c5 (by decide)
        · skip
          replace c5 : ¬ (3 ≤ 2) := fun qz => c5 ((nI_leI (a := 3) (b := 2) (by omega) (by omega)).mpr qz)
          refine rw_aload_n (pc := 7) dQ_clear_7 rfl ?_
          refine rw_getR (pc := 8) (x := some (21 + 2 * f)) flQ_11_Q dQ_clear_8 hoQ hsQ hrq ?_
          refine rw_iload_n (pc := 11) dQ_clear_11 rfl ?_
          refine rw_null (pc := 12) dQ_clear_12 ?_
          refine rw_aastN (pc := 13) (i := 2) (t := 5) rfl (by decide) dQ_clear_13 hoq hsq (ix_nI (by omega) (by decide)) ?_
          replace hoQ := ok_sR (A := (21 + 2 * f)) (k := 2) (v := none) hoQ
          replace hsQ := sh_sR (A := (21 + 2 * f)) (k := 2) (v := none) hsQ
          replace hoq := ok_sR (A := (21 + 2 * f)) (k := 2) (v := none) hoq
          replace hsq := sh_sR (A := (21 + 2 * f)) (k := 2) (v := none) hsq
          replace hle := le_tr hle (le_sR (h := (hp_sR (hp_sR h (21 + 2 * f) 0 none) (21 + 2 * f) 1 none)) (A := (21 + 2 * f)) (k := 2) (v := none) (by omega))
          replace hz := hR_of (A := (21 + 2 * f)) (k := 2) (v := none) hz
          replace hrq := rR_sR (A := (21 + 2 * f)) (k := 2) (v := none) (by omega) hrq
          replace e2 := rR_sR2 (A := (21 + 2 * f)) (k := 2) (v := none) (by omega) e2
          replace e4 := rR_sR2 (A := (21 + 2 * f)) (k := 2) (v := none) (by omega) e4
          have e6 : hp_R (hp_sR (hp_sR (hp_sR h (21 + 2 * f) 0 none) (21 + 2 * f) 1 none) (21 + 2 * f) 2 none) (21 + 2 * f) 2 = none := rR_set
          refine rw_iinc (pc := 14) (x := nI 2) (y := nI 3) (L' := [some (.inr (some (20 + 2 * f))), some (.inl (nI 3))]) dQ_clear_14 (by decide) rfl (by decide) rfl ?_
          refine rw_goto (pc := 17) dQ_clear_17 (tgt := 2) rfl ?_
          refine rw_iload_n (pc := 2) dQ_clear_2 rfl ?_
          refine rw_iconst (pc := 3) (x := nI 3) dQ_clear_3 (by decide) ?_
          refine rw_icmpge (pc := 4) dQ_clear_4 (tgt := 20) rfl (fun c7 => ?_) (fun c7 => ?_)
          · skip
            replace c7 : 3 ≤ 3 := (nI_leI (a := 3) (b := 3) (by omega) (by omega)).mp c7
            refine rw_aload_n (pc := 20) dQ_clear_20 rfl ?_
            refine rw_iconst (pc := 21) (x := nI 0) dQ_clear_21 (by decide) ?_
            refine rw_putI (pc := 22) pfQ_17_Q dQ_clear_22 hoQ hsQ ?_
            replace hoQ := ok_sI (A := (20 + 2 * f)) (k := 1) (v := nI 0) hoQ
            replace hsQ := sh_sI (A := (20 + 2 * f)) (k := 1) (v := nI 0) hsQ
            replace hoq := ok_sI (A := (20 + 2 * f)) (k := 1) (v := nI 0) hoq
            replace hsq := sh_sI (A := (20 + 2 * f)) (k := 1) (v := nI 0) hsq
            replace hle := le_tr hle (le_sI (h := (hp_sR (hp_sR (hp_sR h (21 + 2 * f) 0 none) (21 + 2 * f) 1 none) (21 + 2 * f) 2 none)) (A := (20 + 2 * f)) (k := 1) (v := nI 0) (by omega))
            replace hrq := rR_sI (A := (20 + 2 * f)) (k := 1) (v := nI 0) hrq
            replace e2 := rR_sI (A := (20 + 2 * f)) (k := 1) (v := nI 0) e2
            replace e4 := rR_sI (A := (20 + 2 * f)) (k := 1) (v := nI 0) e4
            replace e6 := rR_sI (A := (20 + 2 * f)) (k := 1) (v := nI 0) e6
            have e8 : hp_I (hp_sI (hp_sR (hp_sR (hp_sR h (21 + 2 * f) 0 none) (21 + 2 * f) 1 none) (21 + 2 * f) 2 none) (20 + 2 * f) 1 (nI 0)) (20 + 2 * f) 1 = (nI 0) := hI_set
            exact rw_vret (pc := 25) dQ_clear_25 rfl ⟨rfl, wl_any hc hf0 (by rfl) (fun x => by rfl) (fun x y hx => by simp [hp_I_sI, hp_I_sR, hx]) (fun x y hx => by simp [hp_R_sI, hp_R_sR, hx]) (cl_0 e8), hle⟩
          · skip
            replace c7 : ¬ (3 ≤ 3) := fun qz => c7 ((nI_leI (a := 3) (b := 3) (by omega) (by omega)).mpr qz)
            exact absurd (by decide) c7
  · skip
    have hz : hp_I h (20 + 2 * f) 1 = nI 1 := hq.1
    obtain ⟨k0, i0, r0, m0⟩ := hq.2.2 0 a0 rfl
    have b0 := m0.2.2.1
    refine rw_iconst (pc := 0) (x := nI 0) dQ_clear_0 (by decide) ?_
    refine rw_istore_n (pc := 1) (L' := [some (.inr (some (20 + 2 * f))), some (.inl (nI 0))]) dQ_clear_1 (by decide) rfl ?_
    refine rw_iload_n (pc := 2) dQ_clear_2 rfl ?_
    refine rw_iconst (pc := 3) (x := nI 3) dQ_clear_3 (by decide) ?_
    refine rw_icmpge (pc := 4) dQ_clear_4 (tgt := 20) rfl (fun c9 => ?_) (fun c9 => ?_)
    · skip
      replace c9 : 3 ≤ 0 := (nI_leI (a := 3) (b := 0) (by omega) (by omega)).mp c9
      exact absurd c9 (by decide)
    · skip
      replace c9 : ¬ (3 ≤ 0) := fun qz => c9 ((nI_leI (a := 3) (b := 0) (by omega) (by omega)).mpr qz)
      refine rw_aload_n (pc := 7) dQ_clear_7 rfl ?_
      refine rw_getR (pc := 8) (x := some (21 + 2 * f)) flQ_11_Q dQ_clear_8 hoQ hsQ hrq ?_
      refine rw_iload_n (pc := 11) dQ_clear_11 rfl ?_
      refine rw_null (pc := 12) dQ_clear_12 ?_
      refine rw_aastN (pc := 13) (i := 0) (t := 5) rfl (by decide) dQ_clear_13 hoq hsq (ix_nI (by omega) (by decide)) ?_
      replace hoQ := ok_sR (A := (21 + 2 * f)) (k := 0) (v := none) hoQ
      replace hsQ := sh_sR (A := (21 + 2 * f)) (k := 0) (v := none) hsQ
      replace hoq := ok_sR (A := (21 + 2 * f)) (k := 0) (v := none) hoq
      replace hsq := sh_sR (A := (21 + 2 * f)) (k := 0) (v := none) hsq
      replace m0 := cm_le m0 (le_sR (h := h) (A := (21 + 2 * f)) (k := 0) (v := none) (by omega))
      replace hle := le_tr hle (le_sR (h := h) (A := (21 + 2 * f)) (k := 0) (v := none) (by omega))
      replace hz := hR_of (A := (21 + 2 * f)) (k := 0) (v := none) hz
      replace hrq := rR_sR (A := (21 + 2 * f)) (k := 0) (v := none) (by omega) hrq
      have e10 : hp_R (hp_sR h (21 + 2 * f) 0 none) (21 + 2 * f) 0 = none := rR_set
      refine rw_iinc (pc := 14) (x := nI 0) (y := nI 1) (L' := [some (.inr (some (20 + 2 * f))), some (.inl (nI 1))]) dQ_clear_14 (by decide) rfl (by decide) rfl ?_
      refine rw_goto (pc := 17) dQ_clear_17 (tgt := 2) rfl ?_
      refine rw_iload_n (pc := 2) dQ_clear_2 rfl ?_
      refine rw_iconst (pc := 3) (x := nI 3) dQ_clear_3 (by decide) ?_
      refine rw_icmpge (pc := 4) dQ_clear_4 (tgt := 20) rfl (fun c11 => ?_) (fun c11 => ?_)
      · skip
        replace c11 : 3 ≤ 1 := (nI_leI (a := 3) (b := 1) (by omega) (by omega)).mp c11
        exact absurd c11 (by decide)
      · skip
        replace c11 : ¬ (3 ≤ 1) := fun qz => c11 ((nI_leI (a := 3) (b := 1) (by omega) (by omega)).mpr qz)
        refine rw_aload_n (pc := 7) dQ_clear_7 rfl ?_
        refine rw_getR (pc := 8) (x := some (21 + 2 * f)) flQ_11_Q dQ_clear_8 hoQ hsQ hrq ?_
        refine rw_iload_n (pc := 11) dQ_clear_11 rfl ?_
        refine rw_null (pc := 12) dQ_clear_12 ?_
        refine rw_aastN (pc := 13) (i := 1) (t := 5) rfl (by decide) dQ_clear_13 hoq hsq (ix_nI (by omega) (by decide)) ?_
        replace hoQ := ok_sR (A := (21 + 2 * f)) (k := 1) (v := none) hoQ
        replace hsQ := sh_sR (A := (21 + 2 * f)) (k := 1) (v := none) hsQ
        replace hoq := ok_sR (A := (21 + 2 * f)) (k := 1) (v := none) hoq
        replace hsq := sh_sR (A := (21 + 2 * f)) (k := 1) (v := none) hsq
        replace m0 := cm_le m0 (le_sR (h := (hp_sR h (21 + 2 * f) 0 none)) (A := (21 + 2 * f)) (k := 1) (v := none) (by omega))
        replace hle := le_tr hle (le_sR (h := (hp_sR h (21 + 2 * f) 0 none)) (A := (21 + 2 * f)) (k := 1) (v := none) (by omega))
        replace hz := hR_of (A := (21 + 2 * f)) (k := 1) (v := none) hz
        replace hrq := rR_sR (A := (21 + 2 * f)) (k := 1) (v := none) (by omega) hrq
        replace e10 := rR_sR2 (A := (21 + 2 * f)) (k := 1) (v := none) (by omega) e10
        have e12 : hp_R (hp_sR (hp_sR h (21 + 2 * f) 0 none) (21 + 2 * f) 1 none) (21 + 2 * f) 1 = none := rR_set
        refine rw_iinc (pc := 14) (x := nI 1) (y := nI 2) (L' := [some (.inr (some (20 + 2 * f))), some (.inl (nI 2))]) dQ_clear_14 (by decide) rfl (by decide) rfl ?_
        refine rw_goto (pc := 17) dQ_clear_17 (tgt := 2) rfl ?_
        refine rw_iload_n (pc := 2) dQ_clear_2 rfl ?_
        refine rw_iconst (pc := 3) (x := nI 3) dQ_clear_3 (by decide) ?_
        refine rw_icmpge (pc := 4) dQ_clear_4 (tgt := 20) rfl (fun c13 => ?_) (fun c13 => ?_)
        · skip
          replace c13 : 3 ≤ 2 := (nI_leI (a := 3) (b := 2) (by omega) (by omega)).mp c13
          exact absurd c13 (by decide)
        · skip
          replace c13 : ¬ (3 ≤ 2) := fun qz => c13 ((nI_leI (a := 3) (b := 2) (by omega) (by omega)).mpr qz)
          refine rw_aload_n (pc := 7) dQ_clear_7 rfl ?_
          refine rw_getR (pc := 8) (x := some (21 + 2 * f)) flQ_11_Q dQ_clear_8 hoQ hsQ hrq ?_
          refine rw_iload_n (pc := 11) dQ_clear_11 rfl ?_
          refine rw_null (pc := 12) dQ_clear_12 ?_
          refine rw_aastN (pc := 13) (i := 2) (t := 5) rfl (by decide) dQ_clear_13 hoq hsq (ix_nI (by omega) (by decide)) ?_
          replace hoQ := ok_sR (A := (21 + 2 * f)) (k := 2) (v := none) hoQ
          replace hsQ := sh_sR (A := (21 + 2 * f)) (k := 2) (v := none) hsQ
          replace hoq := ok_sR (A := (21 + 2 * f)) (k := 2) (v := none) hoq
          replace hsq := sh_sR (A := (21 + 2 * f)) (k := 2) (v := none) hsq
          replace m0 := cm_le m0 (le_sR (h := (hp_sR (hp_sR h (21 + 2 * f) 0 none) (21 + 2 * f) 1 none)) (A := (21 + 2 * f)) (k := 2) (v := none) (by omega))
          replace hle := le_tr hle (le_sR (h := (hp_sR (hp_sR h (21 + 2 * f) 0 none) (21 + 2 * f) 1 none)) (A := (21 + 2 * f)) (k := 2) (v := none) (by omega))
          replace hz := hR_of (A := (21 + 2 * f)) (k := 2) (v := none) hz
          replace hrq := rR_sR (A := (21 + 2 * f)) (k := 2) (v := none) (by omega) hrq
          replace e10 := rR_sR2 (A := (21 + 2 * f)) (k := 2) (v := none) (by omega) e10
          replace e12 := rR_sR2 (A := (21 + 2 * f)) (k := 2) (v := none) (by omega) e12
          have e14 : hp_R (hp_sR (hp_sR (hp_sR h (21 + 2 * f) 0 none) (21 + 2 * f) 1 none) (21 + 2 * f) 2 none) (21 + 2 * f) 2 = none := rR_set
          refine rw_iinc (pc := 14) (x := nI 2) (y := nI 3) (L' := [some (.inr (some (20 + 2 * f))), some (.inl (nI 3))]) dQ_clear_14 (by decide) rfl (by decide) rfl ?_
          refine rw_goto (pc := 17) dQ_clear_17 (tgt := 2) rfl ?_
          refine rw_iload_n (pc := 2) dQ_clear_2 rfl ?_
          refine rw_iconst (pc := 3) (x := nI 3) dQ_clear_3 (by decide) ?_
          refine rw_icmpge (pc := 4) dQ_clear_4 (tgt := 20) rfl (fun c15 => ?_) (fun c15 => ?_)
          · skip
            replace c15 : 3 ≤ 3 := (nI_leI (a := 3) (b := 3) (by omega) (by omega)).mp c15
            refine rw_aload_n (pc := 20) dQ_clear_20 rfl ?_
            refine rw_iconst (pc := 21) (x := nI 0) dQ_clear_21 (by decide) ?_
            refine rw_putI (pc := 22) pfQ_17_Q dQ_clear_22 hoQ hsQ ?_
            replace hoQ := ok_sI (A := (20 + 2 * f)) (k := 1) (v := nI 0) hoQ
            replace hsQ := sh_sI (A := (20 + 2 * f)) (k := 1) (v := nI 0) hsQ
            replace hoq := ok_sI (A := (20 + 2 * f)) (k := 1) (v := nI 0) hoq
            replace hsq := sh_sI (A := (20 + 2 * f)) (k := 1) (v := nI 0) hsq
            replace m0 := cm_le m0 (le_sI (h := (hp_sR (hp_sR (hp_sR h (21 + 2 * f) 0 none) (21 + 2 * f) 1 none) (21 + 2 * f) 2 none)) (A := (20 + 2 * f)) (k := 1) (v := nI 0) (by omega))
            replace hle := le_tr hle (le_sI (h := (hp_sR (hp_sR (hp_sR h (21 + 2 * f) 0 none) (21 + 2 * f) 1 none) (21 + 2 * f) 2 none)) (A := (20 + 2 * f)) (k := 1) (v := nI 0) (by omega))
            replace hrq := rR_sI (A := (20 + 2 * f)) (k := 1) (v := nI 0) hrq
            replace e10 := rR_sI (A := (20 + 2 * f)) (k := 1) (v := nI 0) e10
            replace e12 := rR_sI (A := (20 + 2 * f)) (k := 1) (v := nI 0) e12
            replace e14 := rR_sI (A := (20 + 2 * f)) (k := 1) (v := nI 0) e14
            have e16 : hp_I (hp_sI (hp_sR (hp_sR (hp_sR h (21 + 2 * f) 0 none) (21 + 2 * f) 1 none) (21 + 2 * f) 2 none) (20 + 2 * f) 1 (nI 0)) (20 + 2 * f) 1 = (nI 0) := hI_set
            exact rw_vret (pc := 25) dQ_clear_25 rfl ⟨rfl, wl_any hc hf0 (by rfl) (fun x => by rfl) (fun x y hx => by simp [hp_I_sI, hp_I_sR, hx]) (fun x y hx => by simp [hp_R_sI, hp_R_sR, hx]) (cl_0 e16), hle⟩
          · skip
            replace c15 : ¬ (3 ≤ 3) := fun qz => c15 ((nI_leI (a := 3) (b := 3) (by omega) (by omega)).mpr qz)
            exact absurd (by decide) c15
  · skip
    have hz : hp_I h (20 + 2 * f) 1 = nI 2 := hq.1
    obtain ⟨k0, i0, r0, m0⟩ := hq.2.2 0 a0 rfl
    have b0 := m0.2.2.1
    obtain ⟨k1, i1, r1, m1⟩ := hq.2.2 1 a1 rfl
    have b1 := m1.2.2.1
    refine rw_iconst (pc := 0) (x := nI 0) dQ_clear_0 (by decide) ?_
    refine rw_istore_n (pc := 1) (L' := [some (.inr (some (20 + 2 * f))), some (.inl (nI 0))]) dQ_clear_1 (by decide) rfl ?_
    refine rw_iload_n (pc := 2) dQ_clear_2 rfl ?_
    refine rw_iconst (pc := 3) (x := nI 3) dQ_clear_3 (by decide) ?_
    refine rw_icmpge (pc := 4) dQ_clear_4 (tgt := 20) rfl (fun c17 => ?_) (fun c17 => ?_)
    · skip
      replace c17 : 3 ≤ 0 := (nI_leI (a := 3) (b := 0) (by omega) (by omega)).mp c17
      exact absurd c17 (by decide)
    · skip
      replace c17 : ¬ (3 ≤ 0) := fun qz => c17 ((nI_leI (a := 3) (b := 0) (by omega) (by omega)).mpr qz)
      refine rw_aload_n (pc := 7) dQ_clear_7 rfl ?_
      refine rw_getR (pc := 8) (x := some (21 + 2 * f)) flQ_11_Q dQ_clear_8 hoQ hsQ hrq ?_
      refine rw_iload_n (pc := 11) dQ_clear_11 rfl ?_
      refine rw_null (pc := 12) dQ_clear_12 ?_
      refine rw_aastN (pc := 13) (i := 0) (t := 5) rfl (by decide) dQ_clear_13 hoq hsq (ix_nI (by omega) (by decide)) ?_
      replace hoQ := ok_sR (A := (21 + 2 * f)) (k := 0) (v := none) hoQ
      replace hsQ := sh_sR (A := (21 + 2 * f)) (k := 0) (v := none) hsQ
      replace hoq := ok_sR (A := (21 + 2 * f)) (k := 0) (v := none) hoq
      replace hsq := sh_sR (A := (21 + 2 * f)) (k := 0) (v := none) hsq
      replace m0 := cm_le m0 (le_sR (h := h) (A := (21 + 2 * f)) (k := 0) (v := none) (by omega))
      replace m1 := cm_le m1 (le_sR (h := h) (A := (21 + 2 * f)) (k := 0) (v := none) (by omega))
      replace hle := le_tr hle (le_sR (h := h) (A := (21 + 2 * f)) (k := 0) (v := none) (by omega))
      replace hz := hR_of (A := (21 + 2 * f)) (k := 0) (v := none) hz
      replace hrq := rR_sR (A := (21 + 2 * f)) (k := 0) (v := none) (by omega) hrq
      replace r1 := rR_sR2 (A := (21 + 2 * f)) (k := 0) (v := none) (by omega) r1
      have e18 : hp_R (hp_sR h (21 + 2 * f) 0 none) (21 + 2 * f) 0 = none := rR_set
      refine rw_iinc (pc := 14) (x := nI 0) (y := nI 1) (L' := [some (.inr (some (20 + 2 * f))), some (.inl (nI 1))]) dQ_clear_14 (by decide) rfl (by decide) rfl ?_
      refine rw_goto (pc := 17) dQ_clear_17 (tgt := 2) rfl ?_
      refine rw_iload_n (pc := 2) dQ_clear_2 rfl ?_
      refine rw_iconst (pc := 3) (x := nI 3) dQ_clear_3 (by decide) ?_
      refine rw_icmpge (pc := 4) dQ_clear_4 (tgt := 20) rfl (fun c19 => ?_) (fun c19 => ?_)
      · skip
        replace c19 : 3 ≤ 1 := (nI_leI (a := 3) (b := 1) (by omega) (by omega)).mp c19
        exact absurd c19 (by decide)
      · skip
        replace c19 : ¬ (3 ≤ 1) := fun qz => c19 ((nI_leI (a := 3) (b := 1) (by omega) (by omega)).mpr qz)
        refine rw_aload_n (pc := 7) dQ_clear_7 rfl ?_
        refine rw_getR (pc := 8) (x := some (21 + 2 * f)) flQ_11_Q dQ_clear_8 hoQ hsQ hrq ?_
        refine rw_iload_n (pc := 11) dQ_clear_11 rfl ?_
        refine rw_null (pc := 12) dQ_clear_12 ?_
        refine rw_aastN (pc := 13) (i := 1) (t := 5) rfl (by decide) dQ_clear_13 hoq hsq (ix_nI (by omega) (by decide)) ?_
        replace hoQ := ok_sR (A := (21 + 2 * f)) (k := 1) (v := none) hoQ
        replace hsQ := sh_sR (A := (21 + 2 * f)) (k := 1) (v := none) hsQ
        replace hoq := ok_sR (A := (21 + 2 * f)) (k := 1) (v := none) hoq
        replace hsq := sh_sR (A := (21 + 2 * f)) (k := 1) (v := none) hsq
        replace m0 := cm_le m0 (le_sR (h := (hp_sR h (21 + 2 * f) 0 none)) (A := (21 + 2 * f)) (k := 1) (v := none) (by omega))
        replace m1 := cm_le m1 (le_sR (h := (hp_sR h (21 + 2 * f) 0 none)) (A := (21 + 2 * f)) (k := 1) (v := none) (by omega))
        replace hle := le_tr hle (le_sR (h := (hp_sR h (21 + 2 * f) 0 none)) (A := (21 + 2 * f)) (k := 1) (v := none) (by omega))
        replace hz := hR_of (A := (21 + 2 * f)) (k := 1) (v := none) hz
        replace hrq := rR_sR (A := (21 + 2 * f)) (k := 1) (v := none) (by omega) hrq
        replace e18 := rR_sR2 (A := (21 + 2 * f)) (k := 1) (v := none) (by omega) e18
        have e20 : hp_R (hp_sR (hp_sR h (21 + 2 * f) 0 none) (21 + 2 * f) 1 none) (21 + 2 * f) 1 = none := rR_set
        refine rw_iinc (pc := 14) (x := nI 1) (y := nI 2) (L' := [some (.inr (some (20 + 2 * f))), some (.inl (nI 2))]) dQ_clear_14 (by decide) rfl (by decide) rfl ?_
        refine rw_goto (pc := 17) dQ_clear_17 (tgt := 2) rfl ?_
        refine rw_iload_n (pc := 2) dQ_clear_2 rfl ?_
        refine rw_iconst (pc := 3) (x := nI 3) dQ_clear_3 (by decide) ?_
        refine rw_icmpge (pc := 4) dQ_clear_4 (tgt := 20) rfl (fun c21 => ?_) (fun c21 => ?_)
        · skip
          replace c21 : 3 ≤ 2 := (nI_leI (a := 3) (b := 2) (by omega) (by omega)).mp c21
          exact absurd c21 (by decide)
        · skip
          replace c21 : ¬ (3 ≤ 2) := fun qz => c21 ((nI_leI (a := 3) (b := 2) (by omega) (by omega)).mpr qz)
          refine rw_aload_n (pc := 7) dQ_clear_7 rfl ?_
          refine rw_getR (pc := 8) (x := some (21 + 2 * f)) flQ_11_Q dQ_clear_8 hoQ hsQ hrq ?_
          refine rw_iload_n (pc := 11) dQ_clear_11 rfl ?_
          refine rw_null (pc := 12) dQ_clear_12 ?_
          refine rw_aastN (pc := 13) (i := 2) (t := 5) rfl (by decide) dQ_clear_13 hoq hsq (ix_nI (by omega) (by decide)) ?_
          replace hoQ := ok_sR (A := (21 + 2 * f)) (k := 2) (v := none) hoQ
          replace hsQ := sh_sR (A := (21 + 2 * f)) (k := 2) (v := none) hsQ
          replace hoq := ok_sR (A := (21 + 2 * f)) (k := 2) (v := none) hoq
          replace hsq := sh_sR (A := (21 + 2 * f)) (k := 2) (v := none) hsq
          replace m0 := cm_le m0 (le_sR (h := (hp_sR (hp_sR h (21 + 2 * f) 0 none) (21 + 2 * f) 1 none)) (A := (21 + 2 * f)) (k := 2) (v := none) (by omega))
          replace m1 := cm_le m1 (le_sR (h := (hp_sR (hp_sR h (21 + 2 * f) 0 none) (21 + 2 * f) 1 none)) (A := (21 + 2 * f)) (k := 2) (v := none) (by omega))
          replace hle := le_tr hle (le_sR (h := (hp_sR (hp_sR h (21 + 2 * f) 0 none) (21 + 2 * f) 1 none)) (A := (21 + 2 * f)) (k := 2) (v := none) (by omega))
          replace hz := hR_of (A := (21 + 2 * f)) (k := 2) (v := none) hz
          replace hrq := rR_sR (A := (21 + 2 * f)) (k := 2) (v := none) (by omega) hrq
          replace e18 := rR_sR2 (A := (21 + 2 * f)) (k := 2) (v := none) (by omega) e18
          replace e20 := rR_sR2 (A := (21 + 2 * f)) (k := 2) (v := none) (by omega) e20
          have e22 : hp_R (hp_sR (hp_sR (hp_sR h (21 + 2 * f) 0 none) (21 + 2 * f) 1 none) (21 + 2 * f) 2 none) (21 + 2 * f) 2 = none := rR_set
          refine rw_iinc (pc := 14) (x := nI 2) (y := nI 3) (L' := [some (.inr (some (20 + 2 * f))), some (.inl (nI 3))]) dQ_clear_14 (by decide) rfl (by decide) rfl ?_
          refine rw_goto (pc := 17) dQ_clear_17 (tgt := 2) rfl ?_
          refine rw_iload_n (pc := 2) dQ_clear_2 rfl ?_
          refine rw_iconst (pc := 3) (x := nI 3) dQ_clear_3 (by decide) ?_
          refine rw_icmpge (pc := 4) dQ_clear_4 (tgt := 20) rfl (fun c23 => ?_) (fun c23 => ?_)
          · skip
            replace c23 : 3 ≤ 3 := (nI_leI (a := 3) (b := 3) (by omega) (by omega)).mp c23
            refine rw_aload_n (pc := 20) dQ_clear_20 rfl ?_
            refine rw_iconst (pc := 21) (x := nI 0) dQ_clear_21 (by decide) ?_
            refine rw_putI (pc := 22) pfQ_17_Q dQ_clear_22 hoQ hsQ ?_
            replace hoQ := ok_sI (A := (20 + 2 * f)) (k := 1) (v := nI 0) hoQ
            replace hsQ := sh_sI (A := (20 + 2 * f)) (k := 1) (v := nI 0) hsQ
            replace hoq := ok_sI (A := (20 + 2 * f)) (k := 1) (v := nI 0) hoq
            replace hsq := sh_sI (A := (20 + 2 * f)) (k := 1) (v := nI 0) hsq
            replace m0 := cm_le m0 (le_sI (h := (hp_sR (hp_sR (hp_sR h (21 + 2 * f) 0 none) (21 + 2 * f) 1 none) (21 + 2 * f) 2 none)) (A := (20 + 2 * f)) (k := 1) (v := nI 0) (by omega))
            replace m1 := cm_le m1 (le_sI (h := (hp_sR (hp_sR (hp_sR h (21 + 2 * f) 0 none) (21 + 2 * f) 1 none) (21 + 2 * f) 2 none)) (A := (20 + 2 * f)) (k := 1) (v := nI 0) (by omega))
            replace hle := le_tr hle (le_sI (h := (hp_sR (hp_sR (hp_sR h (21 + 2 * f) 0 none) (21 + 2 * f) 1 none) (21 + 2 * f) 2 none)) (A := (20 + 2 * f)) (k := 1) (v := nI 0) (by omega))
            replace hrq := rR_sI (A := (20 + 2 * f)) (k := 1) (v := nI 0) hrq
            replace e18 := rR_sI (A := (20 + 2 * f)) (k := 1) (v := nI 0) e18
            replace e20 := rR_sI (A := (20 + 2 * f)) (k := 1) (v := nI 0) e20
            replace e22 := rR_sI (A := (20 + 2 * f)) (k := 1) (v := nI 0) e22
            have e24 : hp_I (hp_sI (hp_sR (hp_sR (hp_sR h (21 + 2 * f) 0 none) (21 + 2 * f) 1 none) (21 + 2 * f) 2 none) (20 + 2 * f) 1 (nI 0)) (20 + 2 * f) 1 = (nI 0) := hI_set
            exact rw_vret (pc := 25) dQ_clear_25 rfl ⟨rfl, wl_any hc hf0 (by rfl) (fun x => by rfl) (fun x y hx => by simp [hp_I_sI, hp_I_sR, hx]) (fun x y hx => by simp [hp_R_sI, hp_R_sR, hx]) (cl_0 e24), hle⟩
          · skip
            replace c23 : ¬ (3 ≤ 3) := fun qz => c23 ((nI_leI (a := 3) (b := 3) (by omega) (by omega)).mpr qz)
            exact absurd (by decide) c23
  · skip
    have hz : hp_I h (20 + 2 * f) 1 = nI 3 := hq.1
    obtain ⟨k0, i0, r0, m0⟩ := hq.2.2 0 a0 rfl
    have b0 := m0.2.2.1
    obtain ⟨k1, i1, r1, m1⟩ := hq.2.2 1 a1 rfl
    have b1 := m1.2.2.1
    obtain ⟨k2, i2, r2, m2⟩ := hq.2.2 2 a2 rfl
    have b2 := m2.2.2.1
    refine rw_iconst (pc := 0) (x := nI 0) dQ_clear_0 (by decide) ?_
    refine rw_istore_n (pc := 1) (L' := [some (.inr (some (20 + 2 * f))), some (.inl (nI 0))]) dQ_clear_1 (by decide) rfl ?_
    refine rw_iload_n (pc := 2) dQ_clear_2 rfl ?_
    refine rw_iconst (pc := 3) (x := nI 3) dQ_clear_3 (by decide) ?_
    refine rw_icmpge (pc := 4) dQ_clear_4 (tgt := 20) rfl (fun c25 => ?_) (fun c25 => ?_)
    · skip
      replace c25 : 3 ≤ 0 := (nI_leI (a := 3) (b := 0) (by omega) (by omega)).mp c25
      exact absurd c25 (by decide)
    · skip
      replace c25 : ¬ (3 ≤ 0) := fun qz => c25 ((nI_leI (a := 3) (b := 0) (by omega) (by omega)).mpr qz)
      refine rw_aload_n (pc := 7) dQ_clear_7 rfl ?_
      refine rw_getR (pc := 8) (x := some (21 + 2 * f)) flQ_11_Q dQ_clear_8 hoQ hsQ hrq ?_
      refine rw_iload_n (pc := 11) dQ_clear_11 rfl ?_
      refine rw_null (pc := 12) dQ_clear_12 ?_
      refine rw_aastN (pc := 13) (i := 0) (t := 5) rfl (by decide) dQ_clear_13 hoq hsq (ix_nI (by omega) (by decide)) ?_
      replace hoQ := ok_sR (A := (21 + 2 * f)) (k := 0) (v := none) hoQ
      replace hsQ := sh_sR (A := (21 + 2 * f)) (k := 0) (v := none) hsQ
      replace hoq := ok_sR (A := (21 + 2 * f)) (k := 0) (v := none) hoq
      replace hsq := sh_sR (A := (21 + 2 * f)) (k := 0) (v := none) hsq
      replace m0 := cm_le m0 (le_sR (h := h) (A := (21 + 2 * f)) (k := 0) (v := none) (by omega))
      replace m1 := cm_le m1 (le_sR (h := h) (A := (21 + 2 * f)) (k := 0) (v := none) (by omega))
      replace m2 := cm_le m2 (le_sR (h := h) (A := (21 + 2 * f)) (k := 0) (v := none) (by omega))
      replace hle := le_tr hle (le_sR (h := h) (A := (21 + 2 * f)) (k := 0) (v := none) (by omega))
      replace hz := hR_of (A := (21 + 2 * f)) (k := 0) (v := none) hz
      replace hrq := rR_sR (A := (21 + 2 * f)) (k := 0) (v := none) (by omega) hrq
      replace r1 := rR_sR2 (A := (21 + 2 * f)) (k := 0) (v := none) (by omega) r1
      replace r2 := rR_sR2 (A := (21 + 2 * f)) (k := 0) (v := none) (by omega) r2
      have e26 : hp_R (hp_sR h (21 + 2 * f) 0 none) (21 + 2 * f) 0 = none := rR_set
      refine rw_iinc (pc := 14) (x := nI 0) (y := nI 1) (L' := [some (.inr (some (20 + 2 * f))), some (.inl (nI 1))]) dQ_clear_14 (by decide) rfl (by decide) rfl ?_
      refine rw_goto (pc := 17) dQ_clear_17 (tgt := 2) rfl ?_
      refine rw_iload_n (pc := 2) dQ_clear_2 rfl ?_
      refine rw_iconst (pc := 3) (x := nI 3) dQ_clear_3 (by decide) ?_
      refine rw_icmpge (pc := 4) dQ_clear_4 (tgt := 20) rfl (fun c27 => ?_) (fun c27 => ?_)
      · skip
        replace c27 : 3 ≤ 1 := (nI_leI (a := 3) (b := 1) (by omega) (by omega)).mp c27
        exact absurd c27 (by decide)
      · skip
        replace c27 : ¬ (3 ≤ 1) := fun qz => c27 ((nI_leI (a := 3) (b := 1) (by omega) (by omega)).mpr qz)
        refine rw_aload_n (pc := 7) dQ_clear_7 rfl ?_
        refine rw_getR (pc := 8) (x := some (21 + 2 * f)) flQ_11_Q dQ_clear_8 hoQ hsQ hrq ?_
        refine rw_iload_n (pc := 11) dQ_clear_11 rfl ?_
        refine rw_null (pc := 12) dQ_clear_12 ?_
        refine rw_aastN (pc := 13) (i := 1) (t := 5) rfl (by decide) dQ_clear_13 hoq hsq (ix_nI (by omega) (by decide)) ?_
        replace hoQ := ok_sR (A := (21 + 2 * f)) (k := 1) (v := none) hoQ
        replace hsQ := sh_sR (A := (21 + 2 * f)) (k := 1) (v := none) hsQ
        replace hoq := ok_sR (A := (21 + 2 * f)) (k := 1) (v := none) hoq
        replace hsq := sh_sR (A := (21 + 2 * f)) (k := 1) (v := none) hsq
        replace m0 := cm_le m0 (le_sR (h := (hp_sR h (21 + 2 * f) 0 none)) (A := (21 + 2 * f)) (k := 1) (v := none) (by omega))
        replace m1 := cm_le m1 (le_sR (h := (hp_sR h (21 + 2 * f) 0 none)) (A := (21 + 2 * f)) (k := 1) (v := none) (by omega))
        replace m2 := cm_le m2 (le_sR (h := (hp_sR h (21 + 2 * f) 0 none)) (A := (21 + 2 * f)) (k := 1) (v := none) (by omega))
        replace hle := le_tr hle (le_sR (h := (hp_sR h (21 + 2 * f) 0 none)) (A := (21 + 2 * f)) (k := 1) (v := none) (by omega))
        replace hz := hR_of (A := (21 + 2 * f)) (k := 1) (v := none) hz
        replace hrq := rR_sR (A := (21 + 2 * f)) (k := 1) (v := none) (by omega) hrq
        replace r2 := rR_sR2 (A := (21 + 2 * f)) (k := 1) (v := none) (by omega) r2
        replace e26 := rR_sR2 (A := (21 + 2 * f)) (k := 1) (v := none) (by omega) e26
        have e28 : hp_R (hp_sR (hp_sR h (21 + 2 * f) 0 none) (21 + 2 * f) 1 none) (21 + 2 * f) 1 = none := rR_set
        refine rw_iinc (pc := 14) (x := nI 1) (y := nI 2) (L' := [some (.inr (some (20 + 2 * f))), some (.inl (nI 2))]) dQ_clear_14 (by decide) rfl (by decide) rfl ?_
        refine rw_goto (pc := 17) dQ_clear_17 (tgt := 2) rfl ?_
        refine rw_iload_n (pc := 2) dQ_clear_2 rfl ?_
        refine rw_iconst (pc := 3) (x := nI 3) dQ_clear_3 (by decide) ?_
        refine rw_icmpge (pc := 4) dQ_clear_4 (tgt := 20) rfl (fun c29 => ?_) (fun c29 => ?_)
        · skip
          replace c29 : 3 ≤ 2 := (nI_leI (a := 3) (b := 2) (by omega) (by omega)).mp c29
          exact absurd c29 (by decide)
        · skip
          replace c29 : ¬ (3 ≤ 2) := fun qz => c29 ((nI_leI (a := 3) (b := 2) (by omega) (by omega)).mpr qz)
          refine rw_aload_n (pc := 7) dQ_clear_7 rfl ?_
          refine rw_getR (pc := 8) (x := some (21 + 2 * f)) flQ_11_Q dQ_clear_8 hoQ hsQ hrq ?_
          refine rw_iload_n (pc := 11) dQ_clear_11 rfl ?_
          refine rw_null (pc := 12) dQ_clear_12 ?_
          refine rw_aastN (pc := 13) (i := 2) (t := 5) rfl (by decide) dQ_clear_13 hoq hsq (ix_nI (by omega) (by decide)) ?_
          replace hoQ := ok_sR (A := (21 + 2 * f)) (k := 2) (v := none) hoQ
          replace hsQ := sh_sR (A := (21 + 2 * f)) (k := 2) (v := none) hsQ
          replace hoq := ok_sR (A := (21 + 2 * f)) (k := 2) (v := none) hoq
          replace hsq := sh_sR (A := (21 + 2 * f)) (k := 2) (v := none) hsq
          replace m0 := cm_le m0 (le_sR (h := (hp_sR (hp_sR h (21 + 2 * f) 0 none) (21 + 2 * f) 1 none)) (A := (21 + 2 * f)) (k := 2) (v := none) (by omega))
          replace m1 := cm_le m1 (le_sR (h := (hp_sR (hp_sR h (21 + 2 * f) 0 none) (21 + 2 * f) 1 none)) (A := (21 + 2 * f)) (k := 2) (v := none) (by omega))
          replace m2 := cm_le m2 (le_sR (h := (hp_sR (hp_sR h (21 + 2 * f) 0 none) (21 + 2 * f) 1 none)) (A := (21 + 2 * f)) (k := 2) (v := none) (by omega))
          replace hle := le_tr hle (le_sR (h := (hp_sR (hp_sR h (21 + 2 * f) 0 none) (21 + 2 * f) 1 none)) (A := (21 + 2 * f)) (k := 2) (v := none) (by omega))
          replace hz := hR_of (A := (21 + 2 * f)) (k := 2) (v := none) hz
          replace hrq := rR_sR (A := (21 + 2 * f)) (k := 2) (v := none) (by omega) hrq
          replace e26 := rR_sR2 (A := (21 + 2 * f)) (k := 2) (v := none) (by omega) e26
          replace e28 := rR_sR2 (A := (21 + 2 * f)) (k := 2) (v := none) (by omega) e28
          have e30 : hp_R (hp_sR (hp_sR (hp_sR h (21 + 2 * f) 0 none) (21 + 2 * f) 1 none) (21 + 2 * f) 2 none) (21 + 2 * f) 2 = none := rR_set
          refine rw_iinc (pc := 14) (x := nI 2) (y := nI 3) (L' := [some (.inr (some (20 + 2 * f))), some (.inl (nI 3))]) dQ_clear_14 (by decide) rfl (by decide) rfl ?_
          refine rw_goto (pc := 17) dQ_clear_17 (tgt := 2) rfl ?_
          refine rw_iload_n (pc := 2) dQ_clear_2 rfl ?_
          refine rw_iconst (pc := 3) (x := nI 3) dQ_clear_3 (by decide) ?_
          refine rw_icmpge (pc := 4) dQ_clear_4 (tgt := 20) rfl (fun c31 => ?_) (fun c31 => ?_)
          · skip
            replace c31 : 3 ≤ 3 := (nI_leI (a := 3) (b := 3) (by omega) (by omega)).mp c31
            refine rw_aload_n (pc := 20) dQ_clear_20 rfl ?_
            refine rw_iconst (pc := 21) (x := nI 0) dQ_clear_21 (by decide) ?_
            refine rw_putI (pc := 22) pfQ_17_Q dQ_clear_22 hoQ hsQ ?_
            replace hoQ := ok_sI (A := (20 + 2 * f)) (k := 1) (v := nI 0) hoQ
            replace hsQ := sh_sI (A := (20 + 2 * f)) (k := 1) (v := nI 0) hsQ
            replace hoq := ok_sI (A := (20 + 2 * f)) (k := 1) (v := nI 0) hoq
            replace hsq := sh_sI (A := (20 + 2 * f)) (k := 1) (v := nI 0) hsq
            replace m0 := cm_le m0 (le_sI (h := (hp_sR (hp_sR (hp_sR h (21 + 2 * f) 0 none) (21 + 2 * f) 1 none) (21 + 2 * f) 2 none)) (A := (20 + 2 * f)) (k := 1) (v := nI 0) (by omega))
            replace m1 := cm_le m1 (le_sI (h := (hp_sR (hp_sR (hp_sR h (21 + 2 * f) 0 none) (21 + 2 * f) 1 none) (21 + 2 * f) 2 none)) (A := (20 + 2 * f)) (k := 1) (v := nI 0) (by omega))
            replace m2 := cm_le m2 (le_sI (h := (hp_sR (hp_sR (hp_sR h (21 + 2 * f) 0 none) (21 + 2 * f) 1 none) (21 + 2 * f) 2 none)) (A := (20 + 2 * f)) (k := 1) (v := nI 0) (by omega))
            replace hle := le_tr hle (le_sI (h := (hp_sR (hp_sR (hp_sR h (21 + 2 * f) 0 none) (21 + 2 * f) 1 none) (21 + 2 * f) 2 none)) (A := (20 + 2 * f)) (k := 1) (v := nI 0) (by omega))
            replace hrq := rR_sI (A := (20 + 2 * f)) (k := 1) (v := nI 0) hrq
            replace e26 := rR_sI (A := (20 + 2 * f)) (k := 1) (v := nI 0) e26
            replace e28 := rR_sI (A := (20 + 2 * f)) (k := 1) (v := nI 0) e28
            replace e30 := rR_sI (A := (20 + 2 * f)) (k := 1) (v := nI 0) e30
            have e32 : hp_I (hp_sI (hp_sR (hp_sR (hp_sR h (21 + 2 * f) 0 none) (21 + 2 * f) 1 none) (21 + 2 * f) 2 none) (20 + 2 * f) 1 (nI 0)) (20 + 2 * f) 1 = (nI 0) := hI_set
            exact rw_vret (pc := 25) dQ_clear_25 rfl ⟨rfl, wl_any hc hf0 (by rfl) (fun x => by rfl) (fun x y hx => by simp [hp_I_sI, hp_I_sR, hx]) (fun x y hx => by simp [hp_R_sI, hp_R_sR, hx]) (cl_0 e32), hle⟩
          · skip
            replace c31 : ¬ (3 ≤ 3) := fun qz => c31 ((nI_leI (a := 3) (b := 3) (by omega) (by omega)).mpr qz)
            exact absurd (by decide) c31
  · skip
    exact absurd hq.2.1 (by simp only [List.length_cons]; omega)
