/-! The picture of the heap: every cell made since the law began stands at base + its number. Ints and booleans in one
table, references in another, shapes (array of a kind and its length, or object of a class) in a third. -/
abbrev ha_V : Type := Int32 ⊕ Option Nat
/-- where the cell of number k stands: 0 is the law's script (an old cell), the others were made since, one behind another -/
def ha_a (b : Nat × Nat) (k : Nat) : Nat := if k = 0 then b.2 else b.1 + k
theorem ha_p (b : Nat × Nat) {k : Nat} (h : 0 < k) : ha_a b k = b.1 + k := if_neg (by omega)
theorem ha_0 (b : Nat × Nat) : ha_a b 0 = b.2 := rfl
def ha_v (b : Nat × Nat) : ha_V → Value
  | .inl x => .int x
  | .inr r => va_rf (r.map (ha_a b))
theorem ha_cat (b : Nat × Nat) (v : ha_V) : (ha_v b v).category = 1 := by
  rcases v with x | r
  · rfl
  · cases r <;> rfl
theorem ha_catS (b : Nat × Nat) (st : List ha_V) : ((st.map (ha_v b)).map fun v => v.category).sum = st.length := by
  induction st with
  | nil => rfl
  | cons v st ih => simp only [List.map_cons, List.sum_cons, ih, ha_cat, List.length_cons]; omega
abbrev ha_H : Type := (Nat → Nat → Int32) × (Nat → Nat → Option Nat) × (Nat → (Nat × Nat) ⊕ Nat) × Nat
def hp_I (h : ha_H) (a k : Nat) : Int32 := h.1 a k
def hp_R (h : ha_H) (a k : Nat) : Option Nat := h.2.1 a k
def hp_S (h : ha_H) (a : Nat) : (Nat × Nat) ⊕ Nat := h.2.2.1 a
def hp_n (h : ha_H) : Nat := h.2.2.2
def hp_u {α : Type} (f : Nat → Nat → α) (a k : Nat) (v : α) : Nat → Nat → α := fun x y => if x = a ∧ y = k then v else f x y
def hp_sI (h : ha_H) (a k : Nat) (v : Int32) : ha_H := (hp_u h.1 a k v, h.2.1, h.2.2.1, h.2.2.2)
def hp_sR (h : ha_H) (a k : Nat) (v : Option Nat) : ha_H := (h.1, hp_u h.2.1 a k v, h.2.2.1, h.2.2.2)
def hp_new (h : ha_H) (sh : (Nat × Nat) ⊕ Nat) : ha_H := (fun x y => if x = h.2.2.2 then 0 else h.1 x y, fun x y => if x = h.2.2.2 then none else h.2.1 x y, fun x => if x = h.2.2.2 then sh else h.2.2.1 x, h.2.2.2 + 1)
theorem hp_I_sI (h : ha_H) (a k x y : Nat) (v : Int32) : hp_I (hp_sI h a k v) x y = if x = a ∧ y = k then v else hp_I h x y := rfl
theorem hp_R_sI (h : ha_H) (a k x y : Nat) (v : Int32) : hp_R (hp_sI h a k v) x y = hp_R h x y := rfl
theorem hp_S_sI (h : ha_H) (a k x : Nat) (v : Int32) : hp_S (hp_sI h a k v) x = hp_S h x := rfl
theorem hp_n_sI (h : ha_H) (a k : Nat) (v : Int32) : hp_n (hp_sI h a k v) = hp_n h := rfl
theorem hp_R_sR (h : ha_H) (a k x y : Nat) (v : Option Nat) : hp_R (hp_sR h a k v) x y = if x = a ∧ y = k then v else hp_R h x y := rfl
theorem hp_I_sR (h : ha_H) (a k x y : Nat) (v : Option Nat) : hp_I (hp_sR h a k v) x y = hp_I h x y := rfl
theorem hp_S_sR (h : ha_H) (a k x : Nat) (v : Option Nat) : hp_S (hp_sR h a k v) x = hp_S h x := rfl
theorem hp_n_sR (h : ha_H) (a k : Nat) (v : Option Nat) : hp_n (hp_sR h a k v) = hp_n h := rfl
theorem hp_I_new (h : ha_H) (sh : (Nat × Nat) ⊕ Nat) (x y : Nat) : hp_I (hp_new h sh) x y = if x = hp_n h then 0 else hp_I h x y := rfl
theorem hp_R_new (h : ha_H) (sh : (Nat × Nat) ⊕ Nat) (x y : Nat) : hp_R (hp_new h sh) x y = if x = hp_n h then none else hp_R h x y := rfl
theorem hp_S_new (h : ha_H) (sh : (Nat × Nat) ⊕ Nat) (x : Nat) : hp_S (hp_new h sh) x = if x = hp_n h then sh else hp_S h x := rfl
theorem hp_n_new (h : ha_H) (sh : (Nat × Nat) ⊕ Nat) : hp_n (hp_new h sh) = hp_n h + 1 := rfl
/-- a field holds a reference -/
def hp_isR (T : u_T) (j : Nat) : Bool := !((T j).2.2.1 == "I" || (T j).2.2.1 == "Z")
def hp_V (b : Nat × Nat) (T : u_T) (h : ha_H) (a : Nat) : Nat → Value := fun j => if hp_isR T j = true then ha_v b (.inr (hp_R h a j)) else .int (hp_I h a j)
/-- what an array of kind t holds (kinds 0, 1: ints, booleans; from 2 on: references) -/
def hp_F (b : Nat × Nat) (t : Nat) (h : ha_H) (a : Nat) : Nat → Value := fun j => if t < 2 then .int (hp_I h a j) else ha_v b (.inr (hp_R h a j))
def hp_at (b : Nat × Nat) (D : va_G) (cA : Nat → ClassId) (h : ha_H) (k : Nat) (H : Heap) : Prop := match hp_S h k with
  | .inl q => H[ha_a b k]? = some (arrV (cA q.1) q.2 (hp_F b q.1 h k))
  | .inr ci => ∃ r : vw_C, lp_CL[ci]? = some r ∧ t_OB (ha_a b k) (D.1 ci) r.2.2 (D.2 ci) H (hp_V b r.2.1 h k)
def hp_ok (h : ha_H) (a : Nat) : Prop := 0 < a ∧ a < hp_n h
def hp_P (b : Nat × Nat) (D : va_G) (cA : Nat → ClassId) (h : ha_H) (H : Heap) : Prop := H.size = b.1 + hp_n h ∧ 0 < hp_n h ∧ ∀ k, hp_ok h k → hp_at b D cA h k H
theorem hp_at.kept {b : Nat × Nat} {D : va_G} {cA : Nat → ClassId} {h h' : ha_H} {k : Nat} {H H' : Heap} (hk : hp_at b D cA h k H) (hq : H'[ha_a b k]? = H[ha_a b k]?) (hI : ∀ j, hp_I h' k j = hp_I h k j) (hR : ∀ j, hp_R h' k j = hp_R h k j) (hS : hp_S h' k = hp_S h k) : hp_at b D cA h' k H' := by
  unfold hp_at at hk ⊢
  rw [hS]
  have e1 : ∀ T, hp_V b T h' k = hp_V b T h k := fun T => funext fun j => by unfold hp_V; rw [hI, hR]
  have e2 : ∀ t, hp_F b t h' k = hp_F b t h k := fun t => funext fun j => by unfold hp_F; rw [hI, hR]
  cases hs : hp_S h k with
  | inl q =>
    rw [hs] at hk
    dsimp only at hk ⊢
    rw [e2, hq]
    exact hk
  | inr ci =>
    rw [hs] at hk
    obtain ⟨r, h1, h2⟩ := hk
    refine ⟨r, h1, ?_⟩
    rw [e1]
    exact h2.kept hq
theorem hp_P.set {b : Nat × Nat} {D : va_G} {cA : Nat → ClassId} {h h' : ha_H} {a : Nat} {H H' : Heap} (hP : hp_P b D cA h H) (h0 : hp_ok h a) (z : H'.size = H.size) (oq : ∀ q : Nat, q ≠ ha_a b a → H'[q]? = H[q]?) (ha : hp_at b D cA h' a H') (hn : hp_n h' = hp_n h) (hI : ∀ k, k ≠ a → ∀ j, hp_I h' k j = hp_I h k j) (hR : ∀ k, k ≠ a → ∀ j, hp_R h' k j = hp_R h k j) (hS : ∀ k, hp_S h' k = hp_S h k) : hp_P b D cA h' H' := by
  refine ⟨by rw [z, hn]; exact hP.1, by rw [hn]; exact hP.2.1, fun k hk => ?_⟩
  unfold hp_ok at hk
  rw [hn] at hk
  by_cases e : k = a
  · subst e
    exact ha
  · exact (hP.2.2 k hk).kept (oq _ (by rw [ha_p b hk.1, ha_p b h0.1]; omega)) (hI k e) (hR k e) (hS k)
theorem hp_P.grow {b : Nat × Nat} {D : va_G} {cA : Nat → ClassId} {h h' : ha_H} {H H' : Heap} (hP : hp_P b D cA h H) (z : H'.size = H.size + 1) (oq : ∀ q : Nat, q < H.size → H'[q]? = H[q]?) (hn : hp_n h' = hp_n h + 1) (ha : hp_at b D cA h' (hp_n h) H') (hI : ∀ k, k < hp_n h → ∀ j, hp_I h' k j = hp_I h k j) (hR : ∀ k, k < hp_n h → ∀ j, hp_R h' k j = hp_R h k j) (hS : ∀ k, k < hp_n h → hp_S h' k = hp_S h k) : hp_P b D cA h' H' := by
  refine ⟨by rw [z, hn, hP.1]; omega, by omega, fun k hk => ?_⟩
  unfold hp_ok at hk
  rw [hn] at hk
  by_cases e : k = hp_n h
  · subst e
    exact ha
  · have hk' : k < hp_n h := by omega
    exact (hP.2.2 k ⟨hk.1, hk'⟩).kept (oq _ (by rw [hP.1, ha_p b hk.1]; omega)) (hI k hk') (hR k hk') (hS k hk')
theorem hp_P.push {b : Nat × Nat} {D : va_G} {cA : Nat → ClassId} {h : ha_H} {H H' : Heap} {sh : (Nat × Nat) ⊕ Nat} (hP : hp_P b D cA h H) (z : H'.size = H.size + 1) (oq : ∀ q : Nat, q < H.size → H'[q]? = H[q]?) (ha : hp_at b D cA (hp_new h sh) (hp_n h) H') : hp_P b D cA (hp_new h sh) H' :=
  hP.grow z oq rfl ha (fun k hk j => by rw [hp_I_new, if_neg (by omega)]) (fun k hk j => by rw [hp_R_new, if_neg (by omega)]) (fun k hk => by rw [hp_S_new, if_neg (by omega)])
/-- what the tables say: classes, array kinds, nest words -/
def hp_ty (cA : Nat → ClassId) : List (ClassId × FieldType) := lp_AT.mapIdx (fun t ty => (cA t, ty))
def hp_K (D : va_G) (cA : Nat → ClassId) (U : State) : Prop := va_K D lp_CL (hp_ty cA) U ∧ (∀ w ∈ lp_NW, va_Nw w U) ∧ (∀ t ∈ lp_AO, (Cond.arrayOver t).before #[] U = true) ∧ ∀ q ∈ lp_NC, va_Nc q.1 q.2 U
theorem hp_tyAt {cA : Nat → ClassId} {t : Nat} {ty : FieldType} (h : lp_AT[t]? = some ty) : (hp_ty cA)[t]? = some (cA t, ty) := by
  unfold hp_ty
  rw [List.getElem?_mapIdx, h]
  rfl
theorem hp_K.arr {D : va_G} {cA : Nat → ClassId} {U : State} (hK : hp_K D cA U) {t : Nat} {ty : FieldType} (h : lp_AT[t]? = some ty) : ArrOfT U (cA t) ty := (hK.1.2 t _ (hp_tyAt h)).1
theorem hp_K.ra {D : va_G} {cA : Nat → ClassId} {U : State} (hK : hp_K D cA U) {t : Nat} {ty : FieldType} (h : lp_AT[t]? = some ty) : va_RA U (cA t) ty := (hK.1.2 t _ (hp_tyAt h)).2
/-- the locals -/
def lo_L (b : Nat × Nat) (L : List (Option ha_V)) (ls : Array Slot) (nL : Nat) : Prop := ls.size = nL ∧ lv_wf ls ∧ ∀ (i : Nat) (v : ha_V), L[i]? = some (some v) → ls[i]? = some (.val (ha_v b v))
def lo_ps (b : Nat × Nat) (L : List (Option ha_V)) : List (Nat × Value) := (List.range L.length).filterMap (fun i => (L[i]?.join).map (fun v => (i, ha_v b v)))
theorem lo_in {b : Nat × Nat} {L : List (Option ha_V)} {i : Nat} {v : ha_V} (h : L[i]? = some (some v)) : (i, ha_v b v) ∈ lo_ps b L := by
  have hi : i < L.length := (List.getElem?_eq_some_iff.mp h).1
  refine List.mem_filterMap.mpr ⟨i, List.mem_range.mpr hi, ?_⟩
  rw [h]
  rfl
theorem lo_has {b : Nat × Nat} {L : List (Option ha_V)} {ls : Array Slot} {nL : Nat} (h : lo_L b L ls nL) : lv_has ls nL (lo_ps b L) := by
  refine ⟨h.1, h.2.1, fun q hq => ?_⟩
  obtain ⟨i, -, hi⟩ := List.mem_filterMap.mp hq
  cases hx : L[i]? with
  | none => rw [hx] at hi; cases hi
  | some o =>
    cases o with
    | none => rw [hx] at hi; cases hi
    | some v =>
      rw [hx] at hi
      cases hi
      exact h.2.2 i v hx
/-- a value is stored in a local -/
theorem lo_set {b : Nat × Nat} {L : List (Option ha_V)} {ls' : Array Slot} {nL i : Nat} {v : ha_V} (h : lv_has ls' nL ((i, ha_v b v) :: (lo_ps b L).filter (fun q => !(q.1 == i) && !(q.1 + 1 == i && q.2.category == 2)))) : lo_L b (L.set i (some v)) ls' nL := by
  refine ⟨h.1, h.2.1, fun j w hj => ?_⟩
  by_cases e : j = i
  · subst e
    have hl : j < L.length := by
      have := (List.getElem?_eq_some_iff.mp hj).1
      simpa using this
    rw [List.getElem?_set_self hl] at hj
    cases hj
    exact h.2.2 (j, ha_v b v) List.mem_cons_self
  · rw [List.getElem?_set_ne (Ne.symm e)] at hj
    refine h.2.2 (j, ha_v b w) (List.mem_cons_of_mem _ (List.mem_filter.mpr ⟨lo_in hj, ?_⟩))
    simp [e, ha_cat]
theorem lo_args (b : Nat × Nat) : ∀ (av : List ha_V) (n i : Nat) (v : ha_V), av[i]? = some v → (n + i, ha_v b v) ∈ lv_args n (av.map (ha_v b))
  | [], n, i, v, h => by simp at h
  | w :: av, n, i, v, h => by
    rw [List.map_cons, lv_args]
    rw [if_neg (by rw [ha_cat]; omega)]
    cases i with
    | zero =>
      rw [List.getElem?_cons_zero] at h
      cases h
      exact List.mem_cons_self
    | succ i =>
      rw [List.getElem?_cons_succ] at h
      have := lo_args b av (n + 1) i v h
      rw [show n + 1 + i = n + (i + 1) by omega] at this
      exact List.mem_cons_of_mem _ this
def lo_0 (av : List ha_V) (n : Nat) : List (Option ha_V) := av.map some ++ List.replicate (n - av.length) none
theorem lo_slen (b : Nat × Nat) (av : List ha_V) : (lg_sl (av.map (ha_v b))).length = av.length := by
  induction av with
  | nil => rfl
  | cons w av ih =>
    unfold lg_sl at ih ⊢
    rw [List.map_cons, List.flatMap_cons, if_neg (by rw [ha_cat]; omega), List.length_append, ih]
    simp only [List.length_cons, List.length_nil]
    omega
theorem lo_entry (b : Nat × Nat) (av : List ha_V) {n : Nat} (h : av.length ≤ n) : lo_L b (lo_0 av n) ((lg_sl (av.map (ha_v b)) ++ List.replicate (n - (lg_sl (av.map (ha_v b))).length) Slot.unset).toArray) n := by
  obtain ⟨h1, h2, h3⟩ := lv_entry (av.map (ha_v b)) (n := n) (by rw [lo_slen]; exact h)
  refine ⟨h1, h2, fun i v hi => ?_⟩
  unfold lo_0 at hi
  by_cases hl : i < av.length
  · rw [List.getElem?_append_left (by rw [List.length_map]; exact hl), List.getElem?_map] at hi
    cases hx : av[i]? with
    | none => rw [hx] at hi; cases hi
    | some w =>
      rw [hx] at hi
      cases hi
      have := h3 _ (lo_args b av 0 i v hx)
      rw [Nat.zero_add] at this
      exact this
  · rw [List.getElem?_append_right (by rw [List.length_map]; omega)] at hi
    have := List.eq_of_mem_replicate (List.mem_of_getElem? hi)
    cases this
/-- a class's field types, and what a new object's fields hold -/
theorem lp_ty : ∀ (ci : Nat) (r : vw_C), lp_CL[ci]? = some r → ∃ ty : Nat → FieldType, (∀ k, k < r.2.2 → parseFieldDescriptor (r.2.1 k).2.2.1 = some (ty k)) ∧ ∀ k, k < r.2.2 → defaultValue (ty k) = if hp_isR r.2.1 k = true then .null else .int 0 :=
  lp_cls (P := fun _ r => ∃ ty : Nat → FieldType, (∀ k, k < r.2.2 → parseFieldDescriptor (r.2.1 k).2.2.1 = some (ty k)) ∧ ∀ k, k < r.2.2 → defaultValue (ty k) = if hp_isR r.2.1 k = true then .null else .int 0) ⟨lp_y0, lp_ty0, by decide +kernel⟩ ⟨lp_y1, lp_ty1, by decide +kernel⟩ ⟨lp_y2, lp_ty2, by decide +kernel⟩ ⟨lp_y3, lp_ty3, by decide +kernel⟩ ⟨lp_y4, lp_ty4, by decide +kernel⟩ ⟨lp_y5, lp_ty5, by decide +kernel⟩ ⟨lp_y6, lp_ty6, by decide +kernel⟩ ⟨lp_y7, lp_ty7, by decide +kernel⟩ ⟨lp_y8, lp_ty8, by decide +kernel⟩ ⟨lp_y9, lp_ty9, by decide +kernel⟩ ⟨lp_y10, lp_ty10, by decide +kernel⟩
