/-! Arrays and new cells. -/
def ix_ok (x : Int32) (n i : Nat) : Prop := vp_in x n ∧ x.toNatClampNeg = i
theorem ix_nI {i n : Nat} (h : i < n) (hn : n < 2 ^ 31) : ix_ok (nI i) n i := ⟨vp_in_nI h hn, nI_clamp (by omega)⟩
theorem ix_lt {x : Int32} {n i : Nat} (h : ix_ok x n i) : i < n := h.2 ▸ Nat.not_le.mp fun q => h.1 (Or.inr q)
def st_ok (t ci : Nat) : Prop := ∃ (E : String) (r : vw_C), lp_AT[t]? = some (.object E) ∧ lp_CL[ci]? = some r ∧ (r.1 = E ∨ Cond.castable r.1 E ∈ lp_NW)
def nw_ok (own : String) (idx ci N : Nat) : Prop := ∃ r : vw_C, lp_CL[ci]? = some r ∧ r.2.2 = N ∧ Cond.classLink own idx r.1 ∈ lp_BW ∧ Cond.instantiable r.1 r.2.2 ∈ lp_BW ∧ Cond.initialized r.1 ∈ lp_BW
theorem ha_lt (b : Nat × Nat) {k : Nat} (h : 0 < k) : b.1 < ha_a b k := by rw [ha_p b h]; omega
theorem hp_P.sz {b : Nat × Nat} {D : va_G} {cA : Nat → ClassId} {h : ha_H} {H : Heap} (hP : hp_P b D cA h H) : H.size = ha_a b (hp_n h) := by rw [ha_p b hP.2.1]; exact hP.1
section RA
variable {G : mt_G} {X : mt_X} {z : Nat × Nat × Nat} {rc rs rc' rs' pc : Nat} {L L' : List (Option ha_V)} {st : List ha_V} {h : ha_H} {post : Option ha_V → ha_H → Prop}
theorem rw_iald {a n i : Nat} {x v : Int32} (hd : decode X.2.1 pc = .ok (.iaload, 1)) (ha : hp_ok h a) (hs : hp_S h a = .inl (0, n)) (hx : ix_ok x n i) (hv : hp_I h a i = v) (k : rn_W G X z rc rs (pc + 1) L (.inl v :: st) h post) : rn_W G X z rc rs pc L (.inl x :: .inr (some a) :: st) h post := by
  intro b D cA p e s m args below meth c F H locs ls cells slots hP hS hL hc hs'
  refine W.iald (v := .int v) F.1 F.2.1 (hp_arr hP ha hs) (F.K.arr (t := 0) lp_AT0 n _) (fun q => by cases q) (by rw [arrV_size]; exact hx.1) ?_ rfl rfl hd (k _ _ _ _ _ _ _ _ _ _ _ F _ _ _ _ _ hP hS hL hc hs')
  rw [hx.2, arrV_read _ _ (ix_lt hx)]
  unfold hp_F
  rw [if_pos (by decide), hv]
theorem rw_zald {a n i : Nat} {x v : Int32} (hd : decode X.2.1 pc = .ok (.baload, 1)) (ha : hp_ok h a) (hs : hp_S h a = .inl (1, n)) (hx : ix_ok x n i) (hv : hp_I h a i = v) (k : rn_W G X z rc rs (pc + 1) L (.inl v :: st) h post) : rn_W G X z rc rs pc L (.inl x :: .inr (some a) :: st) h post := by
  intro b D cA p e s m args below meth c F H locs ls cells slots hP hS hL hc hs'
  refine W.zald (v := .int v) F.1 F.2.1 (hp_arr hP ha hs) (F.K.arr (t := 1) lp_AT1 n _) (fun q => by cases q) (by rw [arrV_size]; exact hx.1) ?_ rfl rfl hd (k _ _ _ _ _ _ _ _ _ _ _ F _ _ _ _ _ hP hS hL hc hs')
  rw [hx.2, arrV_read _ _ (ix_lt hx)]
  unfold hp_F
  rw [if_pos (by decide), hv]
theorem rw_aald {a t n i : Nat} {x : Int32} {v : Option Nat} {ty : FieldType} (ht : lp_AT[t]? = some ty) (hr : ty.isReference = true ∧ ¬ t < 2) (hd : decode X.2.1 pc = .ok (.aaload, 1)) (ha : hp_ok h a) (hs : hp_S h a = .inl (t, n)) (hx : ix_ok x n i) (hv : hp_R h a i = v) (k : rn_W G X z rc rs (pc + 1) L (.inr v :: st) h post) : rn_W G X z rc rs pc L (.inl x :: .inr (some a) :: st) h post := by
  intro b D cA p e s m args below meth c F H locs ls cells slots hP hS hL hc hs'
  refine W.aald (v := ha_v b (.inr v)) F.1 F.2.1 (hp_arr hP ha hs) (F.K.arr ht n _) hr.1 (fun q => by cases q) (by rw [arrV_size]; exact hx.1) ?_ rfl rfl hd (k _ _ _ _ _ _ _ _ _ _ _ F _ _ _ _ _ hP hS hL hc hs')
  rw [hx.2, arrV_read _ _ (ix_lt hx)]
  unfold hp_F
  rw [if_neg hr.2, hv]
theorem rw_alen {a t n : Nat} {x : Int32} {ty : FieldType} (ht : lp_AT[t]? = some ty) (hd : decode X.2.1 pc = .ok (.arraylength, 1)) (ha : hp_ok h a) (hs : hp_S h a = .inl (t, n)) (hx : nI n = x) (k : rn_W G X z rc rs (pc + 1) L (.inl x :: st) h post) : rn_W G X z rc rs pc L (.inr (some a) :: st) h post := by
  intro b D cA p e s m args below meth c F H locs ls cells slots hP hS hL hc hs'
  exact W.alen (n := x) F.1 F.2.1 (hp_arr hP ha hs) (F.K.arr ht n _) (by rw [arrV_size]; exact hx) rfl rfl hd (k _ _ _ _ _ _ _ _ _ _ _ F _ _ _ _ _ hP hS hL hc hs')
theorem hp_F_sI {b : Nat × Nat} {t : Nat} {h : ha_H} {a k : Nat} {x : Int32} (ht : t < 2) : updV (hp_F b t h a) k (.int x) = hp_F b t (hp_sI h a k x) a := by
  funext j
  unfold updV hp_F
  rw [hp_I_sI, if_pos ht, if_pos ht]
  by_cases e : j = k
  · simp [e]
  · simp [e]
theorem hp_F_sR {b : Nat × Nat} {t : Nat} {h : ha_H} {a k : Nat} {x : Option Nat} (ht : ¬ t < 2) : updV (hp_F b t h a) k (ha_v b (.inr x)) = hp_F b t (hp_sR h a k x) a := by
  funext j
  unfold updV hp_F
  rw [hp_R_sR, if_neg ht, if_neg ht]
  by_cases e : j = k
  · simp [e]
  · simp [e]
theorem rw_iast {a n i : Nat} {x v : Int32} (hd : decode X.2.1 pc = .ok (.iastore, 1)) (ha : hp_ok h a) (hs : hp_S h a = .inl (0, n)) (hx : ix_ok x n i) (k : rn_W G X z rc rs (pc + 1) L st (hp_sI h a i v) post) : rn_W G X z rc rs pc L (.inl v :: .inl x :: .inr (some a) :: st) h post := by
  intro b D cA p e s m args below meth c F H locs ls cells slots hP hS hL hc hs'
  refine W.iast (x := v) F.1 F.2.1 (hp_arr hP ha hs) (F.K.arr (t := 0) lp_AT0 n _) (fun q => by cases q) (by rw [arrV_size]; exact hx.1) rfl rfl hd (fun H' e1 e2 e3 => k _ _ _ _ _ _ _ _ _ _ _ F _ _ _ _ _ (hP.set ha e2 e3 ?_ rfl hp_I_ne (fun _ _ _ => rfl) (fun _ => rfl)) (hS.put e2 e3 (ha_lt b ha.1)) hL hc hs')
  unfold hp_at
  rw [hp_S_sI, hs]
  show H'[ha_a b a]? = some (arrV (cA 0) n (hp_F b 0 (hp_sI h a i v) a))
  rw [e1, hx.2, arrV_store, hp_F_sI (by decide)]
theorem rw_zast {a n i : Nat} {x v : Int32} (hv : v = 0 ∨ v = 1) (hd : decode X.2.1 pc = .ok (.bastore, 1)) (ha : hp_ok h a) (hs : hp_S h a = .inl (1, n)) (hx : ix_ok x n i) (k : rn_W G X z rc rs (pc + 1) L st (hp_sI h a i v) post) : rn_W G X z rc rs pc L (.inl v :: .inl x :: .inr (some a) :: st) h post := by
  intro b D cA p e s m args below meth c F H locs ls cells slots hP hS hL hc hs'
  have hnar : narrow .boolean (.int v) = .int v := by rcases hv with rfl | rfl <;> rfl
  refine W.zast (x := v) F.1 F.2.1 (hp_arr hP ha hs) (F.K.arr (t := 1) lp_AT1 n _) (fun q => by cases q) (by rw [arrV_size]; exact hx.1) rfl rfl hd (fun H' e1 e2 e3 => k _ _ _ _ _ _ _ _ _ _ _ F _ _ _ _ _ (hP.set ha e2 e3 ?_ rfl hp_I_ne (fun _ _ _ => rfl) (fun _ => rfl)) (hS.put e2 e3 (ha_lt b ha.1)) hL hc hs')
  unfold hp_at
  rw [hp_S_sI, hs]
  show H'[ha_a b a]? = some (arrV (cA 1) n (hp_F b 1 (hp_sI h a i v) a))
  rw [e1, hx.2, hnar, arrV_store, hp_F_sI (by decide)]
theorem rw_aastN {a t n i : Nat} {x : Int32} {C : String} (ht : lp_AT[t]? = some (.object C)) (h2 : ¬ t < 2) (hd : decode X.2.1 pc = .ok (.aastore, 1)) (ha : hp_ok h a) (hs : hp_S h a = .inl (t, n)) (hx : ix_ok x n i) (k : rn_W G X z rc rs (pc + 1) L st (hp_sR h a i none) post) : rn_W G X z rc rs pc L (.inr none :: .inl x :: .inr (some a) :: st) h post := by
  intro b D cA p e s m args below meth c F H locs ls cells slots hP hS hL hc hs'
  refine va_WaastN (C := C) F.1 F.2.1 (hp_arr hP ha hs) (F.K.arr ht n _) (fun q => by cases q) (by rw [arrV_size]; exact hx.1) rfl rfl hd (fun H' e1 e2 e3 => k _ _ _ _ _ _ _ _ _ _ _ F _ _ _ _ _ (hP.set ha e2 e3 ?_ rfl (fun _ _ _ => rfl) hp_R_ne (fun _ => rfl)) (hS.put e2 e3 (ha_lt b ha.1)) hL hc hs')
  unfold hp_at
  rw [hp_S_sR, hs]
  show H'[ha_a b a]? = some (arrV (cA t) n (hp_F b t (hp_sR h a i none) a))
  rw [e1, hx.2, arrV_store, ← hp_F_sR h2]
  rfl
theorem rw_aast {a t n i w ci : Nat} {x : Int32} (hst : st_ok t ci) (h2 : ¬ t < 2) (hd : decode X.2.1 pc = .ok (.aastore, 1)) (ha : hp_ok h a) (hs : hp_S h a = .inl (t, n)) (hx : ix_ok x n i) (hw : hp_ok h w) (hws : hp_S h w = .inr ci) (k : rn_W G X z rc rs (pc + 1) L st (hp_sR h a i (some w)) post) : rn_W G X z rc rs pc L (.inr (some w) :: .inl x :: .inr (some a) :: st) h post := by
  intro b D cA p e s m args below meth c F H locs ls cells slots hP hS hL hc hs'
  obtain ⟨E, r, ht, hcl, hcast⟩ := hst
  obtain ⟨cell, q1, q2, q3, q4⟩ := hp_obj hP hw hws hcl
  obtain ⟨hfc, kC, hkC, -⟩ := (F.K.1.1 ci r hcl).2
  obtain ⟨kA, comp, k1, k2, k3, -⟩ := F.K.ra ht
  obtain ⟨kE, hkE, -⟩ := Vm.findClass_spec k3
  have hasg : s.vm.assignable (D.1 ci) comp = true := by
    rcases hcast with rfl | hcast
    · cases hfc.symm.trans k3
      exact va_asg _ _
    · obtain ⟨c0, t0, f1, f2, f3⟩ := Cond.castable_spec (F.nw rfl hcast)
      cases hfc.symm.trans f1
      cases k3.symm.trans f2
      exact f3
  refine W.aast (v := ha_a b w) F.1 F.2.1 (hp_arr hP ha hs) (fun q h => by cases h) (fun h => by cases h) k1 k2 rfl hkE ⟨fun q => hx.1 (Or.inl q), by rw [arrV_size, hx.2]; exact ix_lt hx⟩ q1 (fun q h => by rw [q3] at h; cases h) (by rw [q2]; exact hkC) (by rw [q2]; exact hasg) rfl rfl hd (fun H' e1 e2 e3 => k _ _ _ _ _ _ _ _ _ _ _ F _ _ _ _ _ (hP.set ha e2 e3 ?_ rfl (fun _ _ _ => rfl) hp_R_ne (fun _ => rfl)) (hS.put e2 e3 (ha_lt b ha.1)) hL hc hs')
  unfold hp_at
  rw [hp_S_sR, hs]
  show H'[ha_a b a]? = some (arrV (cA t) n (hp_F b t (hp_sR h a i (some w)) a))
  rw [e1, hx.2, arrV_store, ← hp_F_sR h2]
  rfl
theorem va_S.up {A : Nat → Prop} {H0 H H1 : Heap} {locs : List Loc} (hS : va_S A H0 H locs) (z : H1.size = H.size + 1) (o : ∀ q, q < H.size → H1[q]? = H[q]?) : va_S A H0 H1 locs := ⟨by have := hS.1; omega, fun q h1 h2 => (o q (Nat.lt_of_lt_of_le h1 hS.1)).trans (hS.2.1 q h1 h2), hS.2.2⟩
theorem rw_new {idx ci N : Nat} (hl : nw_ok X.1.cls idx ci N) (hd : decode X.2.1 pc = .ok (.new idx, 3)) (hrc : rc' + 1 = rc) (hrs : rs' + N = rs) (k : rn_W G X z rc' rs' (pc + 3) L (.inr (some (hp_n h)) :: st) (hp_new h (.inr ci)) post) : rn_W G X z rc rs pc L st h post := by
  intro b D cA p e s m args below meth c F H locs ls cells slots hP hS hL hc hs'
  obtain ⟨r, hcl, rfl, hlk, hinst, hini⟩ := hl
  have hKn := F.K.1.1 ci r hcl
  obtain ⟨ty, hty, hdf⟩ := lp_ty ci r hcl
  refine W.newcK F.1 F.2.1 F.own (F.bw _ hlk) (F.bw _ hinst) (F.bw _ hini) rfl hd (show cells + 1 ≤ z.2.1 by omega) (show slots + r.2.2 ≤ z.2.2 by omega) hKn.2.1 hP.sz fun H1 kC hkC e1 z1 o1 => ?_
  rw [← hP.sz] at z1 o1
  refine k _ _ _ _ _ _ _ _ _ _ _ F _ _ _ _ _ (hP.push z1 o1 ?_) (hS.up z1 o1) hL (by omega) (by omega)
  unfold hp_at
  rw [hp_S_new, if_pos rfl]
  refine ⟨r, hcl, (u_born ty F.bw (lp_in ci r hcl) hKn hkC e1 hty).to (fun j hj => ?_)⟩
  rw [hdf j hj]
  unfold hp_V
  rw [hp_I_new, hp_R_new, if_pos rfl, if_pos rfl]
  rfl
theorem rw_newa {at' : ArrayType} {t N : Nat} {x : Int32} (ht : lp_AT[t]? = some (newarray.typeOf at')) (h2 : t < 2) (hw : Cond.arrayClass (newarray.typeOf at') ∈ lp_BW) (hdv : defaultValue (newarray.typeOf at') = .int 0) (hra : ∀ U cA, va_RA U cA (newarray.typeOf at') → U.vm.findClass ("[" ++ (newarray.typeOf at').toString) = some cA) (hd : decode X.2.1 pc = .ok (.newarray at', 2)) (hx : ¬ x < 0) (hN : x.toNatClampNeg = N) (hB : N * componentBytes (newarray.typeOf at') ≤ 536870912) (hrc : rc' + 1 = rc) (hrs : rs' + N = rs)
    (k : rn_W G X z rc' rs' (pc + 2) L (.inr (some (hp_n h)) :: st) (hp_new h (.inl (t, N))) post) : rn_W G X z rc rs pc L (.inl x :: st) h post := by
  intro b D cA p e s m args below meth c F H locs ls cells slots hP hS hL hc hs'
  refine va_newaK F.1 F.2.1 (F.bw _ hw) rfl hd rfl hx hN hB (show cells + 1 ≤ z.2.1 by omega) (show slots + N ≤ z.2.2 by omega) hP.sz fun H1 cA' e1 z1 o1 hAr hNm => ?_
  rw [← hP.sz] at z1 o1
  cases (hra s (cA t) (F.K.ra ht)).symm.trans hNm
  refine k _ _ _ _ _ _ _ _ _ _ _ F _ _ _ _ _ (hP.push z1 o1 ?_) (hS.up z1 o1) hL (by omega) (by omega)
  unfold hp_at
  rw [hp_S_new, if_pos rfl]
  show H1[ha_a b (hp_n h)]? = some (arrV (cA t) N (hp_F b t _ (hp_n h)))
  rw [e1]
  congr 2
  funext j
  unfold hp_F
  rw [hdv, if_pos h2, hp_I_new, if_pos rfl]
theorem rw_newq {idx t N : Nat} {C : String} {x : Int32} (ht : lp_AT[t]? = some (.object C)) (h2 : ¬ t < 2) (hlk : Cond.classLink X.1.cls idx C ∈ lp_BW) (hov : FieldType.object C ∈ lp_AO) (hd : decode X.2.1 pc = .ok (.anewarray idx, 3)) (hx : ¬ x < 0) (hN : x.toNatClampNeg = N) (hB : N * 4 ≤ 536870912) (hrc : rc' + 1 = rc) (hrs : rs' + N = rs)
    (k : rn_W G X z rc' rs' (pc + 3) L (.inr (some (hp_n h)) :: st) (hp_new h (.inl (t, N))) post) : rn_W G X z rc rs pc L (.inl x :: st) h post := by
  intro b D cA p e s m args below meth c F H locs ls cells slots hP hS hL hc hs'
  subst hN
  refine W.anew F.1 F.2.1 F.own (F.bw _ hlk) (F.K.2.2.1 _ hov) rfl hd rfl hx hB (show cells + 1 ≤ z.2.1 by omega) (show slots + _ ≤ z.2.2 by omega) fun cA' kA comp f1 f2 f3 f4 => ?_
  obtain ⟨kA2, comp2, k1, k2, k3, k4⟩ := F.K.ra ht
  cases k4.symm.trans f1
  have e0 : H.size = ha_a b (hp_n h) := hP.sz
  generalize hH1 : H.push ({ cls := cA t, slots := Array.replicate x.toNatClampNeg .null, vm := .none } : Cell) = H1
  have z1 : H1.size = H.size + 1 := by rw [← hH1, Array.size_push]
  have e1 : H1[ha_a b (hp_n h)]? = some (arrV (cA t) x.toNatClampNeg (fun _ => .null)) := by rw [← hH1, ← e0, Array.getElem?_push_size, ← arrV_new]
  have o1 : ∀ q : Nat, q < H.size → H1[q]? = H[q]? := fun q hq => by rw [← hH1, Array.getElem?_push, if_neg (Nat.ne_of_lt hq)]
  have hfin := k b D cA p e s m args below meth c F H1 locs ls (cells + 1) (slots + x.toNatClampNeg) (hP.push z1 o1 (by
    unfold hp_at
    rw [hp_S_new, if_pos rfl]
    show H1[ha_a b (hp_n h)]? = some (arrV (cA t) x.toNatClampNeg (hp_F b t _ (hp_n h)))
    rw [e1]
    congr 2
    funext j
    unfold hp_F
    rw [if_neg h2, hp_R_new, if_pos rfl]
    rfl)) (hS.up z1 o1) hL (by omega) (by omega)
  rw [show (List.map (ha_v b) (.inr (some (hp_n h)) :: st)) = Value.ref H.size :: List.map (ha_v b) st by rw [e0]; rfl] at hfin
  exact hfin
end RA
