/-! Object.<init>, Math.max and Math.min, instanceof and casts, clone of an int array, System.arraycopy of ints. -/
/-- the heap with a copy of the int array a -/
def hp_cl (h : ha_H) (a : Nat) : ha_H := (fun x y => if x = h.2.2.2 then h.1 a y else h.1 x y, h.2.1, fun x => if x = h.2.2.2 then h.2.2.1 a else h.2.2.1 x, h.2.2.2 + 1)
theorem hp_I_cl (h : ha_H) (a x y : Nat) : hp_I (hp_cl h a) x y = if x = hp_n h then hp_I h a y else hp_I h x y := rfl
theorem hp_R_cl (h : ha_H) (a x y : Nat) : hp_R (hp_cl h a) x y = hp_R h x y := rfl
theorem hp_S_cl (h : ha_H) (a x : Nat) : hp_S (hp_cl h a) x = if x = hp_n h then hp_S h a else hp_S h x := rfl
theorem hp_n_cl (h : ha_H) (a : Nat) : hp_n (hp_cl h a) = hp_n h + 1 := rfl
/-- n ints of the array a0 from place sp on, laid into the array a from place dp on -/
def hp_cp (h : ha_H) (a0 sp a dp n : Nat) : ha_H := (fun x y => if x = a then va_cpy (h.1 a0) (h.1 a) sp dp n y else h.1 x y, h.2.1, h.2.2.1, h.2.2.2)
theorem hp_I_cp (h : ha_H) (a0 sp a dp n x y : Nat) : hp_I (hp_cp h a0 sp a dp n) x y = if x = a then va_cpy (hp_I h a0) (hp_I h a) sp dp n y else hp_I h x y := rfl
theorem hp_F0 (b : Nat × Nat) (h : ha_H) (a : Nat) : hp_F b 0 h a = fun j => .int (hp_I h a j) := by
  funext j
  unfold hp_F
  rw [if_pos (by decide)]
theorem hp_w5 : nativeFrameWords "java/lang/System" "arraycopy" 5 ≤ 60 := by decide +kernel
section RS
variable {G : mt_G} {X : mt_X} {z : Nat × Nat × Nat} {rc rs rc' rs' pc : Nat} {L : List (Option ha_V)} {st : List ha_V} {h : ha_H} {post : Option ha_V → ha_H → Prop}
theorem rw_objInit {idx a : Nat} (hlk : Cond.methodLink X.1.cls idx Lib.objectInit ∈ lp_BW) (hin : Cond.instanceMethod Lib.objectInit ∈ lp_BW) (hcd : Cond.code Lib.objectInit ⟨#[0xb1]⟩ 1 none ∈ lp_BW) (hd : decode X.2.1 pc = .ok (.invokespecial idx, 3)) (hz : 1 ≤ z.1) (h8 : st.length ≤ 8) (k : rn_W G X z rc rs (pc + 3) L st h post) : rn_W G X z rc rs pc L (.inr (some a) :: st) h post := by
  intro b D cA p e s m args below meth c F H locs ls cells slots hP hS hL hc hs
  exact W.objInit F.1 F.2.1 F.own (F.bw _ hlk) (F.bw _ hin) (F.bw _ hcd) rfl (hL.1.trans F.2.2.1.symm) rfl hd hz (by show 2 * 0 + _ + 12 ≤ 40 * z.1 + 6; have h0 : ((st.map (ha_v b)).map fun v => v.category).sum = st.length := ha_catS b st; omega) (k _ _ _ _ _ _ _ _ _ _ _ F _ _ _ _ _ hP hS hL hc hs)
theorem rw_mmax {idx : Nat} {x y v : Int32} (hlk : Cond.methodLink X.1.cls idx Lib.Math.max.name ∈ lp_BW) (hst : Cond.static Lib.Math.max.name ∈ lp_BW) (hin : Cond.initialized "java/lang/Math" ∈ lp_BW) (hcd : Cond.code Lib.Math.max.name Lib.Math.max.code 2 (some .int) ∈ lp_BW) (hd : decode X.2.1 pc = .ok (.invokestatic idx, 3)) (hz : 1 ≤ z.1) (h8 : st.length ≤ 8) (hv : (if x < y then y else x) = v) (k : rn_W G X z rc rs (pc + 3) L (.inl v :: st) h post) : rn_W G X z rc rs pc L (.inl y :: .inl x :: st) h post := by
  intro b D cA p e s m args below meth c F H locs ls cells slots hP hS hL hc hs
  subst hv
  have h0 : ((st.map (ha_v b)).map fun v => v.category).sum = st.length := ha_catS b st
  exact va_mmax F.1 F.2.1 (F.2.2.1.trans hL.1.symm) F.own (F.bw _ hlk) (F.bw _ hst) (F.bw _ hin) (F.bw _ hcd) hz (by show _ + 13 ≤ 40 * z.1 + 6; omega) (by show cells ≤ z.2.1; omega) (by show slots ≤ z.2.2; omega) hd (k _ _ _ _ _ _ _ _ _ _ _ F _ _ _ _ _ hP hS hL hc hs)
theorem rw_mmin {idx : Nat} {x y v : Int32} (hlk : Cond.methodLink X.1.cls idx Lib.Math.min.name ∈ lp_BW) (hst : Cond.static Lib.Math.min.name ∈ lp_BW) (hin : Cond.initialized "java/lang/Math" ∈ lp_BW) (hcd : Cond.code Lib.Math.min.name Lib.Math.min.code 2 (some .int) ∈ lp_BW) (hd : decode X.2.1 pc = .ok (.invokestatic idx, 3)) (hz : 1 ≤ z.1) (h8 : st.length ≤ 8) (hv : (if y < x then y else x) = v) (k : rn_W G X z rc rs (pc + 3) L (.inl v :: st) h post) : rn_W G X z rc rs pc L (.inl y :: .inl x :: st) h post := by
  intro b D cA p e s m args below meth c F H locs ls cells slots hP hS hL hc hs
  subst hv
  have h0 : ((st.map (ha_v b)).map fun v => v.category).sum = st.length := ha_catS b st
  exact va_mmin F.1 F.2.1 (F.2.2.1.trans hL.1.symm) F.own (F.bw _ hlk) (F.bw _ hst) (F.bw _ hin) (F.bw _ hcd) hz (by show _ + 13 ≤ 40 * z.1 + 6; omega) (by show cells ≤ z.2.1; omega) (by show slots ≤ z.2.2; omega) hd (k _ _ _ _ _ _ _ _ _ _ _ F _ _ _ _ _ hP hS hL hc hs)
theorem rw_castNull {idx : Nat} (hd : decode X.2.1 pc = .ok (.checkcast idx, 3)) (k : rn_W G X z rc rs (pc + 3) L (.inr none :: st) h post) : rn_W G X z rc rs pc L (.inr none :: st) h post := by
  intro b D cA p e s m args below meth c F H locs ls cells slots hP hS hL hc hs
  exact lv_castN F.1 F.2.1 hd (k _ _ _ _ _ _ _ _ _ _ _ F _ _ _ _ _ hP hS hL hc hs)
/-- an object of exactly the class asked for -/
theorem rw_castS {idx a ci : Nat} {r : vw_C} (hcl : lp_CL[ci]? = some r) (hlk : Cond.classLink X.1.cls idx r.1 ∈ lp_BW) (hd : decode X.2.1 pc = .ok (.checkcast idx, 3)) (ha : hp_ok h a) (hs : hp_S h a = .inr ci) (k : rn_W G X z rc rs (pc + 3) L (.inr (some a) :: st) h post) : rn_W G X z rc rs pc L (.inr (some a) :: st) h post := by
  intro b D cA p e s m args below meth c F H locs ls cells slots hP hS hL hc hs'
  obtain ⟨cell, q1, q2, q3, q4⟩ := hp_obj hP ha hs hcl
  have hC := (F.K.1.1 ci r hcl).2
  exact va_castS F.1 F.2.1 F.own (F.bw _ hlk) hC ⟨cell, q1, by rw [q3]; rfl, by rw [q2]; exact hC.1⟩ hd (k _ _ _ _ _ _ _ _ _ _ _ F _ _ _ _ _ hP hS hL hc hs')
theorem rw_instS {idx a ci : Nat} {r : vw_C} (hcl : lp_CL[ci]? = some r) (hlk : Cond.classLink X.1.cls idx r.1 ∈ lp_BW) (hd : decode X.2.1 pc = .ok (.instanceof idx, 3)) (ha : hp_ok h a) (hs : hp_S h a = .inr ci) (k : rn_W G X z rc rs (pc + 3) L (.inl 1 :: st) h post) : rn_W G X z rc rs pc L (.inr (some a) :: st) h post := by
  intro b D cA p e s m args below meth c F H locs ls cells slots hP hS hL hc hs'
  obtain ⟨cell, q1, q2, q3, q4⟩ := hp_obj hP ha hs hcl
  have hC := (F.K.1.1 ci r hcl).2
  exact va_instS F.1 F.2.1 F.own (F.bw _ hlk) hC ⟨cell, q1, by rw [q3]; rfl, by rw [q2]; exact hC.1⟩ hd (k _ _ _ _ _ _ _ _ _ _ _ F _ _ _ _ _ hP hS hL hc hs')
theorem rw_instNo {idx a ci : Nat} {r : vw_C} {nm : String} (hcl : lp_CL[ci]? = some r) (hlk : Cond.classLink X.1.cls idx nm ∈ lp_BW) (hnc : (r.1, nm) ∈ lp_NC) (hd : decode X.2.1 pc = .ok (.instanceof idx, 3)) (ha : hp_ok h a) (hs : hp_S h a = .inr ci) (k : rn_W G X z rc rs (pc + 3) L (.inl 0 :: st) h post) : rn_W G X z rc rs pc L (.inr (some a) :: st) h post := by
  intro b D cA p e s m args below meth c F H locs ls cells slots hP hS hL hc hs'
  obtain ⟨cell, q1, q2, q3, q4⟩ := hp_obj hP ha hs hcl
  have hC := (F.K.1.1 ci r hcl).2
  exact va_instNo F.1 F.2.1 F.own (F.bw _ hlk) (F.K.2.2.2 _ hnc) ⟨cell, q1, by rw [q3]; rfl, by rw [q2]; exact hC.1⟩ hd (k _ _ _ _ _ _ _ _ _ _ _ F _ _ _ _ _ hP hS hL hc hs')
theorem rw_castA {idx a n : Nat} (hlk : Cond.classLink X.1.cls idx "[I" ∈ lp_BW) (hd : decode X.2.1 pc = .ok (.checkcast idx, 3)) (ha : hp_ok h a) (hs : hp_S h a = .inl (0, n)) (k : rn_W G X z rc rs (pc + 3) L (.inr (some a) :: st) h post) : rn_W G X z rc rs pc L (.inr (some a) :: st) h post := by
  intro b D cA p e s m args below meth c F H locs ls cells slots hP hS hL hc hs'
  have hcell := hp_arr hP ha hs
  have hnm : s.vm.findClass "[I" = some (cA 0) := va_nm_int (F.K.ra (t := 0) lp_AT0)
  intro T hT X0
  obtain ⟨vm', X', stp⟩ := X0.checkcastYes F.1 F.own (F.bw _ hlk) (by rw [hT]; exact hcell) rfl hnm (va_asg _ _) (g := F0 m pc ls ((.inr (some a) :: st : List ha_V).map (ha_v b))) rfl rfl (by rw [F.2.1]; exact hd)
  obtain ⟨t, a1, b1⟩ := k _ _ _ _ _ _ _ _ _ _ _ F _ _ _ _ _ hP hS hL hc hs' (T.setVm vm') hT X'
  exact ⟨t, stp t a1, b1⟩
theorem rw_clone {idx a n : Nat} (hlk : Cond.methodLink X.1.cls idx ⟨"[I", "clone", "()Ljava/lang/Object;"⟩ ∈ lp_BW) (hsm : Cond.sameMethod "[I" "java/lang/Object" "clone" "()Ljava/lang/Object;" ∈ lp_BW) (hnat : Cond.native ⟨"java/lang/Object", "clone", "()Ljava/lang/Object;"⟩ ∈ lp_BW) (hins : Cond.instanceMethod ⟨"java/lang/Object", "clone", "()Ljava/lang/Object;"⟩ ∈ lp_BW)
    (hse : Cond.selects "[I" ⟨"[I", "clone", "()Ljava/lang/Object;"⟩ ⟨"java/lang/Object", "clone", "()Ljava/lang/Object;"⟩ ∈ lp_BW) (hcl : Cond.castable "[I" "java/lang/Cloneable" ∈ lp_NW) (hd : decode X.2.1 pc = .ok (.invokevirtual idx, 3)) (ha : hp_ok h a) (hs : hp_S h a = .inl (0, n)) (hz : 1 ≤ z.1) (h8 : st.length ≤ 8) (hrc : rc' + 1 = rc) (hrs : rs' + n = rs)
    (k : rn_W G X z rc' rs' (pc + 3) L (.inr (some (hp_n h)) :: st) (hp_cl h a) post) : rn_W G X z rc rs pc L (.inr (some a) :: st) h post := by
  intro b D cA p e s m args below meth c F H locs ls cells slots hP hS hL hc hs'
  have hcell := hp_arr hP ha hs
  have hnm : s.vm.findClass "[I" = some (cA 0) := va_nm_int (F.K.ra (t := 0) lp_AT0)
  have hAr := F.K.arr (t := 0) lp_AT0
  obtain ⟨c0, t0', f1, f2, f3⟩ := Cond.castable_spec (F.nw rfl hcl)
  cases hnm.symm.trans f1
  intro T hT X0
  obtain ⟨-, kA, hkA, comp, hkind⟩ := State.isArrayOf_alike X0.warmed.alike (hAr 0 (fun _ => .null))
  obtain ⟨-, kS, hkS, compS, hkindS⟩ := hAr 0 (fun _ => .null)
  have hsz : (arrV (cA 0) n (hp_F b 0 h a)).slots.size = n := arrV_size _ _ _
  have h0 : ((st.map (ha_v b)).map fun v => v.category).sum = st.length := ha_catS b st
  obtain ⟨vm', X', stp⟩ := X0.cloneArray F.1 F.own (F.bw _ hlk) (F.bw _ hsm) (F.bw _ hnat) (F.bw _ hins) (F.bw _ hse) (a := ha_a b a) (cell := arrV (cA 0) n (hp_F b 0 h a)) (by rw [hT]; exact hcell) (fun k h => by cases h) (fun h => by cases h) hnm f2 f3
    (fun i v hv => by
      have hk' : T.vm.classes[cA 0]? = some kA := hkA
      have hfv : fits .int v = true := by
        refine va_fit (F := hp_F b 0 h a) (fun j _ => ?_) i v hv
        rw [hp_F0]
        rfl
      show T.fitsSlot (cA 0) .none i v = true
      simpa [State.fitsSlot, State.slotType?, hk', hkind] using hfv)
    (g := F0 m pc ls ((.inr (some a) :: st : List ha_V).map (ha_v b))) rfl (hL.1.trans F.2.2.1.symm) rfl (by rw [F.2.1]; exact hd) hz (by show 2 * 0 + ((st.map (ha_v b)).map fun v => v.category).sum + 14 ≤ 40 * z.1 + 6; omega) (show cells + 1 ≤ z.2.1 by omega) (by rw [hsz]; show slots + n ≤ z.2.2; omega) (hloader := Vm.clonesLoader_of_array hkS hkindS)
  rw [hsz] at X'
  have e0 : H.size = ha_a b (hp_n h) := hP.sz
  generalize hH1 : H.push (arrV (cA 0) n (hp_F b 0 h a)) = H1
  have z1 : H1.size = H.size + 1 := by rw [← hH1, Array.size_push]
  have e1 : H1[ha_a b (hp_n h)]? = some (arrV (cA 0) n (hp_F b 0 h a)) := by rw [← hH1, ← e0, Array.getElem?_push_size]
  have o1 : ∀ q : Nat, q < H.size → H1[q]? = H[q]? := fun q hq => by rw [← hH1, Array.getElem?_push, if_neg (Nat.ne_of_lt hq)]
  have hP1 : hp_P b D cA (hp_cl h a) H1 := by
    refine hP.grow z1 o1 rfl ?_ (fun k hk j => by rw [hp_I_cl, if_neg (by omega)]) (fun _ _ _ => rfl) (fun k hk => by rw [hp_S_cl, if_neg (by omega)])
    unfold hp_at
    rw [hp_S_cl, if_pos rfl, hs]
    show H1[ha_a b (hp_n h)]? = some (arrV (cA 0) n (hp_F b 0 (hp_cl h a) (hp_n h)))
    rw [e1, hp_F0, hp_F0]
    congr 2
    funext j
    rw [hp_I_cl, if_pos rfl]
  obtain ⟨t, b1, b2⟩ := k _ _ _ _ _ _ _ _ _ _ _ F H1 locs ls (cells + 1) (slots + n) hP1 (hS.up z1 o1) hL (by omega) (by omega) ((T.setVm vm').pushCell (arrV (cA 0) n (hp_F b 0 h a))) (by rw [← hH1, ← hT]; rfl) X'
  refine ⟨t, stp t ?_, b2⟩
  rw [hT, e0]
  exact b1
theorem rw_copy {idx a0 a n0 n1 n : Nat} {sp dp nn : Int32} (hlk : Cond.methodLink X.1.cls idx arraycopyName ∈ lp_BW) (hnat : Cond.native arraycopyName ∈ lp_BW) (hst : Cond.static arraycopyName ∈ lp_BW) (hini : Cond.initialized "java/lang/System" ∈ lp_BW) (hd : decode X.2.1 pc = .ok (.invokestatic idx, 3)) (ha0 : hp_ok h a0) (hs0 : hp_S h a0 = .inl (0, n0)) (ha : hp_ok h a) (hs1 : hp_S h a = .inl (0, n1))
    (h1 : ¬ sp < 0) (h2 : ¬ dp < 0) (h3 : ¬ nn < 0) (hnn : nn.toNatClampNeg = n) (h4 : sp.toNatClampNeg + n ≤ n0) (h5 : dp.toNatClampNeg + n ≤ n1) (hz : 2 ≤ z.1) (h8 : st.length ≤ 8)
    (k : rn_W G X z rc rs (pc + 3) L st (hp_cp h a0 sp.toNatClampNeg a dp.toNatClampNeg n) post) : rn_W G X z rc rs pc L (.inl nn :: .inl dp :: .inr (some a) :: .inl sp :: .inr (some a0) :: st) h post := by
  intro b D cA p e s m args below meth c F H locs ls cells slots hP hS hL hc hs'
  subst hnn
  have hc0 := hp_arr hP ha0 hs0
  have hc1 := hp_arr hP ha hs1
  rw [hp_F0] at hc0 hc1
  have tn : ∀ z : Int32, ¬ z < 0 → z.toInt = (z.toNatClampNeg : Int) := by
    intro z hz
    have hz0 : (0 : Int) ≤ z.toInt := by
      have := Int32.not_lt.mp hz
      simpa using Int32.le_iff_toInt_le.mp this
    show z.toInt = ((z.toInt.toNat : Nat) : Int)
    omega
  have hAr := F.K.arr (t := 0) lp_AT0
  obtain ⟨-, k0, hk0, cm0, hkk0⟩ := hAr n0 (fun j => .int (hp_I h a0 j))
  have h0 : ((st.map (ha_v b)).map fun v => v.category).sum = st.length := ha_catS b st
  intro T hT X0
  obtain ⟨vm', X', stp⟩ := X0.arraycopy F.1 F.own (F.bw _ hlk) (F.bw _ hnat) (F.bw _ hst) (F.bw _ hini) (src := ha_a b a0) (dst := ha_a b a) (cs := arrV (cA 0) n0 (fun j => .int (hp_I h a0 j))) (cd := arrV (cA 0) n1 (fun j => .int (hp_I h a j))) (srcPos := sp) (destPos := dp) (n := nn) (by rw [hT]; exact hc0) (by rw [hT]; exact hc1)
    (fun _ h => by cases h) (fun _ h => by cases h) (fun h => by cases h) (fun h => by cases h) hk0 hk0 hkk0 hkk0 (by simp [refKind]) h1 h2 h3
    (by rw [tn sp h1, tn nn h3, arrV_size]; omega)
    (by rw [tn dp h2, tn nn h3, arrV_size]; omega)
    (fun vm₁ _ i hi => by
      have e : (arrV (cA 0) n0 (fun j => .int (hp_I h a0 j))).slots.getD (sp.toNatClampNeg + i) .null = .int (hp_I h a0 (sp.toNatClampNeg + i)) := by
        rw [Array.getD_eq_getD_getElem?, arrV_read _ _ (by omega)]
        rfl
      rw [e]
      exact ⟨rfl, trivial⟩)
    (g := F0 m pc ls ((.inl nn :: .inl dp :: .inr (some a) :: .inl sp :: .inr (some a0) :: st : List ha_V).map (ha_v b))) rfl (hL.1.trans F.2.2.1.symm) (rest := st.map (ha_v b)) rfl (by rw [F.2.1]; exact hd) (show 1 ≤ z.1 by omega) (by show 2 * 0 + ((st.map (ha_v b)).map fun v => v.category).sum + (nativeFrameWords "java/lang/System" "arraycopy" 5 + 11) ≤ 40 * z.1 + 6; have hw5 := hp_w5; omega)
  have e1 : copied (arrV (cA 0) n0 (fun j => .int (hp_I h a0 j))) (arrV (cA 0) n1 (fun j => .int (hp_I h a j))) sp dp nn = arrV (cA 0) n1 (fun j => .int (va_cpy (hp_I h a0) (hp_I h a) sp.toNatClampNeg dp.toNatClampNeg nn.toNatClampNeg j)) := va_copied (fun z => .int z) (cA 0) (cA 0) (hp_I h a0) (hp_I h a) h4
  rw [e1] at X' stp
  generalize hC : arrV (cA 0) n1 (fun j => .int (va_cpy (hp_I h a0) (hp_I h a) sp.toNatClampNeg dp.toNatClampNeg nn.toNatClampNeg j)) = C at X' stp
  have hl : ha_a b a < H.size := (Array.getElem?_eq_some_iff.mp hc1).1
  have hheap : ((T.setVm vm').setCell (ha_a b a) C).heap = H.setIfInBounds (ha_a b a) C := by rw [← hT]; rfl
  have oq : ∀ q : Nat, q ≠ ha_a b a → (H.setIfInBounds (ha_a b a) C)[q]? = H[q]? := fun q hq => by simp [Array.getElem?_setIfInBounds, Ne.symm hq]
  have hP1 : hp_P b D cA (hp_cp h a0 sp.toNatClampNeg a dp.toNatClampNeg nn.toNatClampNeg) (H.setIfInBounds (ha_a b a) C) := by
    refine hP.set ha (by simp) oq ?_ rfl (fun k hk j => by rw [hp_I_cp, if_neg hk]) (fun _ _ _ => rfl) (fun _ => rfl)
    unfold hp_at
    rw [show hp_S (hp_cp h a0 sp.toNatClampNeg a dp.toNatClampNeg nn.toNatClampNeg) a = hp_S h a from rfl, hs1]
    show (H.setIfInBounds (ha_a b a) C)[ha_a b a]? = some (arrV (cA 0) n1 (hp_F b 0 (hp_cp h a0 sp.toNatClampNeg a dp.toNatClampNeg nn.toNatClampNeg) a))
    rw [hp_F0]
    have e2 : (fun j => Value.int (hp_I (hp_cp h a0 sp.toNatClampNeg a dp.toNatClampNeg nn.toNatClampNeg) a j)) = fun j => .int (va_cpy (hp_I h a0) (hp_I h a) sp.toNatClampNeg dp.toNatClampNeg nn.toNatClampNeg j) := by
      funext j
      rw [hp_I_cp, if_pos rfl]
    rw [e2, hC]
    simp [Array.getElem?_setIfInBounds, hl]
  obtain ⟨t, a1, b1⟩ := k _ _ _ _ _ _ _ _ _ _ _ F _ _ ls cells slots hP1 ⟨by simp; exact hS.1, fun q g1 g2 => by
      rw [oq q (fun e => g2 (by rw [e]; exact ha_lt b ha.1))]
      exact hS.2.1 q g1 g2, fun q hq => by
      rcases List.mem_append.mp hq with h | h
      · exact hS.2.2 q h
      · obtain ⟨z, -, hz⟩ := List.mem_map.mp h
        rw [← hz]
        exact ha_lt b ha.1⟩ hL hc hs' _ hheap X'
  exact ⟨t, stp t a1, b1⟩
end RS
