/-! new int[N][K]; calls by the kind of their answer. -/
/-- the heap with a new grid: its outer array is the next cell, the rows stand behind it -/
def hp_mu (h : ha_H) (N K : Nat) : ha_H := (fun x y => if h.2.2.2 ≤ x then 0 else h.1 x y, fun x y => if x = h.2.2.2 then (if y < N then some (h.2.2.2 + 1 + y) else none) else if h.2.2.2 ≤ x then none else h.2.1 x y, fun x => if x = h.2.2.2 then .inl (9, N) else if h.2.2.2 ≤ x then .inl (0, K) else h.2.2.1 x, h.2.2.2 + 1 + N)
theorem hp_I_mu (h : ha_H) (N K x y : Nat) : hp_I (hp_mu h N K) x y = if hp_n h ≤ x then 0 else hp_I h x y := rfl
theorem hp_R_mu (h : ha_H) (N K x y : Nat) : hp_R (hp_mu h N K) x y = if x = hp_n h then (if y < N then some (hp_n h + 1 + y) else none) else if hp_n h ≤ x then none else hp_R h x y := rfl
theorem hp_S_mu (h : ha_H) (N K x : Nat) : hp_S (hp_mu h N K) x = if x = hp_n h then .inl (9, N) else if hp_n h ≤ x then .inl (0, K) else hp_S h x := rfl
theorem hp_n_mu (h : ha_H) (N K : Nat) : hp_n (hp_mu h N K) = hp_n h + 1 + N := rfl
theorem mu_outer (c : ClassId) (N h0 : Nat) : ∀ i : Nat, Jvm.Free.Multi.outerC c N h0 i = arrV c N (fun j => if j < i then .ref (h0 + 1 + j) else .null)
  | 0 => by
    show ({ cls := c, slots := Array.replicate N .null, vm := .none } : Cell) = _
    rw [arrV_new]
    refine congrArg (arrV c N) (funext fun j => ?_)
    simp
  | i + 1 => by
    show (Jvm.Free.Multi.outerC c N h0 i).setSlot i (.ref (h0 + 1 + i)) = _
    rw [mu_outer c N h0 i, arrV_store]
    refine congrArg (arrV c N) (funext fun j => ?_)
    unfold updV
    by_cases e : j = i
    · subst e
      simp
    · by_cases h : j < i
      · simp [e, h, Nat.lt_succ_of_lt h]
      · simp [e, h, show ¬ j < i + 1 by omega]
theorem mu_inner (c : ClassId) (K : Nat) : Jvm.Free.Multi.innerC c K (defaultValue .int) = arrV c K (fun _ => .int 0) := arrV_new c K (.int 0)
theorem mu_nm : "[" ++ (FieldType.array .int).toString = "[[I" := by decide +kernel
section RG
variable {G : mt_G} {X X' : mt_X} {z z' : Nat × Nat × Nat} {rc rs rc' rs' pc : Nat} {L : List (Option ha_V)} {st stk av : List ha_V} {h : ha_H} {post : Option ha_V → ha_H → Prop}
theorem rw_multi {idx N K : Nat} {x y : Int32} (hlk : Cond.classLink X.1.cls idx "[[I" ∈ lp_BW) (hac : Cond.arrayClass .int ∈ lp_BW) (hao : FieldType.array .int ∈ lp_AO) (hd : decode X.2.1 pc = .ok (.multianewarray idx 2, 4)) (hx : ¬ x < 0) (hy : ¬ y < 0) (hN : x.toNatClampNeg = N) (hK : y.toNatClampNeg = K) (hB : N ≤ 1000 ∧ K ≤ 1000) (hrc : rc' + (1 + N) = rc) (hrs : rs' + (N + N * K) = rs)
    (k : rn_W G X z rc' rs' (pc + 4) L (.inr (some (hp_n h)) :: st) (hp_mu h N K) post) : rn_W G X z rc rs pc L (.inl y :: .inl x :: st) h post := by
  intro b D cA p e s m args below meth c F H locs ls cells slots hP hS hL hc hs
  subst hN
  subst hK
  intro T hT X0
  have hw : (Cond.classLink X.1.cls idx ("[" ++ (FieldType.array .int).toString)).before args s = true := by rw [mu_nm]; exact F.bw _ hlk
  obtain ⟨vm₁, cO, comp, -, fA, fC, -, -, X', stp⟩ := X0.multianewarray2F F.1 F.own hw (F.K.2.2.1 _ hao) (F.bw _ hac) (g := F0 m pc ls ((.inl y :: .inl x :: st : List ha_V).map (ha_v b))) rfl (by rw [F.2.1]; exact hd) (n := x) (k := y) (rest := st.map (ha_v b)) rfl hx hy (by omega) (by show _ * 4 ≤ _; omega) (by omega) rfl rfl (show cells + (1 + x.toNatClampNeg) ≤ z.2.1 by omega) (show slots + (x.toNatClampNeg + x.toNatClampNeg * y.toNatClampNeg) ≤ z.2.2 by omega)
  have h0 : s.vm.findClass ("[" ++ FieldType.int.toString) = some (cA 0) := F.K.ra (t := 0) lp_AT0
  have h9 : s.vm.findClass ("[" ++ (FieldType.array .int).toString) = some (cA 9) := F.K.ra (t := 9) rfl
  have hc0 : (FieldType.array .int).toString = "[" ++ FieldType.int.toString := by decide +kernel
  rw [hc0] at fC
  cases h9.symm.trans fA
  cases h0.symm.trans fC
  have hn : 0 < hp_n h := hP.2.1
  have eH : H.size = b.1 + hp_n h := hP.1
  have hTh : (T.setVm vm₁).heap = H := hT
  generalize hF : Jvm.Free.Multi.fill (T.setVm vm₁) (cA 9) (cA 0) x.toNatClampNeg y.toNatClampNeg (defaultValue .int) x.toNatClampNeg = Fl at X' stp
  obtain ⟨f1, f2, -, -⟩ := Jvm.Free.Multi.fill_facts (T.setVm vm₁) (cA 9) (cA 0) x.toNatClampNeg y.toNatClampNeg (defaultValue .int) x.toNatClampNeg
  rw [hF, hTh] at f1 f2
  rw [mu_outer] at f2
  have hold : ∀ q : Nat, q < H.size → Fl.heap[q]? = H[q]? := fun q hq => by
    have := Jvm.Free.Multi.fill_old (T.setVm vm₁) (cA 9) (cA 0) x.toNatClampNeg y.toNatClampNeg (defaultValue .int) (a := q) (by rw [hTh]; exact hq) x.toNatClampNeg
    rw [hF, hTh] at this
    exact this
  have hrow : ∀ j : Nat, j < x.toNatClampNeg → Fl.heap[H.size + 1 + j]? = some (arrV (cA 0) y.toNatClampNeg (fun _ => .int 0)) := fun j hj => by
    have := Jvm.Free.Multi.fill_inner (T.setVm vm₁) (cA 9) (cA 0) x.toNatClampNeg y.toNatClampNeg (defaultValue .int) x.toNatClampNeg j hj
    rw [hF, hTh, mu_inner] at this
    exact this
  have hP1 : hp_P b D cA (hp_mu h x.toNatClampNeg y.toNatClampNeg) Fl.heap := by
    refine ⟨by rw [f1, hp_n_mu, eH]; omega, by rw [hp_n_mu]; omega, fun q hq => ?_⟩
    unfold hp_ok at hq
    rw [hp_n_mu] at hq
    by_cases e1 : q = hp_n h
    · subst e1
      unfold hp_at
      rw [hp_S_mu, if_pos rfl]
      show Fl.heap[ha_a b (hp_n h)]? = some (arrV (cA 9) x.toNatClampNeg (hp_F b 9 _ (hp_n h)))
      rw [ha_p b hn, ← eH, f2]
      refine congrArg some (congrArg (arrV (cA 9) x.toNatClampNeg) (funext fun j => ?_))
      unfold hp_F
      rw [if_neg (show ¬ (9 : Nat) < 2 by decide), hp_R_mu, if_pos rfl]
      by_cases hj : j < x.toNatClampNeg
      · rw [if_pos hj, if_pos hj]
        show Value.ref _ = Value.ref (ha_a b (hp_n h + 1 + j))
        have e8 : ha_a b (hp_n h + 1 + j) = b.1 + (hp_n h + 1 + j) := ha_p b (by omega)
        have e7 : H.size + 1 + j = ha_a b (hp_n h + 1 + j) := by rw [e8, eH]; exact (by omega : b.1 + hp_n h + 1 + j = b.1 + (hp_n h + 1 + j))
        exact congrArg Value.ref e7
      · rw [if_neg hj, if_neg hj]
        rfl
    · by_cases e2 : hp_n h ≤ q
      · unfold hp_at
        rw [hp_S_mu, if_neg e1, if_pos e2]
        show Fl.heap[ha_a b q]? = some (arrV (cA 0) y.toNatClampNeg (hp_F b 0 _ q))
        rw [hp_F0, ha_p b hq.1, show b.1 + q = H.size + 1 + (q - hp_n h - 1) by omega, hrow _ (by omega)]
        refine congrArg some (congrArg (arrV (cA 0) y.toNatClampNeg) (funext fun j => ?_))
        rw [hp_I_mu, if_pos e2]
      · refine (hP.2.2 q ⟨hq.1, by omega⟩).kept (hold _ (by rw [eH, ha_p b hq.1]; omega)) (fun j => ?_) (fun j => ?_) ?_
        · rw [hp_I_mu, if_neg e2]
        · rw [hp_R_mu, if_neg e1, if_neg e2]
        · rw [hp_S_mu, if_neg e1, if_neg e2]
  obtain ⟨t, a1, b1⟩ := k b D cA p e s m args below meth c F Fl.heap locs ls (cells + 1 + x.toNatClampNeg) (slots + x.toNatClampNeg + x.toNatClampNeg * y.toNatClampNeg) hP1 ⟨by rw [f1]; have := hS.1; omega, fun q g1 g2 => (hold q (Nat.lt_of_lt_of_le g1 hS.1)).trans (hS.2.1 q g1 g2), hS.2.2⟩ hL (by omega) (by omega) Fl rfl X'
  refine ⟨t, stp t ?_, b1⟩
  have e9 : T.heap.size = ha_a b (hp_n h) := by rw [hT]; exact hP.sz
  rw [e9]
  exact a1
theorem rw_si {idx n : Nat} {q : Int32 → ha_H → Prop} (hl : ml_ok X.1.cls idx X' n) (hst : Cond.static X'.1 ∈ lp_BW) (hd : decode X.2.1 pc = .ok (.invokestatic idx, 3)) (hM : rn_M G X' z' av h (rn_i q)) (hn : av.length = n) (hk : av.reverse ++ st = stk) (h8 : st.length ≤ 8) (hz : z'.1 + 1 ≤ z.1) (hrc : rc' + z'.2.1 = rc) (hrs : rs' + z'.2.2 = rs)
    (kk : ∀ x h', q x h' → rn_W G X z rc' rs' (pc + 3) L (.inl x :: st) h' post) : rn_W G X z rc rs pc L stk h post :=
  rw_callS hl hst hd hM hn hk h8 hz hrc hrs (fun r h' hq => by obtain ⟨x, rfl, hx⟩ := hq; exact kk x h' hx)
theorem rw_sv {idx n : Nat} {q : ha_H → Prop} (hl : ml_ok X.1.cls idx X' n) (hst : Cond.static X'.1 ∈ lp_BW) (hd : decode X.2.1 pc = .ok (.invokestatic idx, 3)) (hM : rn_M G X' z' av h (rn_v q)) (hn : av.length = n) (hk : av.reverse ++ st = stk) (h8 : st.length ≤ 8) (hz : z'.1 + 1 ≤ z.1) (hrc : rc' + z'.2.1 = rc) (hrs : rs' + z'.2.2 = rs)
    (kk : ∀ h', q h' → rn_W G X z rc' rs' (pc + 3) L st h' post) : rn_W G X z rc rs pc L stk h post :=
  rw_callS hl hst hd hM hn hk h8 hz hrc hrs (fun r h' hq => by obtain ⟨rfl, hx⟩ := hq; exact kk h' hx)
theorem rw_sr {idx n : Nat} {q : Option Nat → ha_H → Prop} (hl : ml_ok X.1.cls idx X' n) (hst : Cond.static X'.1 ∈ lp_BW) (hd : decode X.2.1 pc = .ok (.invokestatic idx, 3)) (hM : rn_M G X' z' av h (rn_r q)) (hn : av.length = n) (hk : av.reverse ++ st = stk) (h8 : st.length ≤ 8) (hz : z'.1 + 1 ≤ z.1) (hrc : rc' + z'.2.1 = rc) (hrs : rs' + z'.2.2 = rs)
    (kk : ∀ x h', q x h' → rn_W G X z rc' rs' (pc + 3) L (.inr x :: st) h' post) : rn_W G X z rc rs pc L stk h post :=
  rw_callS hl hst hd hM hn hk h8 hz hrc hrs (fun r h' hq => by obtain ⟨x, rfl, hx⟩ := hq; exact kk x h' hx)
theorem rw_iv {idx n a : Nat} {q : ha_H → Prop} (hl : ml_ok X.1.cls idx X' n) (hin : Cond.instanceMethod X'.1 ∈ lp_BW) (hnm : X'.1.name = "<init>") (hrt : X'.2.2.2 = none) (hd : decode X.2.1 pc = .ok (.invokespecial idx, 3)) (hM : rn_M G X' z' (.inr (some a) :: av) h (rn_v q)) (hn : av.length = n) (hk : av.reverse ++ .inr (some a) :: st = stk) (h8 : st.length ≤ 8) (hz : z'.1 + 1 ≤ z.1) (hrc : rc' + z'.2.1 = rc) (hrs : rs' + z'.2.2 = rs)
    (kk : ∀ h', q h' → rn_W G X z rc' rs' (pc + 3) L st h' post) : rn_W G X z rc rs pc L stk h post :=
  rw_callI hl hin hnm hrt hd hM hn hk h8 hz hrc hrs (fun r h' hq => by obtain ⟨rfl, hx⟩ := hq; exact kk h' hx)
theorem rw_vi {idx n a ci : Nat} {C : vw_C} {q : Int32 → ha_H → Prop} (hl : ml_ok X.1.cls idx X' n) (hin : Cond.instanceMethod X'.1 ∈ lp_BW) (hcl : lp_CL[ci]? = some C) (hse : Cond.selects C.1 X'.1 X'.1 ∈ lp_BW) (hd : decode X.2.1 pc = .ok (.invokevirtual idx, 3)) (ha : hp_ok h a) (hsh : hp_S h a = .inr ci) (hM : rn_M G X' z' (.inr (some a) :: av) h (rn_i q)) (hn : av.length = n) (hk : av.reverse ++ .inr (some a) :: st = stk) (h8 : st.length ≤ 8) (hz : z'.1 + 1 ≤ z.1) (hrc : rc' + z'.2.1 = rc) (hrs : rs' + z'.2.2 = rs)
    (kk : ∀ x h', q x h' → rn_W G X z rc' rs' (pc + 3) L (.inl x :: st) h' post) : rn_W G X z rc rs pc L stk h post :=
  rw_callV hl hin hcl hse hd ha hsh hM hn hk h8 hz hrc hrs (fun r h' hq => by obtain ⟨x, rfl, hx⟩ := hq; exact kk x h' hx)
theorem rw_vv {idx n a ci : Nat} {C : vw_C} {q : ha_H → Prop} (hl : ml_ok X.1.cls idx X' n) (hin : Cond.instanceMethod X'.1 ∈ lp_BW) (hcl : lp_CL[ci]? = some C) (hse : Cond.selects C.1 X'.1 X'.1 ∈ lp_BW) (hd : decode X.2.1 pc = .ok (.invokevirtual idx, 3)) (ha : hp_ok h a) (hsh : hp_S h a = .inr ci) (hM : rn_M G X' z' (.inr (some a) :: av) h (rn_v q)) (hn : av.length = n) (hk : av.reverse ++ .inr (some a) :: st = stk) (h8 : st.length ≤ 8) (hz : z'.1 + 1 ≤ z.1) (hrc : rc' + z'.2.1 = rc) (hrs : rs' + z'.2.2 = rs)
    (kk : ∀ h', q h' → rn_W G X z rc' rs' (pc + 3) L st h' post) : rn_W G X z rc rs pc L stk h post :=
  rw_callV hl hin hcl hse hd ha hsh hM hn hk h8 hz hrc hrs (fun r h' hq => by obtain ⟨rfl, hx⟩ := hq; exact kk h' hx)
theorem rw_vr {idx n a ci : Nat} {C : vw_C} {q : Option Nat → ha_H → Prop} (hl : ml_ok X.1.cls idx X' n) (hin : Cond.instanceMethod X'.1 ∈ lp_BW) (hcl : lp_CL[ci]? = some C) (hse : Cond.selects C.1 X'.1 X'.1 ∈ lp_BW) (hd : decode X.2.1 pc = .ok (.invokevirtual idx, 3)) (ha : hp_ok h a) (hsh : hp_S h a = .inr ci) (hM : rn_M G X' z' (.inr (some a) :: av) h (rn_r q)) (hn : av.length = n) (hk : av.reverse ++ .inr (some a) :: st = stk) (h8 : st.length ≤ 8) (hz : z'.1 + 1 ≤ z.1) (hrc : rc' + z'.2.1 = rc) (hrs : rs' + z'.2.2 = rs)
    (kk : ∀ x h', q x h' → rn_W G X z rc' rs' (pc + 3) L (.inr x :: st) h' post) : rn_W G X z rc rs pc L stk h post :=
  rw_callV hl hin hcl hse hd ha hsh hM hn hk h8 hz hrc hrs (fun r h' hq => by obtain ⟨x, rfl, hx⟩ := hq; exact kk x h' hx)
end RG
