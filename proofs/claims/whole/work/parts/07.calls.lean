/-! Calls: the callee's contract, whatever it makes. -/
def rn_i (post : Int32 → ha_H → Prop) : Option ha_V → ha_H → Prop := fun r h' => ∃ x, r = some (.inl x) ∧ post x h'
def rn_v (post : ha_H → Prop) : Option ha_V → ha_H → Prop := fun r h' => r = none ∧ post h'
def rn_r (post : Option Nat → ha_H → Prop) : Option ha_V → ha_H → Prop := fun r h' => ∃ x, r = some (.inr x) ∧ post x h'
def ml_ok (own : String) (idx : Nat) (X' : mt_X) (n : Nat) : Prop := Cond.code X'.1 X'.2.1 X'.2.2.1 X'.2.2.2 ∈ lp_BW ∧ Cond.initialized X'.1.cls ∈ lp_BW ∧ (X'.1.cls ≠ "java/lang/invoke/MethodHandle" ∧ X'.1.cls ≠ "java/lang/invoke/VarHandle" ∧ (parseMethodDescriptor X'.1.desc).map (fun d => d.parameters.length) = some n) ∧ X'.2.2.1 ≤ 21 ∧ (Cond.methodLink own idx X'.1 ∈ lp_BW ∨ ∃ host, Cond.methodLinkNest own idx X'.1 host ∈ lp_NW)
def lp_nk : Cond → Bool
  | .fieldLinkNest .. => true
  | .methodLinkNest .. => true
  | .castable .. => true
  | _ => false
theorem lp_nks : ∀ w ∈ lp_NW, lp_nk w = true := by decide +kernel
theorem lp_tab : ∀ w ∈ lp_NW, w.onTables = true := by decide +kernel
theorem lp_warm (w : Cond) (h : lp_nk w = true) {s U : State} (hW : s.WarmedH U.vm) (hZ : va_Nw w s) : va_Nw w U := by
  cases w <;> first | exact va_Nw.warmF hW hZ | exact va_Nw.warmM hW hZ | exact va_Nw.warmC hW hZ | (simp [lp_nk] at h)
theorem ao_movedA {t : FieldType} {u U : State} (hvm : u.vm.Alike U.vm) (h : (Cond.arrayOver (.array t)).before #[] u = true) : (Cond.arrayOver (.array t)).before #[] U = true := by
  obtain ⟨comp, c, k, h1, h2, h3, h4, h5⟩ := arrayOverA_spec h
  obtain ⟨k', hk', he⟩ := hvm.2.2 _ _ h3
  have hi : (U.vm.classes.findIdx? fun (x : Class) => match x.kind with | .array component _ => component == comp | _ => false) = some c := by
    rw [hvm.findIdx?_eq _ (fun _ => rfl)]
    exact h2
  have hkind : k'.kind = .array comp (.array t) := by rw [he]; exact h4
  have f1 : U.vm.findClass (FieldType.array t).toString = some comp := by rw [hvm.findClass]; exact h1
  have f2 : U.vm.findClass ("[" ++ (FieldType.array t).toString) = some c := by rw [hvm.findClass]; exact h5
  unfold Cond.before Cond.holds
  simp only [Cond.value]
  rw [f1, Option.bind_some]
  refine (congrArg (fun o : Option Nat => (o.bind (fun c => (U.vm.classes[c]?).map fun (k : Class) => match k.kind with | .array _ ty => decide (ty = FieldType.array t) && decide (U.vm.findClass ("[" ++ (FieldType.array t).toString) = some c) | _ => false) == some true)) hi).trans ?_
  simp [hk', hkind, f2]
def lp_ak : FieldType → Bool
  | .object _ => true
  | .array _ => true
  | _ => false
theorem lp_aks : ∀ t ∈ lp_AO, lp_ak t = true := by decide +kernel
theorem ao_moved (t : FieldType) (ht : lp_ak t = true) {u U : State} (hvm : u.vm.Alike U.vm) (h : (Cond.arrayOver t).before #[] u = true) : (Cond.arrayOver t).before #[] U = true := by
  cases t <;> first | exact va_AO.moved hvm h | exact ao_movedA hvm h | (simp [lp_ak] at ht)
theorem hp_K.moved {D : va_G} {cA : Nat → ClassId} {s U : State} (hW : s.WarmedH U.vm) (hK : hp_K D cA s) : hp_K D cA U := ⟨va_K.moved hW.alike hK.1, fun w hw => lp_warm w (lp_nks w hw) hW (hK.2.1 w hw), fun t ht => ao_moved t (lp_aks t ht) hW.alike (hK.2.2.1 t ht), fun q hq => (hK.2.2.2 q hq).moved hW.alike⟩
theorem hp_K.same {D : va_G} {cA : Nat → ClassId} {u U : State} (e : u.vm = U.vm) (hK : hp_K D cA u) : hp_K D cA U := by
  have ha : u.vm.Alike U.vm := by rw [e]; exact Vm.Alike.refl U.vm
  exact ⟨va_K.moved ha hK.1, fun w hw => va_Nw.same (lp_tab w hw) e (hK.2.1 w hw), fun t ht => ao_moved t (lp_aks t ht) ha (hK.2.2.1 t ht), fun q hq => (hK.2.2.2 q hq).moved ha⟩
theorem ws_good {X X' : mt_X} (hm : Cond.code X'.1 X'.2.1 X'.2.2.1 X'.2.2.2 ∈ lp_BW) : GoodIn (rn_ws X) (rn_ws X') := by
  intro w hw
  rcases List.mem_cons.mp hw with rfl | hw
  · exact ⟨List.mem_cons_of_mem _ hm, Or.inl rfl⟩
  · exact ⟨List.mem_cons_of_mem _ hw, lp_good w hw⟩
theorem rn_blind {G : mt_G} {b : Nat × Nat} {D : va_G} {cA : Nat → ClassId} {h : ha_H} {av : List ha_V} : FrameBlind (va_Pc (av.map (ha_v b)) (rn_P G b D cA h)) := by
  intro a U g mk q
  exact ⟨q.1, q.2.1, hp_K.same (u := U) (U := U.calling g mk a) rfl q.2.2.1, va_X.moved (u := U) (U := U.calling g mk a) (Vm.Alike.refl U.vm) q.2.2.2.1, q.2.2.2.2⟩
theorem rn_pre {G : mt_G} {X : mt_X} {b : Nat × Nat} {D : va_G} {cA : Nat → ClassId} {p : Program} {s : State} {m : MethodId} {args : Array Value} {meth : Method} {c : Code} {h : ha_H} {H : Heap} {locs : List Loc} (F : cx_F G X b D cA p s m args meth c) (hP : hp_P b D cA h H) (hS : va_S (fun q => b.1 < q) s.heap H locs) (U : State) (hU : U.heap = H) (hW : s.WarmedH U.vm) : rn_P G b D cA h U := by
  obtain ⟨-, -, -, -, -, -, -, -, hK, hb, hX, h2⟩ := F
  refine ⟨by rw [hU]; exact hP, hK.moved hW, va_X.moved hW.alike (hX.kept ?_), h2⟩
  rw [hU]
  exact hS.2.1 b.2 (by omega) (by omega)
section RC0
variable {p : Program} {l : Launch} {e : Env} {R : Room} {s : State} {m : MethodId} {args : Array Value} {below : List Frame} {meth : Method} {c : Code} {H : Heap} {locs : List Loc} {cells slots : Nat} {Q : State → Prop}
theorem rn_cont {pc : Nat} {ls : Array Slot} {rest st0 : List Value} {a : Array Value} {H0 : Heap} {mc ms : Nat} {b : Nat × Nat} {D : va_G} {cA : Nat → ClassId} {post : Option ha_V → ha_H → Prop} (hr : va_Run p l e R s m args below meth c H locs cells slots mc ms (F0 m pc ls st0) rest (rn_Q b D cA post a) (fun q => b.1 < q)) (hS : va_S (fun q => b.1 < q) H0 H locs)
    (kk : ∀ (r : Option ha_V) (h' : ha_H) (H1 : Heap) (locs1 : List Loc), post r h' → hp_P b D cA h' H1 → va_S (fun q => b.1 < q) H0 H1 locs1 → W p l e R s m args below meth c H1 locs1 (cells + mc) (slots + ms) Q (F0 m (pc + 3) ls ((r.map (ha_v b)).toList ++ rest))) : W p l e R s m args below meth c H locs cells slots Q (F0 m pc ls st0) := by
  intro T hT X
  obtain ⟨v, st₀, t, T', L, h0, X', hL, e1, e2, ⟨⟨r, h', hv, hp, hb⟩, hz, hk⟩, st⟩ := hr T hT X
  cases hv
  rw [h0] at hz hk
  obtain ⟨t2, a1, b1⟩ := kk r h' T'.heap (locs ++ L) hp (by rw [e1]; exact hb)
    ⟨Nat.le_trans hS.1 (by rw [e1]; exact hz), fun q h1 h2 => by rw [e1, hk q (Nat.lt_of_lt_of_le h1 hS.1) h2]; exact hS.2.1 q h1 h2, fun q hq => by
      rcases List.mem_append.mp hq with h | h
      · exact hS.2.2 q h
      · exact hL q h⟩ T' rfl X'
  exact ⟨t2, st t2 a1, b1⟩
end RC0
section RC
variable {G : mt_G} {X X' : mt_X} {z z' : Nat × Nat × Nat} {rc rs rc' rs' pc : Nat} {L : List (Option ha_V)} {st stk av : List ha_V} {h : ha_H} {post post' : Option ha_V → ha_H → Prop}
theorem ml_B {idx n : Nat} {s : State} {args : Array Value} (hl : ml_ok X.1.cls idx X' n) (hts : ∀ w ∈ rn_ws X, w.before args s = true) (hz : z'.1 + 1 ≤ z.1) (hlk : Cond.methodLink X.1.cls idx X'.1 ∈ lp_BW) : CallB (rn_R z) s args X.1.cls idx X'.1 X'.2.1 X'.2.2.1 X'.2.2.2 (rn_ws X') (rn_R z') z'.2.1 z'.2.2 n :=
  callB_of n hts (ws_good hl.1) rfl rfl rfl (hts _ (List.mem_cons_of_mem _ hl.2.1)) (hts _ (List.mem_cons_of_mem _ hlk)) hl.2.2.1 ⟨hz, by show 8 + (X'.2.2.1 + 11) + (40 * z'.1 + 6) ≤ 40 * z.1 + 6; have := hl.2.2.2.1; omega⟩
theorem ml_N {idx n : Nat} {s : State} {args : Array Value} {host : String} (hl : ml_ok X.1.cls idx X' n) (hts : ∀ w ∈ rn_ws X, w.before args s = true) (hz : z'.1 + 1 ≤ z.1) (hlk : va_Nw (.methodLinkNest X.1.cls idx X'.1 host) s) : va_CN (rn_R z) s args X.1.cls idx X'.1 host X'.2.1 X'.2.2.1 X'.2.2.2 (rn_ws X') (rn_R z') z'.2.1 z'.2.2 n :=
  va_cnB n hts (ws_good hl.1) rfl rfl rfl hlk (hts _ (List.mem_cons_of_mem _ hl.2.1)) hl.2.2.1 ⟨hz, by show 8 + (X'.2.2.1 + 11) + (40 * z'.1 + 6) ≤ 40 * z.1 + 6; have := hl.2.2.2.1; omega⟩
theorem st_room {m : MethodId} {ls : Array Slot} {b : Nat × Nat} {sk : List Value} (h8 : st.length ≤ 8) : 2 * (F0 m pc ls sk).monitorRoom + ((st.map (ha_v b)).map fun v => v.category).sum ≤ 8 := lv_room (by rw [ha_catS]; exact h8)
theorem rw_callS {idx n : Nat} (hl : ml_ok X.1.cls idx X' n) (hst : Cond.static X'.1 ∈ lp_BW) (hd : decode X.2.1 pc = .ok (.invokestatic idx, 3)) (hM : rn_M G X' z' av h post') (hn : av.length = n) (hk : av.reverse ++ st = stk) (h8 : st.length ≤ 8) (hz : z'.1 + 1 ≤ z.1) (hrc : rc' + z'.2.1 = rc) (hrs : rs' + z'.2.2 = rs)
    (kk : ∀ r h', post' r h' → rn_W G X z rc' rs' (pc + 3) L (r.toList ++ st) h' post) : rn_W G X z rc rs pc L stk h post := by
  intro b D cA p e s m args below meth c F H locs ls cells slots hP hS hL hc hs
  subst hk
  have hpre : PreS s H (va_Pc (av.map (ha_v b)) (rn_P G b D cA h)) (av.map (ha_v b)) := ⟨rn_blind, fun U hU hW => ⟨rfl, rn_pre F hP hS U hU hW⟩⟩
  have hstk : (F0 m pc ls ((av.reverse ++ st).map (ha_v b))).stack = (av.map (ha_v b)).reverse ++ st.map (ha_v b) := by show (av.reverse ++ st).map (ha_v b) = _; rw [List.map_append, List.map_reverse]
  have key : va_Run p G.1 e (rn_R z) s m args below meth c H locs cells slots z'.2.1 z'.2.2 (F0 m pc ls ((av.reverse ++ st).map (ha_v b))) (st.map (ha_v b)) (rn_Q b D cA post' (av.map (ha_v b)).toArray) (fun q => b.1 < q) := by
    rcases hl.2.2.2.2 with hlk | ⟨host, hlk⟩
    · exact va_runS (nL := X.2.2.1) ⟨F.1, F.2.1, F.2.2.1, F.own, F.2.2.2.2.2.1⟩ (hM b D cA) ⟨ml_B hl F.2.2.2.2.2.1 hz hlk, F.bw _ hst⟩ hpre rfl (by rw [List.length_map]; exact hn) hL.1 hstk (st_room h8) hd ⟨by show cells + z'.2.1 ≤ z.2.1; omega, by show slots + z'.2.2 ≤ z.2.2; omega⟩
    · exact va_runSN (nL := X.2.2.1) ⟨F.1, F.2.1, F.2.2.1, F.own, F.2.2.2.2.2.1⟩ (hM b D cA) ⟨ml_N hl F.2.2.2.2.2.1 hz (F.K.2.1 _ hlk), F.bw _ hst, trivial⟩ hpre rfl (by rw [List.length_map]; exact hn) hL.1 hstk (st_room h8) hd ⟨by show cells + z'.2.1 ≤ z.2.1; omega, by show slots + z'.2.2 ≤ z.2.2; omega⟩
  refine rn_cont key hS (fun r h' H1 locs1 hq hP1 hS1 => ?_)
  have := kk r h' hq b D cA p e s m args below meth c F H1 locs1 ls (cells + z'.2.1) (slots + z'.2.2) hP1 hS1 hL (by omega) (by omega)
  rw [List.map_append] at this
  cases r <;> exact this
theorem rw_callI {idx n a : Nat} (hl : ml_ok X.1.cls idx X' n) (hin : Cond.instanceMethod X'.1 ∈ lp_BW) (hnm : X'.1.name = "<init>") (hrt : X'.2.2.2 = none) (hd : decode X.2.1 pc = .ok (.invokespecial idx, 3)) (hM : rn_M G X' z' (.inr (some a) :: av) h post') (hn : av.length = n) (hk : av.reverse ++ .inr (some a) :: st = stk) (h8 : st.length ≤ 8) (hz : z'.1 + 1 ≤ z.1) (hrc : rc' + z'.2.1 = rc) (hrs : rs' + z'.2.2 = rs)
    (kk : ∀ r h', post' r h' → rn_W G X z rc' rs' (pc + 3) L (r.toList ++ st) h' post) : rn_W G X z rc rs pc L stk h post := by
  intro b D cA p e s m args below meth c F H locs ls cells slots hP hS hL hc hs
  subst hk
  have hpre : PreS s H (va_Pc ((.inr (some a) :: av : List ha_V).map (ha_v b)) (rn_P G b D cA h)) (.ref (ha_a b a) :: av.map (ha_v b)) := ⟨rn_blind, fun U hU hW => ⟨rfl, rn_pre F hP hS U hU hW⟩⟩
  have hstk : (F0 m pc ls ((av.reverse ++ .inr (some a) :: st).map (ha_v b))).stack = (av.map (ha_v b)).reverse ++ .ref (ha_a b a) :: st.map (ha_v b) := by show (av.reverse ++ .inr (some a) :: st).map (ha_v b) = _; rw [List.map_append, List.map_reverse]; rfl
  have key : va_Run p G.1 e (rn_R z) s m args below meth c H locs cells slots z'.2.1 z'.2.2 (F0 m pc ls ((av.reverse ++ .inr (some a) :: st).map (ha_v b))) (st.map (ha_v b)) (rn_Q b D cA post' (.ref (ha_a b a) :: av.map (ha_v b)).toArray) (fun q => b.1 < q) := by
    rcases hl.2.2.2.2 with hlk | ⟨host, hlk⟩
    · have cb := ml_B (z := z) (z' := z') hl F.2.2.2.2.2.1 hz hlk
      rw [hrt] at cb
      exact va_runI (nL := X.2.2.1) ⟨F.1, F.2.1, F.2.2.1, F.own, F.2.2.2.2.2.1⟩ (hM b D cA) ⟨cb, hnm, F.bw _ hin⟩ hpre rfl (by rw [List.length_map]; exact hn) hL.1 hstk (st_room h8) hd ⟨by show cells + z'.2.1 ≤ z.2.1; omega, by show slots + z'.2.2 ≤ z.2.2; omega⟩
    · have cb := ml_N (z := z) (z' := z') hl F.2.2.2.2.2.1 hz (F.K.2.1 _ hlk)
      rw [hrt] at cb
      exact va_runIN (nL := X.2.2.1) ⟨F.1, F.2.1, F.2.2.1, F.own, F.2.2.2.2.2.1⟩ (hM b D cA) ⟨cb, hnm, F.bw _ hin⟩ hpre rfl (by rw [List.length_map]; exact hn) hL.1 hstk (st_room h8) hd ⟨by show cells + z'.2.1 ≤ z.2.1; omega, by show slots + z'.2.2 ≤ z.2.2; omega⟩
  refine rn_cont key hS (fun r h' H1 locs1 hq hP1 hS1 => ?_)
  have := kk r h' hq b D cA p e s m args below meth c F H1 locs1 ls (cells + z'.2.1) (slots + z'.2.2) hP1 hS1 hL (by omega) (by omega)
  rw [List.map_append] at this
  cases r <;> exact this
theorem rw_callV {idx n a ci : Nat} {C : vw_C} (hl : ml_ok X.1.cls idx X' n) (hin : Cond.instanceMethod X'.1 ∈ lp_BW) (hcl : lp_CL[ci]? = some C) (hse : Cond.selects C.1 X'.1 X'.1 ∈ lp_BW) (hd : decode X.2.1 pc = .ok (.invokevirtual idx, 3)) (ha : hp_ok h a) (hsh : hp_S h a = .inr ci) (hM : rn_M G X' z' (.inr (some a) :: av) h post') (hn : av.length = n) (hk : av.reverse ++ .inr (some a) :: st = stk) (h8 : st.length ≤ 8) (hz : z'.1 + 1 ≤ z.1) (hrc : rc' + z'.2.1 = rc) (hrs : rs' + z'.2.2 = rs)
    (kk : ∀ r h', post' r h' → rn_W G X z rc' rs' (pc + 3) L (r.toList ++ st) h' post) : rn_W G X z rc rs pc L stk h post := by
  intro b D cA p e s m args below meth c F H locs ls cells slots hP hS hL hc hs
  subst hk
  obtain ⟨cell, q1, q2, q3, -⟩ := hp_obj hP ha hsh hcl
  have hfc := (F.K.1.1 ci C hcl).2.1
  have hpre : PreV s H C.1 (ha_a b a) (va_Pc ((.inr (some a) :: av : List ha_V).map (ha_v b)) (rn_P G b D cA h)) (av.map (ha_v b)) := ⟨rn_blind, ⟨cell, q1, by rw [q3]; rfl, by rw [q2]; exact hfc⟩, fun U hU hW => ⟨rfl, rn_pre F hP hS U hU hW⟩⟩
  have hstk : (F0 m pc ls ((av.reverse ++ .inr (some a) :: st).map (ha_v b))).stack = (av.map (ha_v b)).reverse ++ .ref (ha_a b a) :: st.map (ha_v b) := by show (av.reverse ++ .inr (some a) :: st).map (ha_v b) = _; rw [List.map_append, List.map_reverse]; rfl
  have key : va_Run p G.1 e (rn_R z) s m args below meth c H locs cells slots z'.2.1 z'.2.2 (F0 m pc ls ((av.reverse ++ .inr (some a) :: st).map (ha_v b))) (st.map (ha_v b)) (rn_Q b D cA post' (.ref (ha_a b a) :: av.map (ha_v b)).toArray) (fun q => b.1 < q) := by
    rcases hl.2.2.2.2 with hlk | ⟨host, hlk⟩
    · exact va_runV (nL := X.2.2.1) ⟨F.1, F.2.1, F.2.2.1, F.own, F.2.2.2.2.2.1⟩ (hM b D cA) ⟨ml_B hl F.2.2.2.2.2.1 hz hlk, F.bw _ hin, F.bw _ hse⟩ hpre rfl (by rw [List.length_map]; exact hn) hL.1 hstk (st_room h8) hd ⟨by show cells + z'.2.1 ≤ z.2.1; omega, by show slots + z'.2.2 ≤ z.2.2; omega⟩
    · exact va_runVN (nL := X.2.2.1) ⟨F.1, F.2.1, F.2.2.1, F.own, F.2.2.2.2.2.1⟩ (hM b D cA) ⟨ml_N hl F.2.2.2.2.2.1 hz (F.K.2.1 _ hlk), F.bw _ hin, F.bw _ hse⟩ hpre rfl (by rw [List.length_map]; exact hn) hL.1 hstk (st_room h8) hd ⟨by show cells + z'.2.1 ≤ z.2.1; omega, by show slots + z'.2.2 ≤ z.2.2; omega⟩
  refine rn_cont key hS (fun r h' H1 locs1 hq hP1 hS1 => ?_)
  have := kk r h' hq b D cA p e s m args below meth c F H1 locs1 ls (cells + z'.2.1) (slots + z'.2.2) hP1 hS1 hL (by omega) (by omega)
  rw [List.map_append] at this
  cases r <;> exact this
end RC
