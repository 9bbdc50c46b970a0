/-! A method's walk over the picture: rn_W says that from this place the method comes to its end with 'post'; rn_M is its contract. -/
abbrev mt_X : Type := MethodName × ByteArray × Nat × Option FieldType
def rn_ws (X : mt_X) : List Cond := Cond.code X.1 X.2.1 X.2.2.1 X.2.2.2 :: lp_BW
abbrev mt_G : Type := Launch × Nat × (Nat → Int32)
def rn_R (z : Nat × Nat × Nat) : Room := { frames := z.1, cells := z.2.1, slots := z.2.2, locals := 40 * z.1 + 6 }
def rn_Q (b : Nat × Nat) (D : va_G) (cA : Nat → ClassId) (post : Option ha_V → ha_H → Prop) : Array Value → State → Outcome → State → Prop := fun _ st oc t => (∃ (r : Option ha_V) (h' : ha_H), oc = .returned (r.map (ha_v b)) ∧ post r h' ∧ hp_P b D cA h' t.heap) ∧ va_F (fun q => b.1 < q) st t
def rn_P (G : mt_G) (b : Nat × Nat) (D : va_G) (cA : Nat → ClassId) (h : ha_H) (U : State) : Prop := hp_P b D cA h U.heap ∧ hp_K D cA U ∧ va_X b.2 G.2.1 G.2.2 U U.heap ∧ b.2 ≤ b.1
def rn_M (G : mt_G) (X : mt_X) (z : Nat × Nat × Nat) (av : List ha_V) (h : ha_H) (post : Option ha_V → ha_H → Prop) : Prop := ∀ (b : Nat × Nat) (D : va_G) (cA : Nat → ClassId), Met G.1 X.1 (rn_ws X) (rn_R z) (va_Pc (av.map (ha_v b)) (rn_P G b D cA h)) (rn_Q b D cA post) z.2.1 z.2.2 (fun q => b.1 < q)
def cx_F (G : mt_G) (X : mt_X) (b : Nat × Nat) (D : va_G) (cA : Nat → ClassId) (p : Program) (s : State) (m : MethodId) (args : Array Value) (meth : Method) (c : Code) : Prop :=
  p.tables.exec = Jvm.exec ∧ c.code = X.2.1 ∧ c.maxLocals = X.2.2.1 ∧ meth.sig.returnType = X.2.2.2 ∧ meth.locks = false ∧ (∀ w ∈ rn_ws X, w.before args s = true) ∧ s.vm.findClass X.1.cls = some m.cls ∧ meth.name = X.1.name ∧ hp_K D cA s ∧ b.1 < s.heap.size ∧ va_X b.2 G.2.1 G.2.2 s s.heap ∧ b.2 ≤ b.1
def rn_W (G : mt_G) (X : mt_X) (z : Nat × Nat × Nat) (rc rs pc : Nat) (L : List (Option ha_V)) (st : List ha_V) (h : ha_H) (post : Option ha_V → ha_H → Prop) : Prop :=
  ∀ (b : Nat × Nat) (D : va_G) (cA : Nat → ClassId) (p : Program) (e : Env) (s : State) (m : MethodId) (args : Array Value) (below : List Frame) (meth : Method) (c : Code), cx_F G X b D cA p s m args meth c → ∀ (H : Heap) (locs : List Loc) (ls : Array Slot) (cells slots : Nat), hp_P b D cA h H → va_S (fun q => b.1 < q) s.heap H locs → lo_L b L ls X.2.2.1 → cells + rc = z.2.1 → slots + rs = z.2.2 →
    W p G.1 e (rn_R z) s m args below meth c H locs cells slots (MQ below (rn_Q b D cA post) args s z.2.1 z.2.2 (fun q => b.1 < q)) (F0 m pc ls (st.map (ha_v b)))
theorem rn_of {G : mt_G} {X : mt_X} {z : Nat × Nat × Nat} {av : List ha_V} {h : ha_H} {post : Option ha_V → ha_H → Prop} (hy : plainName X.1.cls = true) (hn : av.length ≤ X.2.2.1) (k : rn_W G X z z.2.1 z.2.2 0 (lo_0 av X.2.2.1) [] h post) : rn_M G X z av h post := by
  intro b D cA
  refine Met.ofW (cc := X.2.1) (maxL := X.2.2.1) (ret := X.2.2.2) hy rfl ?_
  intro p e s m args below meth c s₁ B hml hv
  obtain ⟨rfl, hP, hK, hX, h2⟩ := hv
  rw [lg_entry_eq]
  exact k b D cA p e s m _ below meth c ⟨B.exec, B.bytes, hml, B.returns, B.notSynchronized, atoms_spec (ws := rn_ws X) B.pre, findClass_of_methodNamed B.named, (name_of_methodNamed B.named B.method).1, hK, by rw [hP.1]; have := hP.2.1; omega, hX, h2⟩ s.heap [] _ 0 0 hP va_S.rf (lo_entry b av hn) (by omega) (by omega)
section RW
variable {G : mt_G} {X : mt_X} {z : Nat × Nat × Nat} {rc rs pc : Nat} {L L' : List (Option ha_V)} {st : List ha_V} {h : ha_H} {post : Option ha_V → ha_H → Prop}
theorem rw_iconst {n : Int} {x : Int32} (hd : decode X.2.1 pc = .ok (.iconst n, 1)) (hx : Int32.ofInt n = x) (k : rn_W G X z rc rs (pc + 1) L (.inl x :: st) h post) : rn_W G X z rc rs pc L st h post := by
  intro b D cA p e s m args below meth c F H locs ls cells slots hP hS hL hc hs
  exact lv_iconst F.1 F.2.1 hd hx (k _ _ _ _ _ _ _ _ _ _ _ F _ _ _ _ _ hP hS hL hc hs)
theorem rw_bipush {n : Int} {x : Int32} (hd : decode X.2.1 pc = .ok (.bipush n, 2)) (hx : (Int8.ofInt n).toInt32 = x) (k : rn_W G X z rc rs (pc + 2) L (.inl x :: st) h post) : rn_W G X z rc rs pc L st h post := by
  intro b D cA p e s m args below meth c F H locs ls cells slots hP hS hL hc hs
  exact lv_bipush F.1 F.2.1 hd hx (k _ _ _ _ _ _ _ _ _ _ _ F _ _ _ _ _ hP hS hL hc hs)
theorem rw_sipush {n : Int} {x : Int32} (hd : decode X.2.1 pc = .ok (.sipush n, 3)) (hx : (Int16.ofInt n).toInt32 = x) (k : rn_W G X z rc rs (pc + 3) L (.inl x :: st) h post) : rn_W G X z rc rs pc L st h post := by
  intro b D cA p e s m args below meth c F H locs ls cells slots hP hS hL hc hs
  exact lv_sipush F.1 F.2.1 hd hx (k _ _ _ _ _ _ _ _ _ _ _ F _ _ _ _ _ hP hS hL hc hs)
theorem rw_ldc {idx : Nat} {x : Int32} (hd : decode X.2.1 pc = .ok (.ldc idx, 2)) (hw : Cond.constant X.1.cls idx x ∈ lp_BW) (k : rn_W G X z rc rs (pc + 2) L (.inl x :: st) h post) : rn_W G X z rc rs pc L st h post := by
  intro b D cA p e s m args below meth c F H locs ls cells slots hP hS hL hc hs
  exact lv_ldc F.1 F.2.1 F.2.2.2.2.2.2.1 (F.2.2.2.2.2.1 _ (List.mem_cons_of_mem _ hw)) hd (k _ _ _ _ _ _ _ _ _ _ _ F _ _ _ _ _ hP hS hL hc hs)
theorem rw_null  (hd : decode X.2.1 pc = .ok (.aconst_null, 1)) (k : rn_W G X z rc rs (pc + 1) L (.inr none :: st) h post) : rn_W G X z rc rs pc L st h post := by
  intro b D cA p e s m args below meth c F H locs ls cells slots hP hS hL hc hs
  exact lv_null F.1 F.2.1 hd (k _ _ _ _ _ _ _ _ _ _ _ F _ _ _ _ _ hP hS hL hc hs)
theorem rw_iload_n {i : Fin 4} {x : Int32} (hd : decode X.2.1 pc = .ok (.iload_n i, 1)) (hv : L[(i : Nat)]? = some (some (.inl x))) (k : rn_W G X z rc rs (pc + 1) L (.inl x :: st) h post) : rn_W G X z rc rs pc L st h post := by
  intro b D cA p e s m args below meth c F H locs ls cells slots hP hS hL hc hs
  exact lv_iload_n F.1 F.2.1 hd rfl (hL.2.2 _ _ hv) (k _ _ _ _ _ _ _ _ _ _ _ F _ _ _ _ _ hP hS hL hc hs)
theorem rw_iload {i : Nat} {x : Int32} (hd : decode X.2.1 pc = .ok (.iload i, 2)) (hv : L[i]? = some (some (.inl x))) (k : rn_W G X z rc rs (pc + 2) L (.inl x :: st) h post) : rn_W G X z rc rs pc L st h post := by
  intro b D cA p e s m args below meth c F H locs ls cells slots hP hS hL hc hs
  exact lv_iload F.1 F.2.1 hd (hL.2.2 _ _ hv) (k _ _ _ _ _ _ _ _ _ _ _ F _ _ _ _ _ hP hS hL hc hs)
theorem rw_aload_n {i : Fin 4} {r : Option Nat} (hd : decode X.2.1 pc = .ok (.aload_n i, 1)) (hv : L[(i : Nat)]? = some (some (.inr r))) (k : rn_W G X z rc rs (pc + 1) L (.inr r :: st) h post) : rn_W G X z rc rs pc L st h post := by
  intro b D cA p e s m args below meth c F H locs ls cells slots hP hS hL hc hs
  cases r with
  | none => exact lv_aload_nN F.1 F.2.1 hd rfl (hL.2.2 _ _ hv) (k _ _ _ _ _ _ _ _ _ _ _ F _ _ _ _ _ hP hS hL hc hs)
  | some a => exact lv_aload_n F.1 F.2.1 hd rfl (hL.2.2 _ _ hv) (k _ _ _ _ _ _ _ _ _ _ _ F _ _ _ _ _ hP hS hL hc hs)
theorem rw_aload {i : Nat} {r : Option Nat} (hd : decode X.2.1 pc = .ok (.aload i, 2)) (hv : L[i]? = some (some (.inr r))) (k : rn_W G X z rc rs (pc + 2) L (.inr r :: st) h post) : rn_W G X z rc rs pc L st h post := by
  intro b D cA p e s m args below meth c F H locs ls cells slots hP hS hL hc hs
  cases r with
  | none => exact lv_aloadN F.1 F.2.1 hd (hL.2.2 _ _ hv) (k _ _ _ _ _ _ _ _ _ _ _ F _ _ _ _ _ hP hS hL hc hs)
  | some a => exact lv_aload F.1 F.2.1 hd (hL.2.2 _ _ hv) (k _ _ _ _ _ _ _ _ _ _ _ F _ _ _ _ _ hP hS hL hc hs)
theorem rw_istore_n {i : Fin 4} {x : Int32} (hd : decode X.2.1 pc = .ok (.istore_n i, 1)) (hi : (i : Nat) < X.2.2.1) (he : L.set i (some (.inl x)) = L') (k : rn_W G X z rc rs (pc + 1) L' st h post) : rn_W G X z rc rs pc L (.inl x :: st) h post := by
  intro b D cA p e s m args below meth c F H locs ls cells slots hP hS hL hc hs
  subst he
  exact lv_istore_n F.1 F.2.1 hd rfl (lo_has hL) hi rfl (fun ls' h' => k _ _ _ _ _ _ _ _ _ _ _ F _ _ _ _ _ hP hS (lo_set h') hc hs)
theorem rw_istore {i : Nat} {x : Int32} (hd : decode X.2.1 pc = .ok (.istore i, 2)) (hi : i < X.2.2.1) (he : L.set i (some (.inl x)) = L') (k : rn_W G X z rc rs (pc + 2) L' st h post) : rn_W G X z rc rs pc L (.inl x :: st) h post := by
  intro b D cA p e s m args below meth c F H locs ls cells slots hP hS hL hc hs
  subst he
  exact lv_istore F.1 F.2.1 hd (lo_has hL) hi rfl (fun ls' h' => k _ _ _ _ _ _ _ _ _ _ _ F _ _ _ _ _ hP hS (lo_set h') hc hs)
theorem rw_astore_n {i : Fin 4} {r : Option Nat} (hd : decode X.2.1 pc = .ok (.astore_n i, 1)) (hi : (i : Nat) < X.2.2.1) (he : L.set i (some (.inr r)) = L') (k : rn_W G X z rc rs (pc + 1) L' st h post) : rn_W G X z rc rs pc L (.inr r :: st) h post := by
  intro b D cA p e s m args below meth c F H locs ls cells slots hP hS hL hc hs
  subst he
  cases r with
  | none => exact lv_astore_nN F.1 F.2.1 hd rfl (lo_has hL) hi rfl (fun ls' h' => k _ _ _ _ _ _ _ _ _ _ _ F _ _ _ _ _ hP hS (lo_set (v := .inr none) h') hc hs)
  | some a => exact lv_astore_n F.1 F.2.1 hd rfl (lo_has hL) hi rfl (fun ls' h' => k _ _ _ _ _ _ _ _ _ _ _ F _ _ _ _ _ hP hS (lo_set (v := .inr (some a)) h') hc hs)
theorem rw_astore {i : Nat} {r : Option Nat} (hd : decode X.2.1 pc = .ok (.astore i, 2)) (hi : i < X.2.2.1) (he : L.set i (some (.inr r)) = L') (k : rn_W G X z rc rs (pc + 2) L' st h post) : rn_W G X z rc rs pc L (.inr r :: st) h post := by
  intro b D cA p e s m args below meth c F H locs ls cells slots hP hS hL hc hs
  subst he
  cases r with
  | none => exact lv_astoreN F.1 F.2.1 hd (lo_has hL) hi rfl (fun ls' h' => k _ _ _ _ _ _ _ _ _ _ _ F _ _ _ _ _ hP hS (lo_set (v := .inr none) h') hc hs)
  | some a => exact lv_astore F.1 F.2.1 hd (lo_has hL) hi rfl (fun ls' h' => k _ _ _ _ _ _ _ _ _ _ _ F _ _ _ _ _ hP hS (lo_set (v := .inr (some a)) h') hc hs)
theorem rw_iinc {i : Nat} {n : Int} {x y : Int32} (hd : decode X.2.1 pc = .ok (.iinc i n, 3)) (hi : i < X.2.2.1) (hv : L[i]? = some (some (.inl x))) (hy : x + Int32.ofInt n = y) (he : L.set i (some (.inl y)) = L') (k : rn_W G X z rc rs (pc + 3) L' st h post) : rn_W G X z rc rs pc L st h post := by
  intro b D cA p e s m args below meth c F H locs ls cells slots hP hS hL hc hs
  subst he
  obtain ⟨j, hj⟩ := List.getElem?_of_mem (lo_in (b := b) hv)
  exact lv_iinc (k := j) F.1 F.2.1 hd (lo_has hL) hj hy hi rfl (fun ls' h' => k _ _ _ _ _ _ _ _ _ _ _ F _ _ _ _ _ hP hS (lo_set (v := .inl y) h') hc hs)
theorem rw_iadd {x y v : Int32} (hd : decode X.2.1 pc = .ok (.iadd, 1)) (hv : x + y = v) (k : rn_W G X z rc rs (pc + 1) L (.inl v :: st) h post) : rn_W G X z rc rs pc L (.inl y :: .inl x :: st) h post := by
  intro b D cA p e s m args below meth c F H locs ls cells slots hP hS hL hc hs
  subst hv
  exact lv_iadd F.1 F.2.1 hd (k _ _ _ _ _ _ _ _ _ _ _ F _ _ _ _ _ hP hS hL hc hs)
theorem rw_isub {x y v : Int32} (hd : decode X.2.1 pc = .ok (.isub, 1)) (hv : x - y = v) (k : rn_W G X z rc rs (pc + 1) L (.inl v :: st) h post) : rn_W G X z rc rs pc L (.inl y :: .inl x :: st) h post := by
  intro b D cA p e s m args below meth c F H locs ls cells slots hP hS hL hc hs
  subst hv
  exact lv_isub F.1 F.2.1 hd (k _ _ _ _ _ _ _ _ _ _ _ F _ _ _ _ _ hP hS hL hc hs)
theorem rw_imul {x y v : Int32} (hd : decode X.2.1 pc = .ok (.imul, 1)) (hv : x * y = v) (k : rn_W G X z rc rs (pc + 1) L (.inl v :: st) h post) : rn_W G X z rc rs pc L (.inl y :: .inl x :: st) h post := by
  intro b D cA p e s m args below meth c F H locs ls cells slots hP hS hL hc hs
  subst hv
  exact lv_imul F.1 F.2.1 hd (k _ _ _ _ _ _ _ _ _ _ _ F _ _ _ _ _ hP hS hL hc hs)
theorem rw_iand {x y v : Int32} (hd : decode X.2.1 pc = .ok (.iand, 1)) (hv : x &&& y = v) (k : rn_W G X z rc rs (pc + 1) L (.inl v :: st) h post) : rn_W G X z rc rs pc L (.inl y :: .inl x :: st) h post := by
  intro b D cA p e s m args below meth c F H locs ls cells slots hP hS hL hc hs
  subst hv
  exact lv_iand F.1 F.2.1 hd (k _ _ _ _ _ _ _ _ _ _ _ F _ _ _ _ _ hP hS hL hc hs)
theorem rw_idiv {x y v : Int32} (hd : decode X.2.1 pc = .ok (.idiv, 1)) (hne : ¬ y = 0) (hv : x / y = v) (k : rn_W G X z rc rs (pc + 1) L (.inl v :: st) h post) : rn_W G X z rc rs pc L (.inl y :: .inl x :: st) h post := by
  intro b D cA p e s m args below meth c F H locs ls cells slots hP hS hL hc hs
  subst hv
  exact lv_idiv F.1 F.2.1 hd hne (k _ _ _ _ _ _ _ _ _ _ _ F _ _ _ _ _ hP hS hL hc hs)
theorem rw_irem {x y v : Int32} (hd : decode X.2.1 pc = .ok (.irem, 1)) (hne : ¬ y = 0) (hv : x - x / y * y = v) (k : rn_W G X z rc rs (pc + 1) L (.inl v :: st) h post) : rn_W G X z rc rs pc L (.inl y :: .inl x :: st) h post := by
  intro b D cA p e s m args below meth c F H locs ls cells slots hP hS hL hc hs
  subst hv
  exact lv_irem F.1 F.2.1 hd hne (k _ _ _ _ _ _ _ _ _ _ _ F _ _ _ _ _ hP hS hL hc hs)
theorem rw_dup {v : ha_V} (hd : decode X.2.1 pc = .ok (.dup, 1)) (k : rn_W G X z rc rs (pc + 1) L (v :: v :: st) h post) : rn_W G X z rc rs pc L (v :: st) h post := by
  intro b D cA p e s m args below meth c F H locs ls cells slots hP hS hL hc hs
  exact lv_dup F.1 F.2.1 hd (ha_cat b v) (k _ _ _ _ _ _ _ _ _ _ _ F _ _ _ _ _ hP hS hL hc hs)
theorem rw_pop {v : ha_V} (hd : decode X.2.1 pc = .ok (.pop, 1)) (k : rn_W G X z rc rs (pc + 1) L st h post) : rn_W G X z rc rs pc L (v :: st) h post := by
  intro b D cA p e s m args below meth c F H locs ls cells slots hP hS hL hc hs
  exact lv_pop F.1 F.2.1 hd (ha_cat b v) (k _ _ _ _ _ _ _ _ _ _ _ F _ _ _ _ _ hP hS hL hc hs)
theorem rw_dup2 {v w : ha_V} (hd : decode X.2.1 pc = .ok (.dup2, 1)) (k : rn_W G X z rc rs (pc + 1) L (v :: w :: v :: w :: st) h post) : rn_W G X z rc rs pc L (v :: w :: st) h post := by
  intro b D cA p e s m args below meth c F H locs ls cells slots hP hS hL hc hs
  exact lv_dup2_11 F.1 F.2.1 hd (ha_cat b v) (ha_cat b w) (k _ _ _ _ _ _ _ _ _ _ _ F _ _ _ _ _ hP hS hL hc hs)
theorem rw_ifeq {x : Int32} {off : Int} {tgt : Nat} (hd : decode X.2.1 pc = .ok (.ifCond .eq off, 3)) (ht : (pc : Int) + off = (tgt : Int)) (kt : x = 0 → rn_W G X z rc rs tgt L st h post) (kf : ¬ x = 0 → rn_W G X z rc rs (pc + 3) L st h post) : rn_W G X z rc rs pc L (.inl x :: st) h post := by
  intro b D cA p e s m args below meth c F H locs ls cells slots hP hS hL hc hs
  exact lv_if_eq F.1 F.2.1 hd ht (fun hx => kt hx _ _ _ _ _ _ _ _ _ _ _ F _ _ _ _ _ hP hS hL hc hs) (fun hx => kf hx _ _ _ _ _ _ _ _ _ _ _ F _ _ _ _ _ hP hS hL hc hs)
theorem rw_iflt {x : Int32} {off : Int} {tgt : Nat} (hd : decode X.2.1 pc = .ok (.ifCond .lt off, 3)) (ht : (pc : Int) + off = (tgt : Int)) (kt : x < 0 → rn_W G X z rc rs tgt L st h post) (kf : ¬ x < 0 → rn_W G X z rc rs (pc + 3) L st h post) : rn_W G X z rc rs pc L (.inl x :: st) h post := by
  intro b D cA p e s m args below meth c F H locs ls cells slots hP hS hL hc hs
  exact lv_if_lt F.1 F.2.1 hd ht (fun hx => kt hx _ _ _ _ _ _ _ _ _ _ _ F _ _ _ _ _ hP hS hL hc hs) (fun hx => kf hx _ _ _ _ _ _ _ _ _ _ _ F _ _ _ _ _ hP hS hL hc hs)
theorem rw_ifgt {x : Int32} {off : Int} {tgt : Nat} (hd : decode X.2.1 pc = .ok (.ifCond .gt off, 3)) (ht : (pc : Int) + off = (tgt : Int)) (kt : 0 < x → rn_W G X z rc rs tgt L st h post) (kf : ¬ 0 < x → rn_W G X z rc rs (pc + 3) L st h post) : rn_W G X z rc rs pc L (.inl x :: st) h post := by
  intro b D cA p e s m args below meth c F H locs ls cells slots hP hS hL hc hs
  exact lv_if_gt F.1 F.2.1 hd ht (fun hx => kt hx _ _ _ _ _ _ _ _ _ _ _ F _ _ _ _ _ hP hS hL hc hs) (fun hx => kf hx _ _ _ _ _ _ _ _ _ _ _ F _ _ _ _ _ hP hS hL hc hs)
theorem rw_ifle {x : Int32} {off : Int} {tgt : Nat} (hd : decode X.2.1 pc = .ok (.ifCond .le off, 3)) (ht : (pc : Int) + off = (tgt : Int)) (kt : x ≤ 0 → rn_W G X z rc rs tgt L st h post) (kf : ¬ x ≤ 0 → rn_W G X z rc rs (pc + 3) L st h post) : rn_W G X z rc rs pc L (.inl x :: st) h post := by
  intro b D cA p e s m args below meth c F H locs ls cells slots hP hS hL hc hs
  exact lv_if_le F.1 F.2.1 hd ht (fun hx => kt hx _ _ _ _ _ _ _ _ _ _ _ F _ _ _ _ _ hP hS hL hc hs) (fun hx => kf hx _ _ _ _ _ _ _ _ _ _ _ F _ _ _ _ _ hP hS hL hc hs)
theorem rw_icmpeq {x y : Int32} {off : Int} {tgt : Nat} (hd : decode X.2.1 pc = .ok (.if_icmp .eq off, 3)) (ht : (pc : Int) + off = (tgt : Int)) (kt : x = y → rn_W G X z rc rs tgt L st h post) (kf : ¬ x = y → rn_W G X z rc rs (pc + 3) L st h post) : rn_W G X z rc rs pc L (.inl y :: .inl x :: st) h post := by
  intro b D cA p e s m args below meth c F H locs ls cells slots hP hS hL hc hs
  exact lv_icmp_eq F.1 F.2.1 hd ht (fun hx => kt hx _ _ _ _ _ _ _ _ _ _ _ F _ _ _ _ _ hP hS hL hc hs) (fun hx => kf hx _ _ _ _ _ _ _ _ _ _ _ F _ _ _ _ _ hP hS hL hc hs)
theorem rw_icmplt {x y : Int32} {off : Int} {tgt : Nat} (hd : decode X.2.1 pc = .ok (.if_icmp .lt off, 3)) (ht : (pc : Int) + off = (tgt : Int)) (kt : x < y → rn_W G X z rc rs tgt L st h post) (kf : ¬ x < y → rn_W G X z rc rs (pc + 3) L st h post) : rn_W G X z rc rs pc L (.inl y :: .inl x :: st) h post := by
  intro b D cA p e s m args below meth c F H locs ls cells slots hP hS hL hc hs
  exact lv_icmp_lt F.1 F.2.1 hd ht (fun hx => kt hx _ _ _ _ _ _ _ _ _ _ _ F _ _ _ _ _ hP hS hL hc hs) (fun hx => kf hx _ _ _ _ _ _ _ _ _ _ _ F _ _ _ _ _ hP hS hL hc hs)
theorem rw_icmpgt {x y : Int32} {off : Int} {tgt : Nat} (hd : decode X.2.1 pc = .ok (.if_icmp .gt off, 3)) (ht : (pc : Int) + off = (tgt : Int)) (kt : y < x → rn_W G X z rc rs tgt L st h post) (kf : ¬ y < x → rn_W G X z rc rs (pc + 3) L st h post) : rn_W G X z rc rs pc L (.inl y :: .inl x :: st) h post := by
  intro b D cA p e s m args below meth c F H locs ls cells slots hP hS hL hc hs
  exact lv_icmp_gt F.1 F.2.1 hd ht (fun hx => kt hx _ _ _ _ _ _ _ _ _ _ _ F _ _ _ _ _ hP hS hL hc hs) (fun hx => kf hx _ _ _ _ _ _ _ _ _ _ _ F _ _ _ _ _ hP hS hL hc hs)
theorem rw_icmple {x y : Int32} {off : Int} {tgt : Nat} (hd : decode X.2.1 pc = .ok (.if_icmp .le off, 3)) (ht : (pc : Int) + off = (tgt : Int)) (kt : x ≤ y → rn_W G X z rc rs tgt L st h post) (kf : ¬ x ≤ y → rn_W G X z rc rs (pc + 3) L st h post) : rn_W G X z rc rs pc L (.inl y :: .inl x :: st) h post := by
  intro b D cA p e s m args below meth c F H locs ls cells slots hP hS hL hc hs
  exact lv_icmp_le F.1 F.2.1 hd ht (fun hx => kt hx _ _ _ _ _ _ _ _ _ _ _ F _ _ _ _ _ hP hS hL hc hs) (fun hx => kf hx _ _ _ _ _ _ _ _ _ _ _ F _ _ _ _ _ hP hS hL hc hs)
theorem rw_ifne {x : Int32} {off : Int} {tgt : Nat} (hd : decode X.2.1 pc = .ok (.ifCond .ne off, 3)) (ht : (pc : Int) + off = (tgt : Int)) (kt : ¬ x = 0 → rn_W G X z rc rs tgt L st h post) (kf : x = 0 → rn_W G X z rc rs (pc + 3) L st h post) : rn_W G X z rc rs pc L (.inl x :: st) h post := by
  intro b D cA p e s m args below meth c F H locs ls cells slots hP hS hL hc hs
  exact lv_if_ne F.1 F.2.1 hd ht (fun hx => kt hx _ _ _ _ _ _ _ _ _ _ _ F _ _ _ _ _ hP hS hL hc hs) (fun hx => kf hx _ _ _ _ _ _ _ _ _ _ _ F _ _ _ _ _ hP hS hL hc hs)
theorem rw_icmpne {x y : Int32} {off : Int} {tgt : Nat} (hd : decode X.2.1 pc = .ok (.if_icmp .ne off, 3)) (ht : (pc : Int) + off = (tgt : Int)) (kt : ¬ x = y → rn_W G X z rc rs tgt L st h post) (kf : x = y → rn_W G X z rc rs (pc + 3) L st h post) : rn_W G X z rc rs pc L (.inl y :: .inl x :: st) h post := by
  intro b D cA p e s m args below meth c F H locs ls cells slots hP hS hL hc hs
  exact lv_icmp_ne F.1 F.2.1 hd ht (fun hx => kt hx _ _ _ _ _ _ _ _ _ _ _ F _ _ _ _ _ hP hS hL hc hs) (fun hx => kf hx _ _ _ _ _ _ _ _ _ _ _ F _ _ _ _ _ hP hS hL hc hs)
theorem rw_ifge {x : Int32} {off : Int} {tgt : Nat} (hd : decode X.2.1 pc = .ok (.ifCond .ge off, 3)) (ht : (pc : Int) + off = (tgt : Int)) (kt : 0 ≤ x → rn_W G X z rc rs tgt L st h post) (kf : ¬ 0 ≤ x → rn_W G X z rc rs (pc + 3) L st h post) : rn_W G X z rc rs pc L (.inl x :: st) h post := by
  intro b D cA p e s m args below meth c F H locs ls cells slots hP hS hL hc hs
  exact lv_if_ge F.1 F.2.1 hd ht (fun hx => kt hx _ _ _ _ _ _ _ _ _ _ _ F _ _ _ _ _ hP hS hL hc hs) (fun hx => kf hx _ _ _ _ _ _ _ _ _ _ _ F _ _ _ _ _ hP hS hL hc hs)
theorem rw_icmpge {x y : Int32} {off : Int} {tgt : Nat} (hd : decode X.2.1 pc = .ok (.if_icmp .ge off, 3)) (ht : (pc : Int) + off = (tgt : Int)) (kt : y ≤ x → rn_W G X z rc rs tgt L st h post) (kf : ¬ y ≤ x → rn_W G X z rc rs (pc + 3) L st h post) : rn_W G X z rc rs pc L (.inl y :: .inl x :: st) h post := by
  intro b D cA p e s m args below meth c F H locs ls cells slots hP hS hL hc hs
  exact lv_icmp_ge F.1 F.2.1 hd ht (fun hx => kt hx _ _ _ _ _ _ _ _ _ _ _ F _ _ _ _ _ hP hS hL hc hs) (fun hx => kf hx _ _ _ _ _ _ _ _ _ _ _ F _ _ _ _ _ hP hS hL hc hs)
theorem rw_ifnull {r : Option Nat} {off : Int} {tgt : Nat} (hd : decode X.2.1 pc = .ok (.ifnull off, 3)) (ht : (pc : Int) + off = (tgt : Int)) (kt : r = none → rn_W G X z rc rs tgt L st h post) (kf : ∀ a, r = some a → rn_W G X z rc rs (pc + 3) L st h post) : rn_W G X z rc rs pc L (.inr r :: st) h post := by
  intro b D cA p e s m args below meth c F H locs ls cells slots hP hS hL hc hs
  cases r with
  | none => exact lv_ifnullN F.1 F.2.1 hd ht (kt rfl _ _ _ _ _ _ _ _ _ _ _ F _ _ _ _ _ hP hS hL hc hs)
  | some a => exact lv_ifnull F.1 F.2.1 hd (kf a rfl _ _ _ _ _ _ _ _ _ _ _ F _ _ _ _ _ hP hS hL hc hs)
theorem rw_ifnonnull {r : Option Nat} {off : Int} {tgt : Nat} (hd : decode X.2.1 pc = .ok (.ifnonnull off, 3)) (ht : (pc : Int) + off = (tgt : Int)) (kt : ∀ a, r = some a → rn_W G X z rc rs tgt L st h post) (kf : r = none → rn_W G X z rc rs (pc + 3) L st h post) : rn_W G X z rc rs pc L (.inr r :: st) h post := by
  intro b D cA p e s m args below meth c F H locs ls cells slots hP hS hL hc hs
  cases r with
  | none => exact lv_ifnonnullN F.1 F.2.1 hd (kf rfl _ _ _ _ _ _ _ _ _ _ _ F _ _ _ _ _ hP hS hL hc hs)
  | some a => exact lv_ifnonnull F.1 F.2.1 hd ht (kt a rfl _ _ _ _ _ _ _ _ _ _ _ F _ _ _ _ _ hP hS hL hc hs)
theorem rw_goto {off : Int} {tgt : Nat} (hd : decode X.2.1 pc = .ok (.goto off, 3)) (ht : (pc : Int) + off = (tgt : Int)) (k : rn_W G X z rc rs tgt L st h post) : rn_W G X z rc rs pc L st h post := by
  intro b D cA p e s m args below meth c F H locs ls cells slots hP hS hL hc hs
  exact lv_goto F.1 F.2.1 hd ht (k _ _ _ _ _ _ _ _ _ _ _ F _ _ _ _ _ hP hS hL hc hs)
theorem rw_tabOut {dflt lo hi : Int} {offs : Array Int} {len tgt : Nat} {x : Int32} (hd : decode X.2.1 pc = .ok (.tableswitch dflt lo hi offs, len)) (hx : x.toInt < lo ∨ hi < x.toInt) (ht : (pc : Int) + dflt = (tgt : Int)) (k : rn_W G X z rc rs tgt L st h post) : rn_W G X z rc rs pc L (.inl x :: st) h post := by
  intro b D cA p e s m args below meth c F H locs ls cells slots hP hS hL hc hs
  exact lv_tableOut F.1 F.2.1 hd hx ht (k _ _ _ _ _ _ _ _ _ _ _ F _ _ _ _ _ hP hS hL hc hs)
theorem rw_tabIn {dflt lo hi off : Int} {offs : Array Int} {len tgt : Nat} {x : Int32} (hd : decode X.2.1 pc = .ok (.tableswitch dflt lo hi offs, len)) (h1 : ¬ x.toInt < lo) (h2 : ¬ hi < x.toInt) (ho : offs[(x.toInt - lo).toNat]? = some off) (ht : (pc : Int) + off = (tgt : Int)) (k : rn_W G X z rc rs tgt L st h post) : rn_W G X z rc rs pc L (.inl x :: st) h post := by
  intro b D cA p e s m args below meth c F H locs ls cells slots hP hS hL hc hs
  exact lv_tableIn F.1 F.2.1 hd h1 h2 ho ht (k _ _ _ _ _ _ _ _ _ _ _ F _ _ _ _ _ hP hS hL hc hs)
theorem rw_vret (hd : decode X.2.1 pc = .ok (.return_, 1)) (hr : X.2.2.2 = none) (hq : post none h) : rn_W G X z rc rs pc L [] h post := by
  intro b D cA p e s m args below meth c F H locs ls cells slots hP hS hL hc hs
  exact W.widen (by omega) (by omega) (W.vret F.1 F.2.1 (F.2.2.2.1.trans hr) (fun t ht hW => ⟨⟨none, h, rfl, hq, by rw [ht]; exact hP⟩, hS.F ht⟩) hS.2.2 hd F.2.2.2.2.1)
theorem rw_iret {x : Int32} (hd : decode X.2.1 pc = .ok (.ireturn, 1)) (hr : X.2.2.2 = some .int) (hq : post (some (.inl x)) h) : rn_W G X z rc rs pc L [.inl x] h post := by
  intro b D cA p e s m args below meth c F H locs ls cells slots hP hS hL hc hs
  exact W.widen (by omega) (by omega) (W.iret (v := x) F.1 F.2.1 (F.2.2.2.1.trans hr) (fun t ht hW => ⟨⟨some (.inl x), h, rfl, hq, by rw [ht]; exact hP⟩, hS.F ht⟩) hS.2.2 hd F.2.2.2.2.1)
theorem rw_zret {x : Int32} (hd : decode X.2.1 pc = .ok (.ireturn, 1)) (hr : X.2.2.2 = some .boolean) (hx : x = 0 ∨ x = 1) (hq : post (some (.inl x)) h) : rn_W G X z rc rs pc L [.inl x] h post := by
  intro b D cA p e s m args below meth c F H locs ls cells slots hP hS hL hc hs
  exact W.widen (by omega) (by omega) (W.zret (v := x) F.1 F.2.1 (F.2.2.2.1.trans hr) (by rcases hx with rfl | rfl <;> rfl) (fun t ht hW => ⟨⟨some (.inl x), h, rfl, hq, by rw [ht]; exact hP⟩, hS.F ht⟩) hS.2.2 hd F.2.2.2.2.1)
theorem rw_aret {r : Option Nat} {rt : FieldType} (hd : decode X.2.1 pc = .ok (.areturn, 1)) (hr : X.2.2.2 = some rt) (hrt : (∃ n, rt = .object n) ∨ ∃ t, rt = .array t) (hq : post (some (.inr r)) h) : rn_W G X z rc rs pc L [.inr r] h post := by
  intro b D cA p e s m args below meth c F H locs ls cells slots hP hS hL hc hs
  exact W.widen (by omega) (by omega) (W.aret (v := ha_v b (.inr r)) F.1 F.2.1 (F.2.2.2.1.trans hr) hrt (va_rf_or _) (fun t ht hW => ⟨⟨some (.inr r), h, rfl, hq, by rw [ht]; exact hP⟩, hS.F ht⟩) hS.2.2 hd F.2.2.2.2.1)
end RW
