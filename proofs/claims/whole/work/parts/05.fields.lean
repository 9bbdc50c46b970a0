/-! Fields: links by their places in the words; reads and writes. -/
def fl_lk (own : String) (idx : Nat) (ref n d : String) : Prop := Cond.fieldLink own idx ref n d ∈ lp_BW ∨ ∃ host, Cond.fieldLinkNest own idx ref n d host ∈ lp_NW
def fl_sm (r : vw_C) (ref : String) (k : Nat) : Prop := ref = (r.2.1 k).1 ∨ Cond.sameField ref (r.2.1 k).1 (r.2.1 k).2.1 (r.2.1 k).2.2.1 ∈ lp_BW
def fl_ok (own : String) (idx ci k : Nat) (rf : Bool) : Prop := ∃ (r : vw_C) (ref : String), lp_CL[ci]? = some r ∧ k < r.2.2 ∧ fl_lk own idx ref (r.2.1 k).2.1 (r.2.1 k).2.2.1 ∧ fl_sm r ref k ∧ hp_isR r.2.1 k = rf
def pf_ok (y : MethodName) (idx ci k : Nat) (rf : Bool) (ty : FieldType) : Prop := ∃ (r : vw_C) (ref : String), lp_CL[ci]? = some r ∧ k < r.2.2 ∧ fl_sm r ref k ∧ hp_isR r.2.1 k = rf ∧ parseFieldDescriptor (r.2.1 k).2.2.1 = some ty ∧ (((r.2.1 k).2.2.2 = false ∧ fl_lk y.cls idx ref (r.2.1 k).2.1 (r.2.1 k).2.2.1) ∨ ((r.2.1 k).2.2.2 = true ∧ (r.2.1 k).1 = y.cls ∧ y.name = "<init>" ∧ Cond.fieldLink y.cls idx ref (r.2.1 k).2.1 (r.2.1 k).2.2.1 ∈ lp_BW))
theorem cx_F.bw {G : mt_G} {X : mt_X} {b : Nat × Nat} {D : va_G} {cA : Nat → ClassId} {p : Program} {s : State} {m : MethodId} {args : Array Value} {meth : Method} {c : Code} (F : cx_F G X b D cA p s m args meth c) : ∀ w ∈ lp_BW, w.before args s = true := fun w h => F.2.2.2.2.2.1 w (List.mem_cons_of_mem _ h)
theorem cx_F.own {G : mt_G} {X : mt_X} {b : Nat × Nat} {D : va_G} {cA : Nat → ClassId} {p : Program} {s : State} {m : MethodId} {args : Array Value} {meth : Method} {c : Code} (F : cx_F G X b D cA p s m args meth c) : s.vm.findClass X.1.cls = some m.cls := F.2.2.2.2.2.2.1
theorem cx_F.nm {G : mt_G} {X : mt_X} {b : Nat × Nat} {D : va_G} {cA : Nat → ClassId} {p : Program} {s : State} {m : MethodId} {args : Array Value} {meth : Method} {c : Code} (F : cx_F G X b D cA p s m args meth c) : meth.name = X.1.name := F.2.2.2.2.2.2.2.1
theorem cx_F.K {G : mt_G} {X : mt_X} {b : Nat × Nat} {D : va_G} {cA : Nat → ClassId} {p : Program} {s : State} {m : MethodId} {args : Array Value} {meth : Method} {c : Code} (F : cx_F G X b D cA p s m args meth c) : hp_K D cA s := F.2.2.2.2.2.2.2.2.1
theorem cx_F.nw {G : mt_G} {X : mt_X} {b : Nat × Nat} {D : va_G} {cA : Nat → ClassId} {p : Program} {s : State} {m : MethodId} {args : Array Value} {meth : Method} {c : Code} (F : cx_F G X b D cA p s m args meth c) {w : Cond} (hw : w.onTables = true) (h : w ∈ lp_NW) : w.before args s = true := va_Nw.use hw (F.K.2.1 w h)
theorem hp_obj {b : Nat × Nat} {D : va_G} {cA : Nat → ClassId} {h : ha_H} {H : Heap} {a ci : Nat} {r : vw_C} (hP : hp_P b D cA h H) (ha : hp_ok h a) (hs : hp_S h a = .inr ci) (hc : lp_CL[ci]? = some r) : t_OB (ha_a b a) (D.1 ci) r.2.2 (D.2 ci) H (hp_V b r.2.1 h a) := by
  have hat := hP.2.2 a ha
  unfold hp_at at hat
  rw [hs] at hat
  obtain ⟨r', h1, h2⟩ := hat
  cases h1.symm.trans hc
  exact h2
theorem hp_arr {b : Nat × Nat} {D : va_G} {cA : Nat → ClassId} {h : ha_H} {H : Heap} {a t n : Nat} (hP : hp_P b D cA h H) (ha : hp_ok h a) (hs : hp_S h a = .inl (t, n)) : H[ha_a b a]? = some (arrV (cA t) n (hp_F b t h a)) := by
  have hat := hP.2.2 a ha
  unfold hp_at at hat
  rw [hs] at hat
  exact hat
theorem fl_use {D : va_G} {cA : Nat → ClassId} {s : State} {args : Array Value} (hK : hp_K D cA s) (hts : ∀ w ∈ lp_BW, w.before args s = true) {ci k : Nat} {r : vw_C} {ref : String} (hc : lp_CL[ci]? = some r) (hk : k < r.2.2) (hsame : fl_sm r ref k) :
    ∃ (cf : Nat) (kf : Class) (fi : Nat) (f : Field) (kC : Class), s.fieldFound? (r.2.1 k).1 (r.2.1 k).2.1 (r.2.1 k).2.2.1 = some (cf, kf, fi, f) ∧ s.fieldFound? ref (r.2.1 k).2.1 (r.2.1 k).2.2.1 = some (cf, kf, fi, f) ∧ f.slot = D.2 ci k ∧ f.isStatic = false ∧ s.vm.findClass r.1 = some (D.1 ci) ∧ s.vm.classes[D.1 ci]? = some kC ∧ kC.kind = .ordinary := by
  obtain ⟨hSl, hfc, kC, hkC, hkind⟩ := hK.1.1 ci r hc
  obtain ⟨cf, kf, fi, f, hi, hsl⟩ := hSl k hk
  refine ⟨cf, kf, fi, f, kC, hi, ?_, hsl, (u_facts hfc hkC (u_lays hts (lp_in ci r hc) hk) hi).1, hfc, hkC, hkind⟩
  rcases hsame with rfl | hm
  · exact hi
  · exact u_same (hts _ hm) _ hi
section RF
variable {G : mt_G} {X : mt_X} {z : Nat × Nat × Nat} {rc rs pc : Nat} {L L' : List (Option ha_V)} {st : List ha_V} {h : ha_H} {post : Option ha_V → ha_H → Prop}
theorem rw_getI {a idx ci kk : Nat} {x : Int32} (hl : fl_ok X.1.cls idx ci kk false) (hd : decode X.2.1 pc = .ok (.getfield idx, 3)) (ha : hp_ok h a) (hs : hp_S h a = .inr ci) (hx : hp_I h a kk = x) (k : rn_W G X z rc rs (pc + 3) L (.inl x :: st) h post) : rn_W G X z rc rs pc L (.inr (some a) :: st) h post := by
  intro b D cA p e s m args below meth c F H locs ls cells slots hP hS hL hc hs'
  obtain ⟨r, ref, hcl, hk, hlk, hsm, hrf⟩ := hl
  obtain ⟨cell, q1, q2, q3, q4⟩ := hp_obj hP ha hs hcl
  obtain ⟨cf, kf, fi, f, kC, hi, hi', hsl, hst, -⟩ := fl_use F.K F.bw hcl hk hsm
  have hslot : cell.slots[f.slot]? = some (.int x) := by
    rw [hsl, q4 kk hk]
    unfold hp_V
    rw [hrf, if_neg (by decide), hx]
  rcases hlk with hlk | ⟨host, hlk⟩
  · exact W.getf F.1 F.2.1 F.own (F.bw _ hlk) hi' hst q1 (by rw [q3]; exact fun h => by cases h) hslot rfl rfl hd (k _ _ _ _ _ _ _ _ _ _ _ F _ _ _ _ _ hP hS hL hc hs')
  · exact va_Wgetf F.1 F.2.1 F.own (F.nw rfl hlk) hi' hst q1 (by rw [q3]; exact fun h => by cases h) hslot rfl rfl hd (k _ _ _ _ _ _ _ _ _ _ _ F _ _ _ _ _ hP hS hL hc hs')
theorem rw_getR {a idx ci kk : Nat} {x : Option Nat} (hl : fl_ok X.1.cls idx ci kk true) (hd : decode X.2.1 pc = .ok (.getfield idx, 3)) (ha : hp_ok h a) (hs : hp_S h a = .inr ci) (hx : hp_R h a kk = x) (k : rn_W G X z rc rs (pc + 3) L (.inr x :: st) h post) : rn_W G X z rc rs pc L (.inr (some a) :: st) h post := by
  intro b D cA p e s m args below meth c F H locs ls cells slots hP hS hL hc hs'
  obtain ⟨r, ref, hcl, hk, hlk, hsm, hrf⟩ := hl
  obtain ⟨cell, q1, q2, q3, q4⟩ := hp_obj hP ha hs hcl
  obtain ⟨cf, kf, fi, f, kC, hi, hi', hsl, hst, -⟩ := fl_use F.K F.bw hcl hk hsm
  have hslot : cell.slots[f.slot]? = some (ha_v b (.inr x)) := by
    rw [hsl, q4 kk hk]
    unfold hp_V
    rw [hrf, if_pos rfl, hx]
  rcases hlk with hlk | ⟨host, hlk⟩
  · exact W.getf F.1 F.2.1 F.own (F.bw _ hlk) hi' hst q1 (by rw [q3]; exact fun h => by cases h) hslot rfl rfl hd (k _ _ _ _ _ _ _ _ _ _ _ F _ _ _ _ _ hP hS hL hc hs')
  · exact va_Wgetf F.1 F.2.1 F.own (F.nw rfl hlk) hi' hst q1 (by rw [q3]; exact fun h => by cases h) hslot rfl rfl hd (k _ _ _ _ _ _ _ _ _ _ _ F _ _ _ _ _ hP hS hL hc hs')
theorem pf_core {p : Program} {e : Env} {R : Room} {s : State} {m : MethodId} {args : Array Value} {below : List Frame} {meth : Method} {c : Code} {H : Heap} {locs : List Loc} {cells slots : Nat} {Q : State → Prop} {b : Nat × Nat} {D : va_G} {cA : Nat → ClassId} {ls : Array Slot} {rest : List Value} {h' : ha_H} {a idx ci kk : Nat} {rf : Bool} {ty : FieldType} {v : Value}
    (hl : pf_ok X.1 idx ci kk rf ty) (F : cx_F G X b D cA p s m args meth c) (hd : decode X.2.1 pc = .ok (.putfield idx, 3)) (hP : hp_P b D cA h H) (hS : va_S (fun q => b.1 < q) s.heap H locs) (ha : hp_ok h a) (hs : hp_S h a = .inr ci) (hnar : narrow ty v = v) (hfit : fits ty v = true)
    (hn' : hp_n h' = hp_n h) (hI : ∀ k, k ≠ a → ∀ j, hp_I h' k j = hp_I h k j) (hR : ∀ k, k ≠ a → ∀ j, hp_R h' k j = hp_R h k j) (hSh : ∀ k, hp_S h' k = hp_S h k) (hV : ∀ r : vw_C, hp_isR r.2.1 kk = rf → ∀ j, updV (hp_V b r.2.1 h a) kk v j = hp_V b r.2.1 h' a j)
    (kx : ∀ (H' : Heap) (locs' : List Loc), hp_P b D cA h' H' → va_S (fun q => b.1 < q) s.heap H' locs' → W p G.1 e R s m args below meth c H' locs' cells slots Q (F0 m (pc + 3) ls rest)) : W p G.1 e R s m args below meth c H locs cells slots Q (F0 m pc ls (v :: .ref (ha_a b a) :: rest)) := by
  obtain ⟨r, ref, hcl, hk, hsm, hrf, hpd, hfin⟩ := hl
  obtain ⟨cell, q1, q2, q3, q4⟩ := hp_obj hP ha hs hcl
  obtain ⟨cf, kf, fi, f, kC, hi, hi', hsl, hst, hfc, hkC, hkind⟩ := fl_use F.K F.bw hcl hk hsm
  obtain ⟨ty0, hty, -⟩ := lp_ty ci r hcl
  have hap := va_apart (own := r.1) F.bw (lp_in ci r hcl) ty0 hty (lp_nm ci r hcl) F.K.1 hcl
  have hlt : f.slot < cell.slots.size := by rw [hsl]; exact k2_hasslot (q4 kk hk)
  have fin : ∀ H' : Heap, H'[ha_a b a]? = some (cell.setSlot f.slot v) → H'.size = H.size → (∀ q, q ≠ ha_a b a → H'[q]? = H[q]?) → W p G.1 e R s m args below meth c H' (locs ++ [⟨ha_a b a, f.slot⟩]) cells slots Q (F0 m (pc + 3) ls rest) := by
    intro H' e1 e2 e3
    refine kx H' _ (hP.set ha e2 e3 ?_ hn' hI hR hSh) (hS.put e2 e3 (by rw [ha_p b ha.1]; have := ha.1; show b.1 < b.1 + a; omega))
    unfold hp_at
    rw [hSh, hs]
    refine ⟨r, hcl, t_OB.to (V := updV (hp_V b r.2.1 h a) kk v) ⟨_, e1, q2, q3, ?_⟩ (fun j _ => hV r hrf j)⟩
    rw [hsl]
    exact t_set q4 hap hk v
  have hlay := F.bw _ (lp_in ci r hcl _ (u_in_lay hk))
  unfold u_lay at hlay
  rcases hfin with ⟨hff, hlk⟩ | ⟨hff, hown, hin, hlk⟩
  · rw [if_neg (by rw [hff]; decide)] at hlay
    have h6 := u_store hfc hkC hkind hlay hi hpd hnar hfit
    rcases hlk with hlk | ⟨host, hlk⟩
    · exact W.putK F.1 F.2.1 (f := f) ⟨F.own, F.bw _ hlk, ⟨_, _, _, hi'⟩, hst⟩ (by rw [q2]; exact h6) q1 q3 hlt rfl rfl hd fin
    · exact va_WputK F.1 F.2.1 (f := f) F.own (F.nw rfl hlk) hi' hst (by rw [q2]; exact h6) q1 q3 hlt rfl rfl hd fin
  · rw [if_pos hff] at hlay
    have hcf : m.cls = cf := by
      obtain ⟨_, _, c', _, _, _, -, -, hf', -, -, -, hown2, -⟩ := Cond.laysFinal_spec hlay
      have e1 : c' = cf := by have := hi.symm.trans hf'; simp at this; exact this.1.symm
      rw [hown] at hown2
      rw [← e1]
      exact Option.some.inj (F.own.symm.trans hown2)
    have h6 := u_fits hfc hkC hkind (Or.inr hlay) hi hpd hnar hfit
    exact W.putFinK F.1 F.2.1 F.own (F.bw _ hlk) hi' hst hcf (F.nm.trans hin) (by rw [q2]; exact h6) q1 q3 hlt rfl rfl hd fin
theorem hp_V_sI {b : Nat × Nat} {T : u_T} {h : ha_H} {a k : Nat} {x : Int32} (hT : hp_isR T k = false) (j : Nat) : updV (hp_V b T h a) k (.int x) j = hp_V b T (hp_sI h a k x) a j := by
  unfold updV hp_V
  rw [hp_I_sI, hp_R_sI]
  by_cases e : j = k
  · subst e
    simp [hT]
  · simp [e]
theorem hp_V_sR {b : Nat × Nat} {T : u_T} {h : ha_H} {a k : Nat} {x : Option Nat} (hT : hp_isR T k = true) (j : Nat) : updV (hp_V b T h a) k (ha_v b (.inr x)) j = hp_V b T (hp_sR h a k x) a j := by
  unfold updV hp_V
  rw [hp_I_sR, hp_R_sR]
  by_cases e : j = k
  · subst e
    simp [hT]
  · simp [e]
theorem hp_I_ne {h : ha_H} {a k : Nat} {x : Int32} : ∀ y, y ≠ a → ∀ j, hp_I (hp_sI h a k x) y j = hp_I h y j := fun y hy j => by rw [hp_I_sI, if_neg (fun q => hy q.1)]
theorem hp_R_ne {h : ha_H} {a k : Nat} {x : Option Nat} : ∀ y, y ≠ a → ∀ j, hp_R (hp_sR h a k x) y j = hp_R h y j := fun y hy j => by rw [hp_R_sR, if_neg (fun q => hy q.1)]
theorem rw_putI {a idx ci kk : Nat} {x : Int32} (hl : pf_ok X.1 idx ci kk false .int) (hd : decode X.2.1 pc = .ok (.putfield idx, 3)) (ha : hp_ok h a) (hs : hp_S h a = .inr ci) (k : rn_W G X z rc rs (pc + 3) L st (hp_sI h a kk x) post) : rn_W G X z rc rs pc L (.inl x :: .inr (some a) :: st) h post := by
  intro b D cA p e s m args below meth c F H locs ls cells slots hP hS hL hc hs'
  exact pf_core (v := .int x) (h' := hp_sI h a kk x) hl F hd hP hS ha hs rfl rfl rfl hp_I_ne (fun _ _ _ => rfl) (fun _ => rfl) (fun r hr j => hp_V_sI hr j) (fun H' locs' hP hS => k _ _ _ _ _ _ _ _ _ _ _ F _ _ _ _ _ hP hS hL hc hs')
theorem rw_putZ {a idx ci kk : Nat} {x : Int32} (hl : pf_ok X.1 idx ci kk false .boolean) (hd : decode X.2.1 pc = .ok (.putfield idx, 3)) (ha : hp_ok h a) (hs : hp_S h a = .inr ci) (hx : x = 0 ∨ x = 1) (k : rn_W G X z rc rs (pc + 3) L st (hp_sI h a kk x) post) : rn_W G X z rc rs pc L (.inl x :: .inr (some a) :: st) h post := by
  intro b D cA p e s m args below meth c F H locs ls cells slots hP hS hL hc hs'
  exact pf_core (v := .int x) (h' := hp_sI h a kk x) hl F hd hP hS ha hs (by rcases hx with rfl | rfl <;> rfl) (by rcases hx with rfl | rfl <;> rfl) rfl hp_I_ne (fun _ _ _ => rfl) (fun _ => rfl) (fun r hr j => hp_V_sI hr j) (fun H' locs' hP hS => k _ _ _ _ _ _ _ _ _ _ _ F _ _ _ _ _ hP hS hL hc hs')
theorem rw_putR {a idx ci kk : Nat} {ty : FieldType} {x : Option Nat} (hl : pf_ok X.1 idx ci kk true ty) (hty : (∃ n, ty = .object n) ∨ ∃ t, ty = .array t) (hd : decode X.2.1 pc = .ok (.putfield idx, 3)) (ha : hp_ok h a) (hs : hp_S h a = .inr ci) (k : rn_W G X z rc rs (pc + 3) L st (hp_sR h a kk x) post) : rn_W G X z rc rs pc L (.inr x :: .inr (some a) :: st) h post := by
  intro b D cA p e s m args below meth c F H locs ls cells slots hP hS hL hc hs'
  refine pf_core (v := ha_v b (.inr x)) (h' := hp_sR h a kk x) hl F hd hP hS ha hs ?_ ?_ rfl (fun _ _ _ => rfl) hp_R_ne (fun _ => rfl) (fun r hr j => hp_V_sR hr j) (fun H' locs' hP hS => k _ _ _ _ _ _ _ _ _ _ _ F _ _ _ _ _ hP hS hL hc hs')
  · rcases hty with ⟨n, rfl⟩ | ⟨t, rfl⟩ <;> cases x <;> rfl
  · rcases hty with ⟨n, rfl⟩ | ⟨t, rfl⟩ <;> cases x <;> rfl
end RF
