/-- only whole numbers of the reference's cells change -/
def fx (h g : ha_H) : Prop := hp_n g = hp_n h ∧ (∀ x y, hp_R g x y = hp_R h x y) ∧ (∀ x, hp_S g x = hp_S h x) ∧ ∀ x y, x < 62 ∨ 103 ≤ x → hp_I g x y = hp_I h x y
theorem fx_rf (h : ha_H) : fx h h := ⟨rfl, fun _ _ => rfl, fun _ => rfl, fun _ _ _ => rfl⟩
theorem fx_tr {a b c : ha_H} (p : fx a b) (q : fx b c) : fx a c := ⟨q.1.trans p.1, fun x y => (q.2.1 x y).trans (p.2.1 x y), fun x => (q.2.2.1 x).trans (p.2.2.1 x), fun x y z => (q.2.2.2 x y z).trans (p.2.2.2 x y z)⟩
theorem fx_sI {g h : ha_H} {A k : Nat} {v : Int32} (q : fx g h) (h1 : 62 ≤ A) (h2 : A < 103) : fx g (hp_sI h A k v) := ⟨q.1, q.2.1, q.2.2.1, fun x y z => by rw [hp_I_sI, if_neg (by omega)]; exact q.2.2.2 x y z⟩
theorem fx_mv {g h : ha_H} {A i B t : Nat} (q : fx g h) (h1 : 62 ≤ B) (h2 : B < 103) : fx g (hp_mv h A i B t) := fx_sI q h1 h2
theorem fx_if {g a b : ha_H} {p : Prop} [Decidable p] (h1 : fx g a) (h2 : fx g b) : fx g (if p then a else b) := by
  by_cases e : p
  · rw [if_pos e]; exact h1
  · rw [if_neg e]; exact h2
theorem fx_roomH {g h : ha_H} {u : Nat} {k c f x : Int32} (q : fx g h) : fx g (m_roomH h u k c f x) := by
  unfold m_roomH
  repeat refine fx_sI ?_ (by omega) (by omega)
  exact q
theorem fx_room {g h : ha_H} {u : Nat} {k c f x : Int32} (q : fx g h) : fx g (m_room h u k c f x).2 := by
  unfold m_room
  by_cases e : u = 60
  · rw [if_pos e]; exact q
  · rw [if_neg e]; exact fx_roomH q
theorem fx_ask {g h : ha_H} {u c : Nat} (q : fx g h) : fx g (m_ask h u c) := by
  unfold m_ask m_askT
  refine fx_if q ?_
  repeat refine fx_mv ?_ (by omega) (by omega)
  exact fx_roomH q
theorem fx_ans {g h : ha_H} {u c : Nat} (q : fx g h) : fx g (m_ans h u c) := by
  unfold m_ans m_ansT
  refine fx_if q ?_
  repeat refine fx_mv ?_ (by omega) (by omega)
  exact fx_roomH q
theorem fx_fin {g h : ha_H} {u c : Nat} {x k f : Int32} (q : fx g h) : fx g (m_fin h u c x k f) := by
  unfold m_fin m_finH
  refine fx_ans ?_
  repeat refine fx_sI ?_ (by omega) (by omega)
  exact q
theorem fx_gr {g h : ha_H} {u c f : Nat} {x m : Int32} {b : Bool} (q : fx g h) : fx g (m_gr h u c f x m b) := by
  unfold m_gr m_grH
  refine fx_fin ?_
  refine fx_sI (fx_sI (fx_mv (fx_mv (fx_mv (fx_mv (fx_sI (fx_sI q ?_ ?_) ?_ ?_) ?_ ?_) ?_ ?_) ?_ ?_) ?_ ?_) ?_ ?_) ?_ ?_ <;> omega
theorem fx_sv : ∀ (n : Nat) {g h : ha_H} {f : Nat} (_ : fx g h), fx g (m_sv n h f)
  | 0, _, _, _, q => q
  | n + 1, g, h, f, q => by
    unfold m_sv
    cases m_fs h (nI f) 3 with
    | none => exact q
    | some c => exact fx_if (fx_if (fx_sv n (by unfold m_gw; exact fx_gr (fx_sI q (by omega) (by omega)))) q) q
theorem fx_svN : ∀ (n : Nat) {g h : ha_H} {f : Nat} (_ : fx g h), fx g (m_svN n h f)
  | 0, _, _, _, q => q
  | n + 1, _, _, _, q => fx_svN n (fx_sv 3 q)
theorem fx_rc (c f : Nat) (m : Int32) : ∀ (n : Nat) {g h : ha_H} {d : Nat} (_ : fx g h), fx g (m_rc c f m n h d)
  | 0, _, _, _, q => q
  | n + 1, _, _, _, q => fx_rc c f m n (fx_if (fx_room q) q)
theorem fx_al {g h : ha_H} {u c f : Nat} {x m : Int32} {cl : Bool} (q : fx g h) : fx g (m_al h u c f x m cl) := by
  unfold m_al m_wtH
  refine fx_if (fx_fin q) (fx_if (fx_gr q) (fx_rc _ _ _ 3 ?_))
  repeat refine fx_sI ?_ (by omega) (by omega)
  exact q
theorem fx_rq {g h : ha_H} {k : Int32} {c f : Nat} {x m : Int32} {cl : Bool} {t : Nat} {v : Int32} (q : fx g h) : fx g (m_rq h k c f x m cl t v) := by
  unfold m_rq m_rq2
  have q' : fx g (hp_sI h 74 c (-1)) := fx_sI q (by omega) (by omega)
  exact fx_if (fx_if (fx_ans q) (fx_if q (fx_if (fx_al q') (fx_if (fx_if (fx_fin (fx_sI q' (by omega) (by omega))) (fx_fin (fx_mv q' (by omega) (by omega)))) (fx_fin (fx_sI q' (by omega) (by omega))))))) q
theorem fx_open {g h : ha_H} {c : Nat} {k f m : Int32} {cl : Bool} (q : fx g h) : fx g (m_open h c k f m cl).2 := by
  unfold m_open m_opH
  refine fx_ask ?_
  repeat refine fx_sI ?_ (by omega) (by omega)
  exact q
theorem fx_fg (c f mo : Nat) : ∀ (n : Nat) {g h : ha_H} {kept gone k : Nat} (_ : fx g h), fx g (m_fg c f mo n h kept gone k)
  | 0, _, _, _, _, _, q => fx_sI q (by omega) (by omega)
  | n + 1, _, _, _, _, _, q => by
    unfold m_fg
    exact fx_if (fx_fg c f mo n q) (fx_fg c f mo n (fx_mv (fx_mv q (by omega) (by omega)) (by omega) (by omega)))
theorem fx_rd (c f : Nat) : ∀ (n : Nat) {g h : ha_H} {k : Nat} (_ : fx g h), fx g (m_rd c f n h k)
  | 0, _, _, _, q => q
  | n + 1, _, _, _, q => by
    unfold m_rd
    exact fx_if (fx_rd c f n (fx_sI q (by omega) (by omega))) (fx_rd c f n q)
theorem fx_gdD {g h : ha_H} {n1 c f fr : Nat} (q : fx g h) : fx g (m_gdD h n1 c f fr) := by
  unfold m_gdD m_gdC
  exact fx_sI (fx_rd c f n1 (fx_mv (fx_mv (fx_mv (fx_mv q (by omega) (by omega)) (by omega) (by omega)) (by omega) (by omega)) (by omega) (by omega))) (by omega) (by omega)
theorem fx_granted {g h : ha_H} {c f : Nat} {m : Int32} {mb : Bool} {fr : Nat} (q : fx g h) : fx g (m_granted h c f m mb fr) := by
  unfold m_granted
  have qA : fx g (m_gdA h c f m) := by
    unfold m_gdA
    exact fx_sI (fx_sI (fx_sI q (by omega) (by omega)) (by omega) (by omega)) (by omega) (by omega)
  refine fx_if (fx_gdD ?_) (fx_gdD qA)
  unfold m_gdB m_forget
  exact fx_sI (fx_fg c f 6 _ qA) (by omega) (by omega)
theorem fx_replied {g h : ha_H} {k : Int32} {c f : Nat} (q : fx g h) : fx g (m_replied h k c f) := by
  unfold m_replied m_forget
  have q' : fx g (hp_sI h 87 c (nI 0)) := fx_sI q (by omega) (by omega)
  exact fx_if (fx_if (fx_fg c f 1 _ q') (fx_if (fx_sI (fx_sI (fx_fg c f 6 _ q') (by omega) (by omega)) (by omega) (by omega)) q')) q'
theorem fx_move {g h : ha_H} {i t : Nat} (q : fx g h) : fx g (m_move h i t) := by
  unfold m_move
  repeat refine fx_mv ?_ (by omega) (by omega)
  exact q
theorem fx_shift : ∀ (n : Nat) {g h : ha_H} {k : Nat} (_ : fx g h), fx g (m_shift n h k)
  | 0, _, _, _, q => q
  | n + 1, _, _, _, q => fx_shift n (fx_move q)
theorem fx_drop {g h : ha_H} {u j : Nat} (q : fx g h) : fx g (m_drop h u j) := fx_shift _ (fx_sI q (by omega) (by omega))
theorem fx_dl {g h : ha_H} {i : Nat} (q : fx g h) : fx g (m_dl h i) := by
  unfold m_dl m_dlX m_dl1 m_dl3 m_dl4 m_dl5
  have q1 := fun {u : Nat} {p : Prop} [Decidable p] {c f : Nat} {m : Int32} {y : Bool} {fr : Nat} => fx_drop (u := u) (j := i) (fx_if (p := p) (fx_granted (c := c) (f := f) (m := m) (mb := y) (fr := fr) q) q)
  have q2 := fun {u : Nat} {p p2 : Prop} [Decidable p] [Decidable p2] {c f : Nat} {m : Int32} {y : Bool} {fr : Nat} {k x m2 v : Int32} {cl : Bool} {t : Nat} => fx_if (p := p2) (fx_svN 4 (f := 0) (fx_rq (k := k) (c := c) (f := f) (x := x) (m := m2) (cl := cl) (t := t) (v := v) (q1 (u := u) (p := p) (c := c) (f := f) (m := m) (y := y) (fr := fr)))) (q1 (u := u) (p := p) (c := c) (f := f) (m := m) (y := y) (fr := fr))
  exact fx_if (fx_sI (fx_if (fx_replied q2) q2) (by omega) (by omega)) (fx_if (fx_replied q2) q2)
theorem fx_el : ∀ (n : Nat) {g h : ha_H} {l : Nat} (_ : fx g h), fx g (m_el n h l)
  | 0, _, _, _, q => q
  | n + 1, _, _, _, q => fx_el n (fx_if (fx_mv q (by omega) (by omega)) (fx_sI q (by omega) (by omega)))
theorem fx_tkN : ∀ (n : Nat) {g h : ha_H} {x : Nat} (_ : fx g h), fx g (m_tkN n h x)
  | 0, _, _, _, q => q
  | n + 1, _, _, _, q => fx_tkN n (by
    unfold m_tk1 m_tkG
    exact fx_if (fx_svN 4 (fx_sI (fx_el 12 (fx_sI q (by omega) (by omega))) (by omega) (by omega))) (fx_sI q (by omega) (by omega)))
theorem fx_crS {g h : ha_H} (q : fx g h) : fx g (m_crS h) := by
  unfold m_crS
  repeat refine fx_sI ?_ (by omega) (by omega)
  exact q
theorem fx_crC {g h : ha_H} {c : Nat} (q : fx g h) : fx g (m_crC h c) := by
  unfold m_crC
  repeat refine fx_sI ?_ (by omega) (by omega)
  exact q
theorem fx_acquire {h : ha_H} {c f mo : Int32} : fx h (m_acquire h c f mo).2 := by
  unfold m_acquire m_acqA m_ls
  split
  · split
    · exact fx_open (fx_sI (fx_rf h) (by omega) (by omega))
    · exact fx_sI (fx_rf h) (by omega) (by omega)
  · exact fx_rf h
theorem fx_read {h : ha_H} {c f p o : Int32} : fx h (m_read h c f p o).2 := by
  unfold m_read m_readA
  split
  · split
    · split
      · exact fx_rf h
      · exact fx_rf h
    · exact fx_sI (fx_rf h) (by omega) (by omega)
  · exact fx_rf h
theorem fx_write {h : ha_H} {c f p v : Int32} : fx h (m_write h c f p v).2 := by
  unfold m_write m_writeA m_ls m_wrH
  have q : ∀ k, fx h (hp_sI h 82 k (nI 0)) := fun k => fx_sI (fx_rf h) (by omega) (by omega)
  split
  · split
    · split
      · split
        · exact q _
        · exact fx_sI (fx_sI (fx_sI (fx_sI (q _) (by omega) (by omega)) (by omega) (by omega)) (by omega) (by omega)) (by omega) (by omega)
      · exact q _
    · exact q _
  · exact fx_rf h
theorem fx_flush {h : ha_H} {c : Int32} : fx h (m_flush h c).2 := by
  unfold m_flush m_flA
  split
  · split
    · exact fx_open (fx_mv (fx_sI (fx_rf h) (by omega) (by omega)) (by omega) (by omega))
    · exact fx_rf h
  · exact fx_rf h
theorem fx_close {h : ha_H} {c f : Int32} : fx h (m_close h c f).2 := by
  unfold m_close m_closeA m_ls
  have q : ∀ k, fx h (hp_sI h 82 k (nI 0)) := fun k => fx_sI (fx_rf h) (by omega) (by omega)
  split
  · split
    · split
      · exact q _
      · exact fx_open (fx_sI (fx_sI (q _) (by omega) (by omega)) (by omega) (by omega))
    · exact q _
  · exact fx_rf h
theorem fx_retry {h : ha_H} {c : Int32} : fx h (m_retry h c).2 := by
  unfold m_retry
  split
  · exact fx_ask (fx_rf h)
  · exact fx_rf h
theorem fx_deliver {h : ha_H} {i : Int32} : fx h (m_deliver h i).2 := by
  unfold m_deliver
  split
  · exact fx_rf h
  · exact fx_dl (fx_rf h)
theorem fx_dropH {h : ha_H} {u : Nat} {i : Int32} : fx h (m_dropH h u i) := fx_if (fx_rf h) (fx_drop (fx_rf h))
theorem fx_dupH {h : ha_H} {u : Nat} {i : Int32} : fx h (m_dupH h u i) := fx_if (fx_rf h) (fx_if (fx_rf h) (fx_sI (fx_move (fx_rf h)) (by omega) (by omega)))
theorem fx_tick {h : ha_H} {x n : Int32} : fx h (m_tick h x n).2 := by
  unfold m_tick
  split
  · exact fx_tkN _ (fx_rf h)
  · exact fx_rf h
theorem fx_crash {h : ha_H} {x : Int32} : fx h (m_crash h x).2 := by
  unfold m_crash
  split
  · exact fx_if (fx_crS (fx_rf h)) (fx_crC (fx_rf h))
  · exact fx_rf h
theorem fx_restart {h : ha_H} {x : Int32} : fx h (m_restart h x).2 := by
  unfold m_restart m_rsA
  split
  · exact fx_sI (fx_sI (fx_rf h) (by omega) (by omega)) (by omega) (by omega)
  · exact fx_rf h
theorem CV_fx {L : Nat} {n : List ab_M} {su : Bool} {sn : Int32} {sg : Bool} {se : Int32} {pg : Nat → Nat → Int32} {md : Nat → Nat → Nat} {en : Nat → Nat → Int32} {sd : Nat → Option ab_M} {ln : Nat → List ab_M} {C : Nat → ab_C} {h g : ha_H} (H : CV L n su sn sg se pg md en sd ln C h) (q : fx h g) : CV L n su sn sg se pg md en sd ln C g :=
  cv_k H ⟨Nat.le_of_eq q.1.symm, fun x h1 _ => ⟨fun y => q.2.2.2 x y (by omega), fun y => q.2.1 x y, q.2.2.1 x⟩⟩ (fun x _ h2 => ⟨fun y => q.2.2.2 x y (by omega), fun y => q.2.1 x y⟩) (fun x _ => q.2.2.1 x)
theorem mI_le {h g : ha_H} (hi : mo_I h) (l : hp_le h g) : mo_I g := by
  obtain ⟨⟨m1, m2, m3⟩, b, u1, u2⟩ := hi
  have I : ∀ x y, 62 ≤ x → x < 103 → hp_I g x y = hp_I h x y := fun x y h1 h2 => (l.2 x h1 (by omega)).1 y
  have R : ∀ x y, 62 ≤ x → x < 103 → hp_R g x y = hp_R h x y := fun x y h1 h2 => (l.2 x h1 (by omega)).2.1 y
  have S : ∀ x, 62 ≤ x → x < 103 → hp_S g x = hp_S h x := fun x h1 h2 => (l.2 x h1 (by omega)).2.2
  have eu : hp_I g 62 34 = hp_I h 62 34 := I 62 34 (by omega) (by omega)
  refine mI_of (u := m_u h) ⟨by have := l.1; omega, by rw [S 62 (by omega) (by omega)]; exact m2, fun q hq => ?_⟩ (fun a ha j => ?_) (by rw [eu]; exact u1) u2
  · have hb : ∀ q ∈ mo_L, 62 ≤ q.2.1 ∧ q.2.1 < 103 := by decide
    obtain ⟨q1, q2⟩ := hb q hq
    rw [R 62 _ (by omega) (by omega), S _ q1 q2]
    exact m3 q hq
  · have hb : ∀ a, a ∈ [63, 72, 81, 82, 90, 99] → 62 ≤ a ∧ a < 103 := by
      intro a ha
      simp only [List.mem_cons, List.not_mem_nil, or_false] at ha
      omega
    rw [I a j (hb a ha).1 (hb a ha).2]
    exact b a ha j
theorem MV_le {K L : Nat} {n : List ab_M} {su : Bool} {sn : Int32} {sg : Bool} {se : Int32} {pg : Nat → Nat → Int32} {md : Nat → Nat → Nat} {en : Nat → Nat → Int32} {sd : Nat → Option ab_M} {ln : Nat → List ab_M} {C : Nat → ab_C} {h : ha_H} {g : ha_H} (H : MV K L n su sn sg se pg md en sd ln C h) (l : hp_le h g) : MV K L n su sn sg se pg md en sd ln C g := by
  have hi := (mv_I H).1
  exact MV_eq H (mI_le hi l) (fun x j h1 h2 => (l.2 x h1 (by have := hi.1.1; omega)).1 j)
theorem MV_dw {K L : Nat} {n : List ab_M} {su : Bool} {sn : Int32} {sg : Bool} {se : Int32} {pg : Nat → Nat → Int32} {md : Nat → Nat → Nat} {en : Nat → Nat → Int32} {sd : Nat → Option ab_M} {ln : Nat → List ab_M} {C : Nat → ab_C} {h : ha_H} (H : MV K L n su sn sg se pg md en sd ln C h) : mo_dw h := by
  obtain ⟨Q, X, a, k, _, S, M, P⟩ := H
  exact fun c hc => ⟨_, (M c hc).2.2.1.2.1, (M c hc).2.2.1.1⟩
theorem MV_ms {K L : Nat} {n : List ab_M} {su : Bool} {sn : Int32} {sg : Bool} {se : Int32} {pg : Nat → Nat → Int32} {md : Nat → Nat → Nat} {en : Nat → Nat → Int32} {sd : Nat → Option ab_M} {ln : Nat → List ab_M} {C : Nat → ab_C} {h : ha_H} (H : MV K L n su sn sg se pg md en sd ln C h) : mo_ms h := by
  have hn := mv_nn H
  intro j hj
  rw [vn_u hn] at hj
  have e : n[j]? = some n[j] := List.getElem?_eq_getElem hj
  obtain ⟨bp, _⟩ := mv_pm H e
  obtain ⟨⟨k1, k2, k3, k4⟩, k5, k6, ⟨p, k7, k8⟩, k9⟩ := hn.2.2 j _ e
  exact ⟨⟨_, bp.1, k2⟩, ⟨_, bp.2.1, k3⟩, ⟨p, k7, k8⟩⟩
/-- after a call of the program: the answer is the reference's, and the states will agree -/
def PO (K : Nat) (mm : ha_H → Int32 × ha_H) (h : ha_H) (r : Int32) (g : ha_H) : Prop := hp_le h g ∧ r = (mm g).1 ∧ ∃ (L : Nat) (n : List ab_M) (su : Bool) (sn : Int32) (sg : Bool) (se : Int32) (pg : Nat → Nat → Int32) (md : Nat → Nat → Nat) (en : Nat → Nat → Int32) (sd : Nat → Option ab_M) (ln : Nat → List ab_M) (C : Nat → ab_C), CV L n su sn sg se pg md en sd ln C g ∧ MV (K + 1) L n su sn sg se pg md en sd ln C (mm g).2
theorem po_of {K L : Nat} {n : List ab_M} {su : Bool} {sn : Int32} {sg : Bool} {se : Int32} {pg : Nat → Nat → Int32} {md : Nat → Nat → Nat} {en : Nat → Nat → Int32} {sd : Nat → Option ab_M} {ln : Nat → List ab_M} {C : Nat → ab_C} {h : ha_H} {g : ha_H} {mm : ha_H → Int32 × ha_H} {r : Int32} (hc : CV L n su sn sg se pg md en sd ln C g) (l : hp_le h g) (hr : r = (mm g).1) (H : MV (K + 1) L n su sn sg se pg md en sd ln C (mm g).2) : PO K mm h r g := ⟨l, hr, L, n, su, sn, sg, se, pg, md, en, sd, ln, C, hc, H⟩
theorem po_no {K L : Nat} {n : List ab_M} {su : Bool} {sn : Int32} {sg : Bool} {se : Int32} {pg : Nat → Nat → Int32} {md : Nat → Nat → Nat} {en : Nat → Nat → Int32} {sd : Nat → Option ab_M} {ln : Nat → List ab_M} {C : Nat → ab_C} {h : ha_H} {mm : ha_H → Int32 × ha_H} {r : Int32} (hc : CV L n su sn sg se pg md en sd ln C h) (H : MV K L n su sn sg se pg md en sd ln C h) (e : mm h = (r, h)) : PO K mm h r h := po_of hc (le_rf h) (by rw [e]) (by rw [e]; exact MV_S H)
