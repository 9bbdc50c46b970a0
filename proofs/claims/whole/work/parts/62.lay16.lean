def f_cu (C : Nat → ab_C) (x : Int32) : Bool := mi_ib x 2 && (C x.toNatClampNeg).1
theorem wk_eq {K L : Nat} {n : List ab_M} {su : Bool} {sn : Int32} {sg : Bool} {se : Int32} {pg : Nat → Nat → Int32} {md : Nat → Nat → Nat} {en : Nat → Nat → Int32} {sd : Nat → Option ab_M} {ln : Nat → List ab_M} {C : Nat → ab_C} {h : ha_H} (H : MV K L n su sn sg se pg md en sd ln C h) (x : Int32) : m_wk h x = f_cu C x := by
  unfold m_wk f_cu
  cases e : mi_ib x 2
  · rfl
  · obtain ⟨j, hj, rfl⟩ := mi_ibT (by omega) e
    rw [nI_clamp (by omega)]
    obtain ⟨Q, X, a, k, _, S, M, P⟩ := H
    rw [(M j (by omega)).1.1, up_bi]
theorem cu_at {C : Nat → ab_C} {c : Nat} {y : ab_C} (hc : c < 3) : f_cu (fu C c y) (nI c) = y.1 := by
  unfold f_cu
  rw [mi_ibI (by omega) (by omega), nI_clamp (by omega), fu_at, Bool.true_and]
theorem cu_N {C : Nat → ab_C} {c : Nat} (hc : c < 3) : f_cu C (nI c) = (C c).1 := by
  unfold f_cu
  rw [mi_ibI (by omega) (by omega), nI_clamp (by omega), Bool.true_and]
theorem op_c {K L : Nat} {n : List ab_M} {su : Bool} {sn : Int32} {sg : Bool} {se : Int32} {pg : Nat → Nat → Int32} {md : Nat → Nat → Nat} {en : Nat → Nat → Int32} {sd : Nat → Option ab_M} {ln : Nat → List ab_M} {C : Nat → ab_C} {h : ha_H} {c : Nat} {up : Bool} {nw nu : Int32} {op : Option ab_M} {si : Int32} {cp : Nat → ab_P} {wr : List ab_W} (H : MV K L n su sn sg se pg md en sd ln (fu C c (up, nw, nu, op, si, cp, wr)) h) (hc : c < 3) : (hp_I h 87 c ≤ 0) = (op = none) ∧ (hp_I h 87 c = 0) = (op = none) ∧ (0 < hp_I h 87 c) = ¬ (op = none) := by
  obtain ⟨a4, a4', _⟩ := (mv_at H hc).2.1
  cases op with
  | none =>
    have q : hp_I h 87 c = nI 0 := a4 rfl
    rw [q]
    refine ⟨?_, ?_, ?_⟩
    · exact propext ⟨fun _ => rfl, fun _ => by decide⟩
    · exact propext ⟨fun _ => rfl, fun _ => by decide⟩
    · exact propext ⟨fun z => absurd z (by decide), fun z => absurd rfl z⟩
  | some o =>
    obtain ⟨⟨k1, k2, k3⟩, b2, _⟩ := a4' o rfl
    rw [b2]
    have p : ¬ nI (am_k o) ≤ 0 := nI_nle (by omega) (by omega)
    refine ⟨?_, ?_, ?_⟩
    · exact propext ⟨fun z => absurd z p, fun z => (by cases z)⟩
    · exact propext ⟨fun z => absurd z (nI_ne0 (by omega) (by omega)), fun z => (by cases z)⟩
    · exact propext ⟨fun _ z => (by cases z), fun _ => Int32.not_le.mp p⟩
theorem mi12_F {mo : Int32} (q : mo < nI 1 ∨ nI 2 < mo) : mi_12 mo = false := by
  unfold mi_12 mi_in
  rcases q with q | q
  · rw [if_pos q]; rfl
  · by_cases z : mo < nI 1
    · rw [if_pos z]; rfl
    · rw [if_neg z, if_pos q]; rfl
theorem mi12_T {k : Nat} (h : 1 ≤ k ∧ k ≤ 2) : mi_12 (nI k) = true := by
  rcases (by omega : k = 1 ∨ k = 2) with rfl | rfl <;> decide
theorem po_acq_no {K L : Nat} {n : List ab_M} {su : Bool} {sn : Int32} {sg : Bool} {se : Int32} {pg : Nat → Nat → Int32} {md : Nat → Nat → Nat} {en : Nat → Nat → Int32} {sd : Nat → Option ab_M} {ln : Nat → List ab_M} {C : Nat → ab_C} {h : ha_H} {c f mo : Int32} (hc : CV L n su sn sg se pg md en sd ln C h) (H : MV K L n su sn sg se pg md en sd ln C h) (q : f_cu C c = false ∨ mi_ib f 3 = false ∨ mo < nI 1 ∨ nI 2 < mo) : PO K (fun g => m_acquire g c f mo) h (-1) h := by
  refine po_no hc H ?_
  show m_acquire h c f mo = (-1, h)
  unfold m_acquire
  refine if_neg (fun z => ?_)
  rw [wk_eq H] at z
  rcases q with q | q | q | q
  · simp [q] at z
  · simp [q] at z
  · simp [mi12_F (Or.inl q)] at z
  · simp [mi12_F (Or.inr q)] at z
theorem po_acq_op {K L : Nat} {n : List ab_M} {su : Bool} {sn : Int32} {sg : Bool} {se : Int32} {pg : Nat → Nat → Int32} {md : Nat → Nat → Nat} {en : Nat → Nat → Int32} {sd : Nat → Option ab_M} {ln : Nat → List ab_M} {C : Nat → ab_C} {h : ha_H} {c : Nat} {up : Bool} {nw nu : Int32} {o : ab_M} {si : Int32} {cp : Nat → ab_P} {wr : List ab_W} {f mo : Int32} (hc : CV L n su sn sg se pg md en sd ln (fu C c (up, nw, nu, some o, si, cp, wr)) h) (H : MV K L n su sn sg se pg md en sd ln (fu C c (up, nw, nu, some o, si, cp, wr)) h) (hl : c < 3) : PO K (fun g => m_acquire g (nI c) f mo) h (-1) h := by
  refine po_no hc H ?_
  show m_acquire h (nI c) f mo = (-1, h)
  unfold m_acquire
  refine if_neg (fun z => ?_)
  rw [nI_clamp (by omega)] at z
  simp [(op_c H hl).1] at z
theorem po_acq {K L : Nat} {n : List ab_M} {su : Bool} {sn : Int32} {sg : Bool} {se : Int32} {pg : Nat → Nat → Int32} {md : Nat → Nat → Nat} {en : Nat → Nat → Int32} {sd : Nat → Option ab_M} {ln : Nat → List ab_M} {C : Nat → ab_C} {h : ha_H} {c : Nat} {nw nu : Int32} {si : Int32} {cp : Nat → ab_P} {wr : List ab_W} {f : Nat} {mo : Nat} {ti : Int32} {re lo : Bool} {ps : Nat → Int32} {g : ha_H} {k : Nat} (H : MV K L n su sn sg se pg md en sd ln (fu C c (true, nw, nu, none, si, fu cp f (mo, ti, re, lo, ps), wr)) h) (hl : c < 3) (hf : f < 4) (hk : 1 ≤ k ∧ k ≤ 2) (hc : CV L (f_as n c nw nu none si wr f mo ti re lo ps k).2.1 su sn sg se pg md en sd ln (fu C c (true, nw, (f_as n c nw nu none si wr f mo ti re lo ps k).2.2.1, (f_as n c nw nu none si wr f mo ti re lo ps k).2.2.2.1, (f_as n c nw nu none si wr f mo ti re lo ps k).2.2.2.2.1, fu cp f (f_as n c nw nu none si wr f mo ti re lo ps k).2.2.2.2.2, wr)) g) (l : hp_le h g) : PO K (fun g => m_acquire g (nI c) (nI f) (nI k)) h (f_as n c nw nu none si wr f mo ti re lo ps k).1 g := by
  have Hg := MV_le H l
  have e : m_acquire g (nI c) (nI f) (nI k) = m_acqA g c f (nI k) := by
    unfold m_acquire
    rw [wk_eq Hg, cu_at hl, mi_ibI (by omega) (by omega), mi12_T hk, nI_clamp (by omega), nI_clamp (by omega)]
    exact if_pos (by simp [(op_c Hg hl).1])
  obtain ⟨q1, q2⟩ := mq_acq Hg hl hf hk
  exact po_of hc l (by show _ = (m_acquire g (nI c) (nI f) (nI k)).1; rw [e]; exact q1.symm) (by show MV (K + 1) _ _ _ _ _ _ _ _ _ _ _ _ (m_acquire g (nI c) (nI f) (nI k)).2; rw [e]; exact q2)
theorem mi01_F {o : Int32} (q : o < 0 ∨ nI 1 < o) : mi_ib o 1 = false := by
  unfold mi_ib mi_in
  rcases q with q | q
  · rw [if_pos (show o < nI 0 from q)]; rfl
  · by_cases z : o < nI 0
    · rw [if_pos z]; rfl
    · rw [if_neg z, if_pos q]; rfl
theorem po_read_no {K L : Nat} {n : List ab_M} {su : Bool} {sn : Int32} {sg : Bool} {se : Int32} {pg : Nat → Nat → Int32} {md : Nat → Nat → Nat} {en : Nat → Nat → Int32} {sd : Nat → Option ab_M} {ln : Nat → List ab_M} {C : Nat → ab_C} {h : ha_H} {c f p o : Int32} (hc : CV L n su sn sg se pg md en sd ln C h) (H : MV K L n su sn sg se pg md en sd ln C h) (q : f_cu C c = false ∨ mi_ib f 3 = false ∨ mi_ib p 3 = false ∨ mi_ib o 1 = false) : PO K (fun g => m_read g c f p o) h (-1) h := by
  refine po_no hc H ?_
  show m_read h c f p o = (-1, h)
  unfold m_read
  refine if_neg (fun z => ?_)
  rw [wk_eq H] at z
  rcases q with q | q | q | q <;> simp [q] at z
theorem rd_A {h : ha_H} {c f p q : Nat} (w : m_wk h (nI c) = true) (hc : c < 3) (hf : f < 4) (hp : p < 4) (hq : q ≤ 1) : m_read h (nI c) (nI f) (nI p) (nI q) = m_readA h c f p q := by
  unfold m_read
  rw [w, mi_ibI (by omega) (by omega), mi_ibI (by omega) (by omega), mi_ibI (by omega) (by omega), nI_clamp (by omega), nI_clamp (by omega), nI_clamp (by omega), nI_clamp (by omega)]
  exact if_pos rfl
theorem po_rd0 {K L : Nat} {n : List ab_M} {su : Bool} {sn : Int32} {sg : Bool} {se : Int32} {pg : Nat → Nat → Int32} {md : Nat → Nat → Nat} {en : Nat → Nat → Int32} {sd : Nat → Option ab_M} {ln : Nat → List ab_M} {C : Nat → ab_C} {h : ha_H} {c : Nat} {nw nu : Int32} {op : Option ab_M} {si : Int32} {cp : Nat → ab_P} {wr : List ab_W} {f : Nat} {mo : Nat} {ti : Int32} {re lo : Bool} {ps : Nat → Int32} {g : ha_H} {p : Nat} (H : MV K L n su sn sg se pg md en sd ln (fu C c (true, nw, nu, op, si, fu cp f (mo, ti, re, lo, ps), wr)) h) (hl : c < 3) (hf : f < 4) (hp : p < 4) (hc : CV L n su sn sg se pg md en sd ln (fu C c (true, nw, nu, op, si, fu cp f (mo, ti, re, false, ps), wr)) g) (l : hp_le h g) : PO K (fun g => m_read g (nI c) (nI f) (nI p) (nI 0)) h (bif lo then -3 else bif f_al mo ti 1 nw then ps p else -2) g := by
  have Hg := MV_le H l
  have e := rd_A (h := g) (q := 0) (by rw [wk_eq Hg, cu_at hl]) hl hf hp (by omega)
  obtain ⟨q1, q2⟩ := mq_read0 Hg hl hf hp
  exact po_of hc l (by show _ = (m_read g (nI c) (nI f) (nI p) (nI 0)).1; rw [e]; exact q1.symm) (by show MV (K + 1) _ _ _ _ _ _ _ _ _ _ _ _ (m_read g (nI c) (nI f) (nI p) (nI 0)).2; rw [e]; exact MV_S q2)
theorem po_rd1 {K L : Nat} {n : List ab_M} {su : Bool} {sn : Int32} {sg : Bool} {se : Int32} {pg : Nat → Nat → Int32} {md : Nat → Nat → Nat} {en : Nat → Nat → Int32} {sd : Nat → Option ab_M} {ln : Nat → List ab_M} {C : Nat → ab_C} {h : ha_H} {c : Nat} {nw nu : Int32} {op : Option ab_M} {si : Int32} {cp : Nat → ab_P} {wr : List ab_W} {f : Nat} {mo : Nat} {ti : Int32} {re lo : Bool} {ps : Nat → Int32} {p : Nat} (hc : CV L n su sn sg se pg md en sd ln (fu C c (true, nw, nu, op, si, fu cp f (mo, ti, re, lo, ps), wr)) h) (H : MV K L n su sn sg se pg md en sd ln (fu C c (true, nw, nu, op, si, fu cp f (mo, ti, re, lo, ps), wr)) h) (hl : c < 3) (hf : f < 4) (hp : p < 4) : PO K (fun g => m_read g (nI c) (nI f) (nI p) (nI 1)) h (bif lo then -3 else bif f_al mo ti 1 nw then nI 1 else -2) h := by
  have e := rd_A (h := h) (q := 1) (by rw [wk_eq H, cu_at hl]) hl hf hp (by omega)
  obtain ⟨q1, q2⟩ := mq_read1 (p := p) H hl hf
  exact po_of hc (le_rf h) (by show _ = (m_read h (nI c) (nI f) (nI p) (nI 1)).1; rw [e]; exact q1.symm) (by show MV (K + 1) _ _ _ _ _ _ _ _ _ _ _ _ (m_read h (nI c) (nI f) (nI p) (nI 1)).2; rw [e]; exact MV_S q2)
theorem po_wr_no {K L : Nat} {n : List ab_M} {su : Bool} {sn : Int32} {sg : Bool} {se : Int32} {pg : Nat → Nat → Int32} {md : Nat → Nat → Nat} {en : Nat → Nat → Int32} {sd : Nat → Option ab_M} {ln : Nat → List ab_M} {C : Nat → ab_C} {h : ha_H} {c f p v : Int32} (hc : CV L n su sn sg se pg md en sd ln C h) (H : MV K L n su sn sg se pg md en sd ln C h) (q : f_cu C c = false ∨ mi_ib f 3 = false ∨ mi_ib p 3 = false) : PO K (fun g => m_write g c f p v) h (-1) h := by
  refine po_no hc H ?_
  show m_write h c f p v = (-1, h)
  unfold m_write
  refine if_neg (fun z => ?_)
  rw [wk_eq H] at z
  rcases q with q | q | q <;> simp [q] at z
theorem po_wr {K L : Nat} {n : List ab_M} {su : Bool} {sn : Int32} {sg : Bool} {se : Int32} {pg : Nat → Nat → Int32} {md : Nat → Nat → Nat} {en : Nat → Nat → Int32} {sd : Nat → Option ab_M} {ln : Nat → List ab_M} {C : Nat → ab_C} {h : ha_H} {c : Nat} {nw nu : Int32} {op : Option ab_M} {si : Int32} {cp : Nat → ab_P} {wr : List ab_W} {f : Nat} {mo : Nat} {ti : Int32} {re lo : Bool} {ps : Nat → Int32} {g : ha_H} {p : Nat} {v : Int32} (H : MV K L n su sn sg se pg md en sd ln (fu C c (true, nw, nu, op, si, fu cp f (mo, ti, re, lo, ps), wr)) h) (hl : c < 3) (hf : f < 4) (hp : p < 4) (hc : CV L n su sn sg se pg md en sd ln (fu C c (true, nw, nu, op, si, fu cp f (f_wp nw wr f mo ti re lo ps p v).2.1, (f_wp nw wr f mo ti re lo ps p v).2.2)) g) (l : hp_le h g) : PO K (fun g => m_write g (nI c) (nI f) (nI p) v) h (f_wp nw wr f mo ti re lo ps p v).1 g := by
  have Hg := MV_le H l
  have e : m_write g (nI c) (nI f) (nI p) v = m_writeA g c f p v := by
    unfold m_write
    rw [wk_eq Hg, cu_at hl, mi_ibI (by omega) (by omega), mi_ibI (by omega) (by omega), nI_clamp (by omega), nI_clamp (by omega), nI_clamp (by omega)]
    exact if_pos rfl
  obtain ⟨q1, q2⟩ := mq_wr (v := v) Hg hl hf hp
  exact po_of hc l (by show _ = (m_write g (nI c) (nI f) (nI p) v).1; rw [e]; exact q1.symm) (by show MV (K + 1) _ _ _ _ _ _ _ _ _ _ _ _ (m_write g (nI c) (nI f) (nI p) v).2; rw [e]; exact MV_S q2)
theorem po_fl_no {K L : Nat} {n : List ab_M} {su : Bool} {sn : Int32} {sg : Bool} {se : Int32} {pg : Nat → Nat → Int32} {md : Nat → Nat → Nat} {en : Nat → Nat → Int32} {sd : Nat → Option ab_M} {ln : Nat → List ab_M} {C : Nat → ab_C} {h : ha_H} {c : Int32} (hc : CV L n su sn sg se pg md en sd ln C h) (H : MV K L n su sn sg se pg md en sd ln C h) (q : f_cu C c = false) : PO K (fun g => m_flush g c) h (-1) h := by
  refine po_no hc H ?_
  show m_flush h c = (-1, h)
  unfold m_flush
  refine if_neg (fun z => ?_)
  rw [wk_eq H] at z
  simp [q] at z
theorem po_fl_op {K L : Nat} {n : List ab_M} {su : Bool} {sn : Int32} {sg : Bool} {se : Int32} {pg : Nat → Nat → Int32} {md : Nat → Nat → Nat} {en : Nat → Nat → Int32} {sd : Nat → Option ab_M} {ln : Nat → List ab_M} {C : Nat → ab_C} {h : ha_H} {c : Nat} {up : Bool} {nw nu : Int32} {op : Option ab_M} {si : Int32} {cp : Nat → ab_P} {wr : List ab_W} (hc : CV L n su sn sg se pg md en sd ln (fu C c (up, nw, nu, op, si, cp, wr)) h) (H : MV K L n su sn sg se pg md en sd ln (fu C c (up, nw, nu, op, si, cp, wr)) h) (hl : c < 3) (q : ¬ op = none ∨ wr.length = 0) : PO K (fun g => m_flush g (nI c)) h (-1) h := by
  refine po_no hc H ?_
  show m_flush h (nI c) = (-1, h)
  unfold m_flush
  refine if_neg (fun z => ?_)
  rw [nI_clamp (by omega), w_f H hl] at z
  simp only [(op_c H hl).2.2] at z
  rcases q with q | q
  · simp [q] at z
  · simp [q] at z
theorem po_fl {K L : Nat} {n : List ab_M} {su : Bool} {sn : Int32} {sg : Bool} {se : Int32} {pg : Nat → Nat → Int32} {md : Nat → Nat → Nat} {en : Nat → Nat → Int32} {sd : Nat → Option ab_M} {ln : Nat → List ab_M} {C : Nat → ab_C} {h : ha_H} {c : Nat} {nw nu : Int32} {si : Int32} {cp : Nat → ab_P} {wr : List ab_W} {w0 : ab_W} {mo : Nat} {ti : Int32} {re lo : Bool} {ps : Nat → Int32} {g : ha_H} (H : MV K L n su sn sg se pg md en sd ln (fu C c (true, nw, nu, none, si, fu cp w0.1 (mo, ti, re, lo, ps), wr)) h) (hl : c < 3) (e0 : wr[0]? = some w0) (hc : CV L (f_st n c nw nu none si mo ti w0).2.1 su sn sg se pg md en sd ln (fu C c (true, nw, (f_st n c nw nu none si mo ti w0).2.2.1, (f_st n c nw nu none si mo ti w0).2.2.2.1, (f_st n c nw nu none si mo ti w0).2.2.2.2, fu cp w0.1 (mo, ti, re, lo, ps), wr)) g) (l : hp_le h g) : PO K (fun g => m_flush g (nI c)) h (f_st n c nw nu none si mo ti w0).1 g := by
  have Hg := MV_le H l
  have lw : ¬ wr.length = 0 := by
    have := (List.getElem?_eq_some_iff.mp e0).1
    omega
  have e : m_flush g (nI c) = m_flA g c (hp_I g 85 (6 * c)).toNatClampNeg := by
    unfold m_flush
    rw [wk_eq Hg, cu_at hl, nI_clamp (by omega), w_f Hg hl]
    simp only [(op_c Hg hl).2.2]
    exact if_pos (by simp [lw])
  obtain ⟨q1, q2⟩ := mq_fl Hg hl e0
  exact po_of hc l (by show _ = (m_flush g (nI c)).1; rw [e]; exact q1.symm) (by show MV (K + 1) _ _ _ _ _ _ _ _ _ _ _ _ (m_flush g (nI c)).2; rw [e]; exact q2)
theorem po_cl_no {K L : Nat} {n : List ab_M} {su : Bool} {sn : Int32} {sg : Bool} {se : Int32} {pg : Nat → Nat → Int32} {md : Nat → Nat → Nat} {en : Nat → Nat → Int32} {sd : Nat → Option ab_M} {ln : Nat → List ab_M} {C : Nat → ab_C} {h : ha_H} {c f : Int32} (hc : CV L n su sn sg se pg md en sd ln C h) (H : MV K L n su sn sg se pg md en sd ln C h) (q : f_cu C c = false ∨ mi_ib f 3 = false) : PO K (fun g => m_close g c f) h (-1) h := by
  refine po_no hc H ?_
  show m_close h c f = (-1, h)
  unfold m_close
  refine if_neg (fun z => ?_)
  rw [wk_eq H] at z
  rcases q with q | q <;> simp [q] at z
theorem po_cl_op {K L : Nat} {n : List ab_M} {su : Bool} {sn : Int32} {sg : Bool} {se : Int32} {pg : Nat → Nat → Int32} {md : Nat → Nat → Nat} {en : Nat → Nat → Int32} {sd : Nat → Option ab_M} {ln : Nat → List ab_M} {C : Nat → ab_C} {h : ha_H} {c : Nat} {up : Bool} {nw nu : Int32} {op : Option ab_M} {si : Int32} {cp : Nat → ab_P} {wr : List ab_W} {f : Nat} (hc : CV L n su sn sg se pg md en sd ln (fu C c (up, nw, nu, op, si, cp, wr)) h) (H : MV K L n su sn sg se pg md en sd ln (fu C c (up, nw, nu, op, si, cp, wr)) h) (hl : c < 3) (hf : f < 4) (q : ¬ op = none ∨ f_hw wr f = true) : PO K (fun g => m_close g (nI c) (nI f)) h (-1) h := by
  refine po_no hc H ?_
  show m_close h (nI c) (nI f) = (-1, h)
  unfold m_close
  refine if_neg (fun z => ?_)
  have ew : m_w h c = wr.length := w_f H hl
  rw [nI_clamp (by omega), nI_clamp (by omega), ew, hd_eq (mv_at H hl).2.2.1 hf] at z
  simp only [(op_c H hl).2.2] at z
  rcases q with q | q
  · simp [q] at z
  · have q' : f_hw (up, nw, nu, op, si, cp, wr).2.2.2.2.2.2 f = true := q
    simp [q'] at z
theorem po_cl {K L : Nat} {n : List ab_M} {su : Bool} {sn : Int32} {sg : Bool} {se : Int32} {pg : Nat → Nat → Int32} {md : Nat → Nat → Nat} {en : Nat → Nat → Int32} {sd : Nat → Option ab_M} {ln : Nat → List ab_M} {C : Nat → ab_C} {h : ha_H} {c : Nat} {nw nu : Int32} {si : Int32} {cp : Nat → ab_P} {wr : List ab_W} {f : Nat} {mo : Nat} {ti : Int32} {re lo : Bool} {ps : Nat → Int32} {g : ha_H} (H : MV K L n su sn sg se pg md en sd ln (fu C c (true, nw, nu, none, si, fu cp f (mo, ti, re, lo, ps), wr)) h) (hl : c < 3) (hf : f < 4) (hw : f_hw wr f = false) (hc : CV L (f_gb n c nw nu none si f mo ti re lo ps).2.1 su sn sg se pg md en sd ln (fu C c (true, nw, (f_gb n c nw nu none si f mo ti re lo ps).2.2.1, (f_gb n c nw nu none si f mo ti re lo ps).2.2.2.1, (f_gb n c nw nu none si f mo ti re lo ps).2.2.2.2.1, fu cp f (f_gb n c nw nu none si f mo ti re lo ps).2.2.2.2.2, wr)) g) (l : hp_le h g) : PO K (fun g => m_close g (nI c) (nI f)) h (f_gb n c nw nu none si f mo ti re lo ps).1 g := by
  have Hg := MV_le H l
  have e : m_close g (nI c) (nI f) = m_closeA g c f := by
    unfold m_close
    have ew : m_w g c = wr.length := w_f Hg hl
    have eh : m_hdN g c f wr.length = false := (hd_eq (mv_at Hg hl).2.2.1 hf).trans hw
    rw [wk_eq Hg, cu_at hl, mi_ibI (by omega) (by omega), nI_clamp (by omega), nI_clamp (by omega), ew, eh]
    simp only [(op_c Hg hl).2.2]
    exact if_pos (by simp)
  obtain ⟨q1, q2⟩ := mq_cl Hg hl hf
  exact po_of hc l (by show _ = (m_close g (nI c) (nI f)).1; rw [e]; exact q1.symm) (by show MV (K + 1) _ _ _ _ _ _ _ _ _ _ _ _ (m_close g (nI c) (nI f)).2; rw [e]; exact q2)
theorem po_re_no {K L : Nat} {n : List ab_M} {su : Bool} {sn : Int32} {sg : Bool} {se : Int32} {pg : Nat → Nat → Int32} {md : Nat → Nat → Nat} {en : Nat → Nat → Int32} {sd : Nat → Option ab_M} {ln : Nat → List ab_M} {C : Nat → ab_C} {h : ha_H} {c : Int32} (hc : CV L n su sn sg se pg md en sd ln C h) (H : MV K L n su sn sg se pg md en sd ln C h) (q : f_cu C c = false) : PO K (fun g => m_retry g c) h (-1) h := by
  refine po_no hc H ?_
  show m_retry h c = (-1, h)
  unfold m_retry
  refine if_neg (fun z => ?_)
  rw [wk_eq H] at z
  simp [q] at z
theorem po_re_op {K L : Nat} {n : List ab_M} {su : Bool} {sn : Int32} {sg : Bool} {se : Int32} {pg : Nat → Nat → Int32} {md : Nat → Nat → Nat} {en : Nat → Nat → Int32} {sd : Nat → Option ab_M} {ln : Nat → List ab_M} {C : Nat → ab_C} {h : ha_H} {c : Nat} {up : Bool} {nw nu : Int32} {si : Int32} {cp : Nat → ab_P} {wr : List ab_W} {g : ha_H} (H : MV K L n su sn sg se pg md en sd ln (fu C c (up, nw, nu, none, si, cp, wr)) h) (hl : c < 3) (hc : CV L n su sn sg se pg md en sd ln (fu C c (up, nw, nu, none, si, cp, wr)) g) (l : hp_le h g) : PO K (fun g => m_retry g (nI c)) h (-1) g := by
  have Hg := MV_le H l
  have e : m_retry g (nI c) = (-1, g) := by
    unfold m_retry
    refine if_neg (fun z => ?_)
    rw [nI_clamp (by omega)] at z
    simp [(op_c Hg hl).2.1] at z
  exact po_of hc l (by show _ = (m_retry g (nI c)).1; rw [e]) (by show MV (K + 1) _ _ _ _ _ _ _ _ _ _ _ _ (m_retry g (nI c)).2; rw [e]; exact MV_S Hg)
theorem po_re {K L : Nat} {n : List ab_M} {su : Bool} {sn : Int32} {sg : Bool} {se : Int32} {pg : Nat → Nat → Int32} {md : Nat → Nat → Nat} {en : Nat → Nat → Int32} {sd : Nat → Option ab_M} {ln : Nat → List ab_M} {C : Nat → ab_C} {h : ha_H} {c : Nat} {nw nu : Int32} {m : ab_M} {si : Int32} {cp : Nat → ab_P} {wr : List ab_W} {g : ha_H} (H : MV K L n su sn sg se pg md en sd ln (fu C c (true, nw, nu, some m, si, cp, wr)) h) (hl : c < 3) (hc : CV L (f_send n m) su sn sg se pg md en sd ln (fu C c (true, nw, nu, some m, si, cp, wr)) g) (l : hp_le h g) : PO K (fun g => m_retry g (nI c)) h (am_n m) g := by
  have Hg := MV_le H l
  have e : m_retry g (nI c) = (hp_I g 78 c, m_ask g (m_u g) c) := by
    unfold m_retry
    rw [wk_eq Hg, cu_at hl, nI_clamp (by omega)]
    simp only [(op_c Hg hl).2.1]
    exact if_pos (by simp)
  obtain ⟨q1, q2⟩ := mq_re Hg hl
  exact po_of hc l (by show _ = (m_retry g (nI c)).1; rw [e]; exact q1.symm) (by show MV (K + 1) _ _ _ _ _ _ _ _ _ _ _ _ (m_retry g (nI c)).2; rw [e]; exact MV_S q2)
