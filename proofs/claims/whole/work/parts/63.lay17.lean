theorem po_msgs {K L : Nat} {n : List ab_M} {su : Bool} {sn : Int32} {sg : Bool} {se : Int32} {pg : Nat → Nat → Int32} {md : Nat → Nat → Nat} {en : Nat → Nat → Int32} {sd : Nat → Option ab_M} {ln : Nat → List ab_M} {C : Nat → ab_C} {h : ha_H} (hc : CV L n su sn sg se pg md en sd ln C h) (H : MV K L n su sn sg se pg md en sd ln C h) : PO K (fun g => (hp_I g 62 34, g)) h (nI n.length) h := po_of hc (le_rf h) (mv_nn H).1.symm (MV_S H)
theorem at_no {n : List ab_M} {i : Int32} (h60 : n.length ≤ 60) (e : f_at n i = none) : mi_in i (nI 0) (nI n.length - nI 1) = 0 := by
  by_cases z : mi_in i (nI 0) (nI n.length - nI 1) = 0
  · exact z
  · exfalso
    obtain ⟨j, hj, rfl⟩ := mi_idx h60 z
    unfold f_at at e
    rw [if_neg (nI_pos (by omega)), nI_clamp (by omega), List.getElem?_eq_getElem hj] at e
    cases e
theorem at_yes {n : List ab_M} {i : Int32} {m : ab_M} (h60 : n.length ≤ 60) (e : f_at n i = some m) : ∃ j, i = nI j ∧ j < n.length ∧ n[j]? = some m ∧ ¬ mi_in i (nI 0) (nI n.length - nI 1) = 0 := by
  unfold f_at at e
  by_cases z : i < 0
  · rw [if_pos z] at e; cases e
  · rw [if_neg z] at e
    obtain ⟨j, hj, rfl⟩ := nI_of z
    rw [nI_clamp hj] at e
    have lt := (List.getElem?_eq_some_iff.mp e).1
    refine ⟨j, rfl, lt, e, ?_⟩
    unfold mi_in
    rw [if_neg (show ¬ nI j < nI 0 from z), pk_sub (by omega), if_neg (nI_nlt (by omega) (by omega))]
    decide
theorem po_msg_no {K L : Nat} {n : List ab_M} {su : Bool} {sn : Int32} {sg : Bool} {se : Int32} {pg : Nat → Nat → Int32} {md : Nat → Nat → Nat} {en : Nat → Nat → Int32} {sd : Nat → Option ab_M} {ln : Nat → List ab_M} {C : Nat → ab_C} {h : ha_H} {i : Int32} (hc : CV L n su sn sg se pg md en sd ln C h) (H : MV K L n su sn sg se pg md en sd ln C h) (e : f_at n i = none) : PO K (fun g => (m_message g (m_u g) i, g)) h (-1) h := by
  refine po_no hc H ?_
  show (m_message h (m_u h) i, h) = _
  rw [vn_u (mv_nn H)]
  unfold m_message
  rw [if_pos (at_no (mv_nn H).2.1 e)]
theorem po_msg {K L : Nat} {n : List ab_M} {su : Bool} {sn : Int32} {sg : Bool} {se : Int32} {pg : Nat → Nat → Int32} {md : Nat → Nat → Nat} {en : Nat → Nat → Int32} {sd : Nat → Option ab_M} {ln : Nat → List ab_M} {C : Nat → ab_C} {h : ha_H} {i : Int32} {m : ab_M} (hc : CV L n su sn sg se pg md en sd ln C h) (H : MV K L n su sn sg se pg md en sd ln C h) (e : f_at n i = some m) : PO K (fun g => (m_message g (m_u g) i, g)) h (am_code m) h := by
  refine po_no hc H ?_
  show (m_message h (m_u h) i, h) = _
  obtain ⟨j, rfl, lt, ej, nz⟩ := at_yes (mv_nn H).2.1 e
  rw [vn_u (mv_nn H)]
  unfold m_message
  rw [if_neg nz, nI_clamp (by have := (mv_nn H).2.1; omega)]
  obtain ⟨⟨k1, k2, k3, k4⟩, _⟩ := (mv_nn H).2.2 j m ej
  unfold m_code am_code
  rw [k1, k2, k3, k4, pk_mul]
theorem po_drop_no {K L : Nat} {n : List ab_M} {su : Bool} {sn : Int32} {sg : Bool} {se : Int32} {pg : Nat → Nat → Int32} {md : Nat → Nat → Nat} {en : Nat → Nat → Int32} {sd : Nat → Option ab_M} {ln : Nat → List ab_M} {C : Nat → ab_C} {h : ha_H} {i : Int32} {g : ha_H} (H : MV K L n su sn sg se pg md en sd ln C h) (e : f_at n i = none) (hc : CV L n su sn sg se pg md en sd ln C g) (l : hp_le h g) : PO K (fun g => (m_dropR (m_u g) i, m_dropH g (m_u g) i)) h (nI 0) g := by
  have Hg := MV_le H l
  have z := at_no (mv_nn Hg).2.1 e
  refine po_of hc l ?_ ?_
  · show _ = m_dropR (m_u g) i
    rw [vn_u (mv_nn Hg)]; unfold m_dropR; rw [if_pos z]
  · show MV (K + 1) _ _ _ _ _ _ _ _ _ _ _ _ (m_dropH g (m_u g) i)
    rw [vn_u (mv_nn Hg)]; unfold m_dropH; rw [if_pos z]; exact MV_S Hg
theorem po_drop {K L : Nat} {n : List ab_M} {su : Bool} {sn : Int32} {sg : Bool} {se : Int32} {pg : Nat → Nat → Int32} {md : Nat → Nat → Nat} {en : Nat → Nat → Int32} {sd : Nat → Option ab_M} {ln : Nat → List ab_M} {C : Nat → ab_C} {h : ha_H} {i : Int32} {g : ha_H} {m : ab_M} {j : Nat} (H : MV K L n su sn sg se pg md en sd ln C h) (e : f_at n i = some m) (ei : i = nI j) (hj : j < n.length) (hc : CV L (n.eraseIdx j) su sn sg se pg md en sd ln C g) (l : hp_le h g) : PO K (fun g => (m_dropR (m_u g) i, m_dropH g (m_u g) i)) h (nI 1) g := by
  have Hg := MV_le H l
  obtain ⟨j', e', _, _, nz⟩ := at_yes (mv_nn Hg).2.1 e
  have h60 := (mv_nn Hg).2.1
  have hm := mq_drop Hg hj
  refine po_of hc l ?_ ?_
  · show _ = m_dropR (m_u g) i
    rw [vn_u (mv_nn Hg)]; unfold m_dropR; rw [if_neg nz]
  · show MV (K + 1) _ _ _ _ _ _ _ _ _ _ _ _ (m_dropH g (m_u g) i)
    unfold m_dropH
    rw [vn_u (mv_nn Hg)] at hm ⊢
    rw [if_neg nz, ei, nI_clamp (by omega)]; exact MV_S hm
theorem po_dup_no {K L : Nat} {n : List ab_M} {su : Bool} {sn : Int32} {sg : Bool} {se : Int32} {pg : Nat → Nat → Int32} {md : Nat → Nat → Nat} {en : Nat → Nat → Int32} {sd : Nat → Option ab_M} {ln : Nat → List ab_M} {C : Nat → ab_C} {h : ha_H} {i : Int32} (hc : CV L n su sn sg se pg md en sd ln C h) (H : MV K L n su sn sg se pg md en sd ln C h) (e : f_at n i = none) : PO K (fun g => (m_dupR (m_u g) i, m_dupH g (m_u g) i)) h (nI 0) h := by
  have z := at_no (mv_nn H).2.1 e
  refine po_no hc H ?_
  show (m_dupR (m_u h) i, m_dupH h (m_u h) i) = _
  rw [vn_u (mv_nn H)]; unfold m_dupR m_dupH; rw [if_pos z, if_pos z]
theorem po_dup {K L : Nat} {n : List ab_M} {su : Bool} {sn : Int32} {sg : Bool} {se : Int32} {pg : Nat → Nat → Int32} {md : Nat → Nat → Nat} {en : Nat → Nat → Int32} {sd : Nat → Option ab_M} {ln : Nat → List ab_M} {C : Nat → ab_C} {h : ha_H} {i : Int32} {g : ha_H} {m : ab_M} (H : MV K L n su sn sg se pg md en sd ln C h) (e : f_at n i = some m) (hc : CV L (f_send n m) su sn sg se pg md en sd ln C g) (l : hp_le h g) : PO K (fun g => (m_dupR (m_u g) i, m_dupH g (m_u g) i)) h (m_bi (decide (n.length < 60))) g := by
  have Hg := MV_le H l
  obtain ⟨j, rfl, hj, ej, nz⟩ := at_yes (mv_nn Hg).2.1 e
  have h60 := (mv_nn Hg).2.1
  have eu := vn_u (mv_nn Hg)
  by_cases l6 : n.length < 60
  · have hm := mq_dup Hg ej l6
    refine po_of hc l ?_ ?_
    · show _ = m_dupR (m_u g) (nI j)
      rw [eu]; unfold m_dupR; rw [if_neg nz, if_neg (by omega), decide_eq_true l6]; rfl
    · show MV (K + 1) _ _ _ _ _ _ _ _ _ _ _ _ (m_dupH g (m_u g) (nI j))
      unfold m_dupH
      rw [eu] at hm ⊢
      rw [if_neg nz, if_neg (by omega), nI_clamp (by omega)]; exact MV_S hm
  · have es : f_send n m = n := if_neg l6
    rw [es] at hc
    refine po_of hc l ?_ ?_
    · show _ = m_dupR (m_u g) (nI j)
      rw [eu]; unfold m_dupR; rw [if_neg nz, if_pos (by omega), decide_eq_false l6]; rfl
    · show MV (K + 1) _ _ _ _ _ _ _ _ _ _ _ _ (m_dupH g (m_u g) (nI j))
      unfold m_dupH
      rw [eu, if_neg nz, if_pos (by omega)]; exact MV_S Hg
theorem po_dl_no {K L : Nat} {n : List ab_M} {su : Bool} {sn : Int32} {sg : Bool} {se : Int32} {pg : Nat → Nat → Int32} {md : Nat → Nat → Nat} {en : Nat → Nat → Int32} {sd : Nat → Option ab_M} {ln : Nat → List ab_M} {C : Nat → ab_C} {h : ha_H} {i : Int32} {g : ha_H} (H : MV K L n su sn sg se pg md en sd ln C h) (e : f_at n i = none) (hc : CV L n su sn sg se pg md en sd ln C g) (l : hp_le h g) : PO K (fun g => m_deliver g i) h (nI 0) g := by
  have Hg := MV_le H l
  have z := at_no (mv_nn Hg).2.1 e
  have ed : m_deliver g i = (nI 0, g) := by
    unfold m_deliver
    rw [vn_u (mv_nn Hg), if_pos z]
  exact po_of hc l (by show _ = (m_deliver g i).1; rw [ed]) (by show MV (K + 1) _ _ _ _ _ _ _ _ _ _ _ _ (m_deliver g i).2; rw [ed]; exact MV_S Hg)
theorem dl_yes {K L : Nat} {n : List ab_M} {su : Bool} {sn : Int32} {sg : Bool} {se : Int32} {pg : Nat → Nat → Int32} {md : Nat → Nat → Nat} {en : Nat → Nat → Int32} {sd : Nat → Option ab_M} {ln : Nat → List ab_M} {C : Nat → ab_C} {h : ha_H} {i : Int32} {j : Nat} {m : ab_M} (H : MV K L n su sn sg se pg md en sd ln C h) (e : f_at n i = some m) (ei : i = nI j) (hj : j < n.length) : m_deliver h i = (nI 1, m_dl h j) ∧ n[j]? = some m := by
  obtain ⟨j', e', lt, ej, nz⟩ := at_yes (mv_nn H).2.1 e
  have h60 := (mv_nn H).2.1
  have : j' = j := (nI_eq (by omega) (by omega)).mp (e'.symm.trans ei)
  subst this
  unfold m_deliver
  rw [vn_u (mv_nn H), if_neg nz, e', nI_clamp (by omega)]
  exact ⟨rfl, ej⟩
theorem po_dlq {K L : Nat} {n : List ab_M} {su : Bool} {sn : Int32} {sg : Bool} {se : Int32} {pg : Nat → Nat → Int32} {md : Nat → Nat → Nat} {en : Nat → Nat → Int32} {sd : Nat → Option ab_M} {ln : Nat → List ab_M} {C : Nat → ab_C} {h : ha_H} {i : Int32} {g : ha_H} {j : Nat} {m : ab_M} (H : MV K L n su sn sg se pg md en sd ln C h) (hK : K < 2 ^ 20) (e : f_at n i = some m) (ei : i = nI j) (hj : j < n.length) (k3 : am_k m ≤ 3) (hc : CV L (f_rQ su L sn sg pg m (n.eraseIdx j, md, en, sd, ln)).2.1 su sn sg se (f_rQ su L sn sg pg m (n.eraseIdx j, md, en, sd, ln)).1 (f_rQ su L sn sg pg m (n.eraseIdx j, md, en, sd, ln)).2.2.1 (f_rQ su L sn sg pg m (n.eraseIdx j, md, en, sd, ln)).2.2.2.1 (f_rQ su L sn sg pg m (n.eraseIdx j, md, en, sd, ln)).2.2.2.2.1 (f_rQ su L sn sg pg m (n.eraseIdx j, md, en, sd, ln)).2.2.2.2.2 C g) (l : hp_le h g) : PO K (fun g => m_deliver g i) h (nI 1) g := by
  have Hg := MV_le H l
  obtain ⟨ed, ej⟩ := dl_yes Hg e ei hj
  exact po_of hc l (by show _ = (m_deliver g i).1; rw [ed]) (by show MV (K + 1) _ _ _ _ _ _ _ _ _ _ _ _ (m_deliver g i).2; rw [ed]; exact mq_dlq Hg hK ej k3)
theorem po_dlp {K L : Nat} {n : List ab_M} {su : Bool} {sn : Int32} {sg : Bool} {se : Int32} {pg : Nat → Nat → Int32} {md : Nat → Nat → Nat} {en : Nat → Nat → Int32} {sd : Nat → Option ab_M} {ln : Nat → List ab_M} {C : Nat → ab_C} {h : ha_H} {c : Nat} {up : Bool} {nw nu : Int32} {op : Option ab_M} {si : Int32} {cp : Nat → ab_P} {wr : List ab_W} {mo : Nat} {ti : Int32} {re lo : Bool} {ps : Nat → Int32} {i : Int32} {g : ha_H} {j : Nat} {m : ab_M} (H : MV K L n su sn sg se pg md en sd ln (fu C c (up, nw, nu, op, si, fu cp (am_f m) (mo, ti, re, lo, ps), wr)) h) (hK : K < 2 ^ 20) (h8 : 8 ≤ L) (hL : L ≤ 200) (ec : am_c m = c) (e : f_at n i = some m) (ei : i = nI j) (hj : j < n.length) (k4 : 4 ≤ am_k m) (k7 : am_k m ≤ 7) (hc : CV L (n.eraseIdx j) su sn sg se pg md en sd ln (fu C c (up, nw, nu, (f_rA up L si wr mo ti re lo ps op m).1, si, fu cp (am_f m) (f_rA up L si wr mo ti re lo ps op m).2.1, (f_rA up L si wr mo ti re lo ps op m).2.2)) g) (l : hp_le h g) : PO K (fun g => m_deliver g i) h (nI 1) g := by
  have Hg := MV_le H l
  obtain ⟨ed, ej⟩ := dl_yes Hg e ei hj
  exact po_of hc l (by show _ = (m_deliver g i).1; rw [ed]) (by show MV (K + 1) _ _ _ _ _ _ _ _ _ _ _ _ (m_deliver g i).2; rw [ed]; exact MV_S (mq_dlp Hg hK h8 hL ec ej k4 k7))
theorem po_dlr {K L : Nat} {n : List ab_M} {su : Bool} {sn : Int32} {sg : Bool} {se : Int32} {pg : Nat → Nat → Int32} {md : Nat → Nat → Nat} {en : Nat → Nat → Int32} {sd : Nat → Option ab_M} {ln : Nat → List ab_M} {C : Nat → ab_C} {h : ha_H} {c : Nat} {up : Bool} {nw nu : Int32} {op : Option ab_M} {si : Int32} {cp : Nat → ab_P} {wr : List ab_W} {mo : Nat} {ti : Int32} {re lo : Bool} {ps : Nat → Int32} {i : Int32} {g : ha_H} {j : Nat} {m : ab_M} (H : MV K L n su sn sg se pg md en sd ln (fu C c (up, nw, nu, op, si, fu cp (am_f m) (mo, ti, re, lo, ps), wr)) h) (ec : am_c m = c) (e : f_at n i = some m) (ei : i = nI j) (hj : j < n.length) (k8 : am_k m = 8) (hc : CV L (n.eraseIdx j) su sn sg se pg md en sd ln (fu C c (up, nw, nu, op, si, fu cp (am_f m) (mo, ti, bif up then true else re, lo, ps), wr)) g) (l : hp_le h g) : PO K (fun g => m_deliver g i) h (nI 1) g := by
  have Hg := MV_le H l
  obtain ⟨ed, ej⟩ := dl_yes Hg e ei hj
  exact po_of hc l (by show _ = (m_deliver g i).1; rw [ed]) (by show MV (K + 1) _ _ _ _ _ _ _ _ _ _ _ _ (m_deliver g i).2; rw [ed]; exact MV_S (mq_dlr Hg ec ej k8))
def f_nu (su : Bool) (C : Nat → ab_C) (x : Nat) : Bool := if x = 3 then su else (C x).1
theorem un_eq {K L : Nat} {n : List ab_M} {su : Bool} {sn : Int32} {sg : Bool} {se : Int32} {pg : Nat → Nat → Int32} {md : Nat → Nat → Nat} {en : Nat → Nat → Int32} {sd : Nat → Option ab_M} {ln : Nat → List ab_M} {C : Nat → ab_C} {h : ha_H} {x : Nat} (H : MV K L n su sn sg se pg md en sd ln C h) (hx : x ≤ 3) (d : Bool) : m_upN h (nI x) d = (if d = true then !(f_nu su C x) else f_nu su C x) := by
  unfold m_upN f_nu
  rw [mi_ibI (by omega) hx, nI_clamp (by omega), Bool.true_and]
  obtain ⟨Q, X, a, k, _, S, M, P⟩ := H
  have e : hp_I h 63 x = m_bi (!(if x = 3 then su else (C x).1)) := by
    by_cases z : x = 3
    · subst z; rw [if_pos rfl]; exact S.1.2.1
    · rw [if_neg z]; exact (M x (by omega)).1.1
  rw [e, up_bi]
theorem un_F {h : ha_H} {x : Int32} {d : Bool} (e : mi_ib x 3 = false) : m_upN h x d = false := by
  unfold m_upN
  rw [e]; rfl
theorem mi1h_F {k : Int32} (q : k < nI 1 ∨ nI 100 < k) : mi_1h k = false := by
  unfold mi_1h mi_in
  rcases q with q | q
  · rw [if_pos q]; rfl
  · by_cases z : k < nI 1
    · rw [if_pos z]; rfl
    · rw [if_neg z, if_pos q]; rfl
theorem mi1h_T {k : Nat} (h1 : 1 ≤ k) (h2 : k ≤ 100) : mi_1h (nI k) = true := by
  unfold mi_1h mi_in
  rw [if_neg (nI_nlt (by omega) (by omega)), if_neg (nI_nlt (by omega) (by omega))]
  decide
theorem po_tk_no {K L : Nat} {n : List ab_M} {su : Bool} {sn : Int32} {sg : Bool} {se : Int32} {pg : Nat → Nat → Int32} {md : Nat → Nat → Nat} {en : Nat → Nat → Int32} {sd : Nat → Option ab_M} {ln : Nat → List ab_M} {C : Nat → ab_C} {h : ha_H} {x k : Int32} (hc : CV L n su sn sg se pg md en sd ln C h) (H : MV K L n su sn sg se pg md en sd ln C h) (q : mi_ib x 3 = false ∨ k < nI 1 ∨ nI 100 < k ∨ ∃ j, x = nI j ∧ j ≤ 3 ∧ f_nu su C j = false) : PO K (fun g => m_tick g x k) h (nI 0) h := by
  refine po_no hc H ?_
  show m_tick h x k = (nI 0, h)
  unfold m_tick
  refine if_neg (fun z => ?_)
  rcases q with q | q | q | ⟨j, rfl, hj, q⟩
  · simp [un_F q] at z
  · simp [mi1h_F (Or.inl q)] at z
  · simp [mi1h_F (Or.inr q)] at z
  · rw [un_eq H hj] at z
    simp [q] at z
theorem tn_1 {L : Nat} {se : Int32} {pg : Nat → Nat → Int32} : ∀ (k : Nat) (w : ab_7), (ft_n L se pg k w).1 = w.1 + nI k
  | 0, w => by
    show w.1 = _
    rw [nI_0]; exact (Int32.add_zero _).symm
  | k + 1, w => by
    show (ft_n L se pg k (ft_1 L se pg w)).1 = _
    rw [tn_1 k]
    show w.1 + nI 1 + nI k = _
    rw [Int32.add_assoc, nI_add]
    congr 2
    omega
theorem tk_fc : ∀ (k : Nat) (h : ha_H), (∀ c, c < 3 → fc c h (m_tkN k h 3)) ∧ ∀ j, hp_I (m_tkN k h 3) 85 j = hp_I h 85 j
  | 0, h => ⟨fun c _ => fc_rf h, fun _ => rfl⟩
  | k + 1, h => by
    unfold m_tkN
    obtain ⟨I1, I2⟩ := tk_fc k (m_tk1 h 3)
    have e : m_tk1 h 3 = m_serve (m_tkG (m_el 12 (hp_sI h 64 3 (hp_I h 64 3 + nI 1)) 0)) := by unfold m_tk1; rw [if_pos rfl]
    have F := sm_I (sm_serve (h := m_tkG (m_el 12 (hp_sI h 64 3 (hp_I h 64 3 + nI 1)) 0)))
    have E := (el_sp 12 (hp_sI h 64 3 (hp_I h 64 3 + nI 1)) 0).1
    have G : ∀ x j, ¬ x = 62 → ¬ x = 66 → ¬ (x = 64 ∧ j = 3) → hp_I (m_tkG (m_el 12 (hp_sI h 64 3 (hp_I h 64 3 + nI 1)) 0)) x j = hp_I h x j := fun x j h1 h2 h3 => by
      unfold m_tkG
      rw [hp_I_sI, if_neg (fun z => h1 z.1), E x j h2, hp_I_sI, if_neg h3]
    rw [e] at I1 I2 ⊢
    refine ⟨fun c hc => fc_tr (fc_tr (fun x j z => G x j (by unfold fcx at z; omega) (by unfold fcx at z; omega) (by unfold fcx at z; omega)) (F.1 c hc)) (I1 c hc), fun j => ?_⟩
    rw [I2 j, F.2 j, G 85 j (by omega) (by omega) (by omega)]
theorem po_tk3 {K L : Nat} {n : List ab_M} {sn : Int32} {sg : Bool} {se : Int32} {pg : Nat → Nat → Int32} {md : Nat → Nat → Nat} {en : Nat → Nat → Int32} {sd : Nat → Option ab_M} {ln : Nat → List ab_M} {C : Nat → ab_C} {h : ha_H} {k : Nat} {g : ha_H} (H : MV K L n true sn sg se pg md en sd ln C h) (h1 : 1 ≤ k) (h2 : k ≤ 100) (hc : CV L (ft_n L se pg k (sn, sg, n, md, en, sd, ln)).2.2.1 true (ft_n L se pg k (sn, sg, n, md, en, sd, ln)).1 (ft_n L se pg k (sn, sg, n, md, en, sd, ln)).2.1 se pg (ft_n L se pg k (sn, sg, n, md, en, sd, ln)).2.2.2.1 (ft_n L se pg k (sn, sg, n, md, en, sd, ln)).2.2.2.2.1 (ft_n L se pg k (sn, sg, n, md, en, sd, ln)).2.2.2.2.2.1 (ft_n L se pg k (sn, sg, n, md, en, sd, ln)).2.2.2.2.2.2 C g) (l : hp_le h g) : PO K (fun g => m_tick g (nI 3) (nI k)) h (nI 1) g := by
  have Hg := MV_le H l
  have e : m_tick g (nI 3) (nI k) = (nI 1, m_tkN k g 3) := by
    unfold m_tick
    rw [un_eq Hg (by omega), mi1h_T h1 h2, nI_clamp (by omega), nI_clamp (by omega)]
    exact if_pos (by simp [f_nu])
  obtain ⟨Q, X, a, ⟨b1, b2, t, b3, b4⟩, ⟨hi, hd⟩, S, M, P⟩ := Hg
  have T := tk_fc k g
  refine po_of hc l (by show _ = (m_tick g (nI 3) (nI k)).1; rw [e]) ?_
  show MV (K + 1) _ _ _ _ _ _ _ _ _ _ _ _ (m_tick g (nI 3) (nI k)).2
  rw [e]
  refine ⟨Q, X, a, ⟨by omega, fun c hc => by have := b2 c hc; omega, t + k, ?_, by omega⟩, ⟨mI_tkN k hi, dp_k hd T.2⟩, sv_tn k (w := (sn, sg, n, md, en, sd, ln)) S, k_C M T.1, P⟩
  rw [tn_1]
  show sn + nI k = _
  rw [b3, nI_add]
theorem po_tkc {K L : Nat} {n : List ab_M} {su : Bool} {sn : Int32} {sg : Bool} {se : Int32} {pg : Nat → Nat → Int32} {md : Nat → Nat → Nat} {en : Nat → Nat → Int32} {sd : Nat → Option ab_M} {ln : Nat → List ab_M} {C : Nat → ab_C} {h : ha_H} {c : Nat} {nw nu : Int32} {op : Option ab_M} {si : Int32} {cp : Nat → ab_P} {wr : List ab_W} {k : Nat} {g : ha_H} (H : MV K L n su sn sg se pg md en sd ln (fu C c (true, nw, nu, op, si, cp, wr)) h) (hl : c < 3) (h1 : 1 ≤ k) (h2 : k ≤ 100) (hc : CV L n su sn sg se pg md en sd ln (fu C c (true, nw + nI k, nu, op, si, cp, wr)) g) (l : hp_le h g) : PO K (fun g => m_tick g (nI c) (nI k)) h (nI 1) g := by
  have Hg := MV_le H l
  have e : m_tick g (nI c) (nI k) = (nI 1, m_tkN k g c) := by
    unfold m_tick
    rw [un_eq Hg (by omega), mi1h_T h1 h2, nI_clamp (by omega), nI_clamp (by omega)]
    have : ¬ c = 3 := by omega
    exact if_pos (by simp [f_nu, this, fu_at])
  exact po_of hc l (by show _ = (m_tick g (nI c) (nI k)).1; rw [e]) (by show MV (K + 1) _ _ _ _ _ _ _ _ _ _ _ _ (m_tick g (nI c) (nI k)).2; rw [e]; exact MV_S (mq_tkc hl k Hg))
theorem po_cr_no {K L : Nat} {n : List ab_M} {su : Bool} {sn : Int32} {sg : Bool} {se : Int32} {pg : Nat → Nat → Int32} {md : Nat → Nat → Nat} {en : Nat → Nat → Int32} {sd : Nat → Option ab_M} {ln : Nat → List ab_M} {C : Nat → ab_C} {h : ha_H} {x : Int32} (hc : CV L n su sn sg se pg md en sd ln C h) (H : MV K L n su sn sg se pg md en sd ln C h) (q : mi_ib x 3 = false ∨ ∃ j, x = nI j ∧ j ≤ 3 ∧ f_nu su C j = false) : PO K (fun g => m_crash g x) h (nI 0) h := by
  refine po_no hc H ?_
  show m_crash h x = (nI 0, h)
  unfold m_crash
  refine if_neg (fun z => ?_)
  rcases q with q | ⟨j, rfl, hj, q⟩
  · simp [un_F q] at z
  · rw [un_eq H hj] at z
    simp [q] at z
theorem po_cr3 {K L : Nat} {n : List ab_M} {sn : Int32} {sg : Bool} {se : Int32} {pg : Nat → Nat → Int32} {md : Nat → Nat → Nat} {en : Nat → Nat → Int32} {sd : Nat → Option ab_M} {ln : Nat → List ab_M} {C : Nat → ab_C} {h : ha_H} {g : ha_H} (H : MV K L n true sn sg se pg md en sd ln C h) (hc : CV L n false sn sg se pg (fun _ _ => 0) en sd (fun _ => []) C g) (l : hp_le h g) : PO K (fun g => m_crash g (nI 3)) h (nI 1) g := by
  have Hg := MV_le H l
  have e : m_crash g (nI 3) = (nI 1, m_crS g) := by
    unfold m_crash
    rw [un_eq Hg (by omega), nI_clamp (by omega), if_pos rfl]
    exact if_pos (by simp [f_nu])
  obtain ⟨Q, X, a, k, ⟨hi, hd⟩, S, M, P⟩ := Hg
  have G : ∀ x y, ¬ (x = 63 ∧ y = 3) → ¬ x = 66 → ¬ x = 74 → hp_I (m_crS g) x y = hp_I g x y := fun x y h1 h2 h3 => by
    unfold m_crS
    simp only [hp_I_sI, h1, h2, h3, false_and, if_false]
  have hi' : mo_I (m_crS g) := by
    unfold m_crS
    exact (mI_sI (mI_sI (mI_sI (mI_sI (mI_sI (mI_sI (mI_sI (mI_sI (mI_sI (mI_sI (mI_sI (mI_sI (mI_sI (mI_sI (mI_sI (mI_sI hi (by omega) (fun _ => Or.inr rfl)).1 (by omega) (by simp)).1 (by omega) (by simp)).1 (by omega) (by simp)).1 (by omega) (by simp)).1 (by omega) (by simp)).1 (by omega) (by simp)).1 (by omega) (by simp)).1 (by omega) (by simp)).1 (by omega) (by simp)).1 (by omega) (by simp)).1 (by omega) (by simp)).1 (by omega) (by simp)).1 (by omega) (by simp)).1 (by omega) (by simp)).1 (by omega) (by simp)).1
  refine po_of hc l (by show _ = (m_crash g (nI 3)).1; rw [e]) ?_
  show MV (K + 1) _ _ _ _ _ _ _ _ _ _ _ _ (m_crash g (nI 3)).2
  rw [e]
  exact ⟨Q, X, a, kb_S k, ⟨hi', dp_k hd (fun j => G 85 j (by omega) (by omega) (by omega))⟩, sv_crash S, k_C M (fun c _ x j z => G x j (by unfold fcx at z; omega) (by unfold fcx at z; omega) (by unfold fcx at z; omega)), P⟩
theorem po_crc {K L : Nat} {n : List ab_M} {su : Bool} {sn : Int32} {sg : Bool} {se : Int32} {pg : Nat → Nat → Int32} {md : Nat → Nat → Nat} {en : Nat → Nat → Int32} {sd : Nat → Option ab_M} {ln : Nat → List ab_M} {C : Nat → ab_C} {h : ha_H} {c : Nat} {nw nu : Int32} {op : Option ab_M} {si : Int32} {cp : Nat → ab_P} {wr : List ab_W} {g : ha_H} (H : MV K L n su sn sg se pg md en sd ln (fu C c (true, nw, nu, op, si, cp, wr)) h) (hl : c < 3) (hc : CV L n su sn sg se pg md en sd ln (fu C c (false, nw, nu, none, si, fun f => fz_ (cp f), [])) g) (l : hp_le h g) : PO K (fun g => m_crash g (nI c)) h (nI 1) g := by
  have Hg := MV_le H l
  have n3 : ¬ c = 3 := by omega
  have e : m_crash g (nI c) = (nI 1, m_crC g c) := by
    unfold m_crash
    rw [un_eq Hg (by omega), nI_clamp (by omega), if_neg n3]
    exact if_pos (by simp [f_nu, n3, fu_at])
  exact po_of hc l (by show _ = (m_crash g (nI c)).1; rw [e]) (by show MV (K + 1) _ _ _ _ _ _ _ _ _ _ _ _ (m_crash g (nI c)).2; rw [e]; exact MV_S (mq_crc Hg hl))
theorem po_rs_no {K L : Nat} {n : List ab_M} {su : Bool} {sn : Int32} {sg : Bool} {se : Int32} {pg : Nat → Nat → Int32} {md : Nat → Nat → Nat} {en : Nat → Nat → Int32} {sd : Nat → Option ab_M} {ln : Nat → List ab_M} {C : Nat → ab_C} {h : ha_H} {x : Int32} (hc : CV L n su sn sg se pg md en sd ln C h) (H : MV K L n su sn sg se pg md en sd ln C h) (q : mi_ib x 3 = false ∨ ∃ j, x = nI j ∧ j ≤ 3 ∧ f_nu su C j = true) : PO K (fun g => m_restart g x) h (nI 0) h := by
  refine po_no hc H ?_
  show m_restart h x = (nI 0, h)
  unfold m_restart
  refine if_neg (fun z => ?_)
  rcases q with q | ⟨j, rfl, hj, q⟩
  · simp [un_F q] at z
  · rw [un_eq H hj] at z
    simp [q] at z
theorem po_rs3 {K L : Nat} {n : List ab_M} {sn : Int32} {sg : Bool} {se : Int32} {pg : Nat → Nat → Int32} {md : Nat → Nat → Nat} {en : Nat → Nat → Int32} {sd : Nat → Option ab_M} {ln : Nat → List ab_M} {C : Nat → ab_C} {h : ha_H} {g : ha_H} (H : MV K L n false sn sg se pg md en sd ln C h) (hK : K < 2 ^ 20) (h8 : 8 ≤ L) (hL : L ≤ 200) (hc : CV L n true sn true (sn + nI L) pg md en sd ln C g) (l : hp_le h g) : PO K (fun g => m_restart g (nI 3)) h (nI 1) g := by
  have Hg := MV_le H l
  have e : m_restart g (nI 3) = (nI 1, m_rsA g 3) := by
    unfold m_restart
    rw [un_eq Hg (by omega), nI_clamp (by omega)]
    exact if_pos (by simp [f_nu])
  obtain ⟨Q, X, a, ⟨b1, b2, t, b3, b4⟩, ⟨hi, hd⟩, S, M, P⟩ := Hg
  have G : ∀ x y, ¬ (x = 63 ∧ y = 3) → ¬ (x = 62 ∧ y = 6) → hp_I (m_rsA g 3) x y = hp_I g x y := fun x y h1 h2 => by
    unfold m_rsA
    rw [hp_I_sI, if_neg h2, hp_I_sI, if_neg h1]
  have hi' : mo_I (m_rsA g 3) := by
    unfold m_rsA
    exact (mI_sF (mI_sI hi (by omega) (fun _ => Or.inl rfl)).1 (by omega)).1
  have pos : 0 < sn + nI L := by
    rw [b3, nI_add]
    exact Int32.not_le.mp (nI_nle (by omega) (by omega))
  refine po_of hc l (by show _ = (m_restart g (nI 3)).1; rw [e]) ?_
  show MV (K + 1) _ _ _ _ _ _ _ _ _ _ _ _ (m_restart g (nI 3)).2
  rw [e]
  exact ⟨Q, X, a, kb_S ⟨b1, b2, t, b3, b4⟩, ⟨hi', dp_k hd (fun j => G 85 j (by omega) (by omega))⟩, sv_restart S pos, k_C M (fun c _ x j z => G x j (by unfold fcx at z; omega) (by unfold fcx at z; omega)), P⟩
theorem po_rsc {K L : Nat} {n : List ab_M} {su : Bool} {sn : Int32} {sg : Bool} {se : Int32} {pg : Nat → Nat → Int32} {md : Nat → Nat → Nat} {en : Nat → Nat → Int32} {sd : Nat → Option ab_M} {ln : Nat → List ab_M} {C : Nat → ab_C} {h : ha_H} {c : Nat} {nw nu : Int32} {op : Option ab_M} {si : Int32} {cp : Nat → ab_P} {wr : List ab_W} {g : ha_H} (H : MV K L n su sn sg se pg md en sd ln (fu C c (false, nw, nu, op, si, cp, wr)) h) (hl : c < 3) (hc : CV L n su sn sg se pg md en sd ln (fu C c (true, nw, nu, op, si, cp, wr)) g) (l : hp_le h g) : PO K (fun g => m_restart g (nI c)) h (nI 1) g := by
  have Hg := MV_le H l
  have n3 : ¬ c = 3 := by omega
  have e : m_restart g (nI c) = (nI 1, m_rsA g c) := by
    unfold m_restart
    rw [un_eq Hg (by omega), nI_clamp (by omega)]
    exact if_pos (by simp [f_nu, n3, fu_at])
  exact po_of hc l (by show _ = (m_restart g (nI c)).1; rw [e]) (by show MV (K + 1) _ _ _ _ _ _ _ _ _ _ _ _ (m_restart g (nI c)).2; rw [e]; exact MV_S (mq_rsc Hg hl))
theorem po_ck_no {K L : Nat} {n : List ab_M} {su : Bool} {sn : Int32} {sg : Bool} {se : Int32} {pg : Nat → Nat → Int32} {md : Nat → Nat → Nat} {en : Nat → Nat → Int32} {sd : Nat → Option ab_M} {ln : Nat → List ab_M} {C : Nat → ab_C} {h : ha_H} {x : Int32} (hc : CV L n su sn sg se pg md en sd ln C h) (H : MV K L n su sn sg se pg md en sd ln C h) (q : mi_ib x 3 = false) : PO K (fun g => (m_clock g x, g)) h (-1) h := by
  refine po_no hc H ?_
  show (m_clock h x, h) = _
  unfold m_clock
  rw [q, if_neg (by decide)]
theorem po_ck {K L : Nat} {n : List ab_M} {su : Bool} {sn : Int32} {sg : Bool} {se : Int32} {pg : Nat → Nat → Int32} {md : Nat → Nat → Nat} {en : Nat → Nat → Int32} {sd : Nat → Option ab_M} {ln : Nat → List ab_M} {C : Nat → ab_C} {h : ha_H} {x : Nat} (hc : CV L n su sn sg se pg md en sd ln C h) (H : MV K L n su sn sg se pg md en sd ln C h) (hx : x ≤ 3) : PO K (fun g => (m_clock g (nI x), g)) h (if x = 3 then sn else (C x).2.1) h := by
  refine po_no hc H ?_
  show (m_clock h (nI x), h) = _
  unfold m_clock
  rw [mi_ibI (by omega) hx, if_pos rfl, nI_clamp (by omega)]
  obtain ⟨Q, X, a, k, _, S, M, P⟩ := H
  by_cases z : x = 3
  · subst z; rw [if_pos rfl, S.1.2.2.1]
  · rw [if_neg z, (M x (by omega)).1.2.1]
theorem po_ls_no {K L : Nat} {n : List ab_M} {su : Bool} {sn : Int32} {sg : Bool} {se : Int32} {pg : Nat → Nat → Int32} {md : Nat → Nat → Nat} {en : Nat → Nat → Int32} {sd : Nat → Option ab_M} {ln : Nat → List ab_M} {C : Nat → ab_C} {h : ha_H} {c f : Int32} (hc : CV L n su sn sg se pg md en sd ln C h) (H : MV K L n su sn sg se pg md en sd ln C h) (q : f_cu C c = false ∨ mi_ib f 3 = false) : PO K (fun g => (m_lease g c f, g)) h (-1) h := by
  refine po_no hc H ?_
  show (m_lease h c f, h) = _
  unfold m_lease
  rw [wk_eq H, if_neg (fun z => by rcases q with q | q <;> simp [q] at z)]
theorem po_ls {K L : Nat} {n : List ab_M} {su : Bool} {sn : Int32} {sg : Bool} {se : Int32} {pg : Nat → Nat → Int32} {md : Nat → Nat → Nat} {en : Nat → Nat → Int32} {sd : Nat → Option ab_M} {ln : Nat → List ab_M} {C : Nat → ab_C} {h : ha_H} {c : Nat} {nw nu : Int32} {op : Option ab_M} {si : Int32} {cp : Nat → ab_P} {wr : List ab_W} {f : Nat} {mo : Nat} {ti : Int32} {re lo : Bool} {ps : Nat → Int32} (hc : CV L n su sn sg se pg md en sd ln (fu C c (true, nw, nu, op, si, fu cp f (mo, ti, re, lo, ps), wr)) h) (H : MV K L n su sn sg se pg md en sd ln (fu C c (true, nw, nu, op, si, fu cp f (mo, ti, re, lo, ps), wr)) h) (hl : c < 3) (hf : f < 4) : PO K (fun g => (m_lease g (nI c) (nI f), g)) h (nI (f_lm mo ti re lo nw)) h := by
  refine po_no hc H ?_
  show (m_lease h (nI c) (nI f), h) = _
  obtain ⟨q, q64, _⟩ := mv_Pf H hl hf
  unfold m_lease
  rw [wk_eq H, cu_at hl, mi_ibI (by omega) (by omega), if_pos (by rfl), nI_clamp (by omega), nI_clamp (by omega)]
  unfold m_leaseA f_lm
  rw [al_1 q q64]
  obtain ⟨⟨q1, q2⟩, q3, q4, q5⟩ := q
  have q1' : hp_I h 79 (4 * c + f) = nI mo := q1
  have q3' : hp_I h 81 (4 * c + f) = m_bi re := q3
  have q4' : hp_I h 82 (4 * c + f) = m_bi lo := q4
  rw [q1', q3', q4']
  have eA : ∀ b : Bool, (if m_bi b = 0 then nI 0 else nI 10) = nI (bif b then 10 else 0) := fun b => by cases b <;> decide
  have eB : ∀ b : Bool, (if m_bi b = 0 then nI 0 else nI 100) = nI (bif b then 100 else 0) := fun b => by cases b <;> decide
  have eC : (if f_al mo ti 1 nw = true then nI mo else nI 0) = nI (bif f_al mo ti 1 nw then mo else 0) := by cases f_al mo ti 1 nw <;> rfl
  rw [eA, eB, eC, nI_add, nI_add]
theorem po_dt_no {K L : Nat} {n : List ab_M} {su : Bool} {sn : Int32} {sg : Bool} {se : Int32} {pg : Nat → Nat → Int32} {md : Nat → Nat → Nat} {en : Nat → Nat → Int32} {sd : Nat → Option ab_M} {ln : Nat → List ab_M} {C : Nat → ab_C} {h : ha_H} {c : Int32} (hc : CV L n su sn sg se pg md en sd ln C h) (H : MV K L n su sn sg se pg md en sd ln C h) (q : f_cu C c = false) : PO K (fun g => (m_dirty g c, g)) h (-1) h := by
  refine po_no hc H ?_
  show (m_dirty h c, h) = _
  unfold m_dirty
  rw [wk_eq H, q, if_neg (by decide)]
theorem po_dt {K L : Nat} {n : List ab_M} {su : Bool} {sn : Int32} {sg : Bool} {se : Int32} {pg : Nat → Nat → Int32} {md : Nat → Nat → Nat} {en : Nat → Nat → Int32} {sd : Nat → Option ab_M} {ln : Nat → List ab_M} {C : Nat → ab_C} {h : ha_H} {c : Nat} {nw nu : Int32} {op : Option ab_M} {si : Int32} {cp : Nat → ab_P} {wr : List ab_W} (hc : CV L n su sn sg se pg md en sd ln (fu C c (true, nw, nu, op, si, cp, wr)) h) (H : MV K L n su sn sg se pg md en sd ln (fu C c (true, nw, nu, op, si, cp, wr)) h) (hl : c < 3) : PO K (fun g => (m_dirty g (nI c), g)) h (nI wr.length) h := by
  refine po_no hc H ?_
  show (m_dirty h (nI c), h) = _
  unfold m_dirty
  rw [wk_eq H, cu_at hl, if_pos rfl, nI_clamp (by omega), (mv_at H hl).2.2.1.1]
theorem po_hd_no {K L : Nat} {n : List ab_M} {su : Bool} {sn : Int32} {sg : Bool} {se : Int32} {pg : Nat → Nat → Int32} {md : Nat → Nat → Nat} {en : Nat → Nat → Int32} {sd : Nat → Option ab_M} {ln : Nat → List ab_M} {C : Nat → ab_C} {h : ha_H} {c f : Int32} (hc : CV L n su sn sg se pg md en sd ln C h) (H : MV K L n su sn sg se pg md en sd ln C h) (q : mi_ib c 2 = false ∨ mi_ib f 3 = false) : PO K (fun g => (m_held g c f, g)) h (-1) h := by
  refine po_no hc H ?_
  show (m_held h c f, h) = _
  unfold m_held
  rw [if_neg (fun z => by rcases q with q | q <;> simp [q] at z)]
theorem po_hd {K L : Nat} {n : List ab_M} {su : Bool} {sn : Int32} {sg : Bool} {se : Int32} {pg : Nat → Nat → Int32} {md : Nat → Nat → Nat} {en : Nat → Nat → Int32} {sd : Nat → Option ab_M} {ln : Nat → List ab_M} {C : Nat → ab_C} {h : ha_H} {c f : Nat} (hc : CV L n su sn sg se pg md en sd ln C h) (H : MV K L n su sn sg se pg md en sd ln C h) (hl : c < 3) (hf : f < 4) : PO K (fun g => (m_held g (nI c) (nI f), g)) h (bif f_hl md c f then nI (1000 * md c f) + en c f - sn else nI 0) h := by
  refine po_no hc H ?_
  show (m_held h (nI c) (nI f), h) = _
  unfold m_held
  rw [mi_ibI (by omega) (by omega), mi_ibI (by omega) (by omega), if_pos (by rfl), nI_clamp (by omega), nI_clamp (by omega)]
  obtain ⟨Q, X, a, k, _, S, M, P⟩ := H
  have q := S.2.2.2.1 c f hl hf
  have q1 : hp_I h 66 (4 * c + f) = nI (md c f) := q.1
  have q2 : md c f ≤ 2 := q.2
  have q3 : hp_I h 67 (4 * c + f) = en c f := S.2.2.2.2.1 c f hl hf
  unfold m_heldA f_hl
  rw [q1, q3, S.1.2.2.1, pk_mul]
  by_cases z : md c f = 0
  · rw [z, if_pos (by decide), if_pos rfl]; rfl
  · rw [if_neg (nI_ne0 (by omega) (by omega)), if_neg z]; rfl
theorem wt_eq {a : Nat} {ln : Nat → List ab_M} {h : ha_H} {f : Nat} (H : mv_ln a ln h) (hf : f < 4) : m_wtN h (nI f) 3 = (ln f).length := by
  obtain ⟨h1, h2, h3, h4⟩ := H
  have A : ∀ d, d < 3 → (hp_I h 74 d = nI f ↔ ∃ m, m ∈ ln f ∧ am_c m = d) := fun d hd => by
    constructor
    · intro e
      rcases h4 d hd with q | ⟨g, o, q1, q2, q3⟩
      · rw [e] at q; exact absurd q.symm (n1_ne f hf)
      · have q4 := (h2 g q1 o q2).2.2.2.1
        rw [q3, e] at q4
        have := nI_in4 hf q1 q4
        subst this
        exact ⟨o, q2, q3⟩
    · rintro ⟨o, q2, q3⟩
      rw [← q3]
      exact (h2 f hf o q2).2.2.2.1
  have P := (h3 f hf).imp (fun {x y} z => z.1)
  have B : ∀ m, m ∈ ln f → am_c m < 3 := fun m hm => (h2 f hf m hm).2.2.1
  have A0 := A 0 (by omega)
  have A1 := A 1 (by omega)
  have A2 := A 2 (by omega)
  unfold m_wtN m_wtN m_wtN m_wtN
  match e : ln f with
  | [] =>
    rw [e] at A0 A1 A2
    simp at A0 A1 A2
    simp [A0, A1, A2]
  | [x] =>
    rw [e] at A0 A1 A2 B
    have b := B x (by simp)
    simp at A0 A1 A2
    simp only [A0, A1, A2]
    rcases (by omega : am_c x = 0 ∨ am_c x = 1 ∨ am_c x = 2) with z | z | z <;> simp [z]
  | [x, y] =>
    rw [e] at A0 A1 A2 B P
    have b := B x (by simp)
    have b' := B y (by simp)
    simp at A0 A1 A2 P
    simp only [A0, A1, A2]
    rcases (by omega : am_c x = 0 ∨ am_c x = 1 ∨ am_c x = 2) with z | z | z <;> rcases (by omega : am_c y = 0 ∨ am_c y = 1 ∨ am_c y = 2) with w | w | w <;> simp [z, w] at P ⊢
  | x :: y :: u :: [] =>
    rw [e] at A0 A1 A2 B P
    have b := B x (by simp)
    have b' := B y (by simp)
    have b'' := B u (by simp)
    simp at A0 A1 A2 P
    simp only [A0, A1, A2]
    rcases (by omega : am_c x = 0 ∨ am_c x = 1 ∨ am_c x = 2) with z | z | z <;> rcases (by omega : am_c y = 0 ∨ am_c y = 1 ∨ am_c y = 2) with w | w | w <;> rcases (by omega : am_c u = 0 ∨ am_c u = 1 ∨ am_c u = 2) with v | v | v <;> simp [z, w, v] at P ⊢
  | x :: y :: u :: t :: l =>
    exfalso
    rw [e] at B P
    have b := B x (by simp)
    have b' := B y (by simp)
    have b'' := B u (by simp)
    have b3 := B t (by simp)
    simp at P
    omega
theorem po_wt_no {K L : Nat} {n : List ab_M} {su : Bool} {sn : Int32} {sg : Bool} {se : Int32} {pg : Nat → Nat → Int32} {md : Nat → Nat → Nat} {en : Nat → Nat → Int32} {sd : Nat → Option ab_M} {ln : Nat → List ab_M} {C : Nat → ab_C} {h : ha_H} {f : Int32} (hc : CV L n su sn sg se pg md en sd ln C h) (H : MV K L n su sn sg se pg md en sd ln C h) (q : mi_ib f 3 = false) : PO K (fun g => (m_waiting g f, g)) h (-1) h := by
  refine po_no hc H ?_
  show (m_waiting h f, h) = _
  unfold m_waiting
  rw [q, if_neg (by decide)]
theorem po_wt {K L : Nat} {n : List ab_M} {su : Bool} {sn : Int32} {sg : Bool} {se : Int32} {pg : Nat → Nat → Int32} {md : Nat → Nat → Nat} {en : Nat → Nat → Int32} {sd : Nat → Option ab_M} {ln : Nat → List ab_M} {C : Nat → ab_C} {h : ha_H} {f : Nat} (hc : CV L n su sn sg se pg md en sd ln C h) (H : MV K L n su sn sg se pg md en sd ln C h) (hf : f < 4) : PO K (fun g => (m_waiting g (nI f), g)) h (nI (ln f).length) h := by
  refine po_no hc H ?_
  show (m_waiting h (nI f), h) = _
  unfold m_waiting
  rw [mi_ibI (by omega) (by omega), if_pos rfl]
  obtain ⟨Q, X, a, k, _, S, M, P⟩ := H
  rw [wt_eq S.2.2.2.2.2.2.1 hf]
theorem po_sr_no {K L : Nat} {n : List ab_M} {su : Bool} {sn : Int32} {sg : Bool} {se : Int32} {pg : Nat → Nat → Int32} {md : Nat → Nat → Nat} {en : Nat → Nat → Int32} {sd : Nat → Option ab_M} {ln : Nat → List ab_M} {C : Nat → ab_C} {h : ha_H} {f p : Int32} (hc : CV L n su sn sg se pg md en sd ln C h) (H : MV K L n su sn sg se pg md en sd ln C h) (q : mi_ib f 3 = false ∨ mi_ib p 3 = false) : PO K (fun g => (m_stored g f p, g)) h (nI 0) h := by
  refine po_no hc H ?_
  show (m_stored h f p, h) = _
  unfold m_stored
  rw [if_neg (fun z => by rcases q with q | q <;> simp [q] at z)]
theorem po_sr {K L : Nat} {n : List ab_M} {su : Bool} {sn : Int32} {sg : Bool} {se : Int32} {pg : Nat → Nat → Int32} {md : Nat → Nat → Nat} {en : Nat → Nat → Int32} {sd : Nat → Option ab_M} {ln : Nat → List ab_M} {C : Nat → ab_C} {h : ha_H} {f p : Nat} (hc : CV L n su sn sg se pg md en sd ln C h) (H : MV K L n su sn sg se pg md en sd ln C h) (hf : f < 4) (hp : p < 4) : PO K (fun g => (m_stored g (nI f) (nI p), g)) h (pg f p) h := by
  refine po_no hc H ?_
  show (m_stored h (nI f) (nI p), h) = _
  unfold m_stored
  rw [mi_ibI (by omega) (by omega), mi_ibI (by omega) (by omega), if_pos (by rfl), nI_clamp (by omega), nI_clamp (by omega)]
  obtain ⟨Q, X, a, k, _, S, M, P⟩ := H
  rw [S.2.1 f p hf hp]
