theorem rR_sI {h : ha_H} {A k x y : Nat} {v : Int32} {r : Option Nat} (H : hp_R h x y = r) : hp_R (hp_sI h A k v) x y = r := by rw [hp_R_sI]; exact H
theorem rR_sR {h : ha_H} {A k x y : Nat} {v r : Option Nat} (n : ¬ x = A) (H : hp_R h x y = r) : hp_R (hp_sR h A k v) x y = r := by rw [hp_R_sR, if_neg (fun q => n q.1)]; exact H
theorem rR_sR2 {h : ha_H} {A k x y : Nat} {v r : Option Nat} (n : ¬ y = k) (H : hp_R h x y = r) : hp_R (hp_sR h A k v) x y = r := by rw [hp_R_sR, if_neg (fun q => n q.2)]; exact H
theorem rR_set {h : ha_H} {A k : Nat} {v : Option Nat} : hp_R (hp_sR h A k v) A k = v := by rw [hp_R_sR, if_pos ⟨rfl, rfl⟩]
def f_send (n : List ab_M) (m : ab_M) : List ab_M := if n.length < 60 then n ++ [m] else n
def f_at (n : List ab_M) (i : Int32) : Option ab_M := if i < 0 then none else n[i.toNatClampNeg]?
theorem f_at_some {n : List ab_M} {i : Int32} {m : ab_M} (e : f_at n i = some m) : ∃ j, j < n.length ∧ i = nI j ∧ n[j]? = some m := by
  unfold f_at at e
  by_cases c : i < 0
  · rw [if_pos c] at e
    cases e
  · rw [if_neg c] at e
    obtain ⟨j, hj, rfl⟩ := nI_of (x := i) c
    rw [nI_clamp hj] at e
    exact ⟨j, (List.getElem?_eq_some_iff.mp e).1, rfl, e⟩
def am_code (m : ab_M) : Int32 := 1000000 * nI (am_k m) + 100000 * nI (am_c m) + nI (10000 * am_f m) + am_n m
theorem wn_l {L : Nat} {n : List ab_M} {su : Bool} {sn : Int32} {sg : Bool} {se : Int32} {pg : Nat → Nat → Int32} {md : Nat → Nat → Nat} {en : Nat → Nat → Int32} {sd : Nat → Option ab_M} {ln : Nat → List ab_M} {C : Nat → ab_C} {h : ha_H} (H : CV L n su sn sg se pg md en sd ln C h) (v : Option Nat) : CV L n su sn sg se pg md en sd ln C (hp_sR h 3 n.length v) := by
  obtain ⟨H0, HL, Hn, Hsu, Hsn, Hsg, Hse, Hpg, Hmd, Hen, Hsd, Hln, HC⟩ := H
  exact ⟨(cs_sR H0 (fun t q => by unfold cs_T at q; omega)), (kL HL (hp_I_sR ..) (fun _ _ => hp_I_sR ..)), ⟨hR_of Hn.1, Hn.2.1, fun k m q => by
    obtain ⟨i, h1, h2⟩ := Hn.2.2 k m q
    have := (List.getElem?_eq_some_iff.mp q).1
    exact ⟨i, rR_sR2 (by omega) h1, cm_le h2 (le_sR (by omega))⟩⟩, (hR_of Hsu), (hR_of Hsn), (hR_of Hsg), (hR_of Hse), (kpg Hpg (se_sR (by omega))), (kmd Hmd (se_sR (by omega))), (ken Hen (se_sR (by omega))), (ksd Hsd (le_dy (le_sR (by omega))) (se_sR (by omega))), (kln Hln (le_dy (le_sR (by omega))) (se_sR (by omega))), (kCs HC (le_dy (le_sR (by omega))) (se_sR (by omega)))⟩
theorem wn_c {L : Nat} {n : List ab_M} {su : Bool} {sn : Int32} {sg : Bool} {se : Int32} {pg : Nat → Nat → Int32} {md : Nat → Nat → Nat} {en : Nat → Nat → Int32} {sd : Nat → Option ab_M} {ln : Nat → List ab_M} {C : Nat → ab_C} {h : ha_H} (H : CV L n su sn sg se pg md en sd ln C h) {i : Nat} {m : ab_M} (h60 : n.length < 60) (e : hp_R h 3 n.length = some i) (hm : cv_M h i m) : CV L (n ++ [m]) su sn sg se pg md en sd ln C (hp_sI h 2 1 (nI (n.length + 1))) := by
  obtain ⟨H0, HL, Hn, Hsu, Hsn, Hsg, Hse, Hpg, Hmd, Hen, Hsd, Hln, HC⟩ := H
  exact ⟨(cs_sI H0), (kL HL (by rw [hp_I_sI, if_neg (by omega)]) (fun b hb => by rw [hp_I_sI, if_neg (by omega)])), ⟨by rw [List.length_append]; exact hI_set, by rw [List.length_append]; exact h60, fun k m' q => by
    by_cases z : k < n.length
    · rw [List.getElem?_append_left z] at q
      obtain ⟨i, h1, h2⟩ := Hn.2.2 k m' q
      exact ⟨i, rR_sI h1, cm_le h2 (le_sI (by omega))⟩
    · rw [List.getElem?_append_right (by omega)] at q
      have hk : k - n.length < 1 := (List.getElem?_eq_some_iff.mp q).1
      have : k = n.length := by omega
      subst this
      rw [Nat.sub_self] at q
      cases q
      exact ⟨i, rR_sI e, cm_le hm (le_sI (by omega))⟩⟩, (by rw [hp_I_sI, if_neg (by omega)]; exact Hsu), (by rw [hp_I_sI, if_neg (by omega)]; exact Hsn), (by rw [hp_I_sI, if_neg (by omega)]; exact Hsg), (by rw [hp_I_sI, if_neg (by omega)]; exact Hse), (kpg Hpg (se_sI (by omega))), (kmd Hmd (se_sI (by omega))), (ken Hen (se_sI (by omega))), (ksd Hsd (le_dy (le_sI (by omega))) (se_sI (by omega))), (kln Hln (le_dy (le_sI (by omega))) (se_sI (by omega))), (kCs HC (le_dy (le_sI (by omega))) (se_sI (by omega)))⟩
theorem wn_p {L : Nat} {n : List ab_M} {su : Bool} {sn : Int32} {sg : Bool} {se : Int32} {pg : Nat → Nat → Int32} {md : Nat → Nat → Nat} {en : Nat → Nat → Int32} {sd : Nat → Option ab_M} {ln : Nat → List ab_M} {C : Nat → ab_C} {h : ha_H} (H : CV L n su sn sg se pg md en sd ln C h) (h0 : 0 < n.length) : CV L (n.take (n.length - 1)) su sn sg se pg md en sd ln C (hp_sI h 2 1 (nI (n.length - 1))) := by
  obtain ⟨H0, HL, Hn, Hsu, Hsn, Hsg, Hse, Hpg, Hmd, Hen, Hsd, Hln, HC⟩ := H
  exact ⟨(cs_sI H0), (kL HL (by rw [hp_I_sI, if_neg (by omega)]) (fun b hb => by rw [hp_I_sI, if_neg (by omega)])), ⟨by rw [List.length_take, Nat.min_eq_left (by omega)]; exact hI_set, by have := Hn.2.1; rw [List.length_take]; omega, fun k m' q => by
    rw [List.getElem?_take] at q
    by_cases z : k < n.length - 1
    · rw [if_pos z] at q
      obtain ⟨i, h1, h2⟩ := Hn.2.2 k m' q
      exact ⟨i, rR_sI h1, cm_le h2 (le_sI (by omega))⟩
    · rw [if_neg z] at q
      cases q⟩, (by rw [hp_I_sI, if_neg (by omega)]; exact Hsu), (by rw [hp_I_sI, if_neg (by omega)]; exact Hsn), (by rw [hp_I_sI, if_neg (by omega)]; exact Hsg), (by rw [hp_I_sI, if_neg (by omega)]; exact Hse), (kpg Hpg (se_sI (by omega))), (kmd Hmd (se_sI (by omega))), (ken Hen (se_sI (by omega))), (ksd Hsd (le_dy (le_sI (by omega))) (se_sI (by omega))), (kln Hln (le_dy (le_sI (by omega))) (se_sI (by omega))), (kCs HC (le_dy (le_sI (by omega))) (se_sI (by omega)))⟩
theorem wn_s {L : Nat} {n : List ab_M} {su : Bool} {sn : Int32} {sg : Bool} {se : Int32} {pg : Nat → Nat → Int32} {md : Nat → Nat → Nat} {en : Nat → Nat → Int32} {sd : Nat → Option ab_M} {ln : Nat → List ab_M} {C : Nat → ab_C} {h : ha_H} (H : CV L n su sn sg se pg md en sd ln C h) {k i : Nat} {m : ab_M} (hk : k < n.length) (hm : cv_M h i m) : CV L (n.set k m) su sn sg se pg md en sd ln C (hp_sR h 3 k (some i)) := by
  obtain ⟨H0, HL, Hn, Hsu, Hsn, Hsg, Hse, Hpg, Hmd, Hen, Hsd, Hln, HC⟩ := H
  exact ⟨(cs_sR H0 (fun t q => by unfold cs_T at q; omega)), (kL HL (hp_I_sR ..) (fun _ _ => hp_I_sR ..)), ⟨by rw [List.length_set]; exact hR_of Hn.1, by rw [List.length_set]; exact Hn.2.1, fun k' m' q => by
    by_cases z : k' = k
    · subst z
      rw [List.getElem?_set_self hk] at q
      cases q
      exact ⟨i, rR_set, cm_le hm (le_sR (by omega))⟩
    · rw [List.getElem?_set_ne (Ne.symm z)] at q
      obtain ⟨i, h1, h2⟩ := Hn.2.2 k' m' q
      exact ⟨i, rR_sR2 z h1, cm_le h2 (le_sR (by omega))⟩⟩, (hR_of Hsu), (hR_of Hsn), (hR_of Hsg), (hR_of Hse), (kpg Hpg (se_sR (by omega))), (kmd Hmd (se_sR (by omega))), (ken Hen (se_sR (by omega))), (ksd Hsd (le_dy (le_sR (by omega))) (se_sR (by omega))), (kln Hln (le_dy (le_sR (by omega))) (se_sR (by omega))), (kCs HC (le_dy (le_sR (by omega))) (se_sR (by omega)))⟩
theorem cN_send (G : mt_G) (h : ha_H) {L : Nat} {n : List ab_M} {su : Bool} {sn : Int32} {sg : Bool} {se : Int32} {pg : Nat → Nat → Int32} {md : Nat → Nat → Nat} {en : Nat → Nat → Int32} {sd : Nat → Option ab_M} {ln : Nat → List ab_M} {C : Nat → ab_C} (hc : CV L n su sn sg se pg md en sd ln C h) {i : Nat} {m : ab_M} (hm : cv_M h i m) : rn_M G xN_send (0, 0, 0) [.inr (some 2), .inr (some i)] h (rn_i (fun r h' => r = m_bi (decide (n.length < 60)) ∧ CV L (f_send n m) su sn sg se pg md en sd ln C h' ∧ hp_le h h')) := by
  have h60 := (cp_n hc).2.1
  refine rn_of (by decide +kernel) (Nat.le_of_ble_eq_true rfl) ?_
  show rn_W G xN_send (0, 0, 0) 0 0 0 [some (.inr (some 2)), some (.inr (some i))] [] h _
  rcases hm.2.2.2 with ⟨k1, k2, -⟩ | ⟨k1, k2, -⟩ | ⟨k1, k2⟩
  · skip
    refine rw_aload_n (pc := 0) dN_send_0 rfl ?_
    refine rw_getI (pc := 1) (x := nI n.length) flN_17_N dN_send_1 (cs_o hc (by omega) (by omega)) (cs_S2 hc) (cp_n hc).1 ?_
    refine rw_bipush (pc := 4) (x := nI 60) dN_send_4 (by decide) ?_
    refine rw_icmplt (pc := 6) dN_send_6 (tgt := 11) rfl (fun c1 => ?_) (fun c1 => ?_)
    · skip
      replace c1 : n.length < 60 := (nI_ltI (a := n.length) (b := 60) (by omega) (by omega)).mp c1
      refine rw_aload_n (pc := 11) dN_send_11 rfl ?_
      refine rw_getR (pc := 12) (x := some 3) flN_11_N dN_send_12 (cs_o hc (by omega) (by omega)) (cs_S2 hc) (cr_2_0 hc) ?_
      refine rw_aload_n (pc := 15) dN_send_15 rfl ?_
      refine rw_getI (pc := 16) (x := nI n.length) flN_17_N dN_send_16 (cs_o hc (by omega) (by omega)) (cs_S2 hc) (cp_n hc).1 ?_
      refine rw_aload_n (pc := 19) dN_send_19 rfl ?_
      refine rw_aast (pc := 20) (i := n.length) so_2_R (by decide) dN_send_20 (cs_o hc (by omega) (by omega)) (cs_S3 hc) (ix_nI (by omega) (by decide)) (cm_o hm) k2 ?_
      replace hc := wn_l hc (some i)
      replace hm := cm_le hm (le_sR (h := h) (A := 3) (k := n.length) (v := some i) (by omega))
      have hf := le_sR (h := h) (A := 3) (k := n.length) (v := some i) (by omega)
      have he : hp_R (hp_sR h 3 n.length (some i)) 3 n.length = some i := rR_set
      generalize hp_sR h 3 n.length (some i) = g2 at hc hm hf he ⊢
      refine rw_aload_n (pc := 21) dN_send_21 rfl ?_
      refine rw_dup (pc := 22) dN_send_22 ?_
      refine rw_getI (pc := 23) (x := nI n.length) flN_17_N dN_send_23 (cs_o hc (by omega) (by omega)) (cs_S2 hc) (cp_n hc).1 ?_
      refine rw_iconst (pc := 26) (x := nI 1) dN_send_26 (by decide) ?_
      refine rw_iadd (pc := 27) (v := nI (n.length + 1)) dN_send_27 (nI_add _ _) ?_
      refine rw_putI (pc := 28) pfN_17_N dN_send_28 (cs_o hc (by omega) (by omega)) (cs_S2 hc) ?_
      replace hc := wn_c hc c1 he hm
      replace hf := le_tr hf (le_sI (h := g2) (A := 2) (k := 1) (v := nI (n.length + 1)) (by omega))
      generalize hp_sI g2 2 1 (nI (n.length + 1)) = g3 at hc hf ⊢
      refine rw_iconst (pc := 31) (x := nI 1) dN_send_31 (by decide) ?_
      exact rw_zret (pc := 32) dN_send_32 rfl (Or.inr rfl) ⟨_, rfl, by rw [decide_eq_true c1]; rfl, by unfold f_send; rw [if_pos c1]; exact hc, hf⟩
    · skip
      replace c1 : ¬ (n.length < 60) := fun qz => c1 ((nI_ltI (a := n.length) (b := 60) (by omega) (by omega)).mpr qz)
      refine rw_iconst (pc := 9) (x := nI 0) dN_send_9 (by decide) ?_
      exact rw_zret (pc := 10) dN_send_10 rfl (Or.inl rfl) ⟨_, rfl, by rw [decide_eq_false c1]; rfl, by unfold f_send; rw [if_neg c1]; exact hc, le_rf h⟩
  · skip
    refine rw_aload_n (pc := 0) dN_send_0 rfl ?_
    refine rw_getI (pc := 1) (x := nI n.length) flN_17_N dN_send_1 (cs_o hc (by omega) (by omega)) (cs_S2 hc) (cp_n hc).1 ?_
    refine rw_bipush (pc := 4) (x := nI 60) dN_send_4 (by decide) ?_
    refine rw_icmplt (pc := 6) dN_send_6 (tgt := 11) rfl (fun c1 => ?_) (fun c1 => ?_)
    · skip
      replace c1 : n.length < 60 := (nI_ltI (a := n.length) (b := 60) (by omega) (by omega)).mp c1
      refine rw_aload_n (pc := 11) dN_send_11 rfl ?_
      refine rw_getR (pc := 12) (x := some 3) flN_11_N dN_send_12 (cs_o hc (by omega) (by omega)) (cs_S2 hc) (cr_2_0 hc) ?_
      refine rw_aload_n (pc := 15) dN_send_15 rfl ?_
      refine rw_getI (pc := 16) (x := nI n.length) flN_17_N dN_send_16 (cs_o hc (by omega) (by omega)) (cs_S2 hc) (cp_n hc).1 ?_
      refine rw_aload_n (pc := 19) dN_send_19 rfl ?_
      refine rw_aast (pc := 20) (i := n.length) so_2_P (by decide) dN_send_20 (cs_o hc (by omega) (by omega)) (cs_S3 hc) (ix_nI (by omega) (by decide)) (cm_o hm) k2 ?_
      replace hc := wn_l hc (some i)
      replace hm := cm_le hm (le_sR (h := h) (A := 3) (k := n.length) (v := some i) (by omega))
      have hf := le_sR (h := h) (A := 3) (k := n.length) (v := some i) (by omega)
      have he : hp_R (hp_sR h 3 n.length (some i)) 3 n.length = some i := rR_set
      generalize hp_sR h 3 n.length (some i) = g2 at hc hm hf he ⊢
      refine rw_aload_n (pc := 21) dN_send_21 rfl ?_
      refine rw_dup (pc := 22) dN_send_22 ?_
      refine rw_getI (pc := 23) (x := nI n.length) flN_17_N dN_send_23 (cs_o hc (by omega) (by omega)) (cs_S2 hc) (cp_n hc).1 ?_
      refine rw_iconst (pc := 26) (x := nI 1) dN_send_26 (by decide) ?_
      refine rw_iadd (pc := 27) (v := nI (n.length + 1)) dN_send_27 (nI_add _ _) ?_
      refine rw_putI (pc := 28) pfN_17_N dN_send_28 (cs_o hc (by omega) (by omega)) (cs_S2 hc) ?_
      replace hc := wn_c hc c1 he hm
      replace hf := le_tr hf (le_sI (h := g2) (A := 2) (k := 1) (v := nI (n.length + 1)) (by omega))
      generalize hp_sI g2 2 1 (nI (n.length + 1)) = g3 at hc hf ⊢
      refine rw_iconst (pc := 31) (x := nI 1) dN_send_31 (by decide) ?_
      exact rw_zret (pc := 32) dN_send_32 rfl (Or.inr rfl) ⟨_, rfl, by rw [decide_eq_true c1]; rfl, by unfold f_send; rw [if_pos c1]; exact hc, hf⟩
    · skip
      replace c1 : ¬ (n.length < 60) := fun qz => c1 ((nI_ltI (a := n.length) (b := 60) (by omega) (by omega)).mpr qz)
      refine rw_iconst (pc := 9) (x := nI 0) dN_send_9 (by decide) ?_
      exact rw_zret (pc := 10) dN_send_10 rfl (Or.inl rfl) ⟨_, rfl, by rw [decide_eq_false c1]; rfl, by unfold f_send; rw [if_neg c1]; exact hc, le_rf h⟩
  · skip
    refine rw_aload_n (pc := 0) dN_send_0 rfl ?_
    refine rw_getI (pc := 1) (x := nI n.length) flN_17_N dN_send_1 (cs_o hc (by omega) (by omega)) (cs_S2 hc) (cp_n hc).1 ?_
    refine rw_bipush (pc := 4) (x := nI 60) dN_send_4 (by decide) ?_
    refine rw_icmplt (pc := 6) dN_send_6 (tgt := 11) rfl (fun c1 => ?_) (fun c1 => ?_)
    · skip
      replace c1 : n.length < 60 := (nI_ltI (a := n.length) (b := 60) (by omega) (by omega)).mp c1
      refine rw_aload_n (pc := 11) dN_send_11 rfl ?_
      refine rw_getR (pc := 12) (x := some 3) flN_11_N dN_send_12 (cs_o hc (by omega) (by omega)) (cs_S2 hc) (cr_2_0 hc) ?_
      refine rw_aload_n (pc := 15) dN_send_15 rfl ?_
      refine rw_getI (pc := 16) (x := nI n.length) flN_17_N dN_send_16 (cs_o hc (by omega) (by omega)) (cs_S2 hc) (cp_n hc).1 ?_
      refine rw_aload_n (pc := 19) dN_send_19 rfl ?_
      refine rw_aast (pc := 20) (i := n.length) so_2_G (by decide) dN_send_20 (cs_o hc (by omega) (by omega)) (cs_S3 hc) (ix_nI (by omega) (by decide)) (cm_o hm) k2 ?_
      replace hc := wn_l hc (some i)
      replace hm := cm_le hm (le_sR (h := h) (A := 3) (k := n.length) (v := some i) (by omega))
      have hf := le_sR (h := h) (A := 3) (k := n.length) (v := some i) (by omega)
      have he : hp_R (hp_sR h 3 n.length (some i)) 3 n.length = some i := rR_set
      generalize hp_sR h 3 n.length (some i) = g2 at hc hm hf he ⊢
      refine rw_aload_n (pc := 21) dN_send_21 rfl ?_
      refine rw_dup (pc := 22) dN_send_22 ?_
      refine rw_getI (pc := 23) (x := nI n.length) flN_17_N dN_send_23 (cs_o hc (by omega) (by omega)) (cs_S2 hc) (cp_n hc).1 ?_
      refine rw_iconst (pc := 26) (x := nI 1) dN_send_26 (by decide) ?_
      refine rw_iadd (pc := 27) (v := nI (n.length + 1)) dN_send_27 (nI_add _ _) ?_
      refine rw_putI (pc := 28) pfN_17_N dN_send_28 (cs_o hc (by omega) (by omega)) (cs_S2 hc) ?_
      replace hc := wn_c hc c1 he hm
      replace hf := le_tr hf (le_sI (h := g2) (A := 2) (k := 1) (v := nI (n.length + 1)) (by omega))
      generalize hp_sI g2 2 1 (nI (n.length + 1)) = g3 at hc hf ⊢
      refine rw_iconst (pc := 31) (x := nI 1) dN_send_31 (by decide) ?_
      exact rw_zret (pc := 32) dN_send_32 rfl (Or.inr rfl) ⟨_, rfl, by rw [decide_eq_true c1]; rfl, by unfold f_send; rw [if_pos c1]; exact hc, hf⟩
    · skip
      replace c1 : ¬ (n.length < 60) := fun qz => c1 ((nI_ltI (a := n.length) (b := 60) (by omega) (by omega)).mpr qz)
      refine rw_iconst (pc := 9) (x := nI 0) dN_send_9 (by decide) ?_
      exact rw_zret (pc := 10) dN_send_10 rfl (Or.inl rfl) ⟨_, rfl, by rw [decide_eq_false c1]; rfl, by unfold f_send; rw [if_neg c1]; exact hc, le_rf h⟩
theorem cN_at (G : mt_G) (h : ha_H) {L : Nat} {n : List ab_M} {su : Bool} {sn : Int32} {sg : Bool} {se : Int32} {pg : Nat → Nat → Int32} {md : Nat → Nat → Nat} {en : Nat → Nat → Int32} {sd : Nat → Option ab_M} {ln : Nat → List ab_M} {C : Nat → ab_C} (hc : CV L n su sn sg se pg md en sd ln C h) (i : Int32) : rn_M G xN_at (0, 0, 0) [.inr (some 2), .inl i] h (rn_r (fun r h' => h = h' ∧ cv_O 0 8 h r (f_at n i))) := by
  have h60 := (cp_n hc).2.1
  refine rn_of (by decide +kernel) (Nat.le_of_ble_eq_true rfl) ?_
  show rn_W G xN_at (0, 0, 0) 0 0 0 [some (.inr (some 2)), some (.inl i)] [] h _
  refine rw_iload_n (pc := 0) dN_at_0 rfl ?_
  refine rw_iflt (pc := 1) dN_at_1 (tgt := 21) rfl (fun c1 => ?_) (fun c1 => ?_)
  · skip
    refine rw_null (pc := 21) dN_at_21 ?_
    exact rw_aret (pc := 22) dN_at_22 rfl (Or.inl ⟨_, rfl⟩) ⟨_, rfl, rfl, Or.inl ⟨by unfold f_at; rw [if_pos c1], rfl⟩⟩
  · skip
    obtain ⟨j, hj, rfl⟩ := nI_of (x := i) c1
    refine rw_iload_n (pc := 4) dN_at_4 rfl ?_
    refine rw_aload_n (pc := 5) dN_at_5 rfl ?_
    refine rw_getI (pc := 6) (x := nI n.length) flN_17_N dN_at_6 (cs_o hc (by omega) (by omega)) (cs_S2 hc) (cp_n hc).1 ?_
    refine rw_icmpge (pc := 9) dN_at_9 (tgt := 21) rfl (fun c2 => ?_) (fun c2 => ?_)
    · skip
      replace c2 : n.length ≤ j := (nI_leI (a := n.length) (b := j) (by omega) (by omega)).mp c2
      refine rw_null (pc := 21) dN_at_21 ?_
      exact rw_aret (pc := 22) dN_at_22 rfl (Or.inl ⟨_, rfl⟩) ⟨_, rfl, rfl, Or.inl ⟨by unfold f_at; rw [if_neg c1, nI_clamp hj]; exact List.getElem?_eq_none c2, rfl⟩⟩
    · skip
      replace c2 : ¬ (n.length ≤ j) := fun qz => c2 ((nI_leI (a := n.length) (b := j) (by omega) (by omega)).mpr qz)
      obtain ⟨i, ei, hi⟩ := (cp_n hc).2.2 j (n[j]'(by omega)) (List.getElem?_eq_getElem (by omega))
      refine rw_aload_n (pc := 12) dN_at_12 rfl ?_
      refine rw_getR (pc := 13) (x := some 3) flN_11_N dN_at_13 (cs_o hc (by omega) (by omega)) (cs_S2 hc) (cr_2_0 hc) ?_
      refine rw_iload_n (pc := 16) dN_at_16 rfl ?_
      refine rw_aald (pc := 17) (v := some i) (i := j) (t := 2) rfl ⟨rfl, by decide⟩ dN_at_17 (cs_o hc (by omega) (by omega)) (cs_S3 hc) (ix_nI (by omega) (by decide)) ei ?_
      refine rw_goto (pc := 18) dN_at_18 (tgt := 22) rfl ?_
      exact rw_aret (pc := 22) dN_at_22 rfl (Or.inl ⟨_, rfl⟩) ⟨_, rfl, rfl, Or.inr ⟨n[j]'(by omega), i, by unfold f_at; rw [if_neg c1, nI_clamp hj]; exact List.getElem?_eq_getElem (by omega), rfl, Nat.zero_le _, (cm_k8 hi).2, hi⟩⟩
theorem cG_code (G : mt_G) (h : ha_H) {i : Nat} {m : ab_M} (hm : cv_M h i m) : rn_M G xG_code (0, 0, 0) [.inr (some i)] h (rn_i (fun r h' => r = am_code m ∧ h = h')) := by
  refine rn_of (by decide +kernel) (Nat.le_of_ble_eq_true rfl) ?_
  show rn_W G xG_code (0, 0, 0) 0 0 0 [some (.inr (some i))] [] h _
  rcases hm.2.2.2 with ⟨k1, k2, -⟩ | ⟨k1, k2, -⟩ | ⟨k1, k2⟩
  · skip
    refine rw_ldc (pc := 0) (x := 1000000) dG_code_0 bw_397 ?_
    refine rw_aload_n (pc := 2) dG_code_2 rfl ?_
    refine rw_getI (pc := 3) (x := nI (am_k m)) flG_7_R dG_code_3 (cm_o hm) k2 hm.2.1.1 ?_
    refine rw_imul (pc := 6) (v := (1000000) * (nI (am_k m))) dG_code_6 rfl ?_
    refine rw_ldc (pc := 7) (x := 100000) dG_code_7 bw_398 ?_
    refine rw_aload_n (pc := 9) dG_code_9 rfl ?_
    refine rw_getI (pc := 10) (x := nI (am_c m)) flG_13_R dG_code_10 (cm_o hm) k2 hm.2.1.2.1 ?_
    refine rw_imul (pc := 13) (v := (100000) * (nI (am_c m))) dG_code_13 rfl ?_
    refine rw_iadd (pc := 14) (v := ((1000000) * (nI (am_k m))) + ((100000) * (nI (am_c m)))) dG_code_14 rfl ?_
    refine rw_sipush (pc := 15) (x := nI 10000) dG_code_15 (by decide) ?_
    refine rw_aload_n (pc := 18) dG_code_18 rfl ?_
    refine rw_getI (pc := 19) (x := nI (am_f m)) flG_16_R dG_code_19 (cm_o hm) k2 hm.2.1.2.2.1 ?_
    refine rw_imul (pc := 22) (v := nI (10000 * (am_f m))) dG_code_22 (pk_mul _ _) ?_
    refine rw_iadd (pc := 23) (v := (((1000000) * (nI (am_k m))) + ((100000) * (nI (am_c m)))) + (nI (10000 * (am_f m)))) dG_code_23 rfl ?_
    refine rw_aload_n (pc := 24) dG_code_24 rfl ?_
    refine rw_getI (pc := 25) (x := am_n m) flG_19_R dG_code_25 (cm_o hm) k2 hm.2.1.2.2.2 ?_
    refine rw_iadd (pc := 28) (v := ((((1000000) * (nI (am_k m))) + ((100000) * (nI (am_c m)))) + (nI (10000 * (am_f m)))) + (am_n m)) dG_code_28 rfl ?_
    exact rw_iret (pc := 29) dG_code_29 rfl ⟨_, rfl, rfl, rfl⟩
  · skip
    refine rw_ldc (pc := 0) (x := 1000000) dG_code_0 bw_397 ?_
    refine rw_aload_n (pc := 2) dG_code_2 rfl ?_
    refine rw_getI (pc := 3) (x := nI (am_k m)) flG_7_P dG_code_3 (cm_o hm) k2 hm.2.1.1 ?_
    refine rw_imul (pc := 6) (v := (1000000) * (nI (am_k m))) dG_code_6 rfl ?_
    refine rw_ldc (pc := 7) (x := 100000) dG_code_7 bw_398 ?_
    refine rw_aload_n (pc := 9) dG_code_9 rfl ?_
    refine rw_getI (pc := 10) (x := nI (am_c m)) flG_13_P dG_code_10 (cm_o hm) k2 hm.2.1.2.1 ?_
    refine rw_imul (pc := 13) (v := (100000) * (nI (am_c m))) dG_code_13 rfl ?_
    refine rw_iadd (pc := 14) (v := ((1000000) * (nI (am_k m))) + ((100000) * (nI (am_c m)))) dG_code_14 rfl ?_
    refine rw_sipush (pc := 15) (x := nI 10000) dG_code_15 (by decide) ?_
    refine rw_aload_n (pc := 18) dG_code_18 rfl ?_
    refine rw_getI (pc := 19) (x := nI (am_f m)) flG_16_P dG_code_19 (cm_o hm) k2 hm.2.1.2.2.1 ?_
    refine rw_imul (pc := 22) (v := nI (10000 * (am_f m))) dG_code_22 (pk_mul _ _) ?_
    refine rw_iadd (pc := 23) (v := (((1000000) * (nI (am_k m))) + ((100000) * (nI (am_c m)))) + (nI (10000 * (am_f m)))) dG_code_23 rfl ?_
    refine rw_aload_n (pc := 24) dG_code_24 rfl ?_
    refine rw_getI (pc := 25) (x := am_n m) flG_19_P dG_code_25 (cm_o hm) k2 hm.2.1.2.2.2 ?_
    refine rw_iadd (pc := 28) (v := ((((1000000) * (nI (am_k m))) + ((100000) * (nI (am_c m)))) + (nI (10000 * (am_f m)))) + (am_n m)) dG_code_28 rfl ?_
    exact rw_iret (pc := 29) dG_code_29 rfl ⟨_, rfl, rfl, rfl⟩
  · skip
    refine rw_ldc (pc := 0) (x := 1000000) dG_code_0 bw_397 ?_
    refine rw_aload_n (pc := 2) dG_code_2 rfl ?_
    refine rw_getI (pc := 3) (x := nI (am_k m)) flG_7_G dG_code_3 (cm_o hm) k2 hm.2.1.1 ?_
    refine rw_imul (pc := 6) (v := (1000000) * (nI (am_k m))) dG_code_6 rfl ?_
    refine rw_ldc (pc := 7) (x := 100000) dG_code_7 bw_398 ?_
    refine rw_aload_n (pc := 9) dG_code_9 rfl ?_
    refine rw_getI (pc := 10) (x := nI (am_c m)) flG_13_G dG_code_10 (cm_o hm) k2 hm.2.1.2.1 ?_
    refine rw_imul (pc := 13) (v := (100000) * (nI (am_c m))) dG_code_13 rfl ?_
    refine rw_iadd (pc := 14) (v := ((1000000) * (nI (am_k m))) + ((100000) * (nI (am_c m)))) dG_code_14 rfl ?_
    refine rw_sipush (pc := 15) (x := nI 10000) dG_code_15 (by decide) ?_
    refine rw_aload_n (pc := 18) dG_code_18 rfl ?_
    refine rw_getI (pc := 19) (x := nI (am_f m)) flG_16_G dG_code_19 (cm_o hm) k2 hm.2.1.2.2.1 ?_
    refine rw_imul (pc := 22) (v := nI (10000 * (am_f m))) dG_code_22 (pk_mul _ _) ?_
    refine rw_iadd (pc := 23) (v := (((1000000) * (nI (am_k m))) + ((100000) * (nI (am_c m)))) + (nI (10000 * (am_f m)))) dG_code_23 rfl ?_
    refine rw_aload_n (pc := 24) dG_code_24 rfl ?_
    refine rw_getI (pc := 25) (x := am_n m) flG_19_G dG_code_25 (cm_o hm) k2 hm.2.1.2.2.2 ?_
    refine rw_iadd (pc := 28) (v := ((((1000000) * (nI (am_k m))) + ((100000) * (nI (am_c m)))) + (nI (10000 * (am_f m)))) + (am_n m)) dG_code_28 rfl ?_
    exact rw_iret (pc := 29) dG_code_29 rfl ⟨_, rfl, rfl, rfl⟩
theorem f_tk {n l : List ab_M} {j : Nat} (hj : j < n.length) (hl : l.length = n.length - 1) (e : ∀ y, y < n.length - 1 → l[y]? = if j ≤ y then n[y + 1]? else n[y]?) : l = n.eraseIdx j := by
  apply List.ext_getElem?
  intro y
  rw [List.getElem?_eraseIdx]
  by_cases c : y < n.length - 1
  · rw [e y c]
    by_cases d : y < j
    · rw [if_pos d, if_neg (by omega)]
    · rw [if_neg d, if_pos (by omega)]
  · rw [List.getElem?_eq_none (by omega)]
    by_cases d : y < j
    · omega
    · rw [if_neg d, List.getElem?_eq_none (by omega)]
theorem cN_takeOutL (G : mt_G) (h0 : ha_H) {L : Nat} {n : List ab_M} {su : Bool} {sn : Int32} {sg : Bool} {se : Int32} {pg : Nat → Nat → Int32} {md : Nat → Nat → Nat} {en : Nat → Nat → Int32} {sd : Nat → Option ab_M} {ln : Nat → List ab_M} {C : Nat → ab_C} {i j : Nat} {m : ab_M} {post : Option ha_V → ha_H → Prop} (hj : j < n.length) (hn60 : n.length ≤ 60) (hp : ∀ (l : List ab_M) (x : Nat) {h' : ha_H}, CV L l su sn sg se pg md en sd ln C h' → cv_M h' i m → hp_le h0 h' → (∀ y, y < n.length - 1 → l[y]? = if j ≤ y then n[y + 1]? else n[y]?) → l.length = n.length - 1 → rn_W G xN_takeOut (1, 0, 0) 0 0 60 [some (.inr (some 2)), some (.inl (nI j)), some (.inr (some i)), some (.inl (nI x))] [] h' post) (d : Nat) : ∀ (k : Nat) (H : ha_H) (l : List ab_M), j ≤ k ∧ k ≤ n.length - 1 → n.length - 1 - k < d → CV L l su sn sg se pg md en sd ln C H → l.length = n.length - 1 → cv_M H i m → hp_le h0 H → (∀ y m', y < n.length → k ≤ y → n[y]? = some m' → ∃ i, hp_R H 3 y = some i ∧ cv_M H i m') → (∀ y, y < n.length - 1 → l[y]? = if j ≤ y ∧ y < k then n[y + 1]? else n[y]?) → rn_W G xN_takeOut (1, 0, 0) 0 0 22 [some (.inr (some 2)), some (.inl (nI j)), some (.inr (some i)), some (.inl (nI k))] [] H post := by
  induction d with
  | zero => intro k H l hk hd; omega
  | succ d ih =>
    intro k H l hk hd hc hll hm hf ht he
    have h60 : l.length ≤ 60 := (cp_n hc).2.1
    refine rw_iload_n (pc := 22) dN_takeOut_22 rfl ?_
    refine rw_aload_n (pc := 23) dN_takeOut_23 rfl ?_
    refine rw_getI (pc := 24) (x := nI (n.length - 1)) flN_17_N dN_takeOut_24 (cs_o hc (by omega) (by omega)) (cs_S2 hc) ((cp_n hc).1.trans (by rw [hll])) ?_
    refine rw_icmpge (pc := 27) dN_takeOut_27 (tgt := 50) rfl (fun c1 => ?_) (fun c1 => ?_)
    · skip
      replace c1 : (n.length - 1) ≤ k := (nI_leI (a := (n.length - 1)) (b := k) (by omega) (by omega)).mp c1
      refine rw_aload_n (pc := 50) dN_takeOut_50 rfl ?_
      refine rw_getR (pc := 51) (x := some 3) flN_11_N dN_takeOut_51 (cs_o hc (by omega) (by omega)) (cs_S2 hc) (cr_2_0 hc) ?_
      refine rw_aload_n (pc := 54) dN_takeOut_54 rfl ?_
      refine rw_getI (pc := 55) (x := nI (n.length - 1)) flN_17_N dN_takeOut_55 (cs_o hc (by omega) (by omega)) (cs_S2 hc) ((cp_n hc).1.trans (by rw [hll])) ?_
      refine rw_null (pc := 58) dN_takeOut_58 ?_
      refine rw_aastN (pc := 59) (i := (n.length - 1)) (t := 2) rfl (by decide) dN_takeOut_59 (cs_o hc (by omega) (by omega)) (cs_S3 hc) (ix_nI (by omega) (by decide)) ?_
      rw [← hll]
      replace hc := wn_l hc none
      replace hm := cm_le hm (le_sR (h := H) (A := 3) (k := (l.length)) (v := none) (by omega))
      replace hf := le_tr hf (le_sR (h := H) (A := 3) (k := (l.length)) (v := none) (by omega))
      generalize hp_sR H 3 l.length none = g2 at hc hm hf ⊢
      have hz : ∀ y, y < n.length - 1 → l[y]? = if j ≤ y then n[y + 1]? else n[y]? := by
        intro y hy
        rw [he y hy]
        by_cases z : j ≤ y
        · rw [if_pos ⟨z, by omega⟩, if_pos z]
        · rw [if_neg (fun q => z q.1), if_neg z]
      exact hp _ _ hc hm hf hz hll
    · skip
      replace c1 : ¬ ((n.length - 1) ≤ k) := fun qz => c1 ((nI_leI (a := (n.length - 1)) (b := k) (by omega) (by omega)).mpr qz)
      obtain ⟨m2, e2⟩ : ∃ m2, n[k + 1]? = some m2 := ⟨_, List.getElem?_eq_getElem (by omega)⟩
      obtain ⟨i2, e3, hi2⟩ := ht (k + 1) m2 (by omega) (by omega) e2
      rcases hi2.2.2.2 with ⟨k1, k2, -⟩ | ⟨k1, k2, -⟩ | ⟨k1, k2⟩
      · skip
        refine rw_aload_n (pc := 30) dN_takeOut_30 rfl ?_
        refine rw_getR (pc := 31) (x := some 3) flN_11_N dN_takeOut_31 (cs_o hc (by omega) (by omega)) (cs_S2 hc) (cr_2_0 hc) ?_
        refine rw_iload_n (pc := 34) dN_takeOut_34 rfl ?_
        refine rw_aload_n (pc := 35) dN_takeOut_35 rfl ?_
        refine rw_getR (pc := 36) (x := some 3) flN_11_N dN_takeOut_36 (cs_o hc (by omega) (by omega)) (cs_S2 hc) (cr_2_0 hc) ?_
        refine rw_iload_n (pc := 39) dN_takeOut_39 rfl ?_
        refine rw_iconst (pc := 40) (x := nI 1) dN_takeOut_40 (by decide) ?_
        refine rw_iadd (pc := 41) (v := nI (k + 1)) dN_takeOut_41 (nI_add _ _) ?_
        refine rw_aald (pc := 42) (v := some i2) (i := (k + 1)) (t := 2) rfl ⟨rfl, by decide⟩ dN_takeOut_42 (cs_o hc (by omega) (by omega)) (cs_S3 hc) (ix_nI (by omega) (by decide)) e3 ?_
        refine rw_aast (pc := 43) (i := k) so_2_R (by decide) dN_takeOut_43 (cs_o hc (by omega) (by omega)) (cs_S3 hc) (ix_nI (by omega) (by decide)) (cm_o hi2) k2 ?_
        replace hc := wn_s hc (k := k) (by omega) hi2
        replace hm := cm_le hm (le_sR (h := H) (A := 3) (k := k) (v := (some i2)) (by omega))
        replace hf := le_tr hf (le_sR (h := H) (A := 3) (k := k) (v := (some i2)) (by omega))
        replace ht : ∀ y m, y < n.length → k + 1 ≤ y → n[y]? = some m → ∃ i, hp_R (hp_sR H 3 k (some i2)) 3 y = some i ∧ cv_M (hp_sR H 3 k (some i2)) i m := fun y m q0 q1 q2 => by
          obtain ⟨i, q3, q4⟩ := ht y m q0 (by omega) q2
          exact ⟨i, rR_sR2 (by omega) q3, cm_le q4 (le_sR (h := H) (A := 3) (k := k) (v := (some i2)) (by omega))⟩
        generalize hp_sR H 3 k (some i2) = g3 at hc hm hf ht ⊢
        refine rw_iinc (pc := 44) (x := nI k) (y := nI (k + 1)) (L' := [some (.inr (some 2)), some (.inl (nI j)), some (.inr (some i)), some (.inl (nI (k + 1)))]) dN_takeOut_44 (by decide) rfl (nI_add _ 1) rfl ?_
        refine rw_goto (pc := 47) dN_takeOut_47 (tgt := 22) rfl ?_
        exact ih (k + 1) g3 (l.set k m2) (by omega) (by omega) hc (by rw [List.length_set]; exact hll) hm hf ht (fun y hy => by
              by_cases z : y = k
              · subst z
                rw [List.getElem?_set_self (by omega), if_pos (by omega)]
                exact e2.symm
              · rw [List.getElem?_set_ne (Ne.symm z), he y hy]
                by_cases z2 : j ≤ y ∧ y < k
                · rw [if_pos z2, if_pos (by omega)]
                · rw [if_neg z2, if_neg (by omega)])
      · skip
        refine rw_aload_n (pc := 30) dN_takeOut_30 rfl ?_
        refine rw_getR (pc := 31) (x := some 3) flN_11_N dN_takeOut_31 (cs_o hc (by omega) (by omega)) (cs_S2 hc) (cr_2_0 hc) ?_
        refine rw_iload_n (pc := 34) dN_takeOut_34 rfl ?_
        refine rw_aload_n (pc := 35) dN_takeOut_35 rfl ?_
        refine rw_getR (pc := 36) (x := some 3) flN_11_N dN_takeOut_36 (cs_o hc (by omega) (by omega)) (cs_S2 hc) (cr_2_0 hc) ?_
        refine rw_iload_n (pc := 39) dN_takeOut_39 rfl ?_
        refine rw_iconst (pc := 40) (x := nI 1) dN_takeOut_40 (by decide) ?_
        refine rw_iadd (pc := 41) (v := nI (k + 1)) dN_takeOut_41 (nI_add _ _) ?_
        refine rw_aald (pc := 42) (v := some i2) (i := (k + 1)) (t := 2) rfl ⟨rfl, by decide⟩ dN_takeOut_42 (cs_o hc (by omega) (by omega)) (cs_S3 hc) (ix_nI (by omega) (by decide)) e3 ?_
        refine rw_aast (pc := 43) (i := k) so_2_P (by decide) dN_takeOut_43 (cs_o hc (by omega) (by omega)) (cs_S3 hc) (ix_nI (by omega) (by decide)) (cm_o hi2) k2 ?_
        replace hc := wn_s hc (k := k) (by omega) hi2
        replace hm := cm_le hm (le_sR (h := H) (A := 3) (k := k) (v := (some i2)) (by omega))
        replace hf := le_tr hf (le_sR (h := H) (A := 3) (k := k) (v := (some i2)) (by omega))
        replace ht : ∀ y m, y < n.length → k + 1 ≤ y → n[y]? = some m → ∃ i, hp_R (hp_sR H 3 k (some i2)) 3 y = some i ∧ cv_M (hp_sR H 3 k (some i2)) i m := fun y m q0 q1 q2 => by
          obtain ⟨i, q3, q4⟩ := ht y m q0 (by omega) q2
          exact ⟨i, rR_sR2 (by omega) q3, cm_le q4 (le_sR (h := H) (A := 3) (k := k) (v := (some i2)) (by omega))⟩
        generalize hp_sR H 3 k (some i2) = g4 at hc hm hf ht ⊢
        refine rw_iinc (pc := 44) (x := nI k) (y := nI (k + 1)) (L' := [some (.inr (some 2)), some (.inl (nI j)), some (.inr (some i)), some (.inl (nI (k + 1)))]) dN_takeOut_44 (by decide) rfl (nI_add _ 1) rfl ?_
        refine rw_goto (pc := 47) dN_takeOut_47 (tgt := 22) rfl ?_
        exact ih (k + 1) g4 (l.set k m2) (by omega) (by omega) hc (by rw [List.length_set]; exact hll) hm hf ht (fun y hy => by
              by_cases z : y = k
              · subst z
                rw [List.getElem?_set_self (by omega), if_pos (by omega)]
                exact e2.symm
              · rw [List.getElem?_set_ne (Ne.symm z), he y hy]
                by_cases z2 : j ≤ y ∧ y < k
                · rw [if_pos z2, if_pos (by omega)]
                · rw [if_neg z2, if_neg (by omega)])
      · skip
        refine rw_aload_n (pc := 30) dN_takeOut_30 rfl ?_
        refine rw_getR (pc := 31) (x := some 3) flN_11_N dN_takeOut_31 (cs_o hc (by omega) (by omega)) (cs_S2 hc) (cr_2_0 hc) ?_
        refine rw_iload_n (pc := 34) dN_takeOut_34 rfl ?_
        refine rw_aload_n (pc := 35) dN_takeOut_35 rfl ?_
        refine rw_getR (pc := 36) (x := some 3) flN_11_N dN_takeOut_36 (cs_o hc (by omega) (by omega)) (cs_S2 hc) (cr_2_0 hc) ?_
        refine rw_iload_n (pc := 39) dN_takeOut_39 rfl ?_
        refine rw_iconst (pc := 40) (x := nI 1) dN_takeOut_40 (by decide) ?_
        refine rw_iadd (pc := 41) (v := nI (k + 1)) dN_takeOut_41 (nI_add _ _) ?_
        refine rw_aald (pc := 42) (v := some i2) (i := (k + 1)) (t := 2) rfl ⟨rfl, by decide⟩ dN_takeOut_42 (cs_o hc (by omega) (by omega)) (cs_S3 hc) (ix_nI (by omega) (by decide)) e3 ?_
        refine rw_aast (pc := 43) (i := k) so_2_G (by decide) dN_takeOut_43 (cs_o hc (by omega) (by omega)) (cs_S3 hc) (ix_nI (by omega) (by decide)) (cm_o hi2) k2 ?_
        replace hc := wn_s hc (k := k) (by omega) hi2
        replace hm := cm_le hm (le_sR (h := H) (A := 3) (k := k) (v := (some i2)) (by omega))
        replace hf := le_tr hf (le_sR (h := H) (A := 3) (k := k) (v := (some i2)) (by omega))
        replace ht : ∀ y m, y < n.length → k + 1 ≤ y → n[y]? = some m → ∃ i, hp_R (hp_sR H 3 k (some i2)) 3 y = some i ∧ cv_M (hp_sR H 3 k (some i2)) i m := fun y m q0 q1 q2 => by
          obtain ⟨i, q3, q4⟩ := ht y m q0 (by omega) q2
          exact ⟨i, rR_sR2 (by omega) q3, cm_le q4 (le_sR (h := H) (A := 3) (k := k) (v := (some i2)) (by omega))⟩
        generalize hp_sR H 3 k (some i2) = g5 at hc hm hf ht ⊢
        refine rw_iinc (pc := 44) (x := nI k) (y := nI (k + 1)) (L' := [some (.inr (some 2)), some (.inl (nI j)), some (.inr (some i)), some (.inl (nI (k + 1)))]) dN_takeOut_44 (by decide) rfl (nI_add _ 1) rfl ?_
        refine rw_goto (pc := 47) dN_takeOut_47 (tgt := 22) rfl ?_
        exact ih (k + 1) g5 (l.set k m2) (by omega) (by omega) hc (by rw [List.length_set]; exact hll) hm hf ht (fun y hy => by
              by_cases z : y = k
              · subst z
                rw [List.getElem?_set_self (by omega), if_pos (by omega)]
                exact e2.symm
              · rw [List.getElem?_set_ne (Ne.symm z), he y hy]
                by_cases z2 : j ≤ y ∧ y < k
                · rw [if_pos z2, if_pos (by omega)]
                · rw [if_neg z2, if_neg (by omega)])
theorem cN_takeOut (G : mt_G) (h : ha_H) {L : Nat} {n : List ab_M} {su : Bool} {sn : Int32} {sg : Bool} {se : Int32} {pg : Nat → Nat → Int32} {md : Nat → Nat → Nat} {en : Nat → Nat → Int32} {sd : Nat → Option ab_M} {ln : Nat → List ab_M} {C : Nat → ab_C} (hc : CV L n su sn sg se pg md en sd ln C h) (i0 : Int32) : rn_M G xN_takeOut (1, 0, 0) [.inr (some 2), .inl i0] h (rn_r (fun r h' => hp_le h h' ∧ ((f_at n i0 = none ∧ r = none ∧ CV L n su sn sg se pg md en sd ln C h') ∨ ∃ m i j, f_at n i0 = some m ∧ r = some i ∧ i0 = nI j ∧ j < n.length ∧ cv_M h' i m ∧ CV L (n.eraseIdx j) su sn sg se pg md en sd ln C h'))) := by
  have h60 := (cp_n hc).2.1
  refine rn_of (by decide +kernel) (Nat.le_of_ble_eq_true rfl) ?_
  show rn_W G xN_takeOut (1, 0, 0) 0 0 0 [some (.inr (some 2)), some (.inl i0), none, none] [] h _
  refine rw_aload_n (pc := 0) dN_takeOut_0 rfl ?_
  refine rw_iload_n (pc := 1) dN_takeOut_1 rfl ?_
  refine rw_vr (pc := 2) (z' := (0, 0, 0)) (rc' := 0) (rs' := 0) (av := [.inl i0]) (st := []) (ci := 1) mlN_21 miN_at rfl mvN_at_N dN_takeOut_2 (cs_o hc (by omega) (by omega)) (cs_S2 hc) (cN_at G _ hc _) rfl rfl (Nat.le_of_ble_eq_true rfl) (by decide) rfl rfl (fun r1 h1 q1 => ?_)
  obtain ⟨rfl, q1⟩ := q1
  rcases q1 with ⟨e1, rfl⟩ | ⟨m, i, e1, rfl, -, -, hm⟩
  · skip
    refine rw_astore_n (pc := 5) (L' := [some (.inr (some 2)), some (.inl i0), some (.inr none), none]) dN_takeOut_5 (by decide) rfl ?_
    refine rw_aload_n (pc := 6) dN_takeOut_6 rfl ?_
    refine rw_ifnull (pc := 7) dN_takeOut_7 (tgt := 60) rfl (fun c2 => ?_) (fun rc2 c2 => ?_)
    · skip
      refine rw_aload_n (pc := 60) dN_takeOut_60 rfl ?_
      exact rw_aret (pc := 61) dN_takeOut_61 rfl (Or.inl ⟨_, rfl⟩) ⟨_, rfl, le_rf h, Or.inl ⟨e1, rfl, hc⟩⟩
    · skip
      cases c2
  · skip
    obtain ⟨j, hj, rfl, ej⟩ := f_at_some e1
    have hf := le_rf h
    have hN := (cp_n hc).2.2
    refine rw_astore_n (pc := 5) (L' := [some (.inr (some 2)), some (.inl (nI j)), some (.inr (some i)), none]) dN_takeOut_5 (by decide) rfl ?_
    refine rw_aload_n (pc := 6) dN_takeOut_6 rfl ?_
    refine rw_ifnull (pc := 7) dN_takeOut_7 (tgt := 60) rfl (fun c3 => ?_) (fun rc3 c3 => ?_)
    · skip
      cases c3
    · skip
      refine rw_aload_n (pc := 10) dN_takeOut_10 rfl ?_
      refine rw_dup (pc := 11) dN_takeOut_11 ?_
      refine rw_getI (pc := 12) (x := nI n.length) flN_17_N dN_takeOut_12 (cs_o hc (by omega) (by omega)) (cs_S2 hc) (cp_n hc).1 ?_
      refine rw_iconst (pc := 15) (x := nI 1) dN_takeOut_15 (by decide) ?_
      refine rw_isub (pc := 16) (v := nI (n.length - 1)) dN_takeOut_16 (pk_sub (by omega)) ?_
      refine rw_putI (pc := 17) pfN_17_N dN_takeOut_17 (cs_o hc (by omega) (by omega)) (cs_S2 hc) ?_
      replace hc := wn_p hc (by omega)
      replace hm := cm_le hm (le_sI (h := h) (A := 2) (k := 1) (v := (nI (n.length - 1))) (by omega))
      replace hf := le_tr hf (le_sI (h := h) (A := 2) (k := 1) (v := (nI (n.length - 1))) (by omega))
      have ht : ∀ y m, y < n.length → j ≤ y → n[y]? = some m → ∃ i, hp_R (hp_sI h 2 1 (nI (n.length - 1))) 3 y = some i ∧ cv_M (hp_sI h 2 1 (nI (n.length - 1))) i m := fun y m _ _ q => by
        obtain ⟨i, q1, q2⟩ := hN y m q
        exact ⟨i, rR_sI q1, cm_le q2 (le_sI (h := h) (A := 2) (k := 1) (v := (nI (n.length - 1))) (by omega))⟩
      generalize hp_sI h 2 1 (nI (n.length - 1)) = g4 at hc hm hf ht ⊢
      refine rw_iload_n (pc := 20) dN_takeOut_20 rfl ?_
      refine rw_istore_n (pc := 21) (L' := [some (.inr (some 2)), some (.inl (nI j)), some (.inr (some i)), some (.inl (nI j))]) dN_takeOut_21 (by decide) rfl ?_
      refine cN_takeOutL G h hj h60 (fun l x {h'} hc hm hf hz hll => ?_) (n.length + 1) j g4 (n.take (n.length - 1)) (by omega) (by omega) hc (by rw [List.length_take]; omega) hm hf (fun y m q0 q1 q2 => ht y m q0 q1 q2) (fun y hy => by rw [List.getElem?_take, if_pos hy, if_neg (by omega)])
      obtain rfl := f_tk hj hll hz
      refine rw_aload_n (pc := 60) dN_takeOut_60 rfl ?_
      exact rw_aret (pc := 61) dN_takeOut_61 rfl (Or.inl ⟨_, rfl⟩) ⟨_, rfl, hf, Or.inr ⟨m, i, j, e1, rfl, rfl, hj, hm, hc⟩⟩
