theorem wc_up {L : Nat} {n : List ab_M} {su : Bool} {sn : Int32} {sg : Bool} {se : Int32} {pg : Nat → Nat → Int32} {md : Nat → Nat → Nat} {en : Nat → Nat → Int32} {sd : Nat → Option ab_M} {ln : Nat → List ab_M} {C : Nat → ab_C} {h : ha_H} {c : Nat} {up : Bool} {nw nu : Int32} {op : Option ab_M} {si : Int32} {cp : Nat → ab_P} {wr : List ab_W} (H : CV L n su sn sg se pg md en sd ln (fu C c (up, nw, nu, op, si, cp, wr)) h) (hl : c < 3) (b : Bool) : CV L n su sn sg se pg md en sd ln (fu C c (b, nw, nu, op, si, cp, wr)) (hp_sI h (29 + 11 * c) 6 (m_bi b)) := by
  obtain ⟨H0, HL, Hn, Hsu, Hsn, Hsg, Hse, Hpg, Hmd, Hen, Hsd, Hln, HC⟩ := H
  have hz := HC c hl
  rw [fu_at] at hz
  obtain ⟨c1, c2, c3, c4, c5, c6, c7, c8⟩ := hz
  exact ⟨(cs_sI H0), (kL HL (by rw [hp_I_sI, if_neg (by omega)]) (fun b hb => by rw [hp_I_sI, if_neg (by omega)])), (kN Hn (le_dy (le_sI (by omega))) (se_sI (by omega))), (by rw [hp_I_sI, if_neg (by omega)]; exact Hsu), (by rw [hp_I_sI, if_neg (by omega)]; exact Hsn), (by rw [hp_I_sI, if_neg (by omega)]; exact Hsg), (by rw [hp_I_sI, if_neg (by omega)]; exact Hse), (kpg Hpg (se_sI (by omega))), (kmd Hmd (se_sI (by omega))), (ken Hen (se_sI (by omega))), (ksd Hsd (le_dy (le_sI (by omega))) (se_sI (by omega))), (kln Hln (le_dy (le_sI (by omega))) (se_sI (by omega))), (kCs1 HC (le_dy (le_sI (by omega))) (fun b hb hz => se_sI (by omega)) ⟨(by rw [hp_I_sI, if_neg (by omega)]; exact c1), hI_set, (by rw [hp_I_sI, if_neg (by omega)]; exact c3), (by rw [hp_I_sI, if_neg (by omega)]; exact c4), (co_dy c5 (le_dy (le_sI (by omega))) (hp_R_sI ..)), (by rw [hp_I_sI, if_neg (by omega)]; exact c6), (fun f hf => kP (c7 f hf) (se_sI (by omega))), (kw c8 (le_dy (le_sI (by omega))) (by rw [hp_I_sI, if_neg (by omega)]) (fun _ => hp_R_sI ..))⟩)⟩
theorem wc_nw {L : Nat} {n : List ab_M} {su : Bool} {sn : Int32} {sg : Bool} {se : Int32} {pg : Nat → Nat → Int32} {md : Nat → Nat → Nat} {en : Nat → Nat → Int32} {sd : Nat → Option ab_M} {ln : Nat → List ab_M} {C : Nat → ab_C} {h : ha_H} {c : Nat} {up : Bool} {nw nu : Int32} {op : Option ab_M} {si : Int32} {cp : Nat → ab_P} {wr : List ab_W} (H : CV L n su sn sg se pg md en sd ln (fu C c (up, nw, nu, op, si, cp, wr)) h) (hl : c < 3) (v : Int32) : CV L n su sn sg se pg md en sd ln (fu C c (up, v, nu, op, si, cp, wr)) (hp_sI h (29 + 11 * c) 7 v) := by
  obtain ⟨H0, HL, Hn, Hsu, Hsn, Hsg, Hse, Hpg, Hmd, Hen, Hsd, Hln, HC⟩ := H
  have hz := HC c hl
  rw [fu_at] at hz
  obtain ⟨c1, c2, c3, c4, c5, c6, c7, c8⟩ := hz
  exact ⟨(cs_sI H0), (kL HL (by rw [hp_I_sI, if_neg (by omega)]) (fun b hb => by rw [hp_I_sI, if_neg (by omega)])), (kN Hn (le_dy (le_sI (by omega))) (se_sI (by omega))), (by rw [hp_I_sI, if_neg (by omega)]; exact Hsu), (by rw [hp_I_sI, if_neg (by omega)]; exact Hsn), (by rw [hp_I_sI, if_neg (by omega)]; exact Hsg), (by rw [hp_I_sI, if_neg (by omega)]; exact Hse), (kpg Hpg (se_sI (by omega))), (kmd Hmd (se_sI (by omega))), (ken Hen (se_sI (by omega))), (ksd Hsd (le_dy (le_sI (by omega))) (se_sI (by omega))), (kln Hln (le_dy (le_sI (by omega))) (se_sI (by omega))), (kCs1 HC (le_dy (le_sI (by omega))) (fun b hb hz => se_sI (by omega)) ⟨(by rw [hp_I_sI, if_neg (by omega)]; exact c1), (by rw [hp_I_sI, if_neg (by omega)]; exact c2), hI_set, (by rw [hp_I_sI, if_neg (by omega)]; exact c4), (co_dy c5 (le_dy (le_sI (by omega))) (hp_R_sI ..)), (by rw [hp_I_sI, if_neg (by omega)]; exact c6), (fun f hf => kP (c7 f hf) (se_sI (by omega))), (kw c8 (le_dy (le_sI (by omega))) (by rw [hp_I_sI, if_neg (by omega)]) (fun _ => hp_R_sI ..))⟩)⟩
theorem wc_nu {L : Nat} {n : List ab_M} {su : Bool} {sn : Int32} {sg : Bool} {se : Int32} {pg : Nat → Nat → Int32} {md : Nat → Nat → Nat} {en : Nat → Nat → Int32} {sd : Nat → Option ab_M} {ln : Nat → List ab_M} {C : Nat → ab_C} {h : ha_H} {c : Nat} {up : Bool} {nw nu : Int32} {op : Option ab_M} {si : Int32} {cp : Nat → ab_P} {wr : List ab_W} (H : CV L n su sn sg se pg md en sd ln (fu C c (up, nw, nu, op, si, cp, wr)) h) (hl : c < 3) (v : Int32) : CV L n su sn sg se pg md en sd ln (fu C c (up, nw, v, op, si, cp, wr)) (hp_sI h (29 + 11 * c) 8 v) := by
  obtain ⟨H0, HL, Hn, Hsu, Hsn, Hsg, Hse, Hpg, Hmd, Hen, Hsd, Hln, HC⟩ := H
  have hz := HC c hl
  rw [fu_at] at hz
  obtain ⟨c1, c2, c3, c4, c5, c6, c7, c8⟩ := hz
  exact ⟨(cs_sI H0), (kL HL (by rw [hp_I_sI, if_neg (by omega)]) (fun b hb => by rw [hp_I_sI, if_neg (by omega)])), (kN Hn (le_dy (le_sI (by omega))) (se_sI (by omega))), (by rw [hp_I_sI, if_neg (by omega)]; exact Hsu), (by rw [hp_I_sI, if_neg (by omega)]; exact Hsn), (by rw [hp_I_sI, if_neg (by omega)]; exact Hsg), (by rw [hp_I_sI, if_neg (by omega)]; exact Hse), (kpg Hpg (se_sI (by omega))), (kmd Hmd (se_sI (by omega))), (ken Hen (se_sI (by omega))), (ksd Hsd (le_dy (le_sI (by omega))) (se_sI (by omega))), (kln Hln (le_dy (le_sI (by omega))) (se_sI (by omega))), (kCs1 HC (le_dy (le_sI (by omega))) (fun b hb hz => se_sI (by omega)) ⟨(by rw [hp_I_sI, if_neg (by omega)]; exact c1), (by rw [hp_I_sI, if_neg (by omega)]; exact c2), (by rw [hp_I_sI, if_neg (by omega)]; exact c3), hI_set, (co_dy c5 (le_dy (le_sI (by omega))) (hp_R_sI ..)), (by rw [hp_I_sI, if_neg (by omega)]; exact c6), (fun f hf => kP (c7 f hf) (se_sI (by omega))), (kw c8 (le_dy (le_sI (by omega))) (by rw [hp_I_sI, if_neg (by omega)]) (fun _ => hp_R_sI ..))⟩)⟩
theorem wc_si {L : Nat} {n : List ab_M} {su : Bool} {sn : Int32} {sg : Bool} {se : Int32} {pg : Nat → Nat → Int32} {md : Nat → Nat → Nat} {en : Nat → Nat → Int32} {sd : Nat → Option ab_M} {ln : Nat → List ab_M} {C : Nat → ab_C} {h : ha_H} {c : Nat} {up : Bool} {nw nu : Int32} {op : Option ab_M} {si : Int32} {cp : Nat → ab_P} {wr : List ab_W} (H : CV L n su sn sg se pg md en sd ln (fu C c (up, nw, nu, op, si, cp, wr)) h) (hl : c < 3) (v : Int32) : CV L n su sn sg se pg md en sd ln (fu C c (up, nw, nu, op, v, cp, wr)) (hp_sI h (29 + 11 * c) 10 v) := by
  obtain ⟨H0, HL, Hn, Hsu, Hsn, Hsg, Hse, Hpg, Hmd, Hen, Hsd, Hln, HC⟩ := H
  have hz := HC c hl
  rw [fu_at] at hz
  obtain ⟨c1, c2, c3, c4, c5, c6, c7, c8⟩ := hz
  exact ⟨(cs_sI H0), (kL HL (by rw [hp_I_sI, if_neg (by omega)]) (fun b hb => by rw [hp_I_sI, if_neg (by omega)])), (kN Hn (le_dy (le_sI (by omega))) (se_sI (by omega))), (by rw [hp_I_sI, if_neg (by omega)]; exact Hsu), (by rw [hp_I_sI, if_neg (by omega)]; exact Hsn), (by rw [hp_I_sI, if_neg (by omega)]; exact Hsg), (by rw [hp_I_sI, if_neg (by omega)]; exact Hse), (kpg Hpg (se_sI (by omega))), (kmd Hmd (se_sI (by omega))), (ken Hen (se_sI (by omega))), (ksd Hsd (le_dy (le_sI (by omega))) (se_sI (by omega))), (kln Hln (le_dy (le_sI (by omega))) (se_sI (by omega))), (kCs1 HC (le_dy (le_sI (by omega))) (fun b hb hz => se_sI (by omega)) ⟨(by rw [hp_I_sI, if_neg (by omega)]; exact c1), (by rw [hp_I_sI, if_neg (by omega)]; exact c2), (by rw [hp_I_sI, if_neg (by omega)]; exact c3), (by rw [hp_I_sI, if_neg (by omega)]; exact c4), (co_dy c5 (le_dy (le_sI (by omega))) (hp_R_sI ..)), hI_set, (fun f hf => kP (c7 f hf) (se_sI (by omega))), (kw c8 (le_dy (le_sI (by omega))) (by rw [hp_I_sI, if_neg (by omega)]) (fun _ => hp_R_sI ..))⟩)⟩
theorem wc_op {L : Nat} {n : List ab_M} {su : Bool} {sn : Int32} {sg : Bool} {se : Int32} {pg : Nat → Nat → Int32} {md : Nat → Nat → Nat} {en : Nat → Nat → Int32} {sd : Nat → Option ab_M} {ln : Nat → List ab_M} {C : Nat → ab_C} {h : ha_H} {c : Nat} {up : Bool} {nw nu : Int32} {op : Option ab_M} {si : Int32} {cp : Nat → ab_P} {wr : List ab_W} (H : CV L n su sn sg se pg md en sd ln (fu C c (up, nw, nu, op, si, cp, wr)) h) (hl : c < 3) {i : Nat} {m : ab_M} (hm : cv_M h i m) (h1 : 1 ≤ am_k m) (h3 : am_k m ≤ 3) : CV L n su sn sg se pg md en sd ln (fu C c (up, nw, nu, some m, si, cp, wr)) (hp_sR h (29 + 11 * c) 9 (some i)) := by
  obtain ⟨H0, HL, Hn, Hsu, Hsn, Hsg, Hse, Hpg, Hmd, Hen, Hsd, Hln, HC⟩ := H
  have hz := HC c hl
  rw [fu_at] at hz
  obtain ⟨c1, c2, c3, c4, c5, c6, c7, c8⟩ := hz
  exact ⟨(cs_sR H0 (fun t q => by unfold cs_T at q; omega)), (kL HL (hp_I_sR ..) (fun _ _ => hp_I_sR ..)), (kN Hn (le_dy (le_sR (by omega))) (se_sR (by omega))), (hR_of Hsu), (hR_of Hsn), (hR_of Hsg), (hR_of Hse), (kpg Hpg (se_sR (by omega))), (kmd Hmd (se_sR (by omega))), (ken Hen (se_sR (by omega))), (ksd Hsd (le_dy (le_sR (by omega))) (se_sR (by omega))), (kln Hln (le_dy (le_sR (by omega))) (se_sR (by omega))), (kCs1 HC (le_dy (le_sR (by omega))) (fun b hb hz => se_sR (by omega)) ⟨(hR_of c1), (hR_of c2), (hR_of c3), (hR_of c4), (Or.inr ⟨m, i, rfl, by rw [hp_R_sR, if_pos ⟨rfl, rfl⟩], h1, h3, cm_le hm (le_sR (by omega))⟩), (hR_of c6), (fun f hf => kP (c7 f hf) (se_sR (by omega))), (kw c8 (le_dy (le_sR (by omega))) (hp_I_sR ..) (fun _ => by rw [hp_R_sR, if_neg (by omega)]))⟩)⟩
theorem wc_no {L : Nat} {n : List ab_M} {su : Bool} {sn : Int32} {sg : Bool} {se : Int32} {pg : Nat → Nat → Int32} {md : Nat → Nat → Nat} {en : Nat → Nat → Int32} {sd : Nat → Option ab_M} {ln : Nat → List ab_M} {C : Nat → ab_C} {h : ha_H} {c : Nat} {up : Bool} {nw nu : Int32} {op : Option ab_M} {si : Int32} {cp : Nat → ab_P} {wr : List ab_W} (H : CV L n su sn sg se pg md en sd ln (fu C c (up, nw, nu, op, si, cp, wr)) h) (hl : c < 3)  : CV L n su sn sg se pg md en sd ln (fu C c (up, nw, nu, none, si, cp, wr)) (hp_sR h (29 + 11 * c) 9 none) := by
  obtain ⟨H0, HL, Hn, Hsu, Hsn, Hsg, Hse, Hpg, Hmd, Hen, Hsd, Hln, HC⟩ := H
  have hz := HC c hl
  rw [fu_at] at hz
  obtain ⟨c1, c2, c3, c4, c5, c6, c7, c8⟩ := hz
  exact ⟨(cs_sR H0 (fun t q => by unfold cs_T at q; omega)), (kL HL (hp_I_sR ..) (fun _ _ => hp_I_sR ..)), (kN Hn (le_dy (le_sR (by omega))) (se_sR (by omega))), (hR_of Hsu), (hR_of Hsn), (hR_of Hsg), (hR_of Hse), (kpg Hpg (se_sR (by omega))), (kmd Hmd (se_sR (by omega))), (ken Hen (se_sR (by omega))), (ksd Hsd (le_dy (le_sR (by omega))) (se_sR (by omega))), (kln Hln (le_dy (le_sR (by omega))) (se_sR (by omega))), (kCs1 HC (le_dy (le_sR (by omega))) (fun b hb hz => se_sR (by omega)) ⟨(hR_of c1), (hR_of c2), (hR_of c3), (hR_of c4), (Or.inl ⟨rfl, by rw [hp_R_sR, if_pos ⟨rfl, rfl⟩]⟩), (hR_of c6), (fun f hf => kP (c7 f hf) (se_sR (by omega))), (kw c8 (le_dy (le_sR (by omega))) (hp_I_sR ..) (fun _ => by rw [hp_R_sR, if_neg (by omega)]))⟩)⟩
theorem wp_mo {L : Nat} {n : List ab_M} {su : Bool} {sn : Int32} {sg : Bool} {se : Int32} {pg : Nat → Nat → Int32} {md : Nat → Nat → Nat} {en : Nat → Nat → Int32} {sd : Nat → Option ab_M} {ln : Nat → List ab_M} {C : Nat → ab_C} {h : ha_H} {c : Nat} {up : Bool} {nw nu : Int32} {op : Option ab_M} {si : Int32} {cp : Nat → ab_P} {wr : List ab_W} {f : Nat} {mo : Nat} {ti : Int32} {re lo : Bool} {ps : Nat → Int32} (H : CV L n su sn sg se pg md en sd ln (fu C c (up, nw, nu, op, si, fu cp f (mo, ti, re, lo, ps), wr)) h) (hl : c < 3) (hf : f < 4) (v : Nat) (hv : v ≤ 2) : CV L n su sn sg se pg md en sd ln (fu C c (up, nw, nu, op, si, fu cp f (v, ti, re, lo, ps), wr)) (hp_sI h (32 + 11 * c + 2 * f) 1 (nI v)) := by
  obtain ⟨H0, HL, Hn, Hsu, Hsn, Hsg, Hse, Hpg, Hmd, Hen, Hsd, Hln, HC⟩ := H
  have hz := HC c hl
  rw [fu_at] at hz
  obtain ⟨c1, c2, c3, c4, c5, c6, c7, c8⟩ := hz
  replace c7 : ∀ b, b < 4 → cv_P (32 + 11 * c + 2 * b) (fu cp f (mo, ti, re, lo, ps) b) h := c7
  exact ⟨(cs_sI H0), (kL HL (by rw [hp_I_sI, if_neg (by omega)]) (fun b hb => by rw [hp_I_sI, if_neg (by omega)])), (kN Hn (le_dy (le_sI (by omega))) (se_sI (by omega))), (by rw [hp_I_sI, if_neg (by omega)]; exact Hsu), (by rw [hp_I_sI, if_neg (by omega)]; exact Hsn), (by rw [hp_I_sI, if_neg (by omega)]; exact Hsg), (by rw [hp_I_sI, if_neg (by omega)]; exact Hse), (kpg Hpg (se_sI (by omega))), (kmd Hmd (se_sI (by omega))), (ken Hen (se_sI (by omega))), (ksd Hsd (le_dy (le_sI (by omega))) (se_sI (by omega))), (kln Hln (le_dy (le_sI (by omega))) (se_sI (by omega))), (kCs1 HC (le_dy (le_sI (by omega))) (fun b hb hz => se_sI (by omega)) ⟨(by rw [hp_I_sI, if_neg (by omega)]; exact c1), (by rw [hp_I_sI, if_neg (by omega)]; exact c2), (by rw [hp_I_sI, if_neg (by omega)]; exact c3), (by rw [hp_I_sI, if_neg (by omega)]; exact c4), (co_dy c5 (le_dy (le_sI (by omega))) (hp_R_sI ..)), (by rw [hp_I_sI, if_neg (by omega)]; exact c6), (fun b hb => by
    by_cases e : b = f
    · subst e
      show cv_P _ (fu cp b (v, ti, re, lo, ps) b) _
      rw [fu_at]
      have hz2 := c7 b hb
      rw [fu_at] at hz2
      obtain ⟨p1, p2, p3, p4, p5⟩ := hz2
      exact ⟨⟨by rw [hp_I_sI, if_pos ⟨rfl, rfl⟩], hv⟩, (by rw [hp_I_sI, if_neg (by omega)]; exact p2), (by rw [hp_I_sI, if_neg (by omega)]; exact p3), (by rw [hp_I_sI, if_neg (by omega)]; exact p4), (fun p hp => by rw [hp_I_sI, if_neg (by omega)]; exact p5 p hp)⟩
    · show cv_P _ (fu cp f (v, ti, re, lo, ps) b) _
      rw [fu_ne _ _ e]
      have hz2 := c7 b hb
      rw [fu_ne _ _ e] at hz2
      exact kP hz2 (se_sI (by omega))), (kw c8 (le_dy (le_sI (by omega))) (by rw [hp_I_sI, if_neg (by omega)]) (fun _ => hp_R_sI ..))⟩)⟩
theorem wp_ti {L : Nat} {n : List ab_M} {su : Bool} {sn : Int32} {sg : Bool} {se : Int32} {pg : Nat → Nat → Int32} {md : Nat → Nat → Nat} {en : Nat → Nat → Int32} {sd : Nat → Option ab_M} {ln : Nat → List ab_M} {C : Nat → ab_C} {h : ha_H} {c : Nat} {up : Bool} {nw nu : Int32} {op : Option ab_M} {si : Int32} {cp : Nat → ab_P} {wr : List ab_W} {f : Nat} {mo : Nat} {ti : Int32} {re lo : Bool} {ps : Nat → Int32} (H : CV L n su sn sg se pg md en sd ln (fu C c (up, nw, nu, op, si, fu cp f (mo, ti, re, lo, ps), wr)) h) (hl : c < 3) (hf : f < 4) (v : Int32) : CV L n su sn sg se pg md en sd ln (fu C c (up, nw, nu, op, si, fu cp f (mo, v, re, lo, ps), wr)) (hp_sI h (32 + 11 * c + 2 * f) 2 v) := by
  obtain ⟨H0, HL, Hn, Hsu, Hsn, Hsg, Hse, Hpg, Hmd, Hen, Hsd, Hln, HC⟩ := H
  have hz := HC c hl
  rw [fu_at] at hz
  obtain ⟨c1, c2, c3, c4, c5, c6, c7, c8⟩ := hz
  replace c7 : ∀ b, b < 4 → cv_P (32 + 11 * c + 2 * b) (fu cp f (mo, ti, re, lo, ps) b) h := c7
  exact ⟨(cs_sI H0), (kL HL (by rw [hp_I_sI, if_neg (by omega)]) (fun b hb => by rw [hp_I_sI, if_neg (by omega)])), (kN Hn (le_dy (le_sI (by omega))) (se_sI (by omega))), (by rw [hp_I_sI, if_neg (by omega)]; exact Hsu), (by rw [hp_I_sI, if_neg (by omega)]; exact Hsn), (by rw [hp_I_sI, if_neg (by omega)]; exact Hsg), (by rw [hp_I_sI, if_neg (by omega)]; exact Hse), (kpg Hpg (se_sI (by omega))), (kmd Hmd (se_sI (by omega))), (ken Hen (se_sI (by omega))), (ksd Hsd (le_dy (le_sI (by omega))) (se_sI (by omega))), (kln Hln (le_dy (le_sI (by omega))) (se_sI (by omega))), (kCs1 HC (le_dy (le_sI (by omega))) (fun b hb hz => se_sI (by omega)) ⟨(by rw [hp_I_sI, if_neg (by omega)]; exact c1), (by rw [hp_I_sI, if_neg (by omega)]; exact c2), (by rw [hp_I_sI, if_neg (by omega)]; exact c3), (by rw [hp_I_sI, if_neg (by omega)]; exact c4), (co_dy c5 (le_dy (le_sI (by omega))) (hp_R_sI ..)), (by rw [hp_I_sI, if_neg (by omega)]; exact c6), (fun b hb => by
    by_cases e : b = f
    · subst e
      show cv_P _ (fu cp b (mo, v, re, lo, ps) b) _
      rw [fu_at]
      have hz2 := c7 b hb
      rw [fu_at] at hz2
      obtain ⟨p1, p2, p3, p4, p5⟩ := hz2
      exact ⟨⟨by rw [hp_I_sI, if_neg (by omega)]; exact p1.1, p1.2⟩, hI_set, (by rw [hp_I_sI, if_neg (by omega)]; exact p3), (by rw [hp_I_sI, if_neg (by omega)]; exact p4), (fun p hp => by rw [hp_I_sI, if_neg (by omega)]; exact p5 p hp)⟩
    · show cv_P _ (fu cp f (mo, v, re, lo, ps) b) _
      rw [fu_ne _ _ e]
      have hz2 := c7 b hb
      rw [fu_ne _ _ e] at hz2
      exact kP hz2 (se_sI (by omega))), (kw c8 (le_dy (le_sI (by omega))) (by rw [hp_I_sI, if_neg (by omega)]) (fun _ => hp_R_sI ..))⟩)⟩
theorem wp_re {L : Nat} {n : List ab_M} {su : Bool} {sn : Int32} {sg : Bool} {se : Int32} {pg : Nat → Nat → Int32} {md : Nat → Nat → Nat} {en : Nat → Nat → Int32} {sd : Nat → Option ab_M} {ln : Nat → List ab_M} {C : Nat → ab_C} {h : ha_H} {c : Nat} {up : Bool} {nw nu : Int32} {op : Option ab_M} {si : Int32} {cp : Nat → ab_P} {wr : List ab_W} {f : Nat} {mo : Nat} {ti : Int32} {re lo : Bool} {ps : Nat → Int32} (H : CV L n su sn sg se pg md en sd ln (fu C c (up, nw, nu, op, si, fu cp f (mo, ti, re, lo, ps), wr)) h) (hl : c < 3) (hf : f < 4) (bb : Bool) : CV L n su sn sg se pg md en sd ln (fu C c (up, nw, nu, op, si, fu cp f (mo, ti, bb, lo, ps), wr)) (hp_sI h (32 + 11 * c + 2 * f) 3 (m_bi bb)) := by
  obtain ⟨H0, HL, Hn, Hsu, Hsn, Hsg, Hse, Hpg, Hmd, Hen, Hsd, Hln, HC⟩ := H
  have hz := HC c hl
  rw [fu_at] at hz
  obtain ⟨c1, c2, c3, c4, c5, c6, c7, c8⟩ := hz
  replace c7 : ∀ b, b < 4 → cv_P (32 + 11 * c + 2 * b) (fu cp f (mo, ti, re, lo, ps) b) h := c7
  exact ⟨(cs_sI H0), (kL HL (by rw [hp_I_sI, if_neg (by omega)]) (fun b hb => by rw [hp_I_sI, if_neg (by omega)])), (kN Hn (le_dy (le_sI (by omega))) (se_sI (by omega))), (by rw [hp_I_sI, if_neg (by omega)]; exact Hsu), (by rw [hp_I_sI, if_neg (by omega)]; exact Hsn), (by rw [hp_I_sI, if_neg (by omega)]; exact Hsg), (by rw [hp_I_sI, if_neg (by omega)]; exact Hse), (kpg Hpg (se_sI (by omega))), (kmd Hmd (se_sI (by omega))), (ken Hen (se_sI (by omega))), (ksd Hsd (le_dy (le_sI (by omega))) (se_sI (by omega))), (kln Hln (le_dy (le_sI (by omega))) (se_sI (by omega))), (kCs1 HC (le_dy (le_sI (by omega))) (fun b hb hz => se_sI (by omega)) ⟨(by rw [hp_I_sI, if_neg (by omega)]; exact c1), (by rw [hp_I_sI, if_neg (by omega)]; exact c2), (by rw [hp_I_sI, if_neg (by omega)]; exact c3), (by rw [hp_I_sI, if_neg (by omega)]; exact c4), (co_dy c5 (le_dy (le_sI (by omega))) (hp_R_sI ..)), (by rw [hp_I_sI, if_neg (by omega)]; exact c6), (fun b hb => by
    by_cases e : b = f
    · subst e
      show cv_P _ (fu cp b (mo, ti, bb, lo, ps) b) _
      rw [fu_at]
      have hz2 := c7 b hb
      rw [fu_at] at hz2
      obtain ⟨p1, p2, p3, p4, p5⟩ := hz2
      exact ⟨⟨by rw [hp_I_sI, if_neg (by omega)]; exact p1.1, p1.2⟩, (by rw [hp_I_sI, if_neg (by omega)]; exact p2), hI_set, (by rw [hp_I_sI, if_neg (by omega)]; exact p4), (fun p hp => by rw [hp_I_sI, if_neg (by omega)]; exact p5 p hp)⟩
    · show cv_P _ (fu cp f (mo, ti, bb, lo, ps) b) _
      rw [fu_ne _ _ e]
      have hz2 := c7 b hb
      rw [fu_ne _ _ e] at hz2
      exact kP hz2 (se_sI (by omega))), (kw c8 (le_dy (le_sI (by omega))) (by rw [hp_I_sI, if_neg (by omega)]) (fun _ => hp_R_sI ..))⟩)⟩
theorem wp_lo {L : Nat} {n : List ab_M} {su : Bool} {sn : Int32} {sg : Bool} {se : Int32} {pg : Nat → Nat → Int32} {md : Nat → Nat → Nat} {en : Nat → Nat → Int32} {sd : Nat → Option ab_M} {ln : Nat → List ab_M} {C : Nat → ab_C} {h : ha_H} {c : Nat} {up : Bool} {nw nu : Int32} {op : Option ab_M} {si : Int32} {cp : Nat → ab_P} {wr : List ab_W} {f : Nat} {mo : Nat} {ti : Int32} {re lo : Bool} {ps : Nat → Int32} (H : CV L n su sn sg se pg md en sd ln (fu C c (up, nw, nu, op, si, fu cp f (mo, ti, re, lo, ps), wr)) h) (hl : c < 3) (hf : f < 4) (bb : Bool) : CV L n su sn sg se pg md en sd ln (fu C c (up, nw, nu, op, si, fu cp f (mo, ti, re, bb, ps), wr)) (hp_sI h (32 + 11 * c + 2 * f) 4 (m_bi bb)) := by
  obtain ⟨H0, HL, Hn, Hsu, Hsn, Hsg, Hse, Hpg, Hmd, Hen, Hsd, Hln, HC⟩ := H
  have hz := HC c hl
  rw [fu_at] at hz
  obtain ⟨c1, c2, c3, c4, c5, c6, c7, c8⟩ := hz
  replace c7 : ∀ b, b < 4 → cv_P (32 + 11 * c + 2 * b) (fu cp f (mo, ti, re, lo, ps) b) h := c7
  exact ⟨(cs_sI H0), (kL HL (by rw [hp_I_sI, if_neg (by omega)]) (fun b hb => by rw [hp_I_sI, if_neg (by omega)])), (kN Hn (le_dy (le_sI (by omega))) (se_sI (by omega))), (by rw [hp_I_sI, if_neg (by omega)]; exact Hsu), (by rw [hp_I_sI, if_neg (by omega)]; exact Hsn), (by rw [hp_I_sI, if_neg (by omega)]; exact Hsg), (by rw [hp_I_sI, if_neg (by omega)]; exact Hse), (kpg Hpg (se_sI (by omega))), (kmd Hmd (se_sI (by omega))), (ken Hen (se_sI (by omega))), (ksd Hsd (le_dy (le_sI (by omega))) (se_sI (by omega))), (kln Hln (le_dy (le_sI (by omega))) (se_sI (by omega))), (kCs1 HC (le_dy (le_sI (by omega))) (fun b hb hz => se_sI (by omega)) ⟨(by rw [hp_I_sI, if_neg (by omega)]; exact c1), (by rw [hp_I_sI, if_neg (by omega)]; exact c2), (by rw [hp_I_sI, if_neg (by omega)]; exact c3), (by rw [hp_I_sI, if_neg (by omega)]; exact c4), (co_dy c5 (le_dy (le_sI (by omega))) (hp_R_sI ..)), (by rw [hp_I_sI, if_neg (by omega)]; exact c6), (fun b hb => by
    by_cases e : b = f
    · subst e
      show cv_P _ (fu cp b (mo, ti, re, bb, ps) b) _
      rw [fu_at]
      have hz2 := c7 b hb
      rw [fu_at] at hz2
      obtain ⟨p1, p2, p3, p4, p5⟩ := hz2
      exact ⟨⟨by rw [hp_I_sI, if_neg (by omega)]; exact p1.1, p1.2⟩, (by rw [hp_I_sI, if_neg (by omega)]; exact p2), (by rw [hp_I_sI, if_neg (by omega)]; exact p3), hI_set, (fun p hp => by rw [hp_I_sI, if_neg (by omega)]; exact p5 p hp)⟩
    · show cv_P _ (fu cp f (mo, ti, re, bb, ps) b) _
      rw [fu_ne _ _ e]
      have hz2 := c7 b hb
      rw [fu_ne _ _ e] at hz2
      exact kP hz2 (se_sI (by omega))), (kw c8 (le_dy (le_sI (by omega))) (by rw [hp_I_sI, if_neg (by omega)]) (fun _ => hp_R_sI ..))⟩)⟩
theorem wp_ps {L : Nat} {n : List ab_M} {su : Bool} {sn : Int32} {sg : Bool} {se : Int32} {pg : Nat → Nat → Int32} {md : Nat → Nat → Nat} {en : Nat → Nat → Int32} {sd : Nat → Option ab_M} {ln : Nat → List ab_M} {C : Nat → ab_C} {h : ha_H} {c : Nat} {up : Bool} {nw nu : Int32} {op : Option ab_M} {si : Int32} {cp : Nat → ab_P} {wr : List ab_W} {f : Nat} {mo : Nat} {ti : Int32} {re lo : Bool} {ps : Nat → Int32} (H : CV L n su sn sg se pg md en sd ln (fu C c (up, nw, nu, op, si, fu cp f (mo, ti, re, lo, ps), wr)) h) (hl : c < 3) (hf : f < 4) {p : Nat} (hp : p < 4) (v : Int32) : CV L n su sn sg se pg md en sd ln (fu C c (up, nw, nu, op, si, fu cp f (mo, ti, re, lo, fu ps p v), wr)) (hp_sI h (33 + 11 * c + 2 * f) p v) := by
  obtain ⟨H0, HL, Hn, Hsu, Hsn, Hsg, Hse, Hpg, Hmd, Hen, Hsd, Hln, HC⟩ := H
  have hz := HC c hl
  rw [fu_at] at hz
  obtain ⟨c1, c2, c3, c4, c5, c6, c7, c8⟩ := hz
  replace c7 : ∀ b, b < 4 → cv_P (32 + 11 * c + 2 * b) (fu cp f (mo, ti, re, lo, ps) b) h := c7
  exact ⟨(cs_sI H0), (kL HL (by rw [hp_I_sI, if_neg (by omega)]) (fun b hb => by rw [hp_I_sI, if_neg (by omega)])), (kN Hn (le_dy (le_sI (by omega))) (se_sI (by omega))), (by rw [hp_I_sI, if_neg (by omega)]; exact Hsu), (by rw [hp_I_sI, if_neg (by omega)]; exact Hsn), (by rw [hp_I_sI, if_neg (by omega)]; exact Hsg), (by rw [hp_I_sI, if_neg (by omega)]; exact Hse), (kpg Hpg (se_sI (by omega))), (kmd Hmd (se_sI (by omega))), (ken Hen (se_sI (by omega))), (ksd Hsd (le_dy (le_sI (by omega))) (se_sI (by omega))), (kln Hln (le_dy (le_sI (by omega))) (se_sI (by omega))), (kCs1 HC (le_dy (le_sI (by omega))) (fun b hb hz => se_sI (by omega)) ⟨(by rw [hp_I_sI, if_neg (by omega)]; exact c1), (by rw [hp_I_sI, if_neg (by omega)]; exact c2), (by rw [hp_I_sI, if_neg (by omega)]; exact c3), (by rw [hp_I_sI, if_neg (by omega)]; exact c4), (co_dy c5 (le_dy (le_sI (by omega))) (hp_R_sI ..)), (by rw [hp_I_sI, if_neg (by omega)]; exact c6), (fun b hb => by
    by_cases e : b = f
    · subst e
      show cv_P _ (fu cp b (mo, ti, re, lo, fu ps p v) b) _
      rw [fu_at]
      have hz2 := c7 b hb
      rw [fu_at] at hz2
      obtain ⟨p1, p2, p3, p4, p5⟩ := hz2
      exact ⟨⟨by rw [hp_I_sI, if_neg (by omega)]; exact p1.1, p1.2⟩, (by rw [hp_I_sI, if_neg (by omega)]; exact p2), (by rw [hp_I_sI, if_neg (by omega)]; exact p3), (by rw [hp_I_sI, if_neg (by omega)]; exact p4), (fun p' hp' => by
        show hp_I (hp_sI h (33 + 11 * c + 2 * b) p v) (32 + 11 * c + 2 * b + 1) p' = fu ps p v p'
        rw [hp_I_sI]
        by_cases e2 : p' = p
        · subst e2
          rw [if_pos ⟨by omega, rfl⟩, fu_at]
        · rw [if_neg (fun q => e2 q.2), fu_ne _ _ e2]
          exact p5 p' hp')⟩
    · show cv_P _ (fu cp f (mo, ti, re, lo, fu ps p v) b) _
      rw [fu_ne _ _ e]
      have hz2 := c7 b hb
      rw [fu_ne _ _ e] at hz2
      exact kP hz2 (se_sI (by omega))), (kw c8 (le_dy (le_sI (by omega))) (by rw [hp_I_sI, if_neg (by omega)]) (fun _ => hp_R_sI ..))⟩)⟩
