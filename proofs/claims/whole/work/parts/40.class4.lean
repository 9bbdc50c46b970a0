theorem ww_any {L : Nat} {n : List ab_M} {su : Bool} {sn : Int32} {sg : Bool} {se : Int32} {pg : Nat → Nat → Int32} {md : Nat → Nat → Nat} {en : Nat → Nat → Int32} {sd : Nat → Option ab_M} {ln : Nat → List ab_M} {C : Nat → ab_C} {c : Nat} {up : Bool} {nw nu : Int32} {op : Option ab_M} {si : Int32} {cp : Nat → ab_P} {wr : List ab_W} {h h' : ha_H} (H : CV L n su sn sg se pg md en sd ln (fu C c (up, nw, nu, op, si, cp, wr)) h) (hl : c < 3) {wr' : List ab_W} (hn : hp_n h' = hp_n h) (hS : ∀ x, hp_S h' x = hp_S h x) (hI : ∀ x y, ¬ (x = 29 + 11 * c ∧ y = 5) → hp_I h' x y = hp_I h x y) (hR : ∀ x y, ¬ x = 31 + 11 * c → hp_R h' x y = hp_R h x y) (q : cv_w c wr' h') : CV L n su sn sg se pg md en sd ln (fu C c (up, nw, nu, op, si, cp, wr')) h' := by
  obtain ⟨H0, HL, Hn, Hsu, Hsn, Hsg, Hse, Hpg, Hmd, Hen, Hsd, Hln, HC⟩ := H
  have d : hp_dy h h' := ⟨by omega, fun x h1 _ => ⟨fun y => hI x y (by omega), fun y => hR x y (by omega), hS x⟩⟩
  have se' : ∀ lo hi, (hi ≤ 29 + 11 * c ∨ 40 + 11 * c ≤ lo) → se_ h h' lo hi := fun lo hi hq x h1 h2 => ⟨fun y => hI x y (by omega), fun y => hR x y (by omega)⟩
  have hz := HC c hl
  rw [fu_at] at hz
  obtain ⟨c1, c2, c3, c4, c5, c6, c7, c8⟩ := hz
  refine ⟨⟨by rw [hn]; exact H0.1, cs_HS hS H0.2.1, fun x y t z => by rw [hR x y (by unfold cs_T at z; omega)]; exact H0.2.2 x y t z⟩, kL HL (hI _ _ (by omega)) (fun c _ => hI _ _ (by omega)), kN Hn d (se' _ _ (by omega)), by rw [hI _ _ (by omega)]; exact Hsu, by rw [hI _ _ (by omega)]; exact Hsn, by rw [hI _ _ (by omega)]; exact Hsg, by rw [hI _ _ (by omega)]; exact Hse, kpg Hpg (se' _ _ (by omega)), kmd Hmd (se' _ _ (by omega)), ken Hen (se' _ _ (by omega)), ksd Hsd d (se' _ _ (by omega)), kln Hln d (se' _ _ (by omega)), kCs1 HC d (fun b hb hz => se' _ _ (by omega)) ⟨by rw [hI _ _ (by omega)]; exact c1, by rw [hI _ _ (by omega)]; exact c2, by rw [hI _ _ (by omega)]; exact c3, by rw [hI _ _ (by omega)]; exact c4, co_dy c5 d (hR _ _ (by omega)), by rw [hI _ _ (by omega)]; exact c6, fun f hf => kP (c7 f hf) (fun x h1 h2 => ⟨fun y => hI x y (by omega), fun y => hR x y (by omega)⟩), q⟩⟩
theorem ww_l {L : Nat} {n : List ab_M} {su : Bool} {sn : Int32} {sg : Bool} {se : Int32} {pg : Nat → Nat → Int32} {md : Nat → Nat → Nat} {en : Nat → Nat → Int32} {sd : Nat → Option ab_M} {ln : Nat → List ab_M} {C : Nat → ab_C} {c : Nat} {up : Bool} {nw nu : Int32} {op : Option ab_M} {si : Int32} {cp : Nat → ab_P} {wr : List ab_W} {h : ha_H} (H : CV L n su sn sg se pg md en sd ln (fu C c (up, nw, nu, op, si, cp, wr)) h) (hl : c < 3) (v : Option Nat) : CV L n su sn sg se pg md en sd ln (fu C c (up, nw, nu, op, si, cp, wr)) (hp_sR h (31 + 11 * c) wr.length v) := by
  have hw := (cv_C1 H hl).2.2.2.2.2.2.2
  exact ww_any H hl rfl (fun _ => rfl) (fun x y _ => hp_I_sR ..) (fun x y hx => by rw [hp_R_sR, if_neg (fun q => hx q.1)]) ⟨⟨hR_of hw.1.1, hw.1.2⟩, fun k w q => by
    obtain ⟨i, h1, h2⟩ := hw.2 k w q
    have : k < wr.length := (List.getElem?_eq_some_iff.mp q).1
    exact ⟨i, rR_sR2 (by omega) h1, cw_dy h2 (le_dy (le_sR (by omega)))⟩⟩
theorem ww_s {L : Nat} {n : List ab_M} {su : Bool} {sn : Int32} {sg : Bool} {se : Int32} {pg : Nat → Nat → Int32} {md : Nat → Nat → Nat} {en : Nat → Nat → Int32} {sd : Nat → Option ab_M} {ln : Nat → List ab_M} {C : Nat → ab_C} {c : Nat} {up : Bool} {nw nu : Int32} {op : Option ab_M} {si : Int32} {cp : Nat → ab_P} {wr : List ab_W} {h : ha_H} (H : CV L n su sn sg se pg md en sd ln (fu C c (up, nw, nu, op, si, cp, wr)) h) (hl : c < 3) {k i : Nat} {w : ab_W} (hk : k < wr.length) (hm : cv_W h i w) : CV L n su sn sg se pg md en sd ln (fu C c (up, nw, nu, op, si, cp, wr.set k w)) (hp_sR h (31 + 11 * c) k (some i)) := by
  have hw := (cv_C1 H hl).2.2.2.2.2.2.2
  exact ww_any H hl rfl (fun _ => rfl) (fun x y _ => hp_I_sR ..) (fun x y hx => by rw [hp_R_sR, if_neg (fun q => hx q.1)]) ⟨⟨by rw [List.length_set]; exact hR_of hw.1.1, by rw [List.length_set]; exact hw.1.2⟩, fun k' w' q => by
    by_cases z : k' = k
    · subst z
      rw [List.getElem?_set_self hk] at q
      cases q
      exact ⟨i, rR_set, cw_dy hm (le_dy (le_sR (by omega)))⟩
    · rw [List.getElem?_set_ne (Ne.symm z)] at q
      obtain ⟨i, h1, h2⟩ := hw.2 k' w' q
      exact ⟨i, rR_sR2 z h1, cw_dy h2 (le_dy (le_sR (by omega)))⟩⟩
theorem ww_c {L : Nat} {n : List ab_M} {su : Bool} {sn : Int32} {sg : Bool} {se : Int32} {pg : Nat → Nat → Int32} {md : Nat → Nat → Nat} {en : Nat → Nat → Int32} {sd : Nat → Option ab_M} {ln : Nat → List ab_M} {C : Nat → ab_C} {c : Nat} {up : Bool} {nw nu : Int32} {op : Option ab_M} {si : Int32} {cp : Nat → ab_P} {wr : List ab_W} {h : ha_H} (H : CV L n su sn sg se pg md en sd ln (fu C c (up, nw, nu, op, si, cp, wr)) h) (hl : c < 3) {i : Nat} {w : ab_W} (h6 : wr.length < 6) (e : hp_R h (31 + 11 * c) wr.length = some i) (hm : cv_W h i w) : CV L n su sn sg se pg md en sd ln (fu C c (up, nw, nu, op, si, cp, wr ++ [w])) (hp_sI h (29 + 11 * c) 5 (nI (wr.length + 1))) := by
  have hw := (cv_C1 H hl).2.2.2.2.2.2.2
  exact ww_any H hl rfl (fun _ => rfl) (fun x y hx => by rw [hp_I_sI, if_neg hx]) (fun x y _ => hp_R_sI ..) ⟨⟨by rw [List.length_append]; exact hI_set, by rw [List.length_append]; exact h6⟩, fun k w' q => by
    by_cases z : k < wr.length
    · rw [List.getElem?_append_left z] at q
      obtain ⟨i, h1, h2⟩ := hw.2 k w' q
      exact ⟨i, rR_sI h1, cw_dy h2 (le_dy (le_sI (by omega)))⟩
    · rw [List.getElem?_append_right (by omega)] at q
      have hk : k - wr.length < 1 := (List.getElem?_eq_some_iff.mp q).1
      have : k = wr.length := by omega
      subst this
      rw [Nat.sub_self] at q
      cases q
      exact ⟨i, rR_sI e, cw_dy hm (le_dy (le_sI (by omega)))⟩⟩
def f_al (mo : Nat) (ti : Int32) (w : Nat) (t : Int32) : Bool := if mo < w then false else if ti ≤ t then false else true
theorem cK_allows (G : mt_G) (h : ha_H) {L : Nat} {n : List ab_M} {su : Bool} {sn : Int32} {sg : Bool} {se : Int32} {pg : Nat → Nat → Int32} {md : Nat → Nat → Nat} {en : Nat → Nat → Int32} {sd : Nat → Option ab_M} {ln : Nat → List ab_M} {C : Nat → ab_C} {c : Nat} {up : Bool} {nw nu : Int32} {op : Option ab_M} {si : Int32} {cp : Nat → ab_P} {wr : List ab_W} {f : Nat} {mo : Nat} {ti : Int32} {re lo : Bool} {ps : Nat → Int32} (hc : CV L n su sn sg se pg md en sd ln (fu C c (up, nw, nu, op, si, fu cp f (mo, ti, re, lo, ps), wr)) h) (hl : c < 3) (hf4 : f < 4) {w : Nat} (hw : w ≤ 2) (t : Int32) : rn_M G xK_allows (0, 0, 0) [.inr (some (32 + 11 * c + 2 * f)), .inl (nI w), .inl t] h (rn_i (fun r h' => r = m_bi (f_al mo ti w t) ∧ h = h')) := by
  have hm2 : mo ≤ 2 := (cv_P1 (cv_C1 hc hl) hf4).1.2
  refine rn_of (by decide +kernel) (Nat.le_of_ble_eq_true rfl) ?_
  show rn_W G xK_allows (0, 0, 0) 0 0 0 [some (.inr (some (32 + 11 * c + 2 * f))), some (.inl (nI w)), some (.inl t)] [] h _
  refine rw_aload_n (pc := 0) dK_allows_0 rfl ?_
  refine rw_getI (pc := 1) (x := nI mo) flK_15_K dK_allows_1 (cs_o hc (by omega) (by omega)) (cs_SK hc (by omega) (by omega)) (cv_P1 (cv_C1 hc (by omega)) (by omega)).1.1 ?_
  refine rw_iload_n (pc := 4) dK_allows_4 rfl ?_
  refine rw_icmplt (pc := 5) dK_allows_5 (tgt := 20) rfl (fun c1 => ?_) (fun c1 => ?_)
  · skip
    replace c1 : mo < w := (nI_ltI (a := mo) (b := w) (by omega) (by omega)).mp c1
    refine rw_iconst (pc := 20) (x := nI 0) dK_allows_20 (by decide) ?_
    exact rw_zret (pc := 21) dK_allows_21 rfl (Or.inl rfl) ⟨_, rfl, by unfold f_al; rw [if_pos c1]; rfl, rfl⟩
  · skip
    replace c1 : ¬ (mo < w) := fun qz => c1 ((nI_ltI (a := mo) (b := w) (by omega) (by omega)).mpr qz)
    refine rw_iload_n (pc := 8) dK_allows_8 rfl ?_
    refine rw_aload_n (pc := 9) dK_allows_9 rfl ?_
    refine rw_getI (pc := 10) (x := ti) flK_19_K dK_allows_10 (cs_o hc (by omega) (by omega)) (cs_SK hc (by omega) (by omega)) (cv_P1 (cv_C1 hc (by omega)) (by omega)).2.1 ?_
    refine rw_icmpge (pc := 13) dK_allows_13 (tgt := 20) rfl (fun c2 => ?_) (fun c2 => ?_)
    · skip
      refine rw_iconst (pc := 20) (x := nI 0) dK_allows_20 (by decide) ?_
      exact rw_zret (pc := 21) dK_allows_21 rfl (Or.inl rfl) ⟨_, rfl, by unfold f_al; rw [if_neg c1, if_pos c2]; rfl, rfl⟩
    · skip
      refine rw_iconst (pc := 16) (x := nI 1) dK_allows_16 (by decide) ?_
      refine rw_goto (pc := 17) dK_allows_17 (tgt := 21) rfl ?_
      exact rw_zret (pc := 21) dK_allows_21 rfl (Or.inr rfl) ⟨_, rfl, by unfold f_al; rw [if_neg c1, if_neg c2]; rfl, rfl⟩
theorem cK_takeLostMark (G : mt_G) (h : ha_H) {L : Nat} {n : List ab_M} {su : Bool} {sn : Int32} {sg : Bool} {se : Int32} {pg : Nat → Nat → Int32} {md : Nat → Nat → Nat} {en : Nat → Nat → Int32} {sd : Nat → Option ab_M} {ln : Nat → List ab_M} {C : Nat → ab_C} {c : Nat} {up : Bool} {nw nu : Int32} {op : Option ab_M} {si : Int32} {cp : Nat → ab_P} {wr : List ab_W} {f : Nat} {mo : Nat} {ti : Int32} {re lo : Bool} {ps : Nat → Int32} (hc : CV L n su sn sg se pg md en sd ln (fu C c (up, nw, nu, op, si, fu cp f (mo, ti, re, lo, ps), wr)) h) (hl : c < 3) (hf4 : f < 4) : rn_M G xK_takeLostMark (0, 0, 0) [.inr (some (32 + 11 * c + 2 * f))] h (rn_i (fun r h' => r = m_bi lo ∧ CV L n su sn sg se pg md en sd ln (fu C c (up, nw, nu, op, si, fu cp f (mo, ti, re, false, ps), wr)) h' ∧ hp_le h h')) := by
  have hf := le_rf h
  refine rn_of (by decide +kernel) (Nat.le_of_ble_eq_true rfl) ?_
  show rn_W G xK_takeLostMark (0, 0, 0) 0 0 0 [some (.inr (some (32 + 11 * c + 2 * f))), none] [] h _
  refine rw_aload_n (pc := 0) dK_takeLostMark_0 rfl ?_
  refine rw_getI (pc := 1) (x := m_bi lo) flK_26_K dK_takeLostMark_1 (cs_o hc (by omega) (by omega)) (cs_SK hc (by omega) (by omega)) (cv_P1 (cv_C1 hc (by omega)) (by omega)).2.2.2.1 ?_
  refine rw_istore_n (pc := 4) (L' := [some (.inr (some (32 + 11 * c + 2 * f))), some (.inl (m_bi lo))]) dK_takeLostMark_4 (by decide) rfl ?_
  refine rw_aload_n (pc := 5) dK_takeLostMark_5 rfl ?_
  refine rw_iconst (pc := 6) (x := nI 0) dK_takeLostMark_6 (by decide) ?_
  refine rw_putZ (pc := 7) pfK_26_K dK_takeLostMark_7 (cs_o hc (by omega) (by omega)) (cs_SK hc (by omega) (by omega)) (Or.inl rfl) ?_
  replace hc := wp_lo hc (by omega) (by omega) false
  replace hf := le_tr hf (le_sI (h := h) (A := (32 + 11 * c + 2 * f)) (k := 4) (v := (m_bi false)) (by omega))
  show rn_W G xK_takeLostMark (0, 0, 0) 0 0 10 [some (.inr (some (32 + 11 * c + 2 * f))), some (.inl (m_bi lo))] [] (hp_sI h (32 + 11 * c + 2 * f) 4 (m_bi false)) _
  generalize hp_sI h (32 + 11 * c + 2 * f) 4 (m_bi false) = g1 at hc hf ⊢
  refine rw_iload_n (pc := 10) dK_takeLostMark_10 rfl ?_
  exact rw_zret (pc := 11) dK_takeLostMark_11 rfl (m_bi01 _) ⟨_, rfl, rfl, hc, hf⟩
def f_z4 (ps : Nat → Int32) (v : Int32) : Nat → Int32 := fu (fu (fu (fu ps 0 v) 1 v) 2 v) 3 v
theorem wp_f4 {L : Nat} {n : List ab_M} {su : Bool} {sn : Int32} {sg : Bool} {se : Int32} {pg : Nat → Nat → Int32} {md : Nat → Nat → Nat} {en : Nat → Nat → Int32} {sd : Nat → Option ab_M} {ln : Nat → List ab_M} {C : Nat → ab_C} {c : Nat} {up : Bool} {nw nu : Int32} {op : Option ab_M} {si : Int32} {cp : Nat → ab_P} {wr : List ab_W} {f : Nat} {mo : Nat} {ti : Int32} {re lo : Bool} {ps : Nat → Int32} {h : ha_H} (H : CV L n su sn sg se pg md en sd ln (fu C c (up, nw, nu, op, si, fu cp f (mo, ti, re, lo, ps), wr)) h) (hl : c < 3) (hf : f < 4) (v : Int32) : CV L n su sn sg se pg md en sd ln (fu C c (up, nw, nu, op, si, fu cp f (mo, ti, re, lo, f_z4 ps v), wr)) (hp_f4 h (33 + 11 * c + 2 * f) v) := wp_ps (wp_ps (wp_ps (wp_ps H hl hf (by omega) v) hl hf (by omega) v) hl hf (by omega) v) hl hf (by omega) v
theorem le_f4 {h : ha_H} {a : Nat} {v : Int32} (hA : a < 62) : hp_le h (hp_f4 h a v) := le_tr (le_tr (le_tr (le_sI hA) (le_sI hA)) (le_sI hA)) (le_sI hA)
theorem cK_forget (G : mt_G) (h : ha_H) {L : Nat} {n : List ab_M} {su : Bool} {sn : Int32} {sg : Bool} {se : Int32} {pg : Nat → Nat → Int32} {md : Nat → Nat → Nat} {en : Nat → Nat → Int32} {sd : Nat → Option ab_M} {ln : Nat → List ab_M} {C : Nat → ab_C} {c : Nat} {up : Bool} {nw nu : Int32} {op : Option ab_M} {si : Int32} {cp : Nat → ab_P} {wr : List ab_W} {f : Nat} {mo : Nat} {ti : Int32} {re lo : Bool} {ps : Nat → Int32} (hc : CV L n su sn sg se pg md en sd ln (fu C c (up, nw, nu, op, si, fu cp f (mo, ti, re, lo, ps), wr)) h) (hl : c < 3) (hf4 : f < 4) : rn_M G xK_forget (1, 0, 0) [.inr (some (32 + 11 * c + 2 * f))] h (rn_v (fun h' => CV L n su sn sg se pg md en sd ln (fu C c (up, nw, nu, op, si, fu cp f (0, nI 0, false, false, f_z4 ps (nI 0)), wr)) h' ∧ hp_le h h')) := by
  have hf := le_rf h
  refine rn_of (by decide +kernel) (Nat.le_of_ble_eq_true rfl) ?_
  show rn_W G xK_forget (1, 0, 0) 0 0 0 [some (.inr (some (32 + 11 * c + 2 * f)))] [] h _
  refine rw_aload_n (pc := 0) dK_forget_0 rfl ?_
  refine rw_getR (pc := 1) (x := some (33 + 11 * c + 2 * f)) flK_9_K dK_forget_1 (cs_o hc (by omega) (by omega)) (cs_SK hc (by omega) (by omega)) (cr_K hc (by omega) (by omega)) ?_
  refine rw_iconst (pc := 4) (x := nI 0) dK_forget_4 (by decide) ?_
  refine rw_sv (pc := 5) (z' := (0, 0, 0)) (rc' := 0) (rs' := 0) (av := [.inr (some (33 + 11 * c + 2 * f)), .inl (nI 0)]) (st := []) mlK_29 msA_fill dK_forget_5 (cA_fill G _ (cs_o hc (by omega) (by omega)) (cs_Sk hc hl hf4) _) rfl rfl (Nat.le_of_ble_eq_true rfl) (by decide) rfl rfl (fun h1 q1 => ?_)
  obtain rfl := q1
  replace hc := wp_f4 hc hl hf4 (nI 0)
  replace hf := le_tr hf (le_f4 (h := h) (a := 33 + 11 * c + 2 * f) (v := nI 0) (by omega))
  generalize hp_f4 h (33 + 11 * c + 2 * f) (nI 0) = g0 at hc hf ⊢
  refine rw_aload_n (pc := 8) dK_forget_8 rfl ?_
  refine rw_iconst (pc := 9) (x := nI 0) dK_forget_9 (by decide) ?_
  refine rw_putI (pc := 10) pfK_15_K dK_forget_10 (cs_o hc (by omega) (by omega)) (cs_SK hc (by omega) (by omega)) ?_
  replace hc := wp_mo hc (by omega) (by omega) 0 (by omega)
  replace hf := le_tr hf (le_sI (h := g0) (A := (32 + 11 * c + 2 * f)) (k := 1) (v := (nI 0)) (by omega))
  generalize hp_sI g0 (32 + 11 * c + 2 * f) 1 (nI 0) = g2 at hc hf ⊢
  refine rw_aload_n (pc := 13) dK_forget_13 rfl ?_
  refine rw_iconst (pc := 14) (x := nI 0) dK_forget_14 (by decide) ?_
  refine rw_putI (pc := 15) pfK_19_K dK_forget_15 (cs_o hc (by omega) (by omega)) (cs_SK hc (by omega) (by omega)) ?_
  replace hc := wp_ti hc (by omega) (by omega) (nI 0)
  replace hf := le_tr hf (le_sI (h := g2) (A := (32 + 11 * c + 2 * f)) (k := 2) (v := (nI 0)) (by omega))
  generalize hp_sI g2 (32 + 11 * c + 2 * f) 2 (nI 0) = g3 at hc hf ⊢
  refine rw_aload_n (pc := 18) dK_forget_18 rfl ?_
  refine rw_iconst (pc := 19) (x := nI 0) dK_forget_19 (by decide) ?_
  refine rw_putZ (pc := 20) pfK_22_K dK_forget_20 (cs_o hc (by omega) (by omega)) (cs_SK hc (by omega) (by omega)) (Or.inl rfl) ?_
  replace hc := wp_re hc (by omega) (by omega) false
  replace hf := le_tr hf (le_sI (h := g3) (A := (32 + 11 * c + 2 * f)) (k := 3) (v := (m_bi false)) (by omega))
  show rn_W G xK_forget (1, 0, 0) 0 0 23 [some (.inr (some (32 + 11 * c + 2 * f)))] [] (hp_sI g3 (32 + 11 * c + 2 * f) 3 (m_bi false)) _
  generalize hp_sI g3 (32 + 11 * c + 2 * f) 3 (m_bi false) = g4 at hc hf ⊢
  refine rw_aload_n (pc := 23) dK_forget_23 rfl ?_
  refine rw_iconst (pc := 24) (x := nI 0) dK_forget_24 (by decide) ?_
  refine rw_putZ (pc := 25) pfK_26_K dK_forget_25 (cs_o hc (by omega) (by omega)) (cs_SK hc (by omega) (by omega)) (Or.inl rfl) ?_
  replace hc := wp_lo hc (by omega) (by omega) false
  replace hf := le_tr hf (le_sI (h := g4) (A := (32 + 11 * c + 2 * f)) (k := 4) (v := (m_bi false)) (by omega))
  show rn_W G xK_forget (1, 0, 0) 0 0 28 [some (.inr (some (32 + 11 * c + 2 * f)))] [] (hp_sI g4 (32 + 11 * c + 2 * f) 4 (m_bi false)) _
  generalize hp_sI g4 (32 + 11 * c + 2 * f) 4 (m_bi false) = g5 at hc hf ⊢
  exact rw_vret (pc := 28) dK_forget_28 rfl ⟨rfl, hc, hf⟩
def f_hw : List ab_W → Nat → Bool
  | [], _ => false
  | w :: l, f => if w.1 = f then true else f_hw l f
theorem wr_get {L : Nat} {n : List ab_M} {su : Bool} {sn : Int32} {sg : Bool} {se : Int32} {pg : Nat → Nat → Int32} {md : Nat → Nat → Nat} {en : Nat → Nat → Int32} {sd : Nat → Option ab_M} {ln : Nat → List ab_M} {C : Nat → ab_C} {c : Nat} {up : Bool} {nw nu : Int32} {op : Option ab_M} {si : Int32} {cp : Nat → ab_P} {wr : List ab_W} {h : ha_H} (H : CV L n su sn sg se pg md en sd ln (fu C c (up, nw, nu, op, si, cp, wr)) h) (hl : c < 3) {k : Nat} (hk : k < wr.length) : ∃ i, hp_R h (31 + 11 * c) k = some i ∧ cv_W h i (wr[k]'hk) := (cv_C1 H hl).2.2.2.2.2.2.2.2 k _ (List.getElem?_eq_getElem hk)
theorem cC_hasWritesToL (G : mt_G) (h : ha_H) {L : Nat} {n : List ab_M} {su : Bool} {sn : Int32} {sg : Bool} {se : Int32} {pg : Nat → Nat → Int32} {md : Nat → Nat → Nat} {en : Nat → Nat → Int32} {sd : Nat → Option ab_M} {ln : Nat → List ab_M} {C : Nat → ab_C} {c : Nat} {up : Bool} {nw nu : Int32} {op : Option ab_M} {si : Int32} {cp : Nat → ab_P} {wr : List ab_W} (hc : CV L n su sn sg se pg md en sd ln (fu C c (up, nw, nu, op, si, cp, wr)) h) (hl : c < 3) {f : Nat} (hf4 : f < 4) (d : Nat) : ∀ k, k ≤ wr.length → wr.length - k < d → rn_W G xC_hasWritesTo (0, 0, 0) 0 0 2 [some (.inr (some (29 + 11 * c))), some (.inl (nI f)), some (.inl (nI k))] [] h (rn_i (fun r h' => r = m_bi (f_hw (wr.drop k) f) ∧ h = h')) := by
  induction d with
  | zero => intro k hk hd; omega
  | succ d ih =>
    intro k hk hd
    have h6 : wr.length ≤ 6 := (cv_C1 hc hl).2.2.2.2.2.2.2.1.2
    refine rw_iload_n (pc := 2) dC_hasWritesTo_2 rfl ?_
    refine rw_aload_n (pc := 3) dC_hasWritesTo_3 rfl ?_
    refine rw_getI (pc := 4) (x := nI wr.length) flC_23_C dC_hasWritesTo_4 (cs_o hc (by omega) (by omega)) (cs_SC hc (by omega)) (cv_C1 hc (by omega)).2.2.2.2.2.2.2.1.1 ?_
    refine rw_icmpge (pc := 7) dC_hasWritesTo_7 (tgt := 31) rfl (fun c1 => ?_) (fun c1 => ?_)
    · skip
      replace c1 : wr.length ≤ k := (nI_leI (a := wr.length) (b := k) (by omega) (by omega)).mp c1
      refine rw_iconst (pc := 31) (x := nI 0) dC_hasWritesTo_31 (by decide) ?_
      exact rw_zret (pc := 32) dC_hasWritesTo_32 rfl (Or.inl rfl) ⟨_, rfl, by rw [List.drop_eq_nil_of_le (by omega)]; rfl, rfl⟩
    · skip
      replace c1 : ¬ (wr.length ≤ k) := fun qz => c1 ((nI_leI (a := wr.length) (b := k) (by omega) (by omega)).mpr qz)
      have hw4 : (wr[k]'(by omega)).1 < 4 := by obtain ⟨i, _, q⟩ := wr_get hc hl (k := k) (by omega); exact q.2.2.2.1
      refine rw_aload_n (pc := 10) dC_hasWritesTo_10 rfl ?_
      refine rw_getR (pc := 11) (x := some (31 + 11 * c)) flC_19_C dC_hasWritesTo_11 (cs_o hc (by omega) (by omega)) (cs_SC hc (by omega)) (cr_C4 hc (by omega)) ?_
      refine rw_iload_n (pc := 14) dC_hasWritesTo_14 rfl ?_
      obtain ⟨j2, ej2, hwj2⟩ := wr_get hc hl (k := k) (by omega)
      refine rw_aald (pc := 15) (v := some j2) (i := k) (t := 8) rfl ⟨rfl, by decide⟩ dC_hasWritesTo_15 (cs_o hc (by omega) (by omega)) (cs_Swr hc (by omega)) (ix_nI (by omega) (by decide)) ej2 ?_
      refine rw_getI (pc := 16) (x := nI ((wr[k]).1)) flC_94_W dC_hasWritesTo_16 (cw_o hwj2) hwj2.2.1 hwj2.2.2.1 ?_
      refine rw_iload_n (pc := 19) dC_hasWritesTo_19 rfl ?_
      refine rw_icmpne (pc := 20) dC_hasWritesTo_20 (tgt := 25) rfl (fun c3 => ?_) (fun c3 => ?_)
      · skip
        replace c3 : ¬ (((wr[k]).1) = f) := fun qz => c3 ((nI_eq (a := ((wr[k]).1)) (b := f) (by omega) (by omega)).mpr qz)
        refine rw_iinc (pc := 25) (x := nI k) (y := nI (k + 1)) (L' := [some (.inr (some (29 + 11 * c))), some (.inl (nI f)), some (.inl (nI (k + 1)))]) dC_hasWritesTo_25 (by decide) rfl (nI_add _ 1) rfl ?_
        refine rw_goto (pc := 28) dC_hasWritesTo_28 (tgt := 2) rfl ?_
        have hz := ih (k + 1) (by omega) (by omega)
        rw [List.drop_eq_getElem_cons (i := k) (by omega), f_hw, if_neg c3]
        exact hz
      · skip
        replace c3 : ((wr[k]).1) = f := (nI_eq (a := ((wr[k]).1)) (b := f) (by omega) (by omega)).mp c3
        refine rw_iconst (pc := 23) (x := nI 1) dC_hasWritesTo_23 (by decide) ?_
        exact rw_zret (pc := 24) dC_hasWritesTo_24 rfl (Or.inr rfl) ⟨_, rfl, by rw [List.drop_eq_getElem_cons (i := k) (by omega), f_hw, if_pos c3]; rfl, rfl⟩
theorem cC_hasWritesTo (G : mt_G) (h : ha_H) {L : Nat} {n : List ab_M} {su : Bool} {sn : Int32} {sg : Bool} {se : Int32} {pg : Nat → Nat → Int32} {md : Nat → Nat → Nat} {en : Nat → Nat → Int32} {sd : Nat → Option ab_M} {ln : Nat → List ab_M} {C : Nat → ab_C} {c : Nat} {up : Bool} {nw nu : Int32} {op : Option ab_M} {si : Int32} {cp : Nat → ab_P} {wr : List ab_W} (hc : CV L n su sn sg se pg md en sd ln (fu C c (up, nw, nu, op, si, cp, wr)) h) (hl : c < 3) {f : Nat} (hf4 : f < 4) : rn_M G xC_hasWritesTo (0, 0, 0) [.inr (some (29 + 11 * c)), .inl (nI f)] h (rn_i (fun r h' => r = m_bi (f_hw wr f) ∧ h = h')) := by
  refine rn_of (by decide +kernel) (Nat.le_of_ble_eq_true rfl) ?_
  show rn_W G xC_hasWritesTo (0, 0, 0) 0 0 0 [some (.inr (some (29 + 11 * c))), some (.inl (nI f)), none] [] h _
  refine rw_iconst (pc := 0) (x := nI 0) dC_hasWritesTo_0 (by decide) ?_
  refine rw_istore_n (pc := 1) (L' := [some (.inr (some (29 + 11 * c))), some (.inl (nI f)), some (.inl (nI 0))]) dC_hasWritesTo_1 (by decide) rfl ?_
  exact cC_hasWritesToL G h hc hl hf4 (wr.length + 1) 0 (by omega) (by omega)
def kw_ (h : ha_H) (c k0 : Nat) (H : ha_H) : Prop := hp_n H = hp_n h ∧ (∀ x y, hp_I H x y = hp_I h x y) ∧ (∀ x, hp_S H x = hp_S h x) ∧ ∀ x y, ¬ (x = 31 + 11 * c ∧ k0 ≤ y) → hp_R H x y = hp_R h x y
theorem kw_rf (h : ha_H) (c k0 : Nat) : kw_ h c k0 h := ⟨rfl, fun _ _ => rfl, fun _ => rfl, fun _ _ _ => rfl⟩
theorem kw_o {h H : ha_H} {c k0 x : Nat} (k : kw_ h c k0 H) (o : hp_ok h x) : hp_ok H x := ⟨o.1, by rw [k.1]; exact o.2⟩
theorem kw_S {h H : ha_H} {c k0 x : Nat} {s : (Nat × Nat) ⊕ Nat} (k : kw_ h c k0 H) (o : hp_S h x = s) : hp_S H x = s := (k.2.2.1 x).trans o
theorem kw_I {h H : ha_H} {c k0 x y : Nat} {s : Int32} (k : kw_ h c k0 H) (o : hp_I h x y = s) : hp_I H x y = s := (k.2.1 x y).trans o
theorem kw_R {h H : ha_H} {c k0 x y : Nat} {s : Option Nat} (k : kw_ h c k0 H) (n : ¬ x = 31 + 11 * c) (o : hp_R h x y = s) : hp_R H x y = s := (k.2.2.2 x y (fun q => n q.1)).trans o
theorem kw_s {h H : ha_H} {c k0 i : Nat} {v : Option Nat} (k : kw_ h c k0 H) (q : k0 ≤ i) : kw_ h c k0 (hp_sR H (31 + 11 * c) i v) := ⟨k.1, k.2.1, k.2.2.1, fun x y n => by rw [hp_R_sR, if_neg (fun z => n ⟨z.1, by omega⟩)]; exact k.2.2.2 x y n⟩
theorem kw_le {h H : ha_H} {c k0 : Nat} (hl : c < 3) (k : kw_ h c k0 H) : hp_le h H := ⟨by rw [k.1]; exact Nat.le_refl _, fun x h1 _ => ⟨k.2.1 x, fun y => k.2.2.2 x y (by omega), k.2.2.1 x⟩⟩
theorem cC_keepWritesL (G : mt_G) (h : ha_H) {L : Nat} {n : List ab_M} {su : Bool} {sn : Int32} {sg : Bool} {se : Int32} {pg : Nat → Nat → Int32} {md : Nat → Nat → Nat} {en : Nat → Nat → Int32} {sd : Nat → Option ab_M} {ln : Nat → List ab_M} {C : Nat → ab_C} {c : Nat} {up : Bool} {nw nu : Int32} {op : Option ab_M} {si : Int32} {cp : Nat → ab_P} {wr : List ab_W} (hc : CV L n su sn sg se pg md en sd ln (fu C c (up, nw, nu, op, si, cp, wr)) h) (hl : c < 3) {k0 : Nat} (hk0 : k0 ≤ wr.length) (d : Nat) : ∀ i (H : ha_H), k0 ≤ i ∧ i ≤ wr.length → wr.length - i < d → kw_ h c k0 H → rn_W G xC_keepWrites (0, 0, 0) 0 0 2 [some (.inr (some (29 + 11 * c))), some (.inl (nI k0)), some (.inl (nI i))] [] H (rn_v (fun h' => CV L n su sn sg se pg md en sd ln (fu C c (up, nw, nu, op, si, cp, wr.take k0)) h' ∧ hp_le h h')) := by
  induction d with
  | zero => intro i H hi hd; omega
  | succ d ih =>
    intro i H hi hd hk
    have hw := (cv_C1 hc hl).2.2.2.2.2.2.2
    have h6 : wr.length ≤ 6 := hw.1.2
    refine rw_iload_n (pc := 2) dC_keepWrites_2 rfl ?_
    refine rw_aload_n (pc := 3) dC_keepWrites_3 rfl ?_
    refine rw_getI (pc := 4) (x := nI wr.length) flC_23_C dC_keepWrites_4 (kw_o hk (cs_o hc (by omega) (by omega))) (kw_S hk (cs_SC hc (by omega))) (kw_I hk (cv_C1 hc (by omega)).2.2.2.2.2.2.2.1.1) ?_
    refine rw_icmpge (pc := 7) dC_keepWrites_7 (tgt := 23) rfl (fun c1 => ?_) (fun c1 => ?_)
    · skip
      replace c1 : wr.length ≤ i := (nI_leI (a := wr.length) (b := i) (by omega) (by omega)).mp c1
      refine rw_aload_n (pc := 23) dC_keepWrites_23 rfl ?_
      refine rw_iload_n (pc := 24) dC_keepWrites_24 rfl ?_
      refine rw_putI (pc := 25) pfC_23_C dC_keepWrites_25 (kw_o hk (cs_o hc (by omega) (by omega))) (kw_S hk (cs_SC hc (by omega))) ?_
      refine rw_vret (pc := 28) dC_keepWrites_28 rfl ⟨rfl, ww_any hc hl hk.1 hk.2.2.1 (fun x y hx => by rw [hp_I_sI, if_neg hx]; exact hk.2.1 x y) (fun x y hx => by rw [hp_R_sI]; exact hk.2.2.2 x y (fun q => hx q.1)) ⟨⟨by rw [List.length_take, Nat.min_eq_left hk0]; exact hI_set, by rw [List.length_take]; omega⟩, fun k w q => ?_⟩, le_tr (kw_le hl hk) (le_sI (by omega))⟩
      rw [List.getElem?_take] at q
      by_cases z : k < k0
      · rw [if_pos z] at q
        obtain ⟨i, h1, h2⟩ := hw.2 k w q
        exact ⟨i, rR_sI ((hk.2.2.2 _ _ (by omega)).trans h1), cw_dy h2 (le_dy (le_tr (kw_le hl hk) (le_sI (by omega))))⟩
      · rw [if_neg z] at q
        cases q
    · skip
      replace c1 : ¬ (wr.length ≤ i) := fun qz => c1 ((nI_leI (a := wr.length) (b := i) (by omega) (by omega)).mpr qz)
      refine rw_aload_n (pc := 10) dC_keepWrites_10 rfl ?_
      refine rw_getR (pc := 11) (x := some (31 + 11 * c)) flC_19_C dC_keepWrites_11 (kw_o hk (cs_o hc (by omega) (by omega))) (kw_S hk (cs_SC hc (by omega))) (kw_R hk (by omega) (cr_C4 hc (by omega))) ?_
      refine rw_iload_n (pc := 14) dC_keepWrites_14 rfl ?_
      refine rw_null (pc := 15) dC_keepWrites_15 ?_
      refine rw_aastN (pc := 16) (i := i) (t := 8) rfl (by decide) dC_keepWrites_16 (kw_o hk (cs_o hc (by omega) (by omega))) (kw_S hk (cs_Swr hc (by omega))) (ix_nI (by omega) (by decide)) ?_
      replace hk := kw_s (v := none) (i := i) hk (by omega)
      generalize hp_sR H (31 + 11 * c) i none = g2 at hk ⊢
      refine rw_iinc (pc := 17) (x := nI i) (y := nI (i + 1)) (L' := [some (.inr (some (29 + 11 * c))), some (.inl (nI k0)), some (.inl (nI (i + 1)))]) dC_keepWrites_17 (by decide) rfl (nI_add _ 1) rfl ?_
      refine rw_goto (pc := 20) dC_keepWrites_20 (tgt := 2) rfl ?_
      exact ih (i + 1) g2 (by omega) (by omega) hk
theorem cC_keepWrites (G : mt_G) (h : ha_H) {L : Nat} {n : List ab_M} {su : Bool} {sn : Int32} {sg : Bool} {se : Int32} {pg : Nat → Nat → Int32} {md : Nat → Nat → Nat} {en : Nat → Nat → Int32} {sd : Nat → Option ab_M} {ln : Nat → List ab_M} {C : Nat → ab_C} {c : Nat} {up : Bool} {nw nu : Int32} {op : Option ab_M} {si : Int32} {cp : Nat → ab_P} {wr : List ab_W} (hc : CV L n su sn sg se pg md en sd ln (fu C c (up, nw, nu, op, si, cp, wr)) h) (hl : c < 3) {k0 : Nat} (hk0 : k0 ≤ wr.length) : rn_M G xC_keepWrites (0, 0, 0) [.inr (some (29 + 11 * c)), .inl (nI k0)] h (rn_v (fun h' => CV L n su sn sg se pg md en sd ln (fu C c (up, nw, nu, op, si, cp, wr.take k0)) h' ∧ hp_le h h')) := by
  refine rn_of (by decide +kernel) (Nat.le_of_ble_eq_true rfl) ?_
  show rn_W G xC_keepWrites (0, 0, 0) 0 0 0 [some (.inr (some (29 + 11 * c))), some (.inl (nI k0)), none] [] h _
  refine rw_iload_n (pc := 0) dC_keepWrites_0 rfl ?_
  refine rw_istore_n (pc := 1) (L' := [some (.inr (some (29 + 11 * c))), some (.inl (nI k0)), some (.inl (nI k0))]) dC_keepWrites_1 (by decide) rfl ?_
  exact cC_keepWritesL G h hc hl hk0 (wr.length + 1) k0 h (by omega) (by omega) (kw_rf h c k0)
def f_ra (l : List ab_W) (f : Nat) : List ab_W := l.filter (fun w => !decide (w.1 = f))
def f_rf : List ab_W → Nat → List ab_W
  | [], _ => []
  | w :: l, f => if w.1 = f then l else w :: f_rf l f
theorem f_ts {l : List ab_W} {k : Nat} {a : ab_W} (hk : k < l.length) : (l.set k a).take (k + 1) = l.take k ++ [a] := by
  apply List.ext_getElem?
  intro y
  rw [List.getElem?_take]
  by_cases c : y < k
  · rw [if_pos (by omega), List.getElem?_set_ne (by omega), List.getElem?_append_left (by rw [List.length_take]; omega), List.getElem?_take, if_pos c]
  · by_cases e : y = k
    · subst e
      rw [if_pos (by omega), List.getElem?_set_self hk, List.getElem?_append_right (by rw [List.length_take]; omega), List.length_take, Nat.min_eq_left (by omega), Nat.sub_self]
      rfl
    · rw [if_neg (by omega), List.getElem?_eq_none (by rw [List.length_append, List.length_take, List.length_singleton]; omega)]
theorem f_tn {l : List ab_W} {k : Nat} (hk : k < l.length) : l.take (k + 1) = l.take k ++ [l[k]] := by rw [List.take_append_getElem]
theorem f_hw_sn (l : List ab_W) (w : ab_W) (f : Nat) : f_hw (l ++ [w]) f = (f_hw l f || decide (w.1 = f)) := by
  induction l with
  | nil => simp [f_hw]
  | cons a l ih =>
    rw [List.cons_append, f_hw, f_hw, ih]
    by_cases c : a.1 = f
    · simp [c]
    · simp [c]
theorem f_rf_sn (l : List ab_W) (w : ab_W) (f : Nat) : f_rf (l ++ [w]) f = if f_hw l f = true then f_rf l f ++ [w] else if w.1 = f then f_rf l f else f_rf l f ++ [w] := by
  induction l with
  | nil =>
    by_cases c : w.1 = f
    · simp [f_rf, f_hw, c]
    · simp [f_rf, f_hw, c]
  | cons a l ih =>
    rw [List.cons_append, f_rf, f_rf, ih, f_hw]
    by_cases c : a.1 = f
    · simp [c]
    · simp only [c, if_false]
      by_cases d : f_hw l f = true
      · simp [d]
      · simp only [d, if_false]
        by_cases e : w.1 = f
        · simp [e]
        · simp [e]
theorem cC_removeAllWritesToL (G : mt_G) (h : ha_H) {L : Nat} {n : List ab_M} {su : Bool} {sn : Int32} {sg : Bool} {se : Int32} {pg : Nat → Nat → Int32} {md : Nat → Nat → Nat} {en : Nat → Nat → Int32} {sd : Nat → Option ab_M} {ln : Nat → List ab_M} {C : Nat → ab_C} {c : Nat} {up : Bool} {nw nu : Int32} {op : Option ab_M} {si : Int32} {cp : Nat → ab_P} {wr : List ab_W} (hl : c < 3) {f : Nat} (hf4 : f < 4) (d : Nat) : ∀ (kp i : Nat) (H : ha_H) (l : List ab_W), kp ≤ i ∧ i ≤ wr.length → wr.length - i < d → CV L n su sn sg se pg md en sd ln (fu C c (up, nw, nu, op, si, cp, l)) H → l.length = wr.length → l.take kp = f_ra (wr.take i) f → (∀ y, i ≤ y → l[y]? = wr[y]?) → hp_le h H → rn_W G xC_removeAllWritesTo (1, 0, 0) 0 0 4 [some (.inr (some (29 + 11 * c))), some (.inl (nI f)), some (.inl (nI kp)), some (.inl (nI i))] [] H (rn_v (fun h' => CV L n su sn sg se pg md en sd ln (fu C c (up, nw, nu, op, si, cp, f_ra wr f)) h' ∧ hp_le h h')) := by
  induction d with
  | zero => intro kp i H l hi hd; omega
  | succ d ih =>
    intro kp i H l hi hd hc hll hlt hly hf
    have h6 : l.length ≤ 6 := (cv_C1 hc hl).2.2.2.2.2.2.2.1.2
    refine rw_iload_n (pc := 4) dC_removeAllWritesTo_4 rfl ?_
    refine rw_aload_n (pc := 5) dC_removeAllWritesTo_5 rfl ?_
    refine rw_getI (pc := 6) (x := nI l.length) flC_23_C dC_removeAllWritesTo_6 (cs_o hc (by omega) (by omega)) (cs_SC hc (by omega)) (cv_C1 hc (by omega)).2.2.2.2.2.2.2.1.1 ?_
    refine rw_icmpge (pc := 9) dC_removeAllWritesTo_9 (tgt := 46) rfl (fun c1 => ?_) (fun c1 => ?_)
    · skip
      replace c1 : l.length ≤ i := (nI_leI (a := l.length) (b := i) (by omega) (by omega)).mp c1
      refine rw_aload_n (pc := 46) dC_removeAllWritesTo_46 rfl ?_
      refine rw_iload_n (pc := 47) dC_removeAllWritesTo_47 rfl ?_
      refine rw_vv (pc := 48) (z' := (0, 0, 0)) (rc' := 0) (rs' := 0) (av := [.inl (nI kp)]) (st := []) (ci := 4) mlC_55 miC_keepWrites rfl mvC_keepWrites_C dC_removeAllWritesTo_48 (cs_o hc (by omega) (by omega)) (cs_SC hc (by omega)) (cC_keepWrites G _ hc hl (k0 := kp) (by omega)) rfl rfl (Nat.le_of_ble_eq_true rfl) (by decide) rfl rfl (fun h2 q2 => ?_)
      obtain ⟨hc, hf1⟩ := q2
      replace hf := le_tr hf hf1
      have hz : l.take kp = f_ra wr f := by rw [hlt, List.take_of_length_le (by omega)]
      rw [hz] at hc
      exact rw_vret (pc := 51) dC_removeAllWritesTo_51 rfl ⟨rfl, hc, hf⟩
    · skip
      replace c1 : ¬ (l.length ≤ i) := fun qz => c1 ((nI_leI (a := l.length) (b := i) (by omega) (by omega)).mpr qz)
      have hli : i < l.length := by omega
      have hw4 : (l[i]'hli).1 < 4 := by obtain ⟨j, _, q⟩ := wr_get hc hl (k := i) hli; exact q.2.2.2.1
      have hlw : l[i]'hli = wr[i]'(by omega) := by
        have hz := hly i (Nat.le_refl _)
        rw [List.getElem?_eq_getElem hli, List.getElem?_eq_getElem (by omega)] at hz
        exact Option.some.inj hz
      refine rw_aload_n (pc := 12) dC_removeAllWritesTo_12 rfl ?_
      refine rw_getR (pc := 13) (x := some (31 + 11 * c)) flC_19_C dC_removeAllWritesTo_13 (cs_o hc (by omega) (by omega)) (cs_SC hc (by omega)) (cr_C4 hc (by omega)) ?_
      refine rw_iload_n (pc := 16) dC_removeAllWritesTo_16 rfl ?_
      obtain ⟨j3, ej3, hwj3⟩ := wr_get hc hl (k := i) (by omega)
      refine rw_aald (pc := 17) (v := some j3) (i := i) (t := 8) rfl ⟨rfl, by decide⟩ dC_removeAllWritesTo_17 (cs_o hc (by omega) (by omega)) (cs_Swr hc (by omega)) (ix_nI (by omega) (by decide)) ej3 ?_
      refine rw_getI (pc := 18) (x := nI ((l[i]).1)) flC_94_W dC_removeAllWritesTo_18 (cw_o hwj3) hwj3.2.1 hwj3.2.2.1 ?_
      refine rw_iload_n (pc := 21) dC_removeAllWritesTo_21 rfl ?_
      refine rw_icmpeq (pc := 22) dC_removeAllWritesTo_22 (tgt := 40) rfl (fun c4 => ?_) (fun c4 => ?_)
      · skip
        replace c4 : ((l[i]).1) = f := (nI_eq (a := ((l[i]).1)) (b := f) (by omega) (by omega)).mp c4
        refine rw_iinc (pc := 40) (x := nI i) (y := nI (i + 1)) (L' := [some (.inr (some (29 + 11 * c))), some (.inl (nI f)), some (.inl (nI kp)), some (.inl (nI (i + 1)))]) dC_removeAllWritesTo_40 (by decide) rfl (nI_add _ 1) rfl ?_
        refine rw_goto (pc := 43) dC_removeAllWritesTo_43 (tgt := 4) rfl ?_
        exact ih kp (i + 1) H l (by omega) (by omega) hc hll (by rw [hlt, f_tn (show i < wr.length by omega)]; unfold f_ra; rw [List.filter_append, ← hlw]; simp [c4]) (fun y hy => hly y (by omega)) hf
      · skip
        replace c4 : ¬ (((l[i]).1) = f) := fun qz => c4 ((nI_eq (a := ((l[i]).1)) (b := f) (by omega) (by omega)).mpr qz)
        refine rw_aload_n (pc := 25) dC_removeAllWritesTo_25 rfl ?_
        refine rw_getR (pc := 26) (x := some (31 + 11 * c)) flC_19_C dC_removeAllWritesTo_26 (cs_o hc (by omega) (by omega)) (cs_SC hc (by omega)) (cr_C4 hc (by omega)) ?_
        refine rw_iload_n (pc := 29) dC_removeAllWritesTo_29 rfl ?_
        refine rw_aload_n (pc := 30) dC_removeAllWritesTo_30 rfl ?_
        refine rw_getR (pc := 31) (x := some (31 + 11 * c)) flC_19_C dC_removeAllWritesTo_31 (cs_o hc (by omega) (by omega)) (cs_SC hc (by omega)) (cr_C4 hc (by omega)) ?_
        refine rw_iload_n (pc := 34) dC_removeAllWritesTo_34 rfl ?_
        refine rw_aald (pc := 35) (v := some j3) (i := i) (t := 8) rfl ⟨rfl, by decide⟩ dC_removeAllWritesTo_35 (cs_o hc (by omega) (by omega)) (cs_Swr hc (by omega)) (ix_nI (by omega) (by decide)) ej3 ?_
        refine rw_aast (pc := 36) (i := kp) so_8_W (by decide) dC_removeAllWritesTo_36 (cs_o hc (by omega) (by omega)) (cs_Swr hc (by omega)) (ix_nI (by omega) (by decide)) (cw_o hwj3) hwj3.2.1 ?_
        replace hc := ww_s hc hl (k := kp) (by omega) hwj3
        replace hf := le_tr hf (le_sR (h := H) (A := (31 + 11 * c)) (k := kp) (v := some j3) (by omega))
        generalize hp_sR H (31 + 11 * c) kp (some j3) = g5 at hc hf ⊢
        refine rw_iinc (pc := 37) (x := nI kp) (y := nI (kp + 1)) (L' := [some (.inr (some (29 + 11 * c))), some (.inl (nI f)), some (.inl (nI (kp + 1))), some (.inl (nI i))]) dC_removeAllWritesTo_37 (by decide) rfl (nI_add _ 1) rfl ?_
        refine rw_iinc (pc := 40) (x := nI i) (y := nI (i + 1)) (L' := [some (.inr (some (29 + 11 * c))), some (.inl (nI f)), some (.inl (nI (kp + 1))), some (.inl (nI (i + 1)))]) dC_removeAllWritesTo_40 (by decide) rfl (nI_add _ 1) rfl ?_
        refine rw_goto (pc := 43) dC_removeAllWritesTo_43 (tgt := 4) rfl ?_
        refine ih (kp + 1) (i + 1) g5 (l.set kp (l[i]'hli)) (by omega) (by omega) hc (by rw [List.length_set]; exact hll) ?_ (fun y hy => by rw [List.getElem?_set_ne (by omega)]; exact hly y (by omega)) hf
        rw [f_ts (by omega), hlt, f_tn (show i < wr.length by omega)]
        unfold f_ra
        rw [List.filter_append, ← hlw]
        simp [c4]
theorem cC_removeAllWritesTo (G : mt_G) (h : ha_H) {L : Nat} {n : List ab_M} {su : Bool} {sn : Int32} {sg : Bool} {se : Int32} {pg : Nat → Nat → Int32} {md : Nat → Nat → Nat} {en : Nat → Nat → Int32} {sd : Nat → Option ab_M} {ln : Nat → List ab_M} {C : Nat → ab_C} {c : Nat} {up : Bool} {nw nu : Int32} {op : Option ab_M} {si : Int32} {cp : Nat → ab_P} {wr : List ab_W} (hc : CV L n su sn sg se pg md en sd ln (fu C c (up, nw, nu, op, si, cp, wr)) h) (hl : c < 3) {f : Nat} (hf4 : f < 4) : rn_M G xC_removeAllWritesTo (1, 0, 0) [.inr (some (29 + 11 * c)), .inl (nI f)] h (rn_v (fun h' => CV L n su sn sg se pg md en sd ln (fu C c (up, nw, nu, op, si, cp, f_ra wr f)) h' ∧ hp_le h h')) := by
  refine rn_of (by decide +kernel) (Nat.le_of_ble_eq_true rfl) ?_
  show rn_W G xC_removeAllWritesTo (1, 0, 0) 0 0 0 [some (.inr (some (29 + 11 * c))), some (.inl (nI f)), none, none] [] h _
  refine rw_iconst (pc := 0) (x := nI 0) dC_removeAllWritesTo_0 (by decide) ?_
  refine rw_istore_n (pc := 1) (L' := [some (.inr (some (29 + 11 * c))), some (.inl (nI f)), some (.inl (nI 0)), none]) dC_removeAllWritesTo_1 (by decide) rfl ?_
  refine rw_iconst (pc := 2) (x := nI 0) dC_removeAllWritesTo_2 (by decide) ?_
  refine rw_istore_n (pc := 3) (L' := [some (.inr (some (29 + 11 * c))), some (.inl (nI f)), some (.inl (nI 0)), some (.inl (nI 0))]) dC_removeAllWritesTo_3 (by decide) rfl ?_
  exact cC_removeAllWritesToL G h hl hf4 (wr.length + 1) 0 0 h wr (by omega) (by omega) hc rfl rfl (fun _ _ => rfl) (le_rf h)
