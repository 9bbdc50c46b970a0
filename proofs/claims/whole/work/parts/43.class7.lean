theorem wq_any {L : Nat} {n : List ab_M} {su : Bool} {sn : Int32} {sg : Bool} {se : Int32} {pg : Nat → Nat → Int32} {md : Nat → Nat → Nat} {en : Nat → Nat → Int32} {sd : Nat → Option ab_M} {ln : Nat → List ab_M} {C : Nat → ab_C} {c : Nat} {up : Bool} {nw nu : Int32} {op : Option ab_M} {si : Int32} {cp : Nat → ab_P} {wr : List ab_W} {f : Nat} {mo : Nat} {ti : Int32} {re lo : Bool} {ps : Nat → Int32} {h h' : ha_H} (H : CV L n su sn sg se pg md en sd ln (fu C c (up, nw, nu, op, si, fu cp f (mo, ti, re, lo, ps), wr)) h) (hl : c < 3) (hf : f < 4) {v : Nat → Int32} (hn : hp_n h' = hp_n h) (hS : ∀ x, hp_S h' x = hp_S h x) (hI : ∀ x y, ¬ x = 33 + 11 * c + 2 * f → hp_I h' x y = hp_I h x y) (hR : ∀ x y, hp_R h' x y = hp_R h x y) (q : ∀ p, p < 4 → hp_I h' (33 + 11 * c + 2 * f) p = v p) : CV L n su sn sg se pg md en sd ln (fu C c (up, nw, nu, op, si, fu cp f (mo, ti, re, lo, v), wr)) h' := by
  obtain ⟨H0, HL, Hn, Hsu, Hsn, Hsg, Hse, Hpg, Hmd, Hen, Hsd, Hln, HC⟩ := H
  have d : hp_dy h h' := ⟨by omega, fun x h1 _ => ⟨fun y => hI x y (by omega), fun y => hR x y, hS x⟩⟩
  have se' : ∀ lo hi, (hi ≤ 33 + 11 * c + 2 * f ∨ 34 + 11 * c + 2 * f ≤ lo) → se_ h h' lo hi := fun lo hi hq x h1 h2 => ⟨fun y => hI x y (by omega), fun y => hR x y⟩
  have hz := HC c hl
  rw [fu_at] at hz
  obtain ⟨c1, c2, c3, c4, c5, c6, c7, c8⟩ := hz
  replace c7 : ∀ b, b < 4 → cv_P (32 + 11 * c + 2 * b) (fu cp f (mo, ti, re, lo, ps) b) h := c7
  refine ⟨⟨by rw [hn]; exact H0.1, cs_HS hS H0.2.1, fun x y t z => by rw [hR x y]; exact H0.2.2 x y t z⟩, kL HL (hI _ _ (by omega)) (fun c _ => hI _ _ (by omega)), kN Hn d (se' _ _ (by omega)), by rw [hI _ _ (by omega)]; exact Hsu, by rw [hI _ _ (by omega)]; exact Hsn, by rw [hI _ _ (by omega)]; exact Hsg, by rw [hI _ _ (by omega)]; exact Hse, kpg Hpg (se' _ _ (by omega)), kmd Hmd (se' _ _ (by omega)), ken Hen (se' _ _ (by omega)), ksd Hsd d (se' _ _ (by omega)), kln Hln d (se' _ _ (by omega)), kCs1 HC d (fun b hb hz => se' _ _ (by omega)) ⟨by rw [hI _ _ (by omega)]; exact c1, by rw [hI _ _ (by omega)]; exact c2, by rw [hI _ _ (by omega)]; exact c3, by rw [hI _ _ (by omega)]; exact c4, co_dy c5 d (hR _ _), by rw [hI _ _ (by omega)]; exact c6, fun b hb => ?_, kw c8 d (hI _ _ (by omega)) (fun k => hR _ _)⟩⟩
  by_cases e : b = f
  · subst e
    show cv_P _ (fu cp b (mo, ti, re, lo, v) b) _
    rw [fu_at]
    have hz2 := c7 b hb
    rw [fu_at] at hz2
    obtain ⟨p1, p2, p3, p4, p5⟩ := hz2
    exact ⟨⟨by rw [hI _ _ (by omega)]; exact p1.1, p1.2⟩, by rw [hI _ _ (by omega)]; exact p2, by rw [hI _ _ (by omega)]; exact p3, by rw [hI _ _ (by omega)]; exact p4, fun p hp => by rw [show 32 + 11 * c + 2 * b + 1 = 33 + 11 * c + 2 * b from by omega]; exact q p hp⟩
  · show cv_P _ (fu cp f (mo, ti, re, lo, v) b) _
    rw [fu_ne _ _ e]
    have hz2 := c7 b hb
    rw [fu_ne _ _ e] at hz2
    exact kP hz2 (se' _ _ (by omega))
theorem wq_cp {L : Nat} {n : List ab_M} {su : Bool} {sn : Int32} {sg : Bool} {se : Int32} {pg : Nat → Nat → Int32} {md : Nat → Nat → Nat} {en : Nat → Nat → Int32} {sd : Nat → Option ab_M} {ln : Nat → List ab_M} {C : Nat → ab_C} {c : Nat} {up : Bool} {nw nu : Int32} {op : Option ab_M} {si : Int32} {cp : Nat → ab_P} {wr : List ab_W} {f : Nat} {mo : Nat} {ti : Int32} {re lo : Bool} {ps : Nat → Int32} {h : ha_H} (H : CV L n su sn sg se pg md en sd ln (fu C c (up, nw, nu, op, si, fu cp f (mo, ti, re, lo, ps), wr)) h) (hl : c < 3) (hf : f < 4) {q : Nat} {v : Nat → Int32} (hv : ∀ p, p < 4 → hp_I h q p = v p) : CV L n su sn sg se pg md en sd ln (fu C c (up, nw, nu, op, si, fu cp f (mo, ti, re, lo, v), wr)) (hp_cp h q 0 (33 + 11 * c + 2 * f) 0 4) := by
  refine wq_any H hl hf rfl (fun _ => rfl) (fun x y hx => by rw [hp_I_cp, if_neg hx]) (fun _ _ => rfl) (fun p hp => ?_)
  rw [hp_I_cp, if_pos rfl]
  unfold va_cpy
  rw [if_pos (by omega), show 0 + (p - 0) = p from by omega]
  exact hv p hp
theorem le_cp {h : ha_H} {a b : Nat} (hA : b < 62) : hp_le h (hp_cp h a 0 b 0 4) := ⟨Nat.le_refl _, fun x h1 _ => ⟨fun y => by rw [hp_I_cp, if_neg (by omega)], fun _ => rfl, rfl⟩⟩
theorem cv_cpx {L : Nat} {n : List ab_M} {su : Bool} {sn : Int32} {sg : Bool} {se : Int32} {pg : Nat → Nat → Int32} {md : Nat → Nat → Nat} {en : Nat → Nat → Int32} {sd : Nat → Option ab_M} {ln : Nat → List ab_M} {C : Nat → ab_C} {c : Nat} {up : Bool} {nw nu : Int32} {op : Option ab_M} {si : Int32} {cp : Nat → ab_P} {wr : List ab_W} {h : ha_H} {cp' : Nat → ab_P} (H : CV L n su sn sg se pg md en sd ln (fu C c (up, nw, nu, op, si, cp, wr)) h) (hl : c < 3) (e : ∀ f, f < 4 → cp f = cp' f) : CV L n su sn sg se pg md en sd ln (fu C c (up, nw, nu, op, si, cp', wr)) h := by
  obtain ⟨H0, HL, Hn, Hsu, Hsn, Hsg, Hse, Hpg, Hmd, Hen, Hsd, Hln, HC⟩ := H
  refine ⟨H0, HL, Hn, Hsu, Hsn, Hsg, Hse, Hpg, Hmd, Hen, Hsd, Hln, fun b hb => ?_⟩
  have hz := HC b hb
  by_cases z : b = c
  · subst z
    rw [fu_at] at hz ⊢
    obtain ⟨c1, c2, c3, c4, c5, c6, c7, c8⟩ := hz
    refine ⟨c1, c2, c3, c4, c5, c6, fun f hf => ?_, c8⟩
    show cv_P _ (cp' f) _
    rw [← e f hf]
    exact c7 f hf
  · rw [fu_ne _ _ z] at hz ⊢
    exact hz
def f_tL (lo : Bool) (wr : List ab_W) (m : ab_M) : Bool := bif am_y m then false else f_hw wr (am_f m)
/-- a granted lease arrives: the copy, the writes -/
def f_tl (L : Nat) (si : Int32) (wr : List ab_W) (lo : Bool) (m : ab_M) : ab_P × List ab_W :=
  bif am_y m then ((am_m m, si + nI (L / 2 - 2), false, lo, f_redo wr (am_f m) (am_4 m)), wr) else bif f_hw wr (am_f m) then ((am_m m, si + nI (L / 2 - 2), false, true, f_redo (f_ra wr (am_f m)) (am_f m) (am_4 m)), f_ra wr (am_f m)) else ((am_m m, si + nI (L / 2 - 2), false, lo, f_redo wr (am_f m) (am_4 m)), wr)
theorem cC_takeLease (G : mt_G) (h : ha_H) {L : Nat} {n : List ab_M} {su : Bool} {sn : Int32} {sg : Bool} {se : Int32} {pg : Nat → Nat → Int32} {md : Nat → Nat → Nat} {en : Nat → Nat → Int32} {sd : Nat → Option ab_M} {ln : Nat → List ab_M} {C : Nat → ab_C} {c : Nat} {up : Bool} {nw nu : Int32} {op : Option ab_M} {si : Int32} {cp : Nat → ab_P} {wr : List ab_W} {m : ab_M} {i : Nat} {mo : Nat} {ti : Int32} {re lo : Bool} {ps : Nat → Int32} (hc : CV L n su sn sg se pg md en sd ln (fu C c (up, nw, nu, op, si, fu cp (am_f m) (mo, ti, re, lo, ps), wr)) h) (hl : c < 3) (hm : cv_M h i m) (hk4 : am_k m = 4) : rn_M G xC_takeLease (2, 0, 0) [.inr (some (29 + 11 * c)), .inr (some i)] h (rn_v (fun h' => CV L n su sn sg se pg md en sd ln (fu C c (up, nw, nu, op, si, fu cp (am_f m) (f_tl L si wr lo m).1, (f_tl L si wr lo m).2)) h' ∧ hp_le h h')) := by
  have hf := le_rf h
  have hf4 : am_f m < 4 := hm.2.2.1.2
  have h4 : 4 ≤ am_k m := by omega
  have h7 : am_k m ≤ 7 := by omega
  have hm2 : am_m m ≤ 2 := (cm_p hm h4 h7).2.2.2.1
  refine rn_of (by decide +kernel) (Nat.le_of_ble_eq_true rfl) ?_
  show rn_W G xC_takeLease (2, 0, 0) 0 0 0 [some (.inr (some (29 + 11 * c))), some (.inr (some i)), none] [] h _
  refine rw_aload_n (pc := 0) dC_takeLease_0 rfl ?_
  refine rw_getR (pc := 1) (x := some (30 + 11 * c)) flC_11_C dC_takeLease_1 (cs_o hc (by omega) (by omega)) (cs_SC hc (by omega)) (cr_C3 hc (by omega)) ?_
  refine rw_aload_n (pc := 4) dC_takeLease_4 rfl ?_
  refine rw_getI (pc := 5) (x := nI (am_f m)) flC_131_P dC_takeLease_5 (cm_o hm) (cm_p hm h4 h7).2.1 hm.2.1.2.2.1 ?_
  refine rw_aald (pc := 8) (v := some (32 + 11 * c + 2 * (am_f m))) (i := (am_f m)) (t := 7) rfl ⟨rfl, by decide⟩ dC_takeLease_8 (cs_o hc (by omega) (by omega)) (cs_Scp hc (by omega)) (ix_nI (by omega) (by decide)) (cr_cp hc (by omega) (by omega)) ?_
  refine rw_astore_n (pc := 9) (L' := [some (.inr (some (29 + 11 * c))), some (.inr (some i)), some (.inr (some (32 + 11 * c + 2 * (am_f m))))]) dC_takeLease_9 (by decide) rfl ?_
  refine rw_aload_n (pc := 10) dC_takeLease_10 rfl ?_
  refine rw_aload_n (pc := 11) dC_takeLease_11 rfl ?_
  refine rw_getI (pc := 12) (x := nI (am_m m)) flC_138_P dC_takeLease_12 (cm_o hm) (cm_p hm h4 h7).2.1 (cm_p hm h4 h7).2.2.1 ?_
  refine rw_putI (pc := 15) pfC_101_K dC_takeLease_15 (cs_o hc (by omega) (by omega)) (cs_SK hc (by omega) (by omega)) ?_
  replace hc := wp_mo hc (by omega) (by omega) (am_m m) (by omega)
  replace hm := cm_le hm (le_sI (h := h) (A := (32 + 11 * c + 2 * (am_f m))) (k := 1) (v := (nI (am_m m))) (by omega))
  replace hf := le_tr hf (le_sI (h := h) (A := (32 + 11 * c + 2 * (am_f m))) (k := 1) (v := (nI (am_m m))) (by omega))
  generalize hp_sI h (32 + 11 * c + 2 * (am_f m)) 1 (nI (am_m m)) = g1 at hc hf hm ⊢
  refine rw_aload_n (pc := 18) dC_takeLease_18 rfl ?_
  refine rw_aload_n (pc := 19) dC_takeLease_19 rfl ?_
  refine rw_getI (pc := 20) (x := si) flC_41_C dC_takeLease_20 (cs_o hc (by omega) (by omega)) (cs_SC hc (by omega)) (cv_C1 hc (by omega)).2.2.2.2.2.1 ?_
  refine rw_aload_n (pc := 23) dC_takeLease_23 rfl ?_
  refine rw_getI (pc := 24) (x := nI (L / 2 - 2)) flC_47_C dC_takeLease_24 (cs_o hc (by omega) (by omega)) (cs_SC hc (by omega)) ((cp_L hc).2.2 _ (by omega)) ?_
  refine rw_iadd (pc := 27) (v := si + (nI (L / 2 - 2))) dC_takeLease_27 rfl ?_
  refine rw_putI (pc := 28) pfC_139_K dC_takeLease_28 (cs_o hc (by omega) (by omega)) (cs_SK hc (by omega) (by omega)) ?_
  replace hc := wp_ti hc (by omega) (by omega) (si + (nI (L / 2 - 2)))
  replace hm := cm_le hm (le_sI (h := g1) (A := (32 + 11 * c + 2 * (am_f m))) (k := 2) (v := (si + (nI (L / 2 - 2)))) (by omega))
  replace hf := le_tr hf (le_sI (h := g1) (A := (32 + 11 * c + 2 * (am_f m))) (k := 2) (v := (si + (nI (L / 2 - 2)))) (by omega))
  generalize hp_sI g1 (32 + 11 * c + 2 * (am_f m)) 2 (si + (nI (L / 2 - 2))) = g2 at hc hf hm ⊢
  refine rw_aload_n (pc := 31) dC_takeLease_31 rfl ?_
  refine rw_iconst (pc := 32) (x := nI 0) dC_takeLease_32 (by decide) ?_
  refine rw_putZ (pc := 33) pfC_104_K dC_takeLease_33 (cs_o hc (by omega) (by omega)) (cs_SK hc (by omega) (by omega)) (Or.inl rfl) ?_
  replace hc := wp_re hc (by omega) (by omega) false
  replace hm := cm_le hm (le_sI (h := g2) (A := (32 + 11 * c + 2 * (am_f m))) (k := 3) (v := (m_bi false)) (by omega))
  replace hf := le_tr hf (le_sI (h := g2) (A := (32 + 11 * c + 2 * (am_f m))) (k := 3) (v := (m_bi false)) (by omega))
  show rn_W G xC_takeLease (2, 0, 0) 0 0 36 [some (.inr (some (29 + 11 * c))), some (.inr (some i)), some (.inr (some (32 + 11 * c + 2 * (am_f m))))] [] (hp_sI g2 (32 + 11 * c + 2 * (am_f m)) 3 (m_bi false)) _
  generalize hp_sI g2 (32 + 11 * c + 2 * (am_f m)) 3 (m_bi false) = g3 at hc hf hm ⊢
  refine rw_aload_n (pc := 36) dC_takeLease_36 rfl ?_
  refine rw_getI (pc := 37) (x := m_bi (am_y m)) flC_142_P dC_takeLease_37 (cm_o hm) (cm_p hm h4 h7).2.1 (cm_p hm h4 h7).2.2.2.2.1 ?_
  refine rw_ifne (pc := 40) dC_takeLease_40 (tgt := 67) rfl (fun c4 => ?_) (fun c4 => ?_)
  · skip
    replace c4 : (am_y m) = true := mb_T c4
    refine rw_aload_n (pc := 67) dC_takeLease_67 rfl ?_
    obtain ⟨u5, eu5, bu5, su5, vu5⟩ := (cm_p hm h4 h7).2.2.2.2.2 hk4
    refine rw_getR (pc := 68) (x := some u5) flC_148_P dC_takeLease_68 (cm_o hm) (cm_p hm h4 h7).2.1 eu5 ?_
    refine rw_ifnull (pc := 71) dC_takeLease_71 (tgt := 88) rfl (fun c6 => ?_) (fun rc6 c6 => ?_)
    · skip
      cases c6
    · skip
      refine rw_aload_n (pc := 74) dC_takeLease_74 rfl ?_
      obtain ⟨u7, eu7, bu7, su7, vu7⟩ := (cm_p hm h4 h7).2.2.2.2.2 hk4
      refine rw_getR (pc := 75) (x := some u7) flC_148_P dC_takeLease_75 (cm_o hm) (cm_p hm h4 h7).2.1 eu7 ?_
      refine rw_iconst (pc := 78) (x := nI 0) dC_takeLease_78 (by decide) ?_
      refine rw_aload_n (pc := 79) dC_takeLease_79 rfl ?_
      refine rw_getR (pc := 80) (x := some (33 + 11 * c + 2 * (am_f m))) flC_84_K dC_takeLease_80 (cs_o hc (by omega) (by omega)) (cs_SK hc (by omega) (by omega)) (cr_K hc (by omega) (by omega)) ?_
      refine rw_iconst (pc := 83) (x := nI 0) dC_takeLease_83 (by decide) ?_
      refine rw_iconst (pc := 84) (x := nI 4) dC_takeLease_84 (by decide) ?_
      refine rw_copy (pc := 85) (a0 := u7) (a := 33 + 11 * c + 2 * am_f m) (n0 := 4) (n1 := 4) (n := 4) bw_536 bw_538 bw_537 bw_13 dC_takeLease_85 ⟨by omega, bu7.2⟩ su7 (cs_o hc (by omega) (by omega)) (cs_Sk hc hl hf4) (by decide) (by decide) (by decide) (by decide) (by decide) (by decide) (by decide) (Nat.le_of_ble_eq_true rfl) ?_
      show rn_W G xC_takeLease (2, 0, 0) 0 0 88 [some (.inr (some (29 + 11 * c))), some (.inr (some i)), some (.inr (some (32 + 11 * c + 2 * (am_f m))))] [] (hp_cp g3 u7 0 (33 + 11 * c + 2 * am_f m) 0 4) _
      replace hc := wq_cp hc hl hf4 vu7
      replace hm := cm_le hm (le_cp (h := g3) (a := u7) (b := 33 + 11 * c + 2 * am_f m) (by omega))
      replace hf := le_tr hf (le_cp (h := g3) (a := u7) (b := 33 + 11 * c + 2 * am_f m) (by omega))
      generalize hp_cp g3 u7 0 (33 + 11 * c + 2 * am_f m) 0 4 = g8 at hc hm hf ⊢
      refine rw_aload_n (pc := 88) dC_takeLease_88 rfl ?_
      refine rw_aload_n (pc := 89) dC_takeLease_89 rfl ?_
      refine rw_getI (pc := 90) (x := nI (am_f m)) flC_131_P dC_takeLease_90 (cm_o hm) (cm_p hm h4 h7).2.1 hm.2.1.2.2.1 ?_
      refine rw_vv (pc := 93) (z' := (0, 0, 0)) (rc' := 0) (rs' := 0) (av := [.inl (nI (am_f m))]) (st := []) (ci := 4) mlC_155 miC_redoWritesOn rfl mvC_redoWritesOn_C dC_takeLease_93 (cs_o hc (by omega) (by omega)) (cs_SC hc (by omega)) (cC_redoWritesOn G _ hc hl hf4) rfl rfl (Nat.le_of_ble_eq_true rfl) (by decide) rfl rfl (fun h9 q9 => ?_)
      obtain ⟨hc, hf1⟩ := q9
      replace hm := cm_le hm hf1
      replace hf := le_tr hf hf1
      have hF : f_tl L si wr lo m = ((am_m m, si + (nI (L / 2 - 2)), false, lo, f_redo wr (am_f m) (am_4 m)), wr) := by unfold f_tl; simp only [c4, cond_true, cond_false]
      rw [hF]
      exact rw_vret (pc := 96) dC_takeLease_96 rfl ⟨rfl, hc, hf⟩
  · skip
    replace c4 : (am_y m) = false := (m_bi0 _).mp c4
    refine rw_aload_n (pc := 43) dC_takeLease_43 rfl ?_
    refine rw_aload_n (pc := 44) dC_takeLease_44 rfl ?_
    refine rw_getI (pc := 45) (x := nI (am_f m)) flC_131_P dC_takeLease_45 (cm_o hm) (cm_p hm h4 h7).2.1 hm.2.1.2.2.1 ?_
    refine rw_vi (pc := 48) (z' := (0, 0, 0)) (rc' := 0) (rs' := 0) (av := [.inl (nI (am_f m))]) (st := []) (ci := 4) mlC_70 miC_hasWritesTo rfl mvC_hasWritesTo_C dC_takeLease_48 (cs_o hc (by omega) (by omega)) (cs_SC hc (by omega)) (cC_hasWritesTo G _ hc hl hf4) rfl rfl (Nat.le_of_ble_eq_true rfl) (by decide) rfl rfl (fun r10 h10 q10 => ?_)
    obtain ⟨rfl, rfl⟩ := q10
    refine rw_ifeq (pc := 51) dC_takeLease_51 (tgt := 67) rfl (fun c11 => ?_) (fun c11 => ?_)
    · skip
      replace c11 : (f_hw wr (am_f m)) = false := (m_bi0 _).mp c11
      refine rw_aload_n (pc := 67) dC_takeLease_67 rfl ?_
      obtain ⟨u12, eu12, bu12, su12, vu12⟩ := (cm_p hm h4 h7).2.2.2.2.2 hk4
      refine rw_getR (pc := 68) (x := some u12) flC_148_P dC_takeLease_68 (cm_o hm) (cm_p hm h4 h7).2.1 eu12 ?_
      refine rw_ifnull (pc := 71) dC_takeLease_71 (tgt := 88) rfl (fun c13 => ?_) (fun rc13 c13 => ?_)
      · skip
        cases c13
      · skip
        refine rw_aload_n (pc := 74) dC_takeLease_74 rfl ?_
        obtain ⟨u14, eu14, bu14, su14, vu14⟩ := (cm_p hm h4 h7).2.2.2.2.2 hk4
        refine rw_getR (pc := 75) (x := some u14) flC_148_P dC_takeLease_75 (cm_o hm) (cm_p hm h4 h7).2.1 eu14 ?_
        refine rw_iconst (pc := 78) (x := nI 0) dC_takeLease_78 (by decide) ?_
        refine rw_aload_n (pc := 79) dC_takeLease_79 rfl ?_
        refine rw_getR (pc := 80) (x := some (33 + 11 * c + 2 * (am_f m))) flC_84_K dC_takeLease_80 (cs_o hc (by omega) (by omega)) (cs_SK hc (by omega) (by omega)) (cr_K hc (by omega) (by omega)) ?_
        refine rw_iconst (pc := 83) (x := nI 0) dC_takeLease_83 (by decide) ?_
        refine rw_iconst (pc := 84) (x := nI 4) dC_takeLease_84 (by decide) ?_
        refine rw_copy (pc := 85) (a0 := u14) (a := 33 + 11 * c + 2 * am_f m) (n0 := 4) (n1 := 4) (n := 4) bw_536 bw_538 bw_537 bw_13 dC_takeLease_85 ⟨by omega, bu14.2⟩ su14 (cs_o hc (by omega) (by omega)) (cs_Sk hc hl hf4) (by decide) (by decide) (by decide) (by decide) (by decide) (by decide) (by decide) (Nat.le_of_ble_eq_true rfl) ?_
        show rn_W G xC_takeLease (2, 0, 0) 0 0 88 [some (.inr (some (29 + 11 * c))), some (.inr (some i)), some (.inr (some (32 + 11 * c + 2 * (am_f m))))] [] (hp_cp g3 u14 0 (33 + 11 * c + 2 * am_f m) 0 4) _
        replace hc := wq_cp hc hl hf4 vu14
        replace hm := cm_le hm (le_cp (h := g3) (a := u14) (b := 33 + 11 * c + 2 * am_f m) (by omega))
        replace hf := le_tr hf (le_cp (h := g3) (a := u14) (b := 33 + 11 * c + 2 * am_f m) (by omega))
        generalize hp_cp g3 u14 0 (33 + 11 * c + 2 * am_f m) 0 4 = g15 at hc hm hf ⊢
        refine rw_aload_n (pc := 88) dC_takeLease_88 rfl ?_
        refine rw_aload_n (pc := 89) dC_takeLease_89 rfl ?_
        refine rw_getI (pc := 90) (x := nI (am_f m)) flC_131_P dC_takeLease_90 (cm_o hm) (cm_p hm h4 h7).2.1 hm.2.1.2.2.1 ?_
        refine rw_vv (pc := 93) (z' := (0, 0, 0)) (rc' := 0) (rs' := 0) (av := [.inl (nI (am_f m))]) (st := []) (ci := 4) mlC_155 miC_redoWritesOn rfl mvC_redoWritesOn_C dC_takeLease_93 (cs_o hc (by omega) (by omega)) (cs_SC hc (by omega)) (cC_redoWritesOn G _ hc hl hf4) rfl rfl (Nat.le_of_ble_eq_true rfl) (by decide) rfl rfl (fun h16 q16 => ?_)
        obtain ⟨hc, hf1⟩ := q16
        replace hm := cm_le hm hf1
        replace hf := le_tr hf hf1
        have hF : f_tl L si wr lo m = ((am_m m, si + (nI (L / 2 - 2)), false, lo, f_redo wr (am_f m) (am_4 m)), wr) := by unfold f_tl; simp only [c4, c11, cond_true, cond_false]
        rw [hF]
        exact rw_vret (pc := 96) dC_takeLease_96 rfl ⟨rfl, hc, hf⟩
    · skip
      replace c11 : (f_hw wr (am_f m)) = true := mb_T c11
      refine rw_aload_n (pc := 54) dC_takeLease_54 rfl ?_
      refine rw_aload_n (pc := 55) dC_takeLease_55 rfl ?_
      refine rw_getI (pc := 56) (x := nI (am_f m)) flC_131_P dC_takeLease_56 (cm_o hm) (cm_p hm h4 h7).2.1 hm.2.1.2.2.1 ?_
      refine rw_vv (pc := 59) (z' := (1, 0, 0)) (rc' := 0) (rs' := 0) (av := [.inl (nI (am_f m))]) (st := []) (ci := 4) mlC_145 miC_removeAllWritesTo rfl mvC_removeAllWritesTo_C dC_takeLease_59 (cs_o hc (by omega) (by omega)) (cs_SC hc (by omega)) (cC_removeAllWritesTo G _ hc hl hf4) rfl rfl (Nat.le_of_ble_eq_true rfl) (by decide) rfl rfl (fun h17 q17 => ?_)
      obtain ⟨hc, hf1⟩ := q17
      replace hm := cm_le hm hf1
      replace hf := le_tr hf hf1
      refine rw_aload_n (pc := 62) dC_takeLease_62 rfl ?_
      refine rw_iconst (pc := 63) (x := nI 1) dC_takeLease_63 (by decide) ?_
      refine rw_putZ (pc := 64) pfC_88_K dC_takeLease_64 (cs_o hc (by omega) (by omega)) (cs_SK hc (by omega) (by omega)) (Or.inr rfl) ?_
      replace hc := wp_lo hc (by omega) (by omega) true
      replace hm := cm_le hm (le_sI (h := h17) (A := (32 + 11 * c + 2 * (am_f m))) (k := 4) (v := (m_bi true)) (by omega))
      replace hf := le_tr hf (le_sI (h := h17) (A := (32 + 11 * c + 2 * (am_f m))) (k := 4) (v := (m_bi true)) (by omega))
      show rn_W G xC_takeLease (2, 0, 0) 0 0 67 [some (.inr (some (29 + 11 * c))), some (.inr (some i)), some (.inr (some (32 + 11 * c + 2 * (am_f m))))] [] (hp_sI h17 (32 + 11 * c + 2 * (am_f m)) 4 (m_bi true)) _
      generalize hp_sI h17 (32 + 11 * c + 2 * (am_f m)) 4 (m_bi true) = g18 at hc hf hm ⊢
      refine rw_aload_n (pc := 67) dC_takeLease_67 rfl ?_
      obtain ⟨u19, eu19, bu19, su19, vu19⟩ := (cm_p hm h4 h7).2.2.2.2.2 hk4
      refine rw_getR (pc := 68) (x := some u19) flC_148_P dC_takeLease_68 (cm_o hm) (cm_p hm h4 h7).2.1 eu19 ?_
      refine rw_ifnull (pc := 71) dC_takeLease_71 (tgt := 88) rfl (fun c20 => ?_) (fun rc20 c20 => ?_)
      · skip
        cases c20
      · skip
        refine rw_aload_n (pc := 74) dC_takeLease_74 rfl ?_
        obtain ⟨u21, eu21, bu21, su21, vu21⟩ := (cm_p hm h4 h7).2.2.2.2.2 hk4
        refine rw_getR (pc := 75) (x := some u21) flC_148_P dC_takeLease_75 (cm_o hm) (cm_p hm h4 h7).2.1 eu21 ?_
        refine rw_iconst (pc := 78) (x := nI 0) dC_takeLease_78 (by decide) ?_
        refine rw_aload_n (pc := 79) dC_takeLease_79 rfl ?_
        refine rw_getR (pc := 80) (x := some (33 + 11 * c + 2 * (am_f m))) flC_84_K dC_takeLease_80 (cs_o hc (by omega) (by omega)) (cs_SK hc (by omega) (by omega)) (cr_K hc (by omega) (by omega)) ?_
        refine rw_iconst (pc := 83) (x := nI 0) dC_takeLease_83 (by decide) ?_
        refine rw_iconst (pc := 84) (x := nI 4) dC_takeLease_84 (by decide) ?_
        refine rw_copy (pc := 85) (a0 := u21) (a := 33 + 11 * c + 2 * am_f m) (n0 := 4) (n1 := 4) (n := 4) bw_536 bw_538 bw_537 bw_13 dC_takeLease_85 ⟨by omega, bu21.2⟩ su21 (cs_o hc (by omega) (by omega)) (cs_Sk hc hl hf4) (by decide) (by decide) (by decide) (by decide) (by decide) (by decide) (by decide) (Nat.le_of_ble_eq_true rfl) ?_
        show rn_W G xC_takeLease (2, 0, 0) 0 0 88 [some (.inr (some (29 + 11 * c))), some (.inr (some i)), some (.inr (some (32 + 11 * c + 2 * (am_f m))))] [] (hp_cp g18 u21 0 (33 + 11 * c + 2 * am_f m) 0 4) _
        replace hc := wq_cp hc hl hf4 vu21
        replace hm := cm_le hm (le_cp (h := g18) (a := u21) (b := 33 + 11 * c + 2 * am_f m) (by omega))
        replace hf := le_tr hf (le_cp (h := g18) (a := u21) (b := 33 + 11 * c + 2 * am_f m) (by omega))
        generalize hp_cp g18 u21 0 (33 + 11 * c + 2 * am_f m) 0 4 = g22 at hc hm hf ⊢
        refine rw_aload_n (pc := 88) dC_takeLease_88 rfl ?_
        refine rw_aload_n (pc := 89) dC_takeLease_89 rfl ?_
        refine rw_getI (pc := 90) (x := nI (am_f m)) flC_131_P dC_takeLease_90 (cm_o hm) (cm_p hm h4 h7).2.1 hm.2.1.2.2.1 ?_
        refine rw_vv (pc := 93) (z' := (0, 0, 0)) (rc' := 0) (rs' := 0) (av := [.inl (nI (am_f m))]) (st := []) (ci := 4) mlC_155 miC_redoWritesOn rfl mvC_redoWritesOn_C dC_takeLease_93 (cs_o hc (by omega) (by omega)) (cs_SC hc (by omega)) (cC_redoWritesOn G _ hc hl hf4) rfl rfl (Nat.le_of_ble_eq_true rfl) (by decide) rfl rfl (fun h23 q23 => ?_)
        obtain ⟨hc, hf1⟩ := q23
        replace hm := cm_le hm hf1
        replace hf := le_tr hf hf1
        have hF : f_tl L si wr lo m = ((am_m m, si + (nI (L / 2 - 2)), false, true, f_redo (f_ra wr (am_f m)) (am_f m) (am_4 m)), f_ra wr (am_f m)) := by unfold f_tl; simp only [c4, c11, cond_true, cond_false]
        rw [hF]
        exact rw_vret (pc := 96) dC_takeLease_96 rfl ⟨rfl, hc, hf⟩
/-- a reply arrives while o is open: what is open, the copy, the writes -/
def f_ry (L : Nat) (si : Int32) (wr : List ab_W) (mo : Nat) (ti : Int32) (re lo : Bool) (ps : Nat → Int32) (o m : ab_M) : Option ab_M × ab_P × List ab_W :=
  if am_n o = am_n m then (none, if am_k m = 4 then f_tl L si wr lo m else if am_k m = 7 then ((0, ti, re, true, ps), f_ra wr (am_f m)) else if am_k m = 6 then (if am_k o = 2 then ((mo, ti, re, lo, ps), f_rf wr (am_f m)) else ((mo, ti, re, lo, ps), wr)) else ((mo, ti, re, lo, ps), wr)) else (some o, (mo, ti, re, lo, ps), wr)
theorem cC_replyArrives0 (G : mt_G) (h : ha_H) {L : Nat} {n : List ab_M} {su : Bool} {sn : Int32} {sg : Bool} {se : Int32} {pg : Nat → Nat → Int32} {md : Nat → Nat → Nat} {en : Nat → Nat → Int32} {sd : Nat → Option ab_M} {ln : Nat → List ab_M} {C : Nat → ab_C} {c : Nat} {up : Bool} {nw nu : Int32} {si : Int32} {cp : Nat → ab_P} {wr : List ab_W} {m : ab_M} {i : Nat} {mo : Nat} {ti : Int32} {re lo : Bool} {ps : Nat → Int32} (hc : CV L n su sn sg se pg md en sd ln (fu C c (up, nw, nu, none, si, fu cp (am_f m) (mo, ti, re, lo, ps), wr)) h) (hl : c < 3) (hm : cv_M h i m) (h4 : 4 ≤ am_k m) (h7 : am_k m ≤ 7) : rn_M G xC_replyArrives (3, 0, 0) [.inr (some (29 + 11 * c)), .inr (some i)] h (rn_v (fun h' => CV L n su sn sg se pg md en sd ln (fu C c (up, nw, nu, none, si, fu cp (am_f m) (mo, ti, re, lo, ps), wr)) h' ∧ hp_le h h')) := by
  have hf := le_rf h
  have hf4 : am_f m < 4 := hm.2.2.1.2
  refine rn_of (by decide +kernel) (Nat.le_of_ble_eq_true rfl) ?_
  show rn_W G xC_replyArrives (3, 0, 0) 0 0 0 [some (.inr (some (29 + 11 * c))), some (.inr (some i)), none] [] h _
  refine rw_aload_n (pc := 0) dC_replyArrives_0 rfl ?_
  refine rw_getI (pc := 1) (x := m_bi up) flC_27_C dC_replyArrives_1 (cs_o hc (by omega) (by omega)) (cs_SC hc (by omega)) (cv_C1 hc (by omega)).2.1 ?_
  refine rw_ifeq (pc := 4) dC_replyArrives_4 (tgt := 28) rfl (fun c1 => ?_) (fun c1 => ?_)
  · skip
    replace c1 : up = false := (m_bi0 _).mp c1
    exact rw_vret (pc := 28) dC_replyArrives_28 rfl ⟨rfl, hc, hf⟩
  · skip
    replace c1 : up = true := mb_T c1
    refine rw_aload_n (pc := 7) dC_replyArrives_7 rfl ?_
    refine rw_getR (pc := 8) (x := none) flC_37_C dC_replyArrives_8 (cs_o hc (by omega) (by omega)) (cs_SC hc (by omega)) (co_N (cv_C1 hc (by omega)).2.2.2.2.1) ?_
    refine rw_ifnull (pc := 11) dC_replyArrives_11 (tgt := 28) rfl (fun c2 => ?_) (fun rc2 c2 => ?_)
    · skip
      exact rw_vret (pc := 28) dC_replyArrives_28 rfl ⟨rfl, hc, hf⟩
    · skip
      cases c2
theorem cC_replyArrives1 (G : mt_G) (h : ha_H) {L : Nat} {n : List ab_M} {su : Bool} {sn : Int32} {sg : Bool} {se : Int32} {pg : Nat → Nat → Int32} {md : Nat → Nat → Nat} {en : Nat → Nat → Int32} {sd : Nat → Option ab_M} {ln : Nat → List ab_M} {C : Nat → ab_C} {c : Nat} {up : Bool} {nw nu : Int32} {o : ab_M} {si : Int32} {cp : Nat → ab_P} {wr : List ab_W} {m : ab_M} {i : Nat} {mo : Nat} {ti : Int32} {re lo : Bool} {ps : Nat → Int32} (hc : CV L n su sn sg se pg md en sd ln (fu C c (up, nw, nu, some o, si, fu cp (am_f m) (mo, ti, re, lo, ps), wr)) h) (hl : c < 3) (hm : cv_M h i m) (h4 : 4 ≤ am_k m) (h7 : am_k m ≤ 7) : rn_M G xC_replyArrives (3, 0, 0) [.inr (some (29 + 11 * c)), .inr (some i)] h (rn_v (fun h' => CV L n su sn sg se pg md en sd ln (fu C c (up, nw, nu, (bif up then f_ry L si wr mo ti re lo ps o m else (some o, (mo, ti, re, lo, ps), wr)).1, si, fu cp (am_f m) (bif up then f_ry L si wr mo ti re lo ps o m else (some o, (mo, ti, re, lo, ps), wr)).2.1, (bif up then f_ry L si wr mo ti re lo ps o m else (some o, (mo, ti, re, lo, ps), wr)).2.2)) h' ∧ hp_le h h')) := by
  have hf := le_rf h
  have hf4 : am_f m < 4 := hm.2.2.1.2
  obtain ⟨o0, eo0, ko0, lo0, ho0⟩ := co_Sm (cv_C1 hc hl).2.2.2.2.1
  refine rn_of (by decide +kernel) (Nat.le_of_ble_eq_true rfl) ?_
  show rn_W G xC_replyArrives (3, 0, 0) 0 0 0 [some (.inr (some (29 + 11 * c))), some (.inr (some i)), none] [] h _
  refine rw_aload_n (pc := 0) dC_replyArrives_0 rfl ?_
  refine rw_getI (pc := 1) (x := m_bi up) flC_27_C dC_replyArrives_1 (cs_o hc (by omega) (by omega)) (cs_SC hc (by omega)) (cv_C1 hc (by omega)).2.1 ?_
  refine rw_ifeq (pc := 4) dC_replyArrives_4 (tgt := 28) rfl (fun c1 => ?_) (fun c1 => ?_)
  · skip
    replace c1 : up = false := (m_bi0 _).mp c1
    have hF : (bif up then f_ry L si wr mo ti re lo ps o m else (some o, (mo, ti, re, lo, ps), wr)) = (some o, (mo, ti, re, lo, ps), wr) := by unfold f_ry; simp [cond_true, cond_false, c1]
    rw [hF]
    exact rw_vret (pc := 28) dC_replyArrives_28 rfl ⟨rfl, hc, hf⟩
  · skip
    replace c1 : up = true := mb_T c1
    refine rw_aload_n (pc := 7) dC_replyArrives_7 rfl ?_
    obtain ⟨o2, eo2, ko2, lo2, ho2⟩ := co_Sm (cv_C1 hc (by omega)).2.2.2.2.1
    refine rw_getR (pc := 8) (x := some o2) flC_37_C dC_replyArrives_8 (cs_o hc (by omega) (by omega)) (cs_SC hc (by omega)) eo2 ?_
    refine rw_ifnull (pc := 11) dC_replyArrives_11 (tgt := 28) rfl (fun c3 => ?_) (fun rc3 c3 => ?_)
    · skip
      cases c3
    · skip
      refine rw_aload_n (pc := 14) dC_replyArrives_14 rfl ?_
      obtain ⟨o4, eo4, ko4, lo4, ho4⟩ := co_Sm (cv_C1 hc (by omega)).2.2.2.2.1
      refine rw_getR (pc := 15) (x := some o4) flC_37_C dC_replyArrives_15 (cs_o hc (by omega) (by omega)) (cs_SC hc (by omega)) eo4 ?_
      refine rw_getI (pc := 18) (x := am_n o) flC_117_R dC_replyArrives_18 (cm_o ho4) (cm_q ho4 lo4).2.1 ho4.2.1.2.2.2 ?_
      refine rw_aload_n (pc := 21) dC_replyArrives_21 rfl ?_
      refine rw_getI (pc := 22) (x := am_n m) flC_120_P dC_replyArrives_22 (cm_o hm) (cm_p hm h4 h7).2.1 hm.2.1.2.2.2 ?_
      refine rw_icmpeq (pc := 25) dC_replyArrives_25 (tgt := 29) rfl (fun c5 => ?_) (fun c5 => ?_)
      · skip
        refine rw_aload_n (pc := 29) dC_replyArrives_29 rfl ?_
        obtain ⟨o6, eo6, ko6, lo6, ho6⟩ := co_Sm (cv_C1 hc (by omega)).2.2.2.2.1
        refine rw_getR (pc := 30) (x := some o6) flC_37_C dC_replyArrives_30 (cs_o hc (by omega) (by omega)) (cs_SC hc (by omega)) eo6 ?_
        refine rw_getI (pc := 33) (x := nI (am_k o)) flC_123_R dC_replyArrives_33 (cm_o ho6) (cm_q ho6 lo6).2.1 ho6.2.1.1 ?_
        refine rw_iconst (pc := 36) (x := nI 2) dC_replyArrives_36 (by decide) ?_
        refine rw_icmpne (pc := 37) dC_replyArrives_37 (tgt := 44) rfl (fun c7 => ?_) (fun c7 => ?_)
        · skip
          replace c7 : ¬ ((am_k o) = 2) := fun qz => c7 ((nI_eq (a := (am_k o)) (b := 2) (by omega) (by omega)).mpr qz)
          refine rw_iconst (pc := 44) (x := nI 0) dC_replyArrives_44 (by decide) ?_
          refine rw_istore_n (pc := 45) (L' := [some (.inr (some (29 + 11 * c))), some (.inr (some i)), some (.inl (nI 0))]) dC_replyArrives_45 (by decide) rfl ?_
          refine rw_aload_n (pc := 46) dC_replyArrives_46 rfl ?_
          refine rw_null (pc := 47) dC_replyArrives_47 ?_
          refine rw_putR (pc := 48) pfC_37_C (Or.inl ⟨_, rfl⟩) dC_replyArrives_48 (cs_o hc (by omega) (by omega)) (cs_SC hc (by omega)) ?_
          replace hc := wc_no hc (by omega)
          replace hm := cm_le hm (le_sR (h := h) (A := (29 + 11 * c)) (k := 9) (v := none) (by omega))
          replace ho2 := cm_le ho2 (le_sR (h := h) (A := (29 + 11 * c)) (k := 9) (v := none) (by omega))
          replace ho4 := cm_le ho4 (le_sR (h := h) (A := (29 + 11 * c)) (k := 9) (v := none) (by omega))
          replace ho6 := cm_le ho6 (le_sR (h := h) (A := (29 + 11 * c)) (k := 9) (v := none) (by omega))
          replace hf := le_tr hf (le_sR (h := h) (A := (29 + 11 * c)) (k := 9) (v := none) (by omega))
          generalize hp_sR h (29 + 11 * c) 9 none = g8 at hc hf hm ho2 ho4 ho6 ⊢
          refine rw_aload_n (pc := 51) dC_replyArrives_51 rfl ?_
          refine rw_getI (pc := 52) (x := nI (am_k m)) flC_126_P dC_replyArrives_52 (cm_o hm) (cm_p hm h4 h7).2.1 hm.2.1.1 ?_
          refine rw_iconst (pc := 55) (x := nI 4) dC_replyArrives_55 (by decide) ?_
          refine rw_icmpne (pc := 56) dC_replyArrives_56 (tgt := 67) rfl (fun c9 => ?_) (fun c9 => ?_)
          · skip
            replace c9 : ¬ ((am_k m) = 4) := fun qz => c9 ((nI_eq (a := (am_k m)) (b := 4) (by omega) (by omega)).mpr qz)
            refine rw_aload_n (pc := 67) dC_replyArrives_67 rfl ?_
            refine rw_getI (pc := 68) (x := nI (am_k m)) flC_126_P dC_replyArrives_68 (cm_o hm) (cm_p hm h4 h7).2.1 hm.2.1.1 ?_
            refine rw_bipush (pc := 71) (x := nI 7) dC_replyArrives_71 (by decide) ?_
            refine rw_icmpne (pc := 73) dC_replyArrives_73 (tgt := 87) rfl (fun c10 => ?_) (fun c10 => ?_)
            · skip
              replace c10 : ¬ ((am_k m) = 7) := fun qz => c10 ((nI_eq (a := (am_k m)) (b := 7) (by omega) (by omega)).mpr qz)
              refine rw_aload_n (pc := 87) dC_replyArrives_87 rfl ?_
              refine rw_getI (pc := 88) (x := nI (am_k m)) flC_126_P dC_replyArrives_88 (cm_o hm) (cm_p hm h4 h7).2.1 hm.2.1.1 ?_
              refine rw_bipush (pc := 91) (x := nI 6) dC_replyArrives_91 (by decide) ?_
              refine rw_icmpne (pc := 93) dC_replyArrives_93 (tgt := 108) rfl (fun c11 => ?_) (fun c11 => ?_)
              · skip
                replace c11 : ¬ ((am_k m) = 6) := fun qz => c11 ((nI_eq (a := (am_k m)) (b := 6) (by omega) (by omega)).mpr qz)
                have hF : (bif up then f_ry L si wr mo ti re lo ps o m else (some o, (mo, ti, re, lo, ps), wr)) = (none, (mo, ti, re, lo, ps), wr) := by unfold f_ry; simp [cond_true, cond_false, c1, c5, c7, c9, c10, c11]
                rw [hF]
                exact rw_vret (pc := 108) dC_replyArrives_108 rfl ⟨rfl, hc, hf⟩
              · skip
                replace c11 : (am_k m) = 6 := (nI_eq (a := (am_k m)) (b := 6) (by omega) (by omega)).mp c11
                refine rw_iload_n (pc := 96) dC_replyArrives_96 rfl ?_
                refine rw_ifeq (pc := 97) dC_replyArrives_97 (tgt := 108) rfl (fun c12 => ?_) (fun c12 => ?_)
                · skip
                  replace c12 : 0 = 0 := (nI_eq (a := 0) (b := 0) (by omega) (by omega)).mp c12
                  have hF : (bif up then f_ry L si wr mo ti re lo ps o m else (some o, (mo, ti, re, lo, ps), wr)) = (none, (mo, ti, re, lo, ps), wr) := by unfold f_ry; simp [cond_true, cond_false, c1, c5, c7, c9, c10, c11]
                  rw [hF]
                  exact rw_vret (pc := 108) dC_replyArrives_108 rfl ⟨rfl, hc, hf⟩
                · skip
                  replace c12 : ¬ (0 = 0) := fun qz => c12 ((nI_eq (a := 0) (b := 0) (by omega) (by omega)).mpr qz)
                  exact absurd (by decide) c12
            · skip
              replace c10 : (am_k m) = 7 := (nI_eq (a := (am_k m)) (b := 7) (by omega) (by omega)).mp c10
              refine rw_aload_n (pc := 76) dC_replyArrives_76 rfl ?_
              refine rw_aload_n (pc := 77) dC_replyArrives_77 rfl ?_
              refine rw_getI (pc := 78) (x := nI (am_f m)) flC_131_P dC_replyArrives_78 (cm_o hm) (cm_p hm h4 h7).2.1 hm.2.1.2.2.1 ?_
              refine rw_vv (pc := 81) (z' := (2, 0, 0)) (rc' := 0) (rs' := 0) (av := [.inl (nI (am_f m))]) (st := []) (ci := 4) mlC_132 miC_loseLease rfl mvC_loseLease_C dC_replyArrives_81 (cs_o hc (by omega) (by omega)) (cs_SC hc (by omega)) (cC_loseLease G _ hc hl hf4) rfl rfl (Nat.le_of_ble_eq_true rfl) (by decide) rfl rfl (fun h13 q13 => ?_)
              obtain ⟨hc, hf1⟩ := q13
              replace hm := cm_le hm hf1
              replace ho2 := cm_le ho2 hf1
              replace ho4 := cm_le ho4 hf1
              replace ho6 := cm_le ho6 hf1
              replace hf := le_tr hf hf1
              refine rw_goto (pc := 84) dC_replyArrives_84 (tgt := 108) rfl ?_
              have hF : (bif up then f_ry L si wr mo ti re lo ps o m else (some o, (mo, ti, re, lo, ps), wr)) = (none, (0, ti, re, true, ps), f_ra wr (am_f m)) := by unfold f_ry; simp [cond_true, cond_false, c1, c5, c7, c9, c10]
              rw [hF]
              exact rw_vret (pc := 108) dC_replyArrives_108 rfl ⟨rfl, hc, hf⟩
          · skip
            replace c9 : (am_k m) = 4 := (nI_eq (a := (am_k m)) (b := 4) (by omega) (by omega)).mp c9
            refine rw_aload_n (pc := 59) dC_replyArrives_59 rfl ?_
            refine rw_aload_n (pc := 60) dC_replyArrives_60 rfl ?_
            refine rw_vv (pc := 61) (z' := (2, 0, 0)) (rc' := 0) (rs' := 0) (av := [.inr (some i)]) (st := []) (ci := 4) mlC_127 miC_takeLease rfl mvC_takeLease_C dC_replyArrives_61 (cs_o hc (by omega) (by omega)) (cs_SC hc (by omega)) (cC_takeLease G _ hc hl hm (by omega)) rfl rfl (Nat.le_of_ble_eq_true rfl) (by decide) rfl rfl (fun h14 q14 => ?_)
            obtain ⟨hc, hf1⟩ := q14
            replace hm := cm_le hm hf1
            replace ho2 := cm_le ho2 hf1
            replace ho4 := cm_le ho4 hf1
            replace ho6 := cm_le ho6 hf1
            replace hf := le_tr hf hf1
            refine rw_goto (pc := 64) dC_replyArrives_64 (tgt := 108) rfl ?_
            have hF : (bif up then f_ry L si wr mo ti re lo ps o m else (some o, (mo, ti, re, lo, ps), wr)) = (none, (f_tl L si wr lo m).1, (f_tl L si wr lo m).2) := by unfold f_ry; simp [cond_true, cond_false, c1, c5, c7, c9]
            rw [hF]
            exact rw_vret (pc := 108) dC_replyArrives_108 rfl ⟨rfl, hc, hf⟩
        · skip
          replace c7 : (am_k o) = 2 := (nI_eq (a := (am_k o)) (b := 2) (by omega) (by omega)).mp c7
          refine rw_iconst (pc := 40) (x := nI 1) dC_replyArrives_40 (by decide) ?_
          refine rw_goto (pc := 41) dC_replyArrives_41 (tgt := 45) rfl ?_
          refine rw_istore_n (pc := 45) (L' := [some (.inr (some (29 + 11 * c))), some (.inr (some i)), some (.inl (nI 1))]) dC_replyArrives_45 (by decide) rfl ?_
          refine rw_aload_n (pc := 46) dC_replyArrives_46 rfl ?_
          refine rw_null (pc := 47) dC_replyArrives_47 ?_
          refine rw_putR (pc := 48) pfC_37_C (Or.inl ⟨_, rfl⟩) dC_replyArrives_48 (cs_o hc (by omega) (by omega)) (cs_SC hc (by omega)) ?_
          replace hc := wc_no hc (by omega)
          replace hm := cm_le hm (le_sR (h := h) (A := (29 + 11 * c)) (k := 9) (v := none) (by omega))
          replace ho2 := cm_le ho2 (le_sR (h := h) (A := (29 + 11 * c)) (k := 9) (v := none) (by omega))
          replace ho4 := cm_le ho4 (le_sR (h := h) (A := (29 + 11 * c)) (k := 9) (v := none) (by omega))
          replace ho6 := cm_le ho6 (le_sR (h := h) (A := (29 + 11 * c)) (k := 9) (v := none) (by omega))
          replace hf := le_tr hf (le_sR (h := h) (A := (29 + 11 * c)) (k := 9) (v := none) (by omega))
          generalize hp_sR h (29 + 11 * c) 9 none = g15 at hc hf hm ho2 ho4 ho6 ⊢
          refine rw_aload_n (pc := 51) dC_replyArrives_51 rfl ?_
          refine rw_getI (pc := 52) (x := nI (am_k m)) flC_126_P dC_replyArrives_52 (cm_o hm) (cm_p hm h4 h7).2.1 hm.2.1.1 ?_
          refine rw_iconst (pc := 55) (x := nI 4) dC_replyArrives_55 (by decide) ?_
          refine rw_icmpne (pc := 56) dC_replyArrives_56 (tgt := 67) rfl (fun c16 => ?_) (fun c16 => ?_)
          · skip
            replace c16 : ¬ ((am_k m) = 4) := fun qz => c16 ((nI_eq (a := (am_k m)) (b := 4) (by omega) (by omega)).mpr qz)
            refine rw_aload_n (pc := 67) dC_replyArrives_67 rfl ?_
            refine rw_getI (pc := 68) (x := nI (am_k m)) flC_126_P dC_replyArrives_68 (cm_o hm) (cm_p hm h4 h7).2.1 hm.2.1.1 ?_
            refine rw_bipush (pc := 71) (x := nI 7) dC_replyArrives_71 (by decide) ?_
            refine rw_icmpne (pc := 73) dC_replyArrives_73 (tgt := 87) rfl (fun c17 => ?_) (fun c17 => ?_)
            · skip
              replace c17 : ¬ ((am_k m) = 7) := fun qz => c17 ((nI_eq (a := (am_k m)) (b := 7) (by omega) (by omega)).mpr qz)
              refine rw_aload_n (pc := 87) dC_replyArrives_87 rfl ?_
              refine rw_getI (pc := 88) (x := nI (am_k m)) flC_126_P dC_replyArrives_88 (cm_o hm) (cm_p hm h4 h7).2.1 hm.2.1.1 ?_
              refine rw_bipush (pc := 91) (x := nI 6) dC_replyArrives_91 (by decide) ?_
              refine rw_icmpne (pc := 93) dC_replyArrives_93 (tgt := 108) rfl (fun c18 => ?_) (fun c18 => ?_)
              · skip
                replace c18 : ¬ ((am_k m) = 6) := fun qz => c18 ((nI_eq (a := (am_k m)) (b := 6) (by omega) (by omega)).mpr qz)
                have hF : (bif up then f_ry L si wr mo ti re lo ps o m else (some o, (mo, ti, re, lo, ps), wr)) = (none, (mo, ti, re, lo, ps), wr) := by unfold f_ry; simp [cond_true, cond_false, c1, c5, c7, c16, c17, c18]
                rw [hF]
                exact rw_vret (pc := 108) dC_replyArrives_108 rfl ⟨rfl, hc, hf⟩
              · skip
                replace c18 : (am_k m) = 6 := (nI_eq (a := (am_k m)) (b := 6) (by omega) (by omega)).mp c18
                refine rw_iload_n (pc := 96) dC_replyArrives_96 rfl ?_
                refine rw_ifeq (pc := 97) dC_replyArrives_97 (tgt := 108) rfl (fun c19 => ?_) (fun c19 => ?_)
                · skip
                  replace c19 : 1 = 0 := (nI_eq (a := 1) (b := 0) (by omega) (by omega)).mp c19
                  exact absurd c19 (by decide)
                · skip
                  replace c19 : ¬ (1 = 0) := fun qz => c19 ((nI_eq (a := 1) (b := 0) (by omega) (by omega)).mpr qz)
                  refine rw_aload_n (pc := 100) dC_replyArrives_100 rfl ?_
                  refine rw_aload_n (pc := 101) dC_replyArrives_101 rfl ?_
                  refine rw_getI (pc := 102) (x := nI (am_f m)) flC_131_P dC_replyArrives_102 (cm_o hm) (cm_p hm h4 h7).2.1 hm.2.1.2.2.1 ?_
                  refine rw_vv (pc := 105) (z' := (1, 0, 0)) (rc' := 0) (rs' := 0) (av := [.inl (nI (am_f m))]) (st := []) (ci := 4) mlC_135 miC_removeFirstWriteTo rfl mvC_removeFirstWriteTo_C dC_replyArrives_105 (cs_o hc (by omega) (by omega)) (cs_SC hc (by omega)) (cC_removeFirstWriteTo G _ hc hl hf4) rfl rfl (Nat.le_of_ble_eq_true rfl) (by decide) rfl rfl (fun h20 q20 => ?_)
                  obtain ⟨hc, hf1⟩ := q20
                  replace hm := cm_le hm hf1
                  replace ho2 := cm_le ho2 hf1
                  replace ho4 := cm_le ho4 hf1
                  replace ho6 := cm_le ho6 hf1
                  replace hf := le_tr hf hf1
                  have hF : (bif up then f_ry L si wr mo ti re lo ps o m else (some o, (mo, ti, re, lo, ps), wr)) = (none, (mo, ti, re, lo, ps), f_rf wr (am_f m)) := by unfold f_ry; simp [cond_true, cond_false, c1, c5, c7, c16, c17, c18]
                  rw [hF]
                  exact rw_vret (pc := 108) dC_replyArrives_108 rfl ⟨rfl, hc, hf⟩
            · skip
              replace c17 : (am_k m) = 7 := (nI_eq (a := (am_k m)) (b := 7) (by omega) (by omega)).mp c17
              refine rw_aload_n (pc := 76) dC_replyArrives_76 rfl ?_
              refine rw_aload_n (pc := 77) dC_replyArrives_77 rfl ?_
              refine rw_getI (pc := 78) (x := nI (am_f m)) flC_131_P dC_replyArrives_78 (cm_o hm) (cm_p hm h4 h7).2.1 hm.2.1.2.2.1 ?_
              refine rw_vv (pc := 81) (z' := (2, 0, 0)) (rc' := 0) (rs' := 0) (av := [.inl (nI (am_f m))]) (st := []) (ci := 4) mlC_132 miC_loseLease rfl mvC_loseLease_C dC_replyArrives_81 (cs_o hc (by omega) (by omega)) (cs_SC hc (by omega)) (cC_loseLease G _ hc hl hf4) rfl rfl (Nat.le_of_ble_eq_true rfl) (by decide) rfl rfl (fun h21 q21 => ?_)
              obtain ⟨hc, hf1⟩ := q21
              replace hm := cm_le hm hf1
              replace ho2 := cm_le ho2 hf1
              replace ho4 := cm_le ho4 hf1
              replace ho6 := cm_le ho6 hf1
              replace hf := le_tr hf hf1
              refine rw_goto (pc := 84) dC_replyArrives_84 (tgt := 108) rfl ?_
              have hF : (bif up then f_ry L si wr mo ti re lo ps o m else (some o, (mo, ti, re, lo, ps), wr)) = (none, (0, ti, re, true, ps), f_ra wr (am_f m)) := by unfold f_ry; simp [cond_true, cond_false, c1, c5, c7, c16, c17]
              rw [hF]
              exact rw_vret (pc := 108) dC_replyArrives_108 rfl ⟨rfl, hc, hf⟩
          · skip
            replace c16 : (am_k m) = 4 := (nI_eq (a := (am_k m)) (b := 4) (by omega) (by omega)).mp c16
            refine rw_aload_n (pc := 59) dC_replyArrives_59 rfl ?_
            refine rw_aload_n (pc := 60) dC_replyArrives_60 rfl ?_
            refine rw_vv (pc := 61) (z' := (2, 0, 0)) (rc' := 0) (rs' := 0) (av := [.inr (some i)]) (st := []) (ci := 4) mlC_127 miC_takeLease rfl mvC_takeLease_C dC_replyArrives_61 (cs_o hc (by omega) (by omega)) (cs_SC hc (by omega)) (cC_takeLease G _ hc hl hm (by omega)) rfl rfl (Nat.le_of_ble_eq_true rfl) (by decide) rfl rfl (fun h22 q22 => ?_)
            obtain ⟨hc, hf1⟩ := q22
            replace hm := cm_le hm hf1
            replace ho2 := cm_le ho2 hf1
            replace ho4 := cm_le ho4 hf1
            replace ho6 := cm_le ho6 hf1
            replace hf := le_tr hf hf1
            refine rw_goto (pc := 64) dC_replyArrives_64 (tgt := 108) rfl ?_
            have hF : (bif up then f_ry L si wr mo ti re lo ps o m else (some o, (mo, ti, re, lo, ps), wr)) = (none, (f_tl L si wr lo m).1, (f_tl L si wr lo m).2) := by unfold f_ry; simp [cond_true, cond_false, c1, c5, c7, c16]
            rw [hF]
            exact rw_vret (pc := 108) dC_replyArrives_108 rfl ⟨rfl, hc, hf⟩
      · skip
        have hF : (bif up then f_ry L si wr mo ti re lo ps o m else (some o, (mo, ti, re, lo, ps), wr)) = (some o, (mo, ti, re, lo, ps), wr) := by unfold f_ry; simp [cond_true, cond_false, c1, c5]
        rw [hF]
        exact rw_vret (pc := 28) dC_replyArrives_28 rfl ⟨rfl, hc, hf⟩
def fz_ (y : ab_P) : ab_P := (0, nI 0, false, false, f_z4 y.2.2.2.2 (nI 0))
theorem cC_goDown (G : mt_G) (h : ha_H) {L : Nat} {n : List ab_M} {su : Bool} {sn : Int32} {sg : Bool} {se : Int32} {pg : Nat → Nat → Int32} {md : Nat → Nat → Nat} {en : Nat → Nat → Int32} {sd : Nat → Option ab_M} {ln : Nat → List ab_M} {C : Nat → ab_C} {c : Nat} {up : Bool} {nw nu : Int32} {op : Option ab_M} {si : Int32} {cp : Nat → ab_P} {wr : List ab_W} (hc : CV L n su sn sg se pg md en sd ln (fu C c (up, nw, nu, op, si, cp, wr)) h) (hl : c < 3) : rn_M G xC_goDown (2, 0, 0) [.inr (some (29 + 11 * c))] h (rn_v (fun h' => CV L n su sn sg se pg md en sd ln (fu C c (false, nw, nu, none, si, fun f => fz_ (cp f), [])) h' ∧ hp_le h h')) := by
  have hf := le_rf h
  refine rn_of (by decide +kernel) (Nat.le_of_ble_eq_true rfl) ?_
  show rn_W G xC_goDown (2, 0, 0) 0 0 0 [some (.inr (some (29 + 11 * c))), none] [] h _
  refine rw_aload_n (pc := 0) dC_goDown_0 rfl ?_
  refine rw_iconst (pc := 1) (x := nI 0) dC_goDown_1 (by decide) ?_
  refine rw_putZ (pc := 2) pfC_27_C dC_goDown_2 (cs_o hc (by omega) (by omega)) (cs_SC hc (by omega)) (Or.inl rfl) ?_
  replace hc := wc_up hc (by omega) false
  replace hf := le_tr hf (le_sI (h := h) (A := (29 + 11 * c)) (k := 6) (v := (m_bi false)) (by omega))
  show rn_W G xC_goDown (2, 0, 0) 0 0 5 [some (.inr (some (29 + 11 * c))), none] [] (hp_sI h (29 + 11 * c) 6 (m_bi false)) _
  generalize hp_sI h (29 + 11 * c) 6 (m_bi false) = g1 at hc hf ⊢
  refine rw_aload_n (pc := 5) dC_goDown_5 rfl ?_
  refine rw_null (pc := 6) dC_goDown_6 ?_
  refine rw_putR (pc := 7) pfC_37_C (Or.inl ⟨_, rfl⟩) dC_goDown_7 (cs_o hc (by omega) (by omega)) (cs_SC hc (by omega)) ?_
  replace hc := wc_no hc (by omega)
  replace hf := le_tr hf (le_sR (h := g1) (A := (29 + 11 * c)) (k := 9) (v := none) (by omega))
  generalize hp_sR g1 (29 + 11 * c) 9 none = g2 at hc hf ⊢
  refine rw_aload_n (pc := 10) dC_goDown_10 rfl ?_
  refine rw_iconst (pc := 11) (x := nI 0) dC_goDown_11 (by decide) ?_
  refine rw_vv (pc := 12) (z' := (0, 0, 0)) (rc' := 0) (rs' := 0) (av := [.inl (nI 0)]) (st := []) (ci := 4) mlC_55 miC_keepWrites rfl mvC_keepWrites_C dC_goDown_12 (cs_o hc (by omega) (by omega)) (cs_SC hc (by omega)) (cC_keepWrites G _ hc hl (k0 := 0) (Nat.zero_le _)) rfl rfl (Nat.le_of_ble_eq_true rfl) (by decide) rfl rfl (fun h3 q3 => ?_)
  obtain ⟨hc, hf1⟩ := q3
  replace hf := le_tr hf hf1
  refine rw_iconst (pc := 15) (x := nI 0) dC_goDown_15 (by decide) ?_
  refine rw_istore_n (pc := 16) (L' := [some (.inr (some (29 + 11 * c))), some (.inl (nI 0))]) dC_goDown_16 (by decide) rfl ?_
  refine rw_iload_n (pc := 17) dC_goDown_17 rfl ?_
  refine rw_iconst (pc := 18) (x := nI 4) dC_goDown_18 (by decide) ?_
  refine rw_icmpge (pc := 19) dC_goDown_19 (tgt := 37) rfl (fun c4 => ?_) (fun c4 => ?_)
  · skip
    replace c4 : 4 ≤ 0 := (nI_leI (a := 4) (b := 0) (by omega) (by omega)).mp c4
    exact absurd c4 (by decide)
  · skip
    replace c4 : ¬ (4 ≤ 0) := fun qz => c4 ((nI_leI (a := 4) (b := 0) (by omega) (by omega)).mpr qz)
    refine rw_aload_n (pc := 22) dC_goDown_22 rfl ?_
    refine rw_getR (pc := 23) (x := some (30 + 11 * c)) flC_11_C dC_goDown_23 (cs_o hc (by omega) (by omega)) (cs_SC hc (by omega)) (cr_C3 hc (by omega)) ?_
    refine rw_iload_n (pc := 26) dC_goDown_26 rfl ?_
    refine rw_aald (pc := 27) (v := some (32 + 11 * c + 2 * 0)) (i := 0) (t := 7) rfl ⟨rfl, by decide⟩ dC_goDown_27 (cs_o hc (by omega) (by omega)) (cs_Scp hc (by omega)) (ix_nI (by omega) (by decide)) (cr_cp hc (by omega) (by omega)) ?_
    refine rw_vv (pc := 28) (z' := (1, 0, 0)) (rc' := 0) (rs' := 0) (av := []) (st := []) (ci := 5) mlC_59 miK_forget rfl mvK_forget_K dC_goDown_28 (cs_o hc (by omega) (by omega)) (cs_SK hc (by omega) (by omega)) (cK_forget G _ (cv_foc 0 hc) hl (by decide)) rfl rfl (Nat.le_of_ble_eq_true rfl) (by decide) rfl rfl (fun h5 q5 => ?_)
    obtain ⟨hc, hf1⟩ := q5
    replace hf := le_tr hf hf1
    replace hc : CV L n su sn sg se pg md en sd ln (fu C c (false, nw, nu, none, si, fu cp 0 (fz_ (cp 0)), wr.take 0)) h5 := hc
    refine rw_iinc (pc := 31) (x := nI 0) (y := nI 1) (L' := [some (.inr (some (29 + 11 * c))), some (.inl (nI 1))]) dC_goDown_31 (by decide) rfl (by decide) rfl ?_
    refine rw_goto (pc := 34) dC_goDown_34 (tgt := 17) rfl ?_
    refine rw_iload_n (pc := 17) dC_goDown_17 rfl ?_
    refine rw_iconst (pc := 18) (x := nI 4) dC_goDown_18 (by decide) ?_
    refine rw_icmpge (pc := 19) dC_goDown_19 (tgt := 37) rfl (fun c6 => ?_) (fun c6 => ?_)
    · skip
      replace c6 : 4 ≤ 1 := (nI_leI (a := 4) (b := 1) (by omega) (by omega)).mp c6
      exact absurd c6 (by decide)
    · skip
      replace c6 : ¬ (4 ≤ 1) := fun qz => c6 ((nI_leI (a := 4) (b := 1) (by omega) (by omega)).mpr qz)
      refine rw_aload_n (pc := 22) dC_goDown_22 rfl ?_
      refine rw_getR (pc := 23) (x := some (30 + 11 * c)) flC_11_C dC_goDown_23 (cs_o hc (by omega) (by omega)) (cs_SC hc (by omega)) (cr_C3 hc (by omega)) ?_
      refine rw_iload_n (pc := 26) dC_goDown_26 rfl ?_
      refine rw_aald (pc := 27) (v := some (32 + 11 * c + 2 * 1)) (i := 1) (t := 7) rfl ⟨rfl, by decide⟩ dC_goDown_27 (cs_o hc (by omega) (by omega)) (cs_Scp hc (by omega)) (ix_nI (by omega) (by decide)) (cr_cp hc (by omega) (by omega)) ?_
      refine rw_vv (pc := 28) (z' := (1, 0, 0)) (rc' := 0) (rs' := 0) (av := []) (st := []) (ci := 5) mlC_59 miK_forget rfl mvK_forget_K dC_goDown_28 (cs_o hc (by omega) (by omega)) (cs_SK hc (by omega) (by omega)) (cK_forget G _ (cv_foc 1 hc) hl (by decide)) rfl rfl (Nat.le_of_ble_eq_true rfl) (by decide) rfl rfl (fun h7 q7 => ?_)
      obtain ⟨hc, hf1⟩ := q7
      replace hf := le_tr hf hf1
      replace hc : CV L n su sn sg se pg md en sd ln (fu C c (false, nw, nu, none, si, fu (fu cp 0 (fz_ (cp 0))) 1 (fz_ ((fu cp 0 (fz_ (cp 0))) 1)), wr.take 0)) h7 := hc
      refine rw_iinc (pc := 31) (x := nI 1) (y := nI 2) (L' := [some (.inr (some (29 + 11 * c))), some (.inl (nI 2))]) dC_goDown_31 (by decide) rfl (by decide) rfl ?_
      refine rw_goto (pc := 34) dC_goDown_34 (tgt := 17) rfl ?_
      refine rw_iload_n (pc := 17) dC_goDown_17 rfl ?_
      refine rw_iconst (pc := 18) (x := nI 4) dC_goDown_18 (by decide) ?_
      refine rw_icmpge (pc := 19) dC_goDown_19 (tgt := 37) rfl (fun c8 => ?_) (fun c8 => ?_)
      · skip
        replace c8 : 4 ≤ 2 := (nI_leI (a := 4) (b := 2) (by omega) (by omega)).mp c8
        exact absurd c8 (by decide)
      · skip
        replace c8 : ¬ (4 ≤ 2) := fun qz => c8 ((nI_leI (a := 4) (b := 2) (by omega) (by omega)).mpr qz)
        refine rw_aload_n (pc := 22) dC_goDown_22 rfl ?_
        refine rw_getR (pc := 23) (x := some (30 + 11 * c)) flC_11_C dC_goDown_23 (cs_o hc (by omega) (by omega)) (cs_SC hc (by omega)) (cr_C3 hc (by omega)) ?_
        refine rw_iload_n (pc := 26) dC_goDown_26 rfl ?_
        refine rw_aald (pc := 27) (v := some (32 + 11 * c + 2 * 2)) (i := 2) (t := 7) rfl ⟨rfl, by decide⟩ dC_goDown_27 (cs_o hc (by omega) (by omega)) (cs_Scp hc (by omega)) (ix_nI (by omega) (by decide)) (cr_cp hc (by omega) (by omega)) ?_
        refine rw_vv (pc := 28) (z' := (1, 0, 0)) (rc' := 0) (rs' := 0) (av := []) (st := []) (ci := 5) mlC_59 miK_forget rfl mvK_forget_K dC_goDown_28 (cs_o hc (by omega) (by omega)) (cs_SK hc (by omega) (by omega)) (cK_forget G _ (cv_foc 2 hc) hl (by decide)) rfl rfl (Nat.le_of_ble_eq_true rfl) (by decide) rfl rfl (fun h9 q9 => ?_)
        obtain ⟨hc, hf1⟩ := q9
        replace hf := le_tr hf hf1
        replace hc : CV L n su sn sg se pg md en sd ln (fu C c (false, nw, nu, none, si, fu (fu (fu cp 0 (fz_ (cp 0))) 1 (fz_ ((fu cp 0 (fz_ (cp 0))) 1))) 2 (fz_ ((fu (fu cp 0 (fz_ (cp 0))) 1 (fz_ ((fu cp 0 (fz_ (cp 0))) 1))) 2)), wr.take 0)) h9 := hc
        refine rw_iinc (pc := 31) (x := nI 2) (y := nI 3) (L' := [some (.inr (some (29 + 11 * c))), some (.inl (nI 3))]) dC_goDown_31 (by decide) rfl (by decide) rfl ?_
        refine rw_goto (pc := 34) dC_goDown_34 (tgt := 17) rfl ?_
        refine rw_iload_n (pc := 17) dC_goDown_17 rfl ?_
        refine rw_iconst (pc := 18) (x := nI 4) dC_goDown_18 (by decide) ?_
        refine rw_icmpge (pc := 19) dC_goDown_19 (tgt := 37) rfl (fun c10 => ?_) (fun c10 => ?_)
        · skip
          replace c10 : 4 ≤ 3 := (nI_leI (a := 4) (b := 3) (by omega) (by omega)).mp c10
          exact absurd c10 (by decide)
        · skip
          replace c10 : ¬ (4 ≤ 3) := fun qz => c10 ((nI_leI (a := 4) (b := 3) (by omega) (by omega)).mpr qz)
          refine rw_aload_n (pc := 22) dC_goDown_22 rfl ?_
          refine rw_getR (pc := 23) (x := some (30 + 11 * c)) flC_11_C dC_goDown_23 (cs_o hc (by omega) (by omega)) (cs_SC hc (by omega)) (cr_C3 hc (by omega)) ?_
          refine rw_iload_n (pc := 26) dC_goDown_26 rfl ?_
          refine rw_aald (pc := 27) (v := some (32 + 11 * c + 2 * 3)) (i := 3) (t := 7) rfl ⟨rfl, by decide⟩ dC_goDown_27 (cs_o hc (by omega) (by omega)) (cs_Scp hc (by omega)) (ix_nI (by omega) (by decide)) (cr_cp hc (by omega) (by omega)) ?_
          refine rw_vv (pc := 28) (z' := (1, 0, 0)) (rc' := 0) (rs' := 0) (av := []) (st := []) (ci := 5) mlC_59 miK_forget rfl mvK_forget_K dC_goDown_28 (cs_o hc (by omega) (by omega)) (cs_SK hc (by omega) (by omega)) (cK_forget G _ (cv_foc 3 hc) hl (by decide)) rfl rfl (Nat.le_of_ble_eq_true rfl) (by decide) rfl rfl (fun h11 q11 => ?_)
          obtain ⟨hc, hf1⟩ := q11
          replace hf := le_tr hf hf1
          replace hc : CV L n su sn sg se pg md en sd ln (fu C c (false, nw, nu, none, si, fu (fu (fu (fu cp 0 (fz_ (cp 0))) 1 (fz_ ((fu cp 0 (fz_ (cp 0))) 1))) 2 (fz_ ((fu (fu cp 0 (fz_ (cp 0))) 1 (fz_ ((fu cp 0 (fz_ (cp 0))) 1))) 2))) 3 (fz_ ((fu (fu (fu cp 0 (fz_ (cp 0))) 1 (fz_ ((fu cp 0 (fz_ (cp 0))) 1))) 2 (fz_ ((fu (fu cp 0 (fz_ (cp 0))) 1 (fz_ ((fu cp 0 (fz_ (cp 0))) 1))) 2))) 3)), wr.take 0)) h11 := hc
          refine rw_iinc (pc := 31) (x := nI 3) (y := nI 4) (L' := [some (.inr (some (29 + 11 * c))), some (.inl (nI 4))]) dC_goDown_31 (by decide) rfl (by decide) rfl ?_
          refine rw_goto (pc := 34) dC_goDown_34 (tgt := 17) rfl ?_
          refine rw_iload_n (pc := 17) dC_goDown_17 rfl ?_
          refine rw_iconst (pc := 18) (x := nI 4) dC_goDown_18 (by decide) ?_
          refine rw_icmpge (pc := 19) dC_goDown_19 (tgt := 37) rfl (fun c12 => ?_) (fun c12 => ?_)
          · skip
            replace c12 : 4 ≤ 4 := (nI_leI (a := 4) (b := 4) (by omega) (by omega)).mp c12
            refine rw_vret (pc := 37) dC_goDown_37 rfl ⟨rfl, ?_, hf⟩
            rw [List.take_zero] at hc
            refine cv_cpx hc hl (fun f hf4 => ?_)
            rcases (by omega : f = 0 ∨ f = 1 ∨ f = 2 ∨ f = 3) with rfl | rfl | rfl | rfl <;> simp [fu]
          · skip
            replace c12 : ¬ (4 ≤ 4) := fun qz => c12 ((nI_leI (a := 4) (b := 4) (by omega) (by omega)).mpr qz)
            exact absurd (by decide) c12
