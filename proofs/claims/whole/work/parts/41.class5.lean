theorem mb_T {b : Bool} (h : ¬ m_bi b = 0) : b = true := by
  cases b with
  | true => rfl
  | false => exact absurd rfl h
theorem co_N {lo hi : Nat} {h : ha_H} {r : Option Nat} (H : cv_O lo hi h r none) : r = none := by
  rcases H with H | ⟨m, i, e, _⟩
  · exact H.2
  · cases e
theorem co_Sm {lo hi : Nat} {h : ha_H} {r : Option Nat} {m : ab_M} (H : cv_O lo hi h r (some m)) : ∃ i, r = some i ∧ lo ≤ am_k m ∧ am_k m ≤ hi ∧ cv_M h i m := by
  rcases H with H | ⟨m', i, e, h1, h2, h3, h4⟩
  · cases H.1
  · cases e
    exact ⟨i, h1, h2, h3, h4⟩
theorem ck_ps {c f p : Nat} {y : ab_P} {h : ha_H} (H : cv_P (32 + 11 * c + 2 * f) y h) (hp : p < 4) : hp_I h (33 + 11 * c + 2 * f) p = y.2.2.2.2 p := by
  have hz := H.2.2.2.2 p hp
  rw [show 32 + 11 * c + 2 * f + 1 = 33 + 11 * c + 2 * f from by omega] at hz
  exact hz
theorem cv_foc {L : Nat} {n : List ab_M} {su : Bool} {sn : Int32} {sg : Bool} {se : Int32} {pg : Nat → Nat → Int32} {md : Nat → Nat → Nat} {en : Nat → Nat → Int32} {sd : Nat → Option ab_M} {ln : Nat → List ab_M} {C : Nat → ab_C} {c : Nat} {up : Bool} {nw nu : Int32} {op : Option ab_M} {si : Int32} {cp : Nat → ab_P} {wr : List ab_W} {h : ha_H} (f : Nat) (H : CV L n su sn sg se pg md en sd ln (fu C c (up, nw, nu, op, si, cp, wr)) h) : CV L n su sn sg se pg md en sd ln (fu C c (up, nw, nu, op, si, fu cp f ((cp f).1, (cp f).2.1, (cp f).2.2.1, (cp f).2.2.2.1, (cp f).2.2.2.2), wr)) h := by
  rw [show fu cp f ((cp f).1, (cp f).2.1, (cp f).2.2.1, (cp f).2.2.2.1, (cp f).2.2.2.2) = cp from fu_id cp f]
  exact H
theorem cC_removeFirstWriteToL (G : mt_G) (h : ha_H) {L : Nat} {n : List ab_M} {su : Bool} {sn : Int32} {sg : Bool} {se : Int32} {pg : Nat → Nat → Int32} {md : Nat → Nat → Nat} {en : Nat → Nat → Int32} {sd : Nat → Option ab_M} {ln : Nat → List ab_M} {C : Nat → ab_C} {c : Nat} {up : Bool} {nw nu : Int32} {op : Option ab_M} {si : Int32} {cp : Nat → ab_P} {wr : List ab_W} (hl : c < 3) {f : Nat} (hf4 : f < 4) (d : Nat) : ∀ (kp i : Nat) (fo : Bool) (H : ha_H) (l : List ab_W), kp ≤ i ∧ i ≤ wr.length → wr.length - i < d → CV L n su sn sg se pg md en sd ln (fu C c (up, nw, nu, op, si, cp, l)) H → l.length = wr.length → l.take kp = f_rf (wr.take i) f → (∀ y, i ≤ y → l[y]? = wr[y]?) → fo = f_hw (wr.take i) f → hp_le h H → rn_W G xC_removeFirstWriteTo (1, 0, 0) 0 0 7 [some (.inr (some (29 + 11 * c))), some (.inl (nI f)), some (.inl (nI kp)), some (.inl (m_bi fo)), some (.inl (nI i))] [] H (rn_v (fun h' => CV L n su sn sg se pg md en sd ln (fu C c (up, nw, nu, op, si, cp, f_rf wr f)) h' ∧ hp_le h h')) := by
  induction d with
  | zero => intro kp i fo H l hi hd; omega
  | succ d ih =>
    intro kp i fo H l hi hd hc hll hlt hly hfo hf
    have h6 : l.length ≤ 6 := (cv_C1 hc hl).2.2.2.2.2.2.2.1.2
    refine rw_iload (pc := 7) dC_removeFirstWriteTo_7 rfl ?_
    refine rw_aload_n (pc := 9) dC_removeFirstWriteTo_9 rfl ?_
    refine rw_getI (pc := 10) (x := nI l.length) flC_23_C dC_removeFirstWriteTo_10 (cs_o hc (by omega) (by omega)) (cs_SC hc (by omega)) (cv_C1 hc (by omega)).2.2.2.2.2.2.2.1.1 ?_
    refine rw_icmpge (pc := 13) dC_removeFirstWriteTo_13 (tgt := 61) rfl (fun c1 => ?_) (fun c1 => ?_)
    · skip
      replace c1 : l.length ≤ i := (nI_leI (a := l.length) (b := i) (by omega) (by omega)).mp c1
      refine rw_aload_n (pc := 61) dC_removeFirstWriteTo_61 rfl ?_
      refine rw_iload_n (pc := 62) dC_removeFirstWriteTo_62 rfl ?_
      refine rw_vv (pc := 63) (z' := (0, 0, 0)) (rc' := 0) (rs' := 0) (av := [.inl (nI kp)]) (st := []) (ci := 4) mlC_55 miC_keepWrites rfl mvC_keepWrites_C dC_removeFirstWriteTo_63 (cs_o hc (by omega) (by omega)) (cs_SC hc (by omega)) (cC_keepWrites G _ hc hl (k0 := kp) (by omega)) rfl rfl (Nat.le_of_ble_eq_true rfl) (by decide) rfl rfl (fun h2 q2 => ?_)
      obtain ⟨hc, hf1⟩ := q2
      replace hf := le_tr hf hf1
      have hz : l.take kp = f_rf wr f := by rw [hlt, List.take_of_length_le (by omega)]
      rw [hz] at hc
      exact rw_vret (pc := 66) dC_removeFirstWriteTo_66 rfl ⟨rfl, hc, hf⟩
    · skip
      replace c1 : ¬ (l.length ≤ i) := fun qz => c1 ((nI_leI (a := l.length) (b := i) (by omega) (by omega)).mpr qz)
      have hli : i < l.length := by omega
      have hw4 : (l[i]'hli).1 < 4 := by obtain ⟨j, _, q⟩ := wr_get hc hl (k := i) hli; exact q.2.2.2.1
      have hlw : l[i]'hli = wr[i]'(by omega) := by
        have hz := hly i (Nat.le_refl _)
        rw [List.getElem?_eq_getElem hli, List.getElem?_eq_getElem (by omega)] at hz
        exact Option.some.inj hz
      refine rw_iload_n (pc := 16) dC_removeFirstWriteTo_16 rfl ?_
      refine rw_ifne (pc := 17) dC_removeFirstWriteTo_17 (tgt := 39) rfl (fun c3 => ?_) (fun c3 => ?_)
      · skip
        replace c3 : fo = true := mb_T c3
        refine rw_aload_n (pc := 39) dC_removeFirstWriteTo_39 rfl ?_
        refine rw_getR (pc := 40) (x := some (31 + 11 * c)) flC_19_C dC_removeFirstWriteTo_40 (cs_o hc (by omega) (by omega)) (cs_SC hc (by omega)) (cr_C4 hc (by omega)) ?_
        refine rw_iload_n (pc := 43) dC_removeFirstWriteTo_43 rfl ?_
        refine rw_aload_n (pc := 44) dC_removeFirstWriteTo_44 rfl ?_
        refine rw_getR (pc := 45) (x := some (31 + 11 * c)) flC_19_C dC_removeFirstWriteTo_45 (cs_o hc (by omega) (by omega)) (cs_SC hc (by omega)) (cr_C4 hc (by omega)) ?_
        refine rw_iload (pc := 48) dC_removeFirstWriteTo_48 rfl ?_
        obtain ⟨j4, ej4, hwj4⟩ := wr_get hc hl (k := i) (by omega)
        refine rw_aald (pc := 50) (v := some j4) (i := i) (t := 8) rfl ⟨rfl, by decide⟩ dC_removeFirstWriteTo_50 (cs_o hc (by omega) (by omega)) (cs_Swr hc (by omega)) (ix_nI (by omega) (by decide)) ej4 ?_
        refine rw_aast (pc := 51) (i := kp) so_8_W (by decide) dC_removeFirstWriteTo_51 (cs_o hc (by omega) (by omega)) (cs_Swr hc (by omega)) (ix_nI (by omega) (by decide)) (cw_o hwj4) hwj4.2.1 ?_
        replace hc := ww_s hc hl (k := kp) (by omega) hwj4
        replace hf := le_tr hf (le_sR (h := H) (A := (31 + 11 * c)) (k := kp) (v := some j4) (by omega))
        generalize hp_sR H (31 + 11 * c) kp (some j4) = g5 at hc hf ⊢
        refine rw_iinc (pc := 52) (x := nI kp) (y := nI (kp + 1)) (L' := [some (.inr (some (29 + 11 * c))), some (.inl (nI f)), some (.inl (nI (kp + 1))), some (.inl (m_bi fo)), some (.inl (nI i))]) dC_removeFirstWriteTo_52 (by decide) rfl (nI_add _ 1) rfl ?_
        refine rw_iinc (pc := 55) (x := nI i) (y := nI (i + 1)) (L' := [some (.inr (some (29 + 11 * c))), some (.inl (nI f)), some (.inl (nI (kp + 1))), some (.inl (m_bi fo)), some (.inl (nI (i + 1)))]) dC_removeFirstWriteTo_55 (by decide) rfl (nI_add _ 1) rfl ?_
        refine rw_goto (pc := 58) dC_removeFirstWriteTo_58 (tgt := 7) rfl ?_
        refine ih (kp + 1) (i + 1) fo g5 (l.set kp (l[i]'hli)) (by omega) (by omega) hc (by rw [List.length_set]; exact hll) ?_ (fun y hy => by rw [List.getElem?_set_ne (by omega)]; exact hly y (by omega)) (by rw [f_tn (show i < wr.length by omega), f_hw_sn, ← hfo, ← hlw]; simp [c3]) hf
        rw [f_ts (by omega), hlt, f_tn (show i < wr.length by omega), f_rf_sn, ← hfo, ← hlw]
        simp [c3]
      · skip
        replace c3 : fo = false := (m_bi0 _).mp c3
        refine rw_aload_n (pc := 20) dC_removeFirstWriteTo_20 rfl ?_
        refine rw_getR (pc := 21) (x := some (31 + 11 * c)) flC_19_C dC_removeFirstWriteTo_21 (cs_o hc (by omega) (by omega)) (cs_SC hc (by omega)) (cr_C4 hc (by omega)) ?_
        refine rw_iload (pc := 24) dC_removeFirstWriteTo_24 rfl ?_
        obtain ⟨j6, ej6, hwj6⟩ := wr_get hc hl (k := i) (by omega)
        refine rw_aald (pc := 26) (v := some j6) (i := i) (t := 8) rfl ⟨rfl, by decide⟩ dC_removeFirstWriteTo_26 (cs_o hc (by omega) (by omega)) (cs_Swr hc (by omega)) (ix_nI (by omega) (by decide)) ej6 ?_
        refine rw_getI (pc := 27) (x := nI ((l[i]).1)) flC_94_W dC_removeFirstWriteTo_27 (cw_o hwj6) hwj6.2.1 hwj6.2.2.1 ?_
        refine rw_iload_n (pc := 30) dC_removeFirstWriteTo_30 rfl ?_
        refine rw_icmpne (pc := 31) dC_removeFirstWriteTo_31 (tgt := 39) rfl (fun c7 => ?_) (fun c7 => ?_)
        · skip
          replace c7 : ¬ (((l[i]).1) = f) := fun qz => c7 ((nI_eq (a := ((l[i]).1)) (b := f) (by omega) (by omega)).mpr qz)
          refine rw_aload_n (pc := 39) dC_removeFirstWriteTo_39 rfl ?_
          refine rw_getR (pc := 40) (x := some (31 + 11 * c)) flC_19_C dC_removeFirstWriteTo_40 (cs_o hc (by omega) (by omega)) (cs_SC hc (by omega)) (cr_C4 hc (by omega)) ?_
          refine rw_iload_n (pc := 43) dC_removeFirstWriteTo_43 rfl ?_
          refine rw_aload_n (pc := 44) dC_removeFirstWriteTo_44 rfl ?_
          refine rw_getR (pc := 45) (x := some (31 + 11 * c)) flC_19_C dC_removeFirstWriteTo_45 (cs_o hc (by omega) (by omega)) (cs_SC hc (by omega)) (cr_C4 hc (by omega)) ?_
          refine rw_iload (pc := 48) dC_removeFirstWriteTo_48 rfl ?_
          refine rw_aald (pc := 50) (v := some j6) (i := i) (t := 8) rfl ⟨rfl, by decide⟩ dC_removeFirstWriteTo_50 (cs_o hc (by omega) (by omega)) (cs_Swr hc (by omega)) (ix_nI (by omega) (by decide)) ej6 ?_
          refine rw_aast (pc := 51) (i := kp) so_8_W (by decide) dC_removeFirstWriteTo_51 (cs_o hc (by omega) (by omega)) (cs_Swr hc (by omega)) (ix_nI (by omega) (by decide)) (cw_o hwj6) hwj6.2.1 ?_
          replace hc := ww_s hc hl (k := kp) (by omega) hwj6
          replace hf := le_tr hf (le_sR (h := H) (A := (31 + 11 * c)) (k := kp) (v := some j6) (by omega))
          generalize hp_sR H (31 + 11 * c) kp (some j6) = g8 at hc hf ⊢
          refine rw_iinc (pc := 52) (x := nI kp) (y := nI (kp + 1)) (L' := [some (.inr (some (29 + 11 * c))), some (.inl (nI f)), some (.inl (nI (kp + 1))), some (.inl (m_bi fo)), some (.inl (nI i))]) dC_removeFirstWriteTo_52 (by decide) rfl (nI_add _ 1) rfl ?_
          refine rw_iinc (pc := 55) (x := nI i) (y := nI (i + 1)) (L' := [some (.inr (some (29 + 11 * c))), some (.inl (nI f)), some (.inl (nI (kp + 1))), some (.inl (m_bi fo)), some (.inl (nI (i + 1)))]) dC_removeFirstWriteTo_55 (by decide) rfl (nI_add _ 1) rfl ?_
          refine rw_goto (pc := 58) dC_removeFirstWriteTo_58 (tgt := 7) rfl ?_
          refine ih (kp + 1) (i + 1) fo g8 (l.set kp (l[i]'hli)) (by omega) (by omega) hc (by rw [List.length_set]; exact hll) ?_ (fun y hy => by rw [List.getElem?_set_ne (by omega)]; exact hly y (by omega)) (by rw [f_tn (show i < wr.length by omega), f_hw_sn, ← hfo, ← hlw]; simp [c3, c7]) hf
          rw [f_ts (by omega), hlt, f_tn (show i < wr.length by omega), f_rf_sn, ← hfo, ← hlw]
          simp [c3, c7]
        · skip
          replace c7 : ((l[i]).1) = f := (nI_eq (a := ((l[i]).1)) (b := f) (by omega) (by omega)).mp c7
          refine rw_iconst (pc := 34) (x := nI 1) dC_removeFirstWriteTo_34 (by decide) ?_
          refine rw_istore_n (pc := 35) (L' := [some (.inr (some (29 + 11 * c))), some (.inl (nI f)), some (.inl (nI kp)), some (.inl (nI 1)), some (.inl (nI i))]) dC_removeFirstWriteTo_35 (by decide) rfl ?_
          refine rw_goto (pc := 36) dC_removeFirstWriteTo_36 (tgt := 55) rfl ?_
          refine rw_iinc (pc := 55) (x := nI i) (y := nI (i + 1)) (L' := [some (.inr (some (29 + 11 * c))), some (.inl (nI f)), some (.inl (nI kp)), some (.inl (nI 1)), some (.inl (nI (i + 1)))]) dC_removeFirstWriteTo_55 (by decide) rfl (nI_add _ 1) rfl ?_
          refine rw_goto (pc := 58) dC_removeFirstWriteTo_58 (tgt := 7) rfl ?_
          exact ih kp (i + 1) true H l (by omega) (by omega) hc hll (by rw [hlt, f_tn (show i < wr.length by omega), f_rf_sn, ← hfo, ← hlw]; simp [c3, c7]) (fun y hy => hly y (by omega)) (by rw [f_tn (show i < wr.length by omega), f_hw_sn, ← hfo, ← hlw]; simp [c3, c7]) hf
theorem cC_removeFirstWriteTo (G : mt_G) (h : ha_H) {L : Nat} {n : List ab_M} {su : Bool} {sn : Int32} {sg : Bool} {se : Int32} {pg : Nat → Nat → Int32} {md : Nat → Nat → Nat} {en : Nat → Nat → Int32} {sd : Nat → Option ab_M} {ln : Nat → List ab_M} {C : Nat → ab_C} {c : Nat} {up : Bool} {nw nu : Int32} {op : Option ab_M} {si : Int32} {cp : Nat → ab_P} {wr : List ab_W} (hc : CV L n su sn sg se pg md en sd ln (fu C c (up, nw, nu, op, si, cp, wr)) h) (hl : c < 3) {f : Nat} (hf4 : f < 4) : rn_M G xC_removeFirstWriteTo (1, 0, 0) [.inr (some (29 + 11 * c)), .inl (nI f)] h (rn_v (fun h' => CV L n su sn sg se pg md en sd ln (fu C c (up, nw, nu, op, si, cp, f_rf wr f)) h' ∧ hp_le h h')) := by
  refine rn_of (by decide +kernel) (Nat.le_of_ble_eq_true rfl) ?_
  show rn_W G xC_removeFirstWriteTo (1, 0, 0) 0 0 0 [some (.inr (some (29 + 11 * c))), some (.inl (nI f)), none, none, none] [] h _
  refine rw_iconst (pc := 0) (x := nI 0) dC_removeFirstWriteTo_0 (by decide) ?_
  refine rw_istore_n (pc := 1) (L' := [some (.inr (some (29 + 11 * c))), some (.inl (nI f)), some (.inl (nI 0)), none, none]) dC_removeFirstWriteTo_1 (by decide) rfl ?_
  refine rw_iconst (pc := 2) (x := nI 0) dC_removeFirstWriteTo_2 (by decide) ?_
  refine rw_istore_n (pc := 3) (L' := [some (.inr (some (29 + 11 * c))), some (.inl (nI f)), some (.inl (nI 0)), some (.inl (nI 0)), none]) dC_removeFirstWriteTo_3 (by decide) rfl ?_
  refine rw_iconst (pc := 4) (x := nI 0) dC_removeFirstWriteTo_4 (by decide) ?_
  refine rw_istore (pc := 5) (L' := [some (.inr (some (29 + 11 * c))), some (.inl (nI f)), some (.inl (nI 0)), some (.inl (nI 0)), some (.inl (nI 0))]) dC_removeFirstWriteTo_5 (by decide) rfl ?_
  exact cC_removeFirstWriteToL G h hl hf4 (wr.length + 1) 0 0 false h wr (by omega) (by omega) hc rfl rfl (fun _ _ => rfl) rfl (le_rf h)
def f_redo : List ab_W → Nat → (Nat → Int32) → (Nat → Int32)
  | [], _, ps => ps
  | w :: l, f, ps => f_redo l f (if w.1 = f then fu ps w.2.1 w.2.2 else ps)
theorem cC_redoWritesOnL (G : mt_G) (h : ha_H) {L : Nat} {n : List ab_M} {su : Bool} {sn : Int32} {sg : Bool} {se : Int32} {pg : Nat → Nat → Int32} {md : Nat → Nat → Nat} {en : Nat → Nat → Int32} {sd : Nat → Option ab_M} {ln : Nat → List ab_M} {C : Nat → ab_C} {c : Nat} {up : Bool} {nw nu : Int32} {op : Option ab_M} {si : Int32} {cp : Nat → ab_P} {wr : List ab_W} {f : Nat} {mo : Nat} {ti : Int32} {re lo : Bool} (hl : c < 3) (hf4 : f < 4) (d : Nat) : ∀ (k : Nat) (H : ha_H) (ps : Nat → Int32), k ≤ wr.length → wr.length - k < d → CV L n su sn sg se pg md en sd ln (fu C c (up, nw, nu, op, si, fu cp f (mo, ti, re, lo, ps), wr)) H → hp_le h H → rn_W G xC_redoWritesOn (0, 0, 0) 0 0 2 [some (.inr (some (29 + 11 * c))), some (.inl (nI f)), some (.inl (nI k))] [] H (rn_v (fun h' => CV L n su sn sg se pg md en sd ln (fu C c (up, nw, nu, op, si, fu cp f (mo, ti, re, lo, f_redo (wr.drop k) f ps), wr)) h' ∧ hp_le h h')) := by
  induction d with
  | zero => intro k H ps hk hd; omega
  | succ d ih =>
    intro k H ps hk hd hc hf
    have h6 : wr.length ≤ 6 := (cv_C1 hc hl).2.2.2.2.2.2.2.1.2
    refine rw_iload_n (pc := 2) dC_redoWritesOn_2 rfl ?_
    refine rw_aload_n (pc := 3) dC_redoWritesOn_3 rfl ?_
    refine rw_getI (pc := 4) (x := nI wr.length) flC_23_C dC_redoWritesOn_4 (cs_o hc (by omega) (by omega)) (cs_SC hc (by omega)) (cv_C1 hc (by omega)).2.2.2.2.2.2.2.1.1 ?_
    refine rw_icmpge (pc := 7) dC_redoWritesOn_7 (tgt := 57) rfl (fun c1 => ?_) (fun c1 => ?_)
    · skip
      replace c1 : wr.length ≤ k := (nI_leI (a := wr.length) (b := k) (by omega) (by omega)).mp c1
      exact rw_vret (pc := 57) dC_redoWritesOn_57 rfl ⟨rfl, by rw [List.drop_eq_nil_of_le (by omega)]; exact hc, hf⟩
    · skip
      replace c1 : ¬ (wr.length ≤ k) := fun qz => c1 ((nI_leI (a := wr.length) (b := k) (by omega) (by omega)).mpr qz)
      have hli : k < wr.length := by omega
      have hw4 : (wr[k]'hli).1 < 4 ∧ (wr[k]'hli).2.1 < 4 := by obtain ⟨i, _, q⟩ := wr_get hc hl (k := k) hli; exact ⟨q.2.2.2.1, q.2.2.2.2.2.1⟩
      refine rw_aload_n (pc := 10) dC_redoWritesOn_10 rfl ?_
      refine rw_getR (pc := 11) (x := some (31 + 11 * c)) flC_19_C dC_redoWritesOn_11 (cs_o hc (by omega) (by omega)) (cs_SC hc (by omega)) (cr_C4 hc (by omega)) ?_
      refine rw_iload_n (pc := 14) dC_redoWritesOn_14 rfl ?_
      obtain ⟨j2, ej2, hwj2⟩ := wr_get hc hl (k := k) (by omega)
      refine rw_aald (pc := 15) (v := some j2) (i := k) (t := 8) rfl ⟨rfl, by decide⟩ dC_redoWritesOn_15 (cs_o hc (by omega) (by omega)) (cs_Swr hc (by omega)) (ix_nI (by omega) (by decide)) ej2 ?_
      refine rw_getI (pc := 16) (x := nI ((wr[k]).1)) flC_94_W dC_redoWritesOn_16 (cw_o hwj2) hwj2.2.1 hwj2.2.2.1 ?_
      refine rw_iload_n (pc := 19) dC_redoWritesOn_19 rfl ?_
      refine rw_icmpne (pc := 20) dC_redoWritesOn_20 (tgt := 51) rfl (fun c3 => ?_) (fun c3 => ?_)
      · skip
        replace c3 : ¬ (((wr[k]).1) = f) := fun qz => c3 ((nI_eq (a := ((wr[k]).1)) (b := f) (by omega) (by omega)).mpr qz)
        refine rw_iinc (pc := 51) (x := nI k) (y := nI (k + 1)) (L' := [some (.inr (some (29 + 11 * c))), some (.inl (nI f)), some (.inl (nI (k + 1)))]) dC_redoWritesOn_51 (by decide) rfl (nI_add _ 1) rfl ?_
        refine rw_goto (pc := 54) dC_redoWritesOn_54 (tgt := 2) rfl ?_
        have hz := ih (k + 1) H (ps) (by omega) (by omega) hc hf
        rw [List.drop_eq_getElem_cons (i := k) hli, f_redo, if_neg c3]
        exact hz
      · skip
        replace c3 : ((wr[k]).1) = f := (nI_eq (a := ((wr[k]).1)) (b := f) (by omega) (by omega)).mp c3
        refine rw_aload_n (pc := 23) dC_redoWritesOn_23 rfl ?_
        refine rw_getR (pc := 24) (x := some (30 + 11 * c)) flC_11_C dC_redoWritesOn_24 (cs_o hc (by omega) (by omega)) (cs_SC hc (by omega)) (cr_C3 hc (by omega)) ?_
        refine rw_iload_n (pc := 27) dC_redoWritesOn_27 rfl ?_
        refine rw_aald (pc := 28) (v := some (32 + 11 * c + 2 * f)) (i := f) (t := 7) rfl ⟨rfl, by decide⟩ dC_redoWritesOn_28 (cs_o hc (by omega) (by omega)) (cs_Scp hc (by omega)) (ix_nI (by omega) (by decide)) (cr_cp hc (by omega) (by omega)) ?_
        refine rw_getR (pc := 29) (x := some (33 + 11 * c + 2 * f)) flC_84_K dC_redoWritesOn_29 (cs_o hc (by omega) (by omega)) (cs_SK hc (by omega) (by omega)) (cr_K hc (by omega) (by omega)) ?_
        refine rw_aload_n (pc := 32) dC_redoWritesOn_32 rfl ?_
        refine rw_getR (pc := 33) (x := some (31 + 11 * c)) flC_19_C dC_redoWritesOn_33 (cs_o hc (by omega) (by omega)) (cs_SC hc (by omega)) (cr_C4 hc (by omega)) ?_
        refine rw_iload_n (pc := 36) dC_redoWritesOn_36 rfl ?_
        refine rw_aald (pc := 37) (v := some j2) (i := k) (t := 8) rfl ⟨rfl, by decide⟩ dC_redoWritesOn_37 (cs_o hc (by omega) (by omega)) (cs_Swr hc (by omega)) (ix_nI (by omega) (by decide)) ej2 ?_
        refine rw_getI (pc := 38) (x := nI ((wr[k]).2.1)) flC_158_W dC_redoWritesOn_38 (cw_o hwj2) hwj2.2.1 hwj2.2.2.2.2.1 ?_
        refine rw_aload_n (pc := 41) dC_redoWritesOn_41 rfl ?_
        refine rw_getR (pc := 42) (x := some (31 + 11 * c)) flC_19_C dC_redoWritesOn_42 (cs_o hc (by omega) (by omega)) (cs_SC hc (by omega)) (cr_C4 hc (by omega)) ?_
        refine rw_iload_n (pc := 45) dC_redoWritesOn_45 rfl ?_
        refine rw_aald (pc := 46) (v := some j2) (i := k) (t := 8) rfl ⟨rfl, by decide⟩ dC_redoWritesOn_46 (cs_o hc (by omega) (by omega)) (cs_Swr hc (by omega)) (ix_nI (by omega) (by decide)) ej2 ?_
        refine rw_getI (pc := 47) (x := (wr[k]).2.2) flC_161_W dC_redoWritesOn_47 (cw_o hwj2) hwj2.2.1 hwj2.2.2.2.2.2.2 ?_
        refine rw_iast (pc := 50) (i := ((wr[k]).2.1)) dC_redoWritesOn_50 (cs_o hc (by omega) (by omega)) (cs_Sk hc (by omega) (by omega)) (ix_nI (by omega) (by decide)) ?_
        replace hc := wp_ps hc (by omega) (by omega) (p := ((wr[k]).2.1)) (by omega) ((wr[k]).2.2)
        replace hwj2 := cw_dy hwj2 (le_dy (le_sI (h := H) (A := (33 + 11 * c + 2 * f)) (k := ((wr[k]).2.1)) (v := ((wr[k]).2.2)) (by omega)))
        replace hf := le_tr hf (le_sI (h := H) (A := (33 + 11 * c + 2 * f)) (k := ((wr[k]).2.1)) (v := ((wr[k]).2.2)) (by omega))
        generalize hp_sI H (33 + 11 * c + 2 * f) ((wr[k]).2.1) ((wr[k]).2.2) = g4 at hc hf hwj2 ⊢
        refine rw_iinc (pc := 51) (x := nI k) (y := nI (k + 1)) (L' := [some (.inr (some (29 + 11 * c))), some (.inl (nI f)), some (.inl (nI (k + 1)))]) dC_redoWritesOn_51 (by decide) rfl (nI_add _ 1) rfl ?_
        refine rw_goto (pc := 54) dC_redoWritesOn_54 (tgt := 2) rfl ?_
        have hz := ih (k + 1) g4 (fu ps (wr[k]).2.1 (wr[k]).2.2) (by omega) (by omega) hc hf
        rw [List.drop_eq_getElem_cons (i := k) hli, f_redo, if_pos c3]
        exact hz
theorem cC_redoWritesOn (G : mt_G) (h : ha_H) {L : Nat} {n : List ab_M} {su : Bool} {sn : Int32} {sg : Bool} {se : Int32} {pg : Nat → Nat → Int32} {md : Nat → Nat → Nat} {en : Nat → Nat → Int32} {sd : Nat → Option ab_M} {ln : Nat → List ab_M} {C : Nat → ab_C} {c : Nat} {up : Bool} {nw nu : Int32} {op : Option ab_M} {si : Int32} {cp : Nat → ab_P} {wr : List ab_W} {f : Nat} {mo : Nat} {ti : Int32} {re lo : Bool} {ps : Nat → Int32} (hc : CV L n su sn sg se pg md en sd ln (fu C c (up, nw, nu, op, si, fu cp f (mo, ti, re, lo, ps), wr)) h) (hl : c < 3) (hf4 : f < 4) : rn_M G xC_redoWritesOn (0, 0, 0) [.inr (some (29 + 11 * c)), .inl (nI f)] h (rn_v (fun h' => CV L n su sn sg se pg md en sd ln (fu C c (up, nw, nu, op, si, fu cp f (mo, ti, re, lo, f_redo wr f ps), wr)) h' ∧ hp_le h h')) := by
  refine rn_of (by decide +kernel) (Nat.le_of_ble_eq_true rfl) ?_
  show rn_W G xC_redoWritesOn (0, 0, 0) 0 0 0 [some (.inr (some (29 + 11 * c))), some (.inl (nI f)), none] [] h _
  refine rw_iconst (pc := 0) (x := nI 0) dC_redoWritesOn_0 (by decide) ?_
  refine rw_istore_n (pc := 1) (L' := [some (.inr (some (29 + 11 * c))), some (.inl (nI f)), some (.inl (nI 0))]) dC_redoWritesOn_1 (by decide) rfl ?_
  exact cC_redoWritesOnL G h hl hf4 (wr.length + 1) 0 h ps (by omega) (by omega) hc (le_rf h)
theorem cC_sendNew (G : mt_G) (h : ha_H) {L : Nat} {n : List ab_M} {su : Bool} {sn : Int32} {sg : Bool} {se : Int32} {pg : Nat → Nat → Int32} {md : Nat → Nat → Nat} {en : Nat → Nat → Int32} {sd : Nat → Option ab_M} {ln : Nat → List ab_M} {C : Nat → ab_C} {c : Nat} {up : Bool} {nw nu : Int32} {op : Option ab_M} {si : Int32} {cp : Nat → ab_P} {wr : List ab_W} (hc : CV L n su sn sg se pg md en sd ln (fu C c (up, nw, nu, op, si, cp, wr)) h) (hl : c < 3) {i : Nat} {m : ab_M} (hm : cv_M h i m) (hk3 : am_k m ≤ 3) : rn_M G xC_sendNew (1, 0, 0) [.inr (some (29 + 11 * c)), .inr (some i)] h (rn_i (fun r h' => r = am_n m ∧ CV L (f_send n m) su sn sg se pg md en sd ln (fu C c (up, nw, am_n m, some m, nw, cp, wr)) h' ∧ hp_le h h')) := by
  have hf := le_rf h
  have hk1 := (cm_k8 hm).1
  refine rn_of (by decide +kernel) (Nat.le_of_ble_eq_true rfl) ?_
  show rn_W G xC_sendNew (1, 0, 0) 0 0 0 [some (.inr (some (29 + 11 * c))), some (.inr (some i))] [] h _
  refine rw_aload_n (pc := 0) dC_sendNew_0 rfl ?_
  refine rw_aload_n (pc := 1) dC_sendNew_1 rfl ?_
  refine rw_getI (pc := 2) (x := am_n m) flC_117_R dC_sendNew_2 (cm_o hm) (cm_q hm hk3).2.1 hm.2.1.2.2.2 ?_
  refine rw_putI (pc := 5) pfC_34_C dC_sendNew_5 (cs_o hc (by omega) (by omega)) (cs_SC hc (by omega)) ?_
  replace hc := wc_nu hc (by omega) (am_n m)
  replace hm := cm_le hm (le_sI (h := h) (A := (29 + 11 * c)) (k := 8) (v := (am_n m)) (by omega))
  replace hf := le_tr hf (le_sI (h := h) (A := (29 + 11 * c)) (k := 8) (v := (am_n m)) (by omega))
  generalize hp_sI h (29 + 11 * c) 8 (am_n m) = g1 at hc hf hm ⊢
  refine rw_aload_n (pc := 8) dC_sendNew_8 rfl ?_
  refine rw_aload_n (pc := 9) dC_sendNew_9 rfl ?_
  refine rw_putR (pc := 10) pfC_37_C (Or.inl ⟨_, rfl⟩) dC_sendNew_10 (cs_o hc (by omega) (by omega)) (cs_SC hc (by omega)) ?_
  replace hc := wc_op hc (by omega) hm (by omega) (by omega)
  replace hm := cm_le hm (le_sR (h := g1) (A := (29 + 11 * c)) (k := 9) (v := (some i)) (by omega))
  replace hf := le_tr hf (le_sR (h := g1) (A := (29 + 11 * c)) (k := 9) (v := (some i)) (by omega))
  generalize hp_sR g1 (29 + 11 * c) 9 (some i) = g2 at hc hf hm ⊢
  refine rw_aload_n (pc := 13) dC_sendNew_13 rfl ?_
  refine rw_aload_n (pc := 14) dC_sendNew_14 rfl ?_
  refine rw_getI (pc := 15) (x := nw) flC_31_C dC_sendNew_15 (cs_o hc (by omega) (by omega)) (cs_SC hc (by omega)) (cv_C1 hc (by omega)).2.2.1 ?_
  refine rw_putI (pc := 18) pfC_41_C dC_sendNew_18 (cs_o hc (by omega) (by omega)) (cs_SC hc (by omega)) ?_
  replace hc := wc_si hc (by omega) nw
  replace hm := cm_le hm (le_sI (h := g2) (A := (29 + 11 * c)) (k := 10) (v := nw) (by omega))
  replace hf := le_tr hf (le_sI (h := g2) (A := (29 + 11 * c)) (k := 10) (v := nw) (by omega))
  generalize hp_sI g2 (29 + 11 * c) 10 nw = g3 at hc hf hm ⊢
  refine rw_aload_n (pc := 21) dC_sendNew_21 rfl ?_
  refine rw_getR (pc := 22) (x := some 2) flC_50_C dC_sendNew_22 (cs_o hc (by omega) (by omega)) (cs_SC hc (by omega)) (cr_C2 hc (by omega)) ?_
  refine rw_aload_n (pc := 25) dC_sendNew_25 rfl ?_
  refine rw_vi (pc := 26) (z' := (0, 0, 0)) (rc' := 0) (rs' := 0) (av := [.inr (some i)]) (st := []) (ci := 1) mlC_111 miN_send rfl mvN_send_N dC_sendNew_26 (cs_o hc (by omega) (by omega)) (cs_S2 hc) (cN_send G _ hc hm) rfl rfl (Nat.le_of_ble_eq_true rfl) (by decide) rfl rfl (fun r4 h4 q4 => ?_)
  obtain ⟨rfl, hc, hf1⟩ := q4
  replace hm := cm_le hm hf1
  replace hf := le_tr hf hf1
  refine rw_pop (pc := 29) dC_sendNew_29 ?_
  refine rw_aload_n (pc := 30) dC_sendNew_30 rfl ?_
  refine rw_getI (pc := 31) (x := am_n m) flC_117_R dC_sendNew_31 (cm_o hm) (cm_q hm hk3).2.1 hm.2.1.2.2.2 ?_
  exact rw_iret (pc := 34) dC_sendNew_34 rfl ⟨_, rfl, rfl, hc, hf⟩
theorem cC_sendAgain0 (G : mt_G) (h : ha_H) {L : Nat} {n : List ab_M} {su : Bool} {sn : Int32} {sg : Bool} {se : Int32} {pg : Nat → Nat → Int32} {md : Nat → Nat → Nat} {en : Nat → Nat → Int32} {sd : Nat → Option ab_M} {ln : Nat → List ab_M} {C : Nat → ab_C} {c : Nat} {up : Bool} {nw nu : Int32} {si : Int32} {cp : Nat → ab_P} {wr : List ab_W} (hc : CV L n su sn sg se pg md en sd ln (fu C c (up, nw, nu, none, si, cp, wr)) h) (hl : c < 3) : rn_M G xC_sendAgain (1, 0, 0) [.inr (some (29 + 11 * c))] h (rn_i (fun r h' => r = -1 ∧ CV L n su sn sg se pg md en sd ln (fu C c (up, nw, nu, none, si, cp, wr)) h' ∧ hp_le h h')) := by
  have hf := le_rf h
  refine rn_of (by decide +kernel) (Nat.le_of_ble_eq_true rfl) ?_
  show rn_W G xC_sendAgain (1, 0, 0) 0 0 0 [some (.inr (some (29 + 11 * c)))] [] h _
  refine rw_aload_n (pc := 0) dC_sendAgain_0 rfl ?_
  refine rw_getR (pc := 1) (x := none) flC_37_C dC_sendAgain_1 (cs_o hc (by omega) (by omega)) (cs_SC hc (by omega)) (co_N (cv_C1 hc (by omega)).2.2.2.2.1) ?_
  refine rw_ifnonnull (pc := 4) dC_sendAgain_4 (tgt := 9) rfl (fun rc1 c1 => ?_) (fun c1 => ?_)
  · skip
    cases c1
  · skip
    refine rw_iconst (pc := 7) (x := (-1)) dC_sendAgain_7 (by decide) ?_
    exact rw_iret (pc := 8) dC_sendAgain_8 rfl ⟨_, rfl, rfl, hc, hf⟩
theorem cC_sendAgain1 (G : mt_G) (h : ha_H) {L : Nat} {n : List ab_M} {su : Bool} {sn : Int32} {sg : Bool} {se : Int32} {pg : Nat → Nat → Int32} {md : Nat → Nat → Nat} {en : Nat → Nat → Int32} {sd : Nat → Option ab_M} {ln : Nat → List ab_M} {C : Nat → ab_C} {c : Nat} {up : Bool} {nw nu : Int32} {m : ab_M} {si : Int32} {cp : Nat → ab_P} {wr : List ab_W} (hc : CV L n su sn sg se pg md en sd ln (fu C c (up, nw, nu, some m, si, cp, wr)) h) (hl : c < 3) : rn_M G xC_sendAgain (1, 0, 0) [.inr (some (29 + 11 * c))] h (rn_i (fun r h' => r = am_n m ∧ CV L (f_send n m) su sn sg se pg md en sd ln (fu C c (up, nw, nu, some m, si, cp, wr)) h' ∧ hp_le h h')) := by
  have hf := le_rf h
  refine rn_of (by decide +kernel) (Nat.le_of_ble_eq_true rfl) ?_
  show rn_W G xC_sendAgain (1, 0, 0) 0 0 0 [some (.inr (some (29 + 11 * c)))] [] h _
  refine rw_aload_n (pc := 0) dC_sendAgain_0 rfl ?_
  obtain ⟨o1, eo1, ko1, lo1, ho1⟩ := co_Sm (cv_C1 hc (by omega)).2.2.2.2.1
  refine rw_getR (pc := 1) (x := some o1) flC_37_C dC_sendAgain_1 (cs_o hc (by omega) (by omega)) (cs_SC hc (by omega)) eo1 ?_
  refine rw_ifnonnull (pc := 4) dC_sendAgain_4 (tgt := 9) rfl (fun rc2 c2 => ?_) (fun c2 => ?_)
  · skip
    refine rw_aload_n (pc := 9) dC_sendAgain_9 rfl ?_
    refine rw_getR (pc := 10) (x := some 2) flC_50_C dC_sendAgain_10 (cs_o hc (by omega) (by omega)) (cs_SC hc (by omega)) (cr_C2 hc (by omega)) ?_
    refine rw_aload_n (pc := 13) dC_sendAgain_13 rfl ?_
    obtain ⟨o3, eo3, ko3, lo3, ho3⟩ := co_Sm (cv_C1 hc (by omega)).2.2.2.2.1
    refine rw_getR (pc := 14) (x := some o3) flC_37_C dC_sendAgain_14 (cs_o hc (by omega) (by omega)) (cs_SC hc (by omega)) eo3 ?_
    refine rw_vi (pc := 17) (z' := (0, 0, 0)) (rc' := 0) (rs' := 0) (av := [.inr (some o3)]) (st := []) (ci := 1) mlC_111 miN_send rfl mvN_send_N dC_sendAgain_17 (cs_o hc (by omega) (by omega)) (cs_S2 hc) (cN_send G _ hc ho3) rfl rfl (Nat.le_of_ble_eq_true rfl) (by decide) rfl rfl (fun r4 h4 q4 => ?_)
    obtain ⟨rfl, hc, hf1⟩ := q4
    replace ho1 := cm_le ho1 hf1
    replace ho3 := cm_le ho3 hf1
    replace hf := le_tr hf hf1
    refine rw_pop (pc := 20) dC_sendAgain_20 ?_
    refine rw_aload_n (pc := 21) dC_sendAgain_21 rfl ?_
    obtain ⟨o5, eo5, ko5, lo5, ho5⟩ := co_Sm (cv_C1 hc (by omega)).2.2.2.2.1
    refine rw_getR (pc := 22) (x := some o5) flC_37_C dC_sendAgain_22 (cs_o hc (by omega) (by omega)) (cs_SC hc (by omega)) eo5 ?_
    refine rw_getI (pc := 25) (x := am_n m) flC_117_R dC_sendAgain_25 (cm_o ho5) (cm_q ho5 lo5).2.1 ho5.2.1.2.2.2 ?_
    exact rw_iret (pc := 28) dC_sendAgain_28 rfl ⟨_, rfl, rfl, hc, hf⟩
  · skip
    cases c2
theorem cC_readPage (G : mt_G) (h : ha_H) {L : Nat} {n : List ab_M} {su : Bool} {sn : Int32} {sg : Bool} {se : Int32} {pg : Nat → Nat → Int32} {md : Nat → Nat → Nat} {en : Nat → Nat → Int32} {sd : Nat → Option ab_M} {ln : Nat → List ab_M} {C : Nat → ab_C} {c : Nat} {up : Bool} {nw nu : Int32} {op : Option ab_M} {si : Int32} {cp : Nat → ab_P} {wr : List ab_W} {f : Nat} {mo : Nat} {ti : Int32} {re lo : Bool} {ps : Nat → Int32} (hc : CV L n su sn sg se pg md en sd ln (fu C c (up, nw, nu, op, si, fu cp f (mo, ti, re, lo, ps), wr)) h) (hl : c < 3) (hf4 : f < 4) {p : Nat} (hp : p < 4) : rn_M G xC_readPage (1, 0, 0) [.inr (some (29 + 11 * c)), .inl (nI f), .inl (nI p)] h (rn_i (fun r h' => r = (bif lo then -3 else bif f_al mo ti 1 nw then ps p else -2) ∧ CV L n su sn sg se pg md en sd ln (fu C c (up, nw, nu, op, si, fu cp f (mo, ti, re, false, ps), wr)) h' ∧ hp_le h h')) := by
  have hf := le_rf h
  refine rn_of (by decide +kernel) (Nat.le_of_ble_eq_true rfl) ?_
  show rn_W G xC_readPage (1, 0, 0) 0 0 0 [some (.inr (some (29 + 11 * c))), some (.inl (nI f)), some (.inl (nI p)), none] [] h _
  refine rw_aload_n (pc := 0) dC_readPage_0 rfl ?_
  refine rw_getR (pc := 1) (x := some (30 + 11 * c)) flC_11_C dC_readPage_1 (cs_o hc (by omega) (by omega)) (cs_SC hc (by omega)) (cr_C3 hc (by omega)) ?_
  refine rw_iload_n (pc := 4) dC_readPage_4 rfl ?_
  refine rw_aald (pc := 5) (v := some (32 + 11 * c + 2 * f)) (i := f) (t := 7) rfl ⟨rfl, by decide⟩ dC_readPage_5 (cs_o hc (by omega) (by omega)) (cs_Scp hc (by omega)) (ix_nI (by omega) (by decide)) (cr_cp hc (by omega) (by omega)) ?_
  refine rw_astore_n (pc := 6) (L' := [some (.inr (some (29 + 11 * c))), some (.inl (nI f)), some (.inl (nI p)), some (.inr (some (32 + 11 * c + 2 * f)))]) dC_readPage_6 (by decide) rfl ?_
  refine rw_aload_n (pc := 7) dC_readPage_7 rfl ?_
  refine rw_vi (pc := 8) (z' := (0, 0, 0)) (rc' := 0) (rs' := 0) (av := []) (st := []) (ci := 5) mlC_62 miK_takeLostMark rfl mvK_takeLostMark_K dC_readPage_8 (cs_o hc (by omega) (by omega)) (cs_SK hc (by omega) (by omega)) (cK_takeLostMark G _ hc hl hf4) rfl rfl (Nat.le_of_ble_eq_true rfl) (by decide) rfl rfl (fun r1 h1 q1 => ?_)
  obtain ⟨rfl, hc, hf1⟩ := q1
  replace hf := le_tr hf hf1
  refine rw_ifeq (pc := 11) dC_readPage_11 (tgt := 17) rfl (fun c2 => ?_) (fun c2 => ?_)
  · skip
    replace c2 : lo = false := (m_bi0 _).mp c2
    refine rw_aload_n (pc := 17) dC_readPage_17 rfl ?_
    refine rw_iconst (pc := 18) (x := nI 1) dC_readPage_18 (by decide) ?_
    refine rw_aload_n (pc := 19) dC_readPage_19 rfl ?_
    refine rw_getI (pc := 20) (x := nw) flC_31_C dC_readPage_20 (cs_o hc (by omega) (by omega)) (cs_SC hc (by omega)) (cv_C1 hc (by omega)).2.2.1 ?_
    refine rw_vi (pc := 23) (z' := (0, 0, 0)) (rc' := 0) (rs' := 0) (av := [.inl (nI 1), .inl nw]) (st := []) (ci := 5) mlC_66 miK_allows rfl mvK_allows_K dC_readPage_23 (cs_o hc (by omega) (by omega)) (cs_SK hc (by omega) (by omega)) (cK_allows G _ hc hl hf4 (by omega) _) rfl rfl (Nat.le_of_ble_eq_true rfl) (by decide) rfl rfl (fun r3 h3 q3 => ?_)
    obtain ⟨rfl, rfl⟩ := q3
    refine rw_ifeq (pc := 26) dC_readPage_26 (tgt := 38) rfl (fun c4 => ?_) (fun c4 => ?_)
    · skip
      replace c4 : (f_al mo ti 1 nw) = false := (m_bi0 _).mp c4
      refine rw_bipush (pc := 38) (x := (-2)) dC_readPage_38 (by decide) ?_
      exact rw_iret (pc := 40) dC_readPage_40 rfl ⟨_, rfl, by simp only [c2, c4]; rfl, hc, hf⟩
    · skip
      replace c4 : (f_al mo ti 1 nw) = true := mb_T c4
      refine rw_aload_n (pc := 29) dC_readPage_29 rfl ?_
      refine rw_getR (pc := 30) (x := some (33 + 11 * c + 2 * f)) flC_84_K dC_readPage_30 (cs_o hc (by omega) (by omega)) (cs_SK hc (by omega) (by omega)) (cr_K hc (by omega) (by omega)) ?_
      refine rw_iload_n (pc := 33) dC_readPage_33 rfl ?_
      refine rw_iald (pc := 34) (v := ps p) (i := p) dC_readPage_34 (cs_o hc (by omega) (by omega)) (cs_Sk hc (by omega) (by omega)) (ix_nI (by omega) (by decide)) (ck_ps (cv_P1 (cv_C1 hc (by omega)) (by omega)) (p := p) (by omega)) ?_
      refine rw_goto (pc := 35) dC_readPage_35 (tgt := 40) rfl ?_
      exact rw_iret (pc := 40) dC_readPage_40 rfl ⟨_, rfl, by simp only [c2, c4]; rfl, hc, hf⟩
  · skip
    replace c2 : lo = true := mb_T c2
    refine rw_bipush (pc := 14) (x := (-3)) dC_readPage_14 (by decide) ?_
    exact rw_iret (pc := 16) dC_readPage_16 rfl ⟨_, rfl, by simp only [c2]; rfl, hc, hf⟩
theorem cC_canRead (G : mt_G) (h : ha_H) {L : Nat} {n : List ab_M} {su : Bool} {sn : Int32} {sg : Bool} {se : Int32} {pg : Nat → Nat → Int32} {md : Nat → Nat → Nat} {en : Nat → Nat → Int32} {sd : Nat → Option ab_M} {ln : Nat → List ab_M} {C : Nat → ab_C} {c : Nat} {up : Bool} {nw nu : Int32} {op : Option ab_M} {si : Int32} {cp : Nat → ab_P} {wr : List ab_W} {f : Nat} {mo : Nat} {ti : Int32} {re lo : Bool} {ps : Nat → Int32} (hc : CV L n su sn sg se pg md en sd ln (fu C c (up, nw, nu, op, si, fu cp f (mo, ti, re, lo, ps), wr)) h) (hl : c < 3) (hf4 : f < 4) : rn_M G xC_canRead (1, 0, 0) [.inr (some (29 + 11 * c)), .inl (nI f)] h (rn_i (fun r h' => r = (bif lo then -3 else bif f_al mo ti 1 nw then nI 1 else -2) ∧ h = h')) := by
  have hf := le_rf h
  refine rn_of (by decide +kernel) (Nat.le_of_ble_eq_true rfl) ?_
  show rn_W G xC_canRead (1, 0, 0) 0 0 0 [some (.inr (some (29 + 11 * c))), some (.inl (nI f))] [] h _
  refine rw_aload_n (pc := 0) dC_canRead_0 rfl ?_
  refine rw_getR (pc := 1) (x := some (30 + 11 * c)) flC_11_C dC_canRead_1 (cs_o hc (by omega) (by omega)) (cs_SC hc (by omega)) (cr_C3 hc (by omega)) ?_
  refine rw_iload_n (pc := 4) dC_canRead_4 rfl ?_
  refine rw_aald (pc := 5) (v := some (32 + 11 * c + 2 * f)) (i := f) (t := 7) rfl ⟨rfl, by decide⟩ dC_canRead_5 (cs_o hc (by omega) (by omega)) (cs_Scp hc (by omega)) (ix_nI (by omega) (by decide)) (cr_cp hc (by omega) (by omega)) ?_
  refine rw_getI (pc := 6) (x := m_bi lo) flC_88_K dC_canRead_6 (cs_o hc (by omega) (by omega)) (cs_SK hc (by omega) (by omega)) (cv_P1 (cv_C1 hc (by omega)) (by omega)).2.2.2.1 ?_
  refine rw_ifeq (pc := 9) dC_canRead_9 (tgt := 15) rfl (fun c1 => ?_) (fun c1 => ?_)
  · skip
    replace c1 : lo = false := (m_bi0 _).mp c1
    refine rw_aload_n (pc := 15) dC_canRead_15 rfl ?_
    refine rw_getR (pc := 16) (x := some (30 + 11 * c)) flC_11_C dC_canRead_16 (cs_o hc (by omega) (by omega)) (cs_SC hc (by omega)) (cr_C3 hc (by omega)) ?_
    refine rw_iload_n (pc := 19) dC_canRead_19 rfl ?_
    refine rw_aald (pc := 20) (v := some (32 + 11 * c + 2 * f)) (i := f) (t := 7) rfl ⟨rfl, by decide⟩ dC_canRead_20 (cs_o hc (by omega) (by omega)) (cs_Scp hc (by omega)) (ix_nI (by omega) (by decide)) (cr_cp hc (by omega) (by omega)) ?_
    refine rw_iconst (pc := 21) (x := nI 1) dC_canRead_21 (by decide) ?_
    refine rw_aload_n (pc := 22) dC_canRead_22 rfl ?_
    refine rw_getI (pc := 23) (x := nw) flC_31_C dC_canRead_23 (cs_o hc (by omega) (by omega)) (cs_SC hc (by omega)) (cv_C1 hc (by omega)).2.2.1 ?_
    refine rw_vi (pc := 26) (z' := (0, 0, 0)) (rc' := 0) (rs' := 0) (av := [.inl (nI 1), .inl nw]) (st := []) (ci := 5) mlC_66 miK_allows rfl mvK_allows_K dC_canRead_26 (cs_o hc (by omega) (by omega)) (cs_SK hc (by omega) (by omega)) (cK_allows G _ hc hl hf4 (by omega) _) rfl rfl (Nat.le_of_ble_eq_true rfl) (by decide) rfl rfl (fun r2 h2 q2 => ?_)
    obtain ⟨rfl, rfl⟩ := q2
    refine rw_ifeq (pc := 29) dC_canRead_29 (tgt := 36) rfl (fun c3 => ?_) (fun c3 => ?_)
    · skip
      replace c3 : (f_al mo ti 1 nw) = false := (m_bi0 _).mp c3
      refine rw_bipush (pc := 36) (x := (-2)) dC_canRead_36 (by decide) ?_
      exact rw_iret (pc := 38) dC_canRead_38 rfl ⟨_, rfl, by simp only [c1, c3]; rfl, rfl⟩
    · skip
      replace c3 : (f_al mo ti 1 nw) = true := mb_T c3
      refine rw_iconst (pc := 32) (x := nI 1) dC_canRead_32 (by decide) ?_
      refine rw_goto (pc := 33) dC_canRead_33 (tgt := 38) rfl ?_
      exact rw_iret (pc := 38) dC_canRead_38 rfl ⟨_, rfl, by simp only [c1, c3]; rfl, rfl⟩
  · skip
    replace c1 : lo = true := mb_T c1
    refine rw_bipush (pc := 12) (x := (-3)) dC_canRead_12 (by decide) ?_
    exact rw_iret (pc := 14) dC_canRead_14 rfl ⟨_, rfl, by simp only [c1]; rfl, rfl⟩
def f_lm (mo : Nat) (ti : Int32) (re lo : Bool) (nw : Int32) : Nat := (bif f_al mo ti 1 nw then mo else 0) + (bif re then 10 else 0) + (bif lo then 100 else 0)
theorem cC_leaseAndMarks (G : mt_G) (h : ha_H) {L : Nat} {n : List ab_M} {su : Bool} {sn : Int32} {sg : Bool} {se : Int32} {pg : Nat → Nat → Int32} {md : Nat → Nat → Nat} {en : Nat → Nat → Int32} {sd : Nat → Option ab_M} {ln : Nat → List ab_M} {C : Nat → ab_C} {c : Nat} {up : Bool} {nw nu : Int32} {op : Option ab_M} {si : Int32} {cp : Nat → ab_P} {wr : List ab_W} {f : Nat} {mo : Nat} {ti : Int32} {re lo : Bool} {ps : Nat → Int32} (hc : CV L n su sn sg se pg md en sd ln (fu C c (up, nw, nu, op, si, fu cp f (mo, ti, re, lo, ps), wr)) h) (hl : c < 3) (hf4 : f < 4) : rn_M G xC_leaseAndMarks (1, 0, 0) [.inr (some (29 + 11 * c)), .inl (nI f)] h (rn_i (fun r h' => r = nI (f_lm mo ti re lo nw) ∧ h = h')) := by
  have hf := le_rf h
  have hm2 : mo ≤ 2 := (cv_P1 (cv_C1 hc hl) hf4).1.2
  refine rn_of (by decide +kernel) (Nat.le_of_ble_eq_true rfl) ?_
  show rn_W G xC_leaseAndMarks (1, 0, 0) 0 0 0 [some (.inr (some (29 + 11 * c))), some (.inl (nI f)), none, none] [] h _
  refine rw_aload_n (pc := 0) dC_leaseAndMarks_0 rfl ?_
  refine rw_getR (pc := 1) (x := some (30 + 11 * c)) flC_11_C dC_leaseAndMarks_1 (cs_o hc (by omega) (by omega)) (cs_SC hc (by omega)) (cr_C3 hc (by omega)) ?_
  refine rw_iload_n (pc := 4) dC_leaseAndMarks_4 rfl ?_
  refine rw_aald (pc := 5) (v := some (32 + 11 * c + 2 * f)) (i := f) (t := 7) rfl ⟨rfl, by decide⟩ dC_leaseAndMarks_5 (cs_o hc (by omega) (by omega)) (cs_Scp hc (by omega)) (ix_nI (by omega) (by decide)) (cr_cp hc (by omega) (by omega)) ?_
  refine rw_astore_n (pc := 6) (L' := [some (.inr (some (29 + 11 * c))), some (.inl (nI f)), some (.inr (some (32 + 11 * c + 2 * f))), none]) dC_leaseAndMarks_6 (by decide) rfl ?_
  refine rw_aload_n (pc := 7) dC_leaseAndMarks_7 rfl ?_
  refine rw_iconst (pc := 8) (x := nI 1) dC_leaseAndMarks_8 (by decide) ?_
  refine rw_aload_n (pc := 9) dC_leaseAndMarks_9 rfl ?_
  refine rw_getI (pc := 10) (x := nw) flC_31_C dC_leaseAndMarks_10 (cs_o hc (by omega) (by omega)) (cs_SC hc (by omega)) (cv_C1 hc (by omega)).2.2.1 ?_
  refine rw_vi (pc := 13) (z' := (0, 0, 0)) (rc' := 0) (rs' := 0) (av := [.inl (nI 1), .inl nw]) (st := []) (ci := 5) mlC_66 miK_allows rfl mvK_allows_K dC_leaseAndMarks_13 (cs_o hc (by omega) (by omega)) (cs_SK hc (by omega) (by omega)) (cK_allows G _ hc hl hf4 (by omega) _) rfl rfl (Nat.le_of_ble_eq_true rfl) (by decide) rfl rfl (fun r1 h1 q1 => ?_)
  obtain ⟨rfl, rfl⟩ := q1
  refine rw_ifeq (pc := 16) dC_leaseAndMarks_16 (tgt := 26) rfl (fun c2 => ?_) (fun c2 => ?_)
  · skip
    replace c2 : (f_al mo ti 1 nw) = false := (m_bi0 _).mp c2
    refine rw_iconst (pc := 26) (x := nI 0) dC_leaseAndMarks_26 (by decide) ?_
    refine rw_istore_n (pc := 27) (L' := [some (.inr (some (29 + 11 * c))), some (.inl (nI f)), some (.inr (some (32 + 11 * c + 2 * f))), some (.inl (nI 0))]) dC_leaseAndMarks_27 (by decide) rfl ?_
    refine rw_iload_n (pc := 28) dC_leaseAndMarks_28 rfl ?_
    refine rw_aload_n (pc := 29) dC_leaseAndMarks_29 rfl ?_
    refine rw_getI (pc := 30) (x := m_bi re) flC_104_K dC_leaseAndMarks_30 (cs_o hc (by omega) (by omega)) (cs_SK hc (by omega) (by omega)) (cv_P1 (cv_C1 hc (by omega)) (by omega)).2.2.1 ?_
    refine rw_ifeq (pc := 33) dC_leaseAndMarks_33 (tgt := 41) rfl (fun c3 => ?_) (fun c3 => ?_)
    · skip
      replace c3 : re = false := (m_bi0 _).mp c3
      refine rw_iconst (pc := 41) (x := nI 0) dC_leaseAndMarks_41 (by decide) ?_
      refine rw_iadd (pc := 42) (v := nI 0) dC_leaseAndMarks_42 (by decide) ?_
      refine rw_aload_n (pc := 43) dC_leaseAndMarks_43 rfl ?_
      refine rw_getI (pc := 44) (x := m_bi lo) flC_88_K dC_leaseAndMarks_44 (cs_o hc (by omega) (by omega)) (cs_SK hc (by omega) (by omega)) (cv_P1 (cv_C1 hc (by omega)) (by omega)).2.2.2.1 ?_
      refine rw_ifeq (pc := 47) dC_leaseAndMarks_47 (tgt := 55) rfl (fun c4 => ?_) (fun c4 => ?_)
      · skip
        replace c4 : lo = false := (m_bi0 _).mp c4
        refine rw_iconst (pc := 55) (x := nI 0) dC_leaseAndMarks_55 (by decide) ?_
        refine rw_iadd (pc := 56) (v := nI 0) dC_leaseAndMarks_56 (by decide) ?_
        exact rw_iret (pc := 57) dC_leaseAndMarks_57 rfl ⟨_, rfl, by simp only [f_lm, c2, c3, c4]; simp, rfl⟩
      · skip
        replace c4 : lo = true := mb_T c4
        refine rw_bipush (pc := 50) (x := nI 100) dC_leaseAndMarks_50 (by decide) ?_
        refine rw_goto (pc := 52) dC_leaseAndMarks_52 (tgt := 56) rfl ?_
        refine rw_iadd (pc := 56) (v := nI 100) dC_leaseAndMarks_56 (by decide) ?_
        exact rw_iret (pc := 57) dC_leaseAndMarks_57 rfl ⟨_, rfl, by simp only [f_lm, c2, c3, c4]; simp, rfl⟩
    · skip
      replace c3 : re = true := mb_T c3
      refine rw_bipush (pc := 36) (x := nI 10) dC_leaseAndMarks_36 (by decide) ?_
      refine rw_goto (pc := 38) dC_leaseAndMarks_38 (tgt := 42) rfl ?_
      refine rw_iadd (pc := 42) (v := nI 10) dC_leaseAndMarks_42 (by decide) ?_
      refine rw_aload_n (pc := 43) dC_leaseAndMarks_43 rfl ?_
      refine rw_getI (pc := 44) (x := m_bi lo) flC_88_K dC_leaseAndMarks_44 (cs_o hc (by omega) (by omega)) (cs_SK hc (by omega) (by omega)) (cv_P1 (cv_C1 hc (by omega)) (by omega)).2.2.2.1 ?_
      refine rw_ifeq (pc := 47) dC_leaseAndMarks_47 (tgt := 55) rfl (fun c5 => ?_) (fun c5 => ?_)
      · skip
        replace c5 : lo = false := (m_bi0 _).mp c5
        refine rw_iconst (pc := 55) (x := nI 0) dC_leaseAndMarks_55 (by decide) ?_
        refine rw_iadd (pc := 56) (v := nI 10) dC_leaseAndMarks_56 (by decide) ?_
        exact rw_iret (pc := 57) dC_leaseAndMarks_57 rfl ⟨_, rfl, by simp only [f_lm, c2, c3, c5]; simp, rfl⟩
      · skip
        replace c5 : lo = true := mb_T c5
        refine rw_bipush (pc := 50) (x := nI 100) dC_leaseAndMarks_50 (by decide) ?_
        refine rw_goto (pc := 52) dC_leaseAndMarks_52 (tgt := 56) rfl ?_
        refine rw_iadd (pc := 56) (v := nI 110) dC_leaseAndMarks_56 (by decide) ?_
        exact rw_iret (pc := 57) dC_leaseAndMarks_57 rfl ⟨_, rfl, by simp only [f_lm, c2, c3, c5]; simp, rfl⟩
  · skip
    replace c2 : (f_al mo ti 1 nw) = true := mb_T c2
    refine rw_aload_n (pc := 19) dC_leaseAndMarks_19 rfl ?_
    refine rw_getI (pc := 20) (x := nI mo) flC_101_K dC_leaseAndMarks_20 (cs_o hc (by omega) (by omega)) (cs_SK hc (by omega) (by omega)) (cv_P1 (cv_C1 hc (by omega)) (by omega)).1.1 ?_
    refine rw_goto (pc := 23) dC_leaseAndMarks_23 (tgt := 27) rfl ?_
    refine rw_istore_n (pc := 27) (L' := [some (.inr (some (29 + 11 * c))), some (.inl (nI f)), some (.inr (some (32 + 11 * c + 2 * f))), some (.inl (nI mo))]) dC_leaseAndMarks_27 (by decide) rfl ?_
    refine rw_iload_n (pc := 28) dC_leaseAndMarks_28 rfl ?_
    refine rw_aload_n (pc := 29) dC_leaseAndMarks_29 rfl ?_
    refine rw_getI (pc := 30) (x := m_bi re) flC_104_K dC_leaseAndMarks_30 (cs_o hc (by omega) (by omega)) (cs_SK hc (by omega) (by omega)) (cv_P1 (cv_C1 hc (by omega)) (by omega)).2.2.1 ?_
    refine rw_ifeq (pc := 33) dC_leaseAndMarks_33 (tgt := 41) rfl (fun c6 => ?_) (fun c6 => ?_)
    · skip
      replace c6 : re = false := (m_bi0 _).mp c6
      refine rw_iconst (pc := 41) (x := nI 0) dC_leaseAndMarks_41 (by decide) ?_
      refine rw_iadd (pc := 42) (v := nI (mo + 0)) dC_leaseAndMarks_42 (nI_add _ _) ?_
      refine rw_aload_n (pc := 43) dC_leaseAndMarks_43 rfl ?_
      refine rw_getI (pc := 44) (x := m_bi lo) flC_88_K dC_leaseAndMarks_44 (cs_o hc (by omega) (by omega)) (cs_SK hc (by omega) (by omega)) (cv_P1 (cv_C1 hc (by omega)) (by omega)).2.2.2.1 ?_
      refine rw_ifeq (pc := 47) dC_leaseAndMarks_47 (tgt := 55) rfl (fun c7 => ?_) (fun c7 => ?_)
      · skip
        replace c7 : lo = false := (m_bi0 _).mp c7
        refine rw_iconst (pc := 55) (x := nI 0) dC_leaseAndMarks_55 (by decide) ?_
        refine rw_iadd (pc := 56) (v := nI (mo + 0 + 0)) dC_leaseAndMarks_56 (nI_add _ _) ?_
        exact rw_iret (pc := 57) dC_leaseAndMarks_57 rfl ⟨_, rfl, by simp only [f_lm, c2, c6, c7]; simp, rfl⟩
      · skip
        replace c7 : lo = true := mb_T c7
        refine rw_bipush (pc := 50) (x := nI 100) dC_leaseAndMarks_50 (by decide) ?_
        refine rw_goto (pc := 52) dC_leaseAndMarks_52 (tgt := 56) rfl ?_
        refine rw_iadd (pc := 56) (v := nI (mo + 0 + 100)) dC_leaseAndMarks_56 (nI_add _ _) ?_
        exact rw_iret (pc := 57) dC_leaseAndMarks_57 rfl ⟨_, rfl, by simp only [f_lm, c2, c6, c7]; simp, rfl⟩
    · skip
      replace c6 : re = true := mb_T c6
      refine rw_bipush (pc := 36) (x := nI 10) dC_leaseAndMarks_36 (by decide) ?_
      refine rw_goto (pc := 38) dC_leaseAndMarks_38 (tgt := 42) rfl ?_
      refine rw_iadd (pc := 42) (v := nI (mo + 10)) dC_leaseAndMarks_42 (nI_add _ _) ?_
      refine rw_aload_n (pc := 43) dC_leaseAndMarks_43 rfl ?_
      refine rw_getI (pc := 44) (x := m_bi lo) flC_88_K dC_leaseAndMarks_44 (cs_o hc (by omega) (by omega)) (cs_SK hc (by omega) (by omega)) (cv_P1 (cv_C1 hc (by omega)) (by omega)).2.2.2.1 ?_
      refine rw_ifeq (pc := 47) dC_leaseAndMarks_47 (tgt := 55) rfl (fun c8 => ?_) (fun c8 => ?_)
      · skip
        replace c8 : lo = false := (m_bi0 _).mp c8
        refine rw_iconst (pc := 55) (x := nI 0) dC_leaseAndMarks_55 (by decide) ?_
        refine rw_iadd (pc := 56) (v := nI (mo + 10 + 0)) dC_leaseAndMarks_56 (nI_add _ _) ?_
        exact rw_iret (pc := 57) dC_leaseAndMarks_57 rfl ⟨_, rfl, by simp only [f_lm, c2, c6, c8]; simp, rfl⟩
      · skip
        replace c8 : lo = true := mb_T c8
        refine rw_bipush (pc := 50) (x := nI 100) dC_leaseAndMarks_50 (by decide) ?_
        refine rw_goto (pc := 52) dC_leaseAndMarks_52 (tgt := 56) rfl ?_
        refine rw_iadd (pc := 56) (v := nI (mo + 10 + 100)) dC_leaseAndMarks_56 (nI_add _ _) ?_
        exact rw_iret (pc := 57) dC_leaseAndMarks_57 rfl ⟨_, rfl, by simp only [f_lm, c2, c6, c8]; simp, rfl⟩
theorem cC_recallArrives (G : mt_G) (h : ha_H) {L : Nat} {n : List ab_M} {su : Bool} {sn : Int32} {sg : Bool} {se : Int32} {pg : Nat → Nat → Int32} {md : Nat → Nat → Nat} {en : Nat → Nat → Int32} {sd : Nat → Option ab_M} {ln : Nat → List ab_M} {C : Nat → ab_C} {c : Nat} {up : Bool} {nw nu : Int32} {op : Option ab_M} {si : Int32} {cp : Nat → ab_P} {wr : List ab_W} {f : Nat} {mo : Nat} {ti : Int32} {re lo : Bool} {ps : Nat → Int32} (hc : CV L n su sn sg se pg md en sd ln (fu C c (up, nw, nu, op, si, fu cp f (mo, ti, re, lo, ps), wr)) h) (hl : c < 3) (hf4 : f < 4) : rn_M G xC_recallArrives (0, 0, 0) [.inr (some (29 + 11 * c)), .inl (nI f)] h (rn_v (fun h' => CV L n su sn sg se pg md en sd ln (fu C c (up, nw, nu, op, si, fu cp f (mo, ti, bif up then true else re, lo, ps), wr)) h' ∧ hp_le h h')) := by
  have hf := le_rf h
  refine rn_of (by decide +kernel) (Nat.le_of_ble_eq_true rfl) ?_
  show rn_W G xC_recallArrives (0, 0, 0) 0 0 0 [some (.inr (some (29 + 11 * c))), some (.inl (nI f))] [] h _
  refine rw_aload_n (pc := 0) dC_recallArrives_0 rfl ?_
  refine rw_getI (pc := 1) (x := m_bi up) flC_27_C dC_recallArrives_1 (cs_o hc (by omega) (by omega)) (cs_SC hc (by omega)) (cv_C1 hc (by omega)).2.1 ?_
  refine rw_ifeq (pc := 4) dC_recallArrives_4 (tgt := 17) rfl (fun c1 => ?_) (fun c1 => ?_)
  · skip
    replace c1 : up = false := (m_bi0 _).mp c1
    exact rw_vret (pc := 17) dC_recallArrives_17 rfl ⟨rfl, by simp only [c1, cond_true, cond_false]; exact (by simp only [c1] at hc; exact hc), hf⟩
  · skip
    replace c1 : up = true := mb_T c1
    refine rw_aload_n (pc := 7) dC_recallArrives_7 rfl ?_
    refine rw_getR (pc := 8) (x := some (30 + 11 * c)) flC_11_C dC_recallArrives_8 (cs_o hc (by omega) (by omega)) (cs_SC hc (by omega)) (cr_C3 hc (by omega)) ?_
    refine rw_iload_n (pc := 11) dC_recallArrives_11 rfl ?_
    refine rw_aald (pc := 12) (v := some (32 + 11 * c + 2 * f)) (i := f) (t := 7) rfl ⟨rfl, by decide⟩ dC_recallArrives_12 (cs_o hc (by omega) (by omega)) (cs_Scp hc (by omega)) (ix_nI (by omega) (by decide)) (cr_cp hc (by omega) (by omega)) ?_
    refine rw_iconst (pc := 13) (x := nI 1) dC_recallArrives_13 (by decide) ?_
    refine rw_putZ (pc := 14) pfC_104_K dC_recallArrives_14 (cs_o hc (by omega) (by omega)) (cs_SK hc (by omega) (by omega)) (Or.inr rfl) ?_
    replace hc := wp_re hc (by omega) (by omega) true
    replace hf := le_tr hf (le_sI (h := h) (A := (32 + 11 * c + 2 * f)) (k := 3) (v := (m_bi true)) (by omega))
    show rn_W G xC_recallArrives (0, 0, 0) 0 0 17 [some (.inr (some (29 + 11 * c))), some (.inl (nI f))] [] (hp_sI h (32 + 11 * c + 2 * f) 3 (m_bi true)) _
    generalize hp_sI h (32 + 11 * c + 2 * f) 3 (m_bi true) = g2 at hc hf ⊢
    exact rw_vret (pc := 17) dC_recallArrives_17 rfl ⟨rfl, by simp only [c1, cond_true, cond_false]; exact (by simp only [c1] at hc; exact hc), hf⟩
theorem cC_loseLease (G : mt_G) (h : ha_H) {L : Nat} {n : List ab_M} {su : Bool} {sn : Int32} {sg : Bool} {se : Int32} {pg : Nat → Nat → Int32} {md : Nat → Nat → Nat} {en : Nat → Nat → Int32} {sd : Nat → Option ab_M} {ln : Nat → List ab_M} {C : Nat → ab_C} {c : Nat} {up : Bool} {nw nu : Int32} {op : Option ab_M} {si : Int32} {cp : Nat → ab_P} {wr : List ab_W} {f : Nat} {mo : Nat} {ti : Int32} {re lo : Bool} {ps : Nat → Int32} (hc : CV L n su sn sg se pg md en sd ln (fu C c (up, nw, nu, op, si, fu cp f (mo, ti, re, lo, ps), wr)) h) (hl : c < 3) (hf4 : f < 4) : rn_M G xC_loseLease (2, 0, 0) [.inr (some (29 + 11 * c)), .inl (nI f)] h (rn_v (fun h' => CV L n su sn sg se pg md en sd ln (fu C c (up, nw, nu, op, si, fu cp f (0, ti, re, true, ps), f_ra wr f)) h' ∧ hp_le h h')) := by
  have hf := le_rf h
  refine rn_of (by decide +kernel) (Nat.le_of_ble_eq_true rfl) ?_
  show rn_W G xC_loseLease (2, 0, 0) 0 0 0 [some (.inr (some (29 + 11 * c))), some (.inl (nI f))] [] h _
  refine rw_aload_n (pc := 0) dC_loseLease_0 rfl ?_
  refine rw_iload_n (pc := 1) dC_loseLease_1 rfl ?_
  refine rw_vv (pc := 2) (z' := (1, 0, 0)) (rc' := 0) (rs' := 0) (av := [.inl (nI f)]) (st := []) (ci := 4) mlC_145 miC_removeAllWritesTo rfl mvC_removeAllWritesTo_C dC_loseLease_2 (cs_o hc (by omega) (by omega)) (cs_SC hc (by omega)) (cC_removeAllWritesTo G _ hc hl hf4) rfl rfl (Nat.le_of_ble_eq_true rfl) (by decide) rfl rfl (fun h1 q1 => ?_)
  obtain ⟨hc, hf1⟩ := q1
  replace hf := le_tr hf hf1
  refine rw_aload_n (pc := 5) dC_loseLease_5 rfl ?_
  refine rw_getR (pc := 6) (x := some (30 + 11 * c)) flC_11_C dC_loseLease_6 (cs_o hc (by omega) (by omega)) (cs_SC hc (by omega)) (cr_C3 hc (by omega)) ?_
  refine rw_iload_n (pc := 9) dC_loseLease_9 rfl ?_
  refine rw_aald (pc := 10) (v := some (32 + 11 * c + 2 * f)) (i := f) (t := 7) rfl ⟨rfl, by decide⟩ dC_loseLease_10 (cs_o hc (by omega) (by omega)) (cs_Scp hc (by omega)) (ix_nI (by omega) (by decide)) (cr_cp hc (by omega) (by omega)) ?_
  refine rw_iconst (pc := 11) (x := nI 1) dC_loseLease_11 (by decide) ?_
  refine rw_putZ (pc := 12) pfC_88_K dC_loseLease_12 (cs_o hc (by omega) (by omega)) (cs_SK hc (by omega) (by omega)) (Or.inr rfl) ?_
  replace hc := wp_lo hc (by omega) (by omega) true
  replace hf := le_tr hf (le_sI (h := h1) (A := (32 + 11 * c + 2 * f)) (k := 4) (v := (m_bi true)) (by omega))
  show rn_W G xC_loseLease (2, 0, 0) 0 0 15 [some (.inr (some (29 + 11 * c))), some (.inl (nI f))] [] (hp_sI h1 (32 + 11 * c + 2 * f) 4 (m_bi true)) _
  generalize hp_sI h1 (32 + 11 * c + 2 * f) 4 (m_bi true) = g2 at hc hf ⊢
  refine rw_aload_n (pc := 15) dC_loseLease_15 rfl ?_
  refine rw_getR (pc := 16) (x := some (30 + 11 * c)) flC_11_C dC_loseLease_16 (cs_o hc (by omega) (by omega)) (cs_SC hc (by omega)) (cr_C3 hc (by omega)) ?_
  refine rw_iload_n (pc := 19) dC_loseLease_19 rfl ?_
  refine rw_aald (pc := 20) (v := some (32 + 11 * c + 2 * f)) (i := f) (t := 7) rfl ⟨rfl, by decide⟩ dC_loseLease_20 (cs_o hc (by omega) (by omega)) (cs_Scp hc (by omega)) (ix_nI (by omega) (by decide)) (cr_cp hc (by omega) (by omega)) ?_
  refine rw_iconst (pc := 21) (x := nI 0) dC_loseLease_21 (by decide) ?_
  refine rw_putI (pc := 22) pfC_101_K dC_loseLease_22 (cs_o hc (by omega) (by omega)) (cs_SK hc (by omega) (by omega)) ?_
  replace hc := wp_mo hc (by omega) (by omega) 0 (by omega)
  replace hf := le_tr hf (le_sI (h := g2) (A := (32 + 11 * c + 2 * f)) (k := 1) (v := (nI 0)) (by omega))
  generalize hp_sI g2 (32 + 11 * c + 2 * f) 1 (nI 0) = g3 at hc hf ⊢
  exact rw_vret (pc := 25) dC_loseLease_25 rfl ⟨rfl, hc, hf⟩
/-- close, in a client: the answer, what is sent, the number, what is open, since when, the copy -/
def f_gb (n : List ab_M) (c : Nat) (nw nu : Int32) (op : Option ab_M) (si : Int32) (f mo : Nat) (ti : Int32) (re lo : Bool) (ps : Nat → Int32) : Int32 × List ab_M × Int32 × Option ab_M × Int32 × ab_P :=
  bif lo then (-3, n, nu, op, si, (mo, ti, re, false, ps)) else if mo = 0 then (-2, n, nu, op, si, (mo, ti, re, false, ps)) else (nu + nI 1, f_send n (3, c, f, nu + nI 1, 0, false, 0, 0, fun _ => 0), nu + nI 1, some (3, c, f, nu + nI 1, 0, false, 0, 0, fun _ => 0), nw, (0, ti, false, false, ps))
theorem cC_giveBack (G : mt_G) (h : ha_H) {L : Nat} {n : List ab_M} {su : Bool} {sn : Int32} {sg : Bool} {se : Int32} {pg : Nat → Nat → Int32} {md : Nat → Nat → Nat} {en : Nat → Nat → Int32} {sd : Nat → Option ab_M} {ln : Nat → List ab_M} {C : Nat → ab_C} {c : Nat} {up : Bool} {nw nu : Int32} {op : Option ab_M} {si : Int32} {cp : Nat → ab_P} {wr : List ab_W} {f : Nat} {mo : Nat} {ti : Int32} {re lo : Bool} {ps : Nat → Int32} (hc : CV L n su sn sg se pg md en sd ln (fu C c (up, nw, nu, op, si, fu cp f (mo, ti, re, lo, ps), wr)) h) (hl : c < 3) (hf4 : f < 4) : rn_M G xC_giveBack (4, 1, 8) [.inr (some (29 + 11 * c)), .inl (nI f)] h (rn_i (fun r h' => r = (f_gb n c nw nu op si f mo ti re lo ps).1 ∧ CV L (f_gb n c nw nu op si f mo ti re lo ps).2.1 su sn sg se pg md en sd ln (fu C c (up, nw, (f_gb n c nw nu op si f mo ti re lo ps).2.2.1, (f_gb n c nw nu op si f mo ti re lo ps).2.2.2.1, (f_gb n c nw nu op si f mo ti re lo ps).2.2.2.2.1, fu cp f (f_gb n c nw nu op si f mo ti re lo ps).2.2.2.2.2, wr)) h' ∧ hp_le h h')) := by
  have hf := le_rf h
  have hm2 : mo ≤ 2 := (cv_P1 (cv_C1 hc hl) hf4).1.2
  refine rn_of (by decide +kernel) (Nat.le_of_ble_eq_true rfl) ?_
  show rn_W G xC_giveBack (4, 1, 8) 1 8 0 [some (.inr (some (29 + 11 * c))), some (.inl (nI f)), none] [] h _
  refine rw_aload_n (pc := 0) dC_giveBack_0 rfl ?_
  refine rw_getR (pc := 1) (x := some (30 + 11 * c)) flC_11_C dC_giveBack_1 (cs_o hc (by omega) (by omega)) (cs_SC hc (by omega)) (cr_C3 hc (by omega)) ?_
  refine rw_iload_n (pc := 4) dC_giveBack_4 rfl ?_
  refine rw_aald (pc := 5) (v := some (32 + 11 * c + 2 * f)) (i := f) (t := 7) rfl ⟨rfl, by decide⟩ dC_giveBack_5 (cs_o hc (by omega) (by omega)) (cs_Scp hc (by omega)) (ix_nI (by omega) (by decide)) (cr_cp hc (by omega) (by omega)) ?_
  refine rw_astore_n (pc := 6) (L' := [some (.inr (some (29 + 11 * c))), some (.inl (nI f)), some (.inr (some (32 + 11 * c + 2 * f)))]) dC_giveBack_6 (by decide) rfl ?_
  refine rw_aload_n (pc := 7) dC_giveBack_7 rfl ?_
  refine rw_vi (pc := 8) (z' := (0, 0, 0)) (rc' := 1) (rs' := 8) (av := []) (st := []) (ci := 5) mlC_62 miK_takeLostMark rfl mvK_takeLostMark_K dC_giveBack_8 (cs_o hc (by omega) (by omega)) (cs_SK hc (by omega) (by omega)) (cK_takeLostMark G _ hc hl hf4) rfl rfl (Nat.le_of_ble_eq_true rfl) (by decide) rfl rfl (fun r1 h1 q1 => ?_)
  obtain ⟨rfl, hc, hf1⟩ := q1
  replace hf := le_tr hf hf1
  refine rw_ifeq (pc := 11) dC_giveBack_11 (tgt := 17) rfl (fun c2 => ?_) (fun c2 => ?_)
  · skip
    replace c2 : lo = false := (m_bi0 _).mp c2
    refine rw_aload_n (pc := 17) dC_giveBack_17 rfl ?_
    refine rw_getI (pc := 18) (x := nI mo) flC_101_K dC_giveBack_18 (cs_o hc (by omega) (by omega)) (cs_SK hc (by omega) (by omega)) (cv_P1 (cv_C1 hc (by omega)) (by omega)).1.1 ?_
    refine rw_ifne (pc := 21) dC_giveBack_21 (tgt := 27) rfl (fun c3 => ?_) (fun c3 => ?_)
    · skip
      replace c3 : ¬ (mo = 0) := fun qz => c3 ((nI_eq (a := mo) (b := 0) (by omega) (by omega)).mpr qz)
      refine rw_aload_n (pc := 27) dC_giveBack_27 rfl ?_
      refine rw_iconst (pc := 28) (x := nI 0) dC_giveBack_28 (by decide) ?_
      refine rw_putI (pc := 29) pfC_101_K dC_giveBack_29 (cs_o hc (by omega) (by omega)) (cs_SK hc (by omega) (by omega)) ?_
      replace hc := wp_mo hc (by omega) (by omega) 0 (by omega)
      replace hf := le_tr hf (le_sI (h := h1) (A := (32 + 11 * c + 2 * f)) (k := 1) (v := (nI 0)) (by omega))
      generalize hp_sI h1 (32 + 11 * c + 2 * f) 1 (nI 0) = g4 at hc hf ⊢
      refine rw_aload_n (pc := 32) dC_giveBack_32 rfl ?_
      refine rw_iconst (pc := 33) (x := nI 0) dC_giveBack_33 (by decide) ?_
      refine rw_putZ (pc := 34) pfC_104_K dC_giveBack_34 (cs_o hc (by omega) (by omega)) (cs_SK hc (by omega) (by omega)) (Or.inl rfl) ?_
      replace hc := wp_re hc (by omega) (by omega) false
      replace hf := le_tr hf (le_sI (h := g4) (A := (32 + 11 * c + 2 * f)) (k := 3) (v := (m_bi false)) (by omega))
      show rn_W G xC_giveBack (4, 1, 8) 1 8 37 [some (.inr (some (29 + 11 * c))), some (.inl (nI f)), some (.inr (some (32 + 11 * c + 2 * f)))] [] (hp_sI g4 (32 + 11 * c + 2 * f) 3 (m_bi false)) _
      generalize hp_sI g4 (32 + 11 * c + 2 * f) 3 (m_bi false) = g5 at hc hf ⊢
      refine rw_aload_n (pc := 37) dC_giveBack_37 rfl ?_
      refine rw_aload_n (pc := 38) dC_giveBack_38 rfl ?_
      refine rw_getI (pc := 39) (x := nI c) flC_44_C dC_giveBack_39 (cs_o hc (by omega) (by omega)) (cs_SC hc (by omega)) (cv_C1 hc (by omega)).1 ?_
      refine rw_iload_n (pc := 42) dC_giveBack_42 rfl ?_
      refine rw_aload_n (pc := 43) dC_giveBack_43 rfl ?_
      refine rw_getI (pc := 44) (x := nu) flC_34_C dC_giveBack_44 (cs_o hc (by omega) (by omega)) (cs_SC hc (by omega)) (cv_C1 hc (by omega)).2.2.2.1 ?_
      refine rw_iconst (pc := 47) (x := nI 1) dC_giveBack_47 (by decide) ?_
      refine rw_iadd (pc := 48) (v := nu + (nI 1)) dC_giveBack_48 rfl ?_
      refine rw_sr (pc := 49) (z' := (3, 1, 8)) (rc' := 0) (rs' := 0) (av := [.inl (nI c), .inl (nI f), .inl (nu + (nI 1))]) (st := [.inr (some (29 + 11 * c))]) mlC_107 msR_forRelease dC_giveBack_49 (cR_forRelease G _ (cs_n hc) hl hf4 _) rfl rfl (Nat.le_of_ble_eq_true rfl) (by decide) rfl rfl (fun r6 h6 q6 => ?_)
      obtain ⟨hg, i, rfl, hm⟩ := q6
      replace hc := cv_gr hc hg
      replace hf := le_tr hf (gx_le hg)
      refine rw_vi (pc := 52) (z' := (1, 0, 0)) (rc' := 0) (rs' := 0) (av := [.inr (some i)]) (st := []) (ci := 4) mlC_80 miC_sendNew rfl mvC_sendNew_C dC_giveBack_52 (cs_o hc (by omega) (by omega)) (cs_SC hc (by omega)) (cC_sendNew G _ hc hl hm (Nat.le_of_ble_eq_true rfl)) rfl rfl (Nat.le_of_ble_eq_true rfl) (by decide) rfl rfl (fun r7 h7 q7 => ?_)
      obtain ⟨rfl, hc, hf1⟩ := q7
      replace hm := cm_le hm hf1
      replace hf := le_tr hf hf1
      have hF : f_gb n c nw nu op si f mo ti re lo ps = (am_n (3, c, f, nu + nI 1, 0, false, 0, 0, fun _ => 0), f_send n (3, c, f, nu + nI 1, 0, false, 0, 0, fun _ => 0), am_n (3, c, f, nu + nI 1, 0, false, 0, 0, fun _ => 0), some (3, c, f, nu + nI 1, 0, false, 0, 0, fun _ => 0), nw, (0, ti, false, false, ps)) := by
        unfold f_gb
        simp only [c2, c3, cond_true, cond_false, if_true, if_false]
        try rfl
      rw [hF]
      exact rw_iret (pc := 55) dC_giveBack_55 rfl ⟨_, rfl, rfl, hc, hf⟩
    · skip
      replace c3 : mo = 0 := (nI_eq (a := mo) (b := 0) (by omega) (by omega)).mp c3
      refine rw_bipush (pc := 24) (x := (-2)) dC_giveBack_24 (by decide) ?_
      have hF : f_gb n c nw nu op si f mo ti re lo ps = ((-2), n, nu, op, si, (mo, ti, re, false, ps)) := by
        unfold f_gb
        simp only [c2, c3, cond_true, cond_false, if_true, if_false]
        try rfl
      rw [hF]
      exact rw_iret (pc := 26) dC_giveBack_26 rfl ⟨_, rfl, rfl, hc, hf⟩
  · skip
    replace c2 : lo = true := mb_T c2
    refine rw_bipush (pc := 14) (x := (-3)) dC_giveBack_14 (by decide) ?_
    have hF : f_gb n c nw nu op si f mo ti re lo ps = ((-3), n, nu, op, si, (mo, ti, re, false, ps)) := by
      unfold f_gb
      simp only [c2, cond_true, cond_false, if_true, if_false]
      try rfl
    rw [hF]
    exact rw_iret (pc := 16) dC_giveBack_16 rfl ⟨_, rfl, rfl, hc, hf⟩
