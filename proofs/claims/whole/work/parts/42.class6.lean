def fm_L (c f : Nat) (x : Int32) (k : Nat) (b : Bool) : ab_M := (1, c, f, x, k, b, 0, 0, fun _ => 0)
def f_aK (nw : Int32) (wr : List ab_W) (f mo : Nat) (ti : Int32) (k : Nat) : Nat := bif f_al mo ti 2 nw then 2 else bif f_hw wr f then 2 else k
/-- acquire, in a client -/
def f_as (n : List ab_M) (c : Nat) (nw nu : Int32) (op : Option ab_M) (si : Int32) (wr : List ab_W) (f mo : Nat) (ti : Int32) (re lo : Bool) (ps : Nat → Int32) (k : Nat) : Int32 × List ab_M × Int32 × Option ab_M × Int32 × ab_P :=
  bif lo then (-3, n, nu, op, si, (mo, ti, re, false, ps)) else (nu + nI 1, f_send n (fm_L c f (nu + nI 1) (f_aK nw wr f mo ti k) (f_al mo ti (f_aK nw wr f mo ti k) nw)), nu + nI 1, some (fm_L c f (nu + nI 1) (f_aK nw wr f mo ti k) (f_al mo ti (f_aK nw wr f mo ti k) nw)), nw, (mo, ti, re, false, ps))
theorem cC_askForLease (G : mt_G) (h : ha_H) {L : Nat} {n : List ab_M} {su : Bool} {sn : Int32} {sg : Bool} {se : Int32} {pg : Nat → Nat → Int32} {md : Nat → Nat → Nat} {en : Nat → Nat → Int32} {sd : Nat → Option ab_M} {ln : Nat → List ab_M} {C : Nat → ab_C} {c : Nat} {up : Bool} {nw nu : Int32} {op : Option ab_M} {si : Int32} {cp : Nat → ab_P} {wr : List ab_W} {f : Nat} {mo : Nat} {ti : Int32} {re lo : Bool} {ps : Nat → Int32} (hc : CV L n su sn sg se pg md en sd ln (fu C c (up, nw, nu, op, si, fu cp f (mo, ti, re, lo, ps), wr)) h) (hl : c < 3) (hf4 : f < 4) {k : Nat} (hk : 1 ≤ k ∧ k ≤ 2) : rn_M G xC_askForLease (4, 1, 8) [.inr (some (29 + 11 * c)), .inl (nI f), .inl (nI k)] h (rn_i (fun r h' => r = (f_as n c nw nu op si wr f mo ti re lo ps k).1 ∧ CV L (f_as n c nw nu op si wr f mo ti re lo ps k).2.1 su sn sg se pg md en sd ln (fu C c (up, nw, (f_as n c nw nu op si wr f mo ti re lo ps k).2.2.1, (f_as n c nw nu op si wr f mo ti re lo ps k).2.2.2.1, (f_as n c nw nu op si wr f mo ti re lo ps k).2.2.2.2.1, fu cp f (f_as n c nw nu op si wr f mo ti re lo ps k).2.2.2.2.2, wr)) h' ∧ hp_le h h')) := by
  have hf := le_rf h
  have hm2 : mo ≤ 2 := (cv_P1 (cv_C1 hc hl) hf4).1.2
  refine rn_of (by decide +kernel) (Nat.le_of_ble_eq_true rfl) ?_
  show rn_W G xC_askForLease (4, 1, 8) 1 8 0 [some (.inr (some (29 + 11 * c))), some (.inl (nI f)), some (.inl (nI k)), none, none] [] h _
  refine rw_aload_n (pc := 0) dC_askForLease_0 rfl ?_
  refine rw_getR (pc := 1) (x := some (30 + 11 * c)) flC_11_C dC_askForLease_1 (cs_o hc (by omega) (by omega)) (cs_SC hc (by omega)) (cr_C3 hc (by omega)) ?_
  refine rw_iload_n (pc := 4) dC_askForLease_4 rfl ?_
  refine rw_aald (pc := 5) (v := some (32 + 11 * c + 2 * f)) (i := f) (t := 7) rfl ⟨rfl, by decide⟩ dC_askForLease_5 (cs_o hc (by omega) (by omega)) (cs_Scp hc (by omega)) (ix_nI (by omega) (by decide)) (cr_cp hc (by omega) (by omega)) ?_
  refine rw_astore_n (pc := 6) (L' := [some (.inr (some (29 + 11 * c))), some (.inl (nI f)), some (.inl (nI k)), some (.inr (some (32 + 11 * c + 2 * f))), none]) dC_askForLease_6 (by decide) rfl ?_
  refine rw_aload_n (pc := 7) dC_askForLease_7 rfl ?_
  refine rw_vi (pc := 8) (z' := (0, 0, 0)) (rc' := 1) (rs' := 8) (av := []) (st := []) (ci := 5) mlC_62 miK_takeLostMark rfl mvK_takeLostMark_K dC_askForLease_8 (cs_o hc (by omega) (by omega)) (cs_SK hc (by omega) (by omega)) (cK_takeLostMark G _ hc hl hf4) rfl rfl (Nat.le_of_ble_eq_true rfl) (by decide) rfl rfl (fun r1 h1 q1 => ?_)
  obtain ⟨rfl, hc, hf1⟩ := q1
  replace hf := le_tr hf hf1
  refine rw_ifeq (pc := 11) dC_askForLease_11 (tgt := 17) rfl (fun c2 => ?_) (fun c2 => ?_)
  · skip
    replace c2 : lo = false := (m_bi0 _).mp c2
    refine rw_aload_n (pc := 17) dC_askForLease_17 rfl ?_
    refine rw_iconst (pc := 18) (x := nI 2) dC_askForLease_18 (by decide) ?_
    refine rw_aload_n (pc := 19) dC_askForLease_19 rfl ?_
    refine rw_getI (pc := 20) (x := nw) flC_31_C dC_askForLease_20 (cs_o hc (by omega) (by omega)) (cs_SC hc (by omega)) (cv_C1 hc (by omega)).2.2.1 ?_
    refine rw_vi (pc := 23) (z' := (0, 0, 0)) (rc' := 1) (rs' := 8) (av := [.inl (nI 2), .inl nw]) (st := []) (ci := 5) mlC_66 miK_allows rfl mvK_allows_K dC_askForLease_23 (cs_o hc (by omega) (by omega)) (cs_SK hc (by omega) (by omega)) (cK_allows G _ hc hl hf4 (by omega) _) rfl rfl (Nat.le_of_ble_eq_true rfl) (by decide) rfl rfl (fun r3 h3 q3 => ?_)
    obtain ⟨rfl, rfl⟩ := q3
    refine rw_ifne (pc := 26) dC_askForLease_26 (tgt := 37) rfl (fun c4 => ?_) (fun c4 => ?_)
    · skip
      replace c4 : (f_al mo ti 2 nw) = true := mb_T c4
      refine rw_iconst (pc := 37) (x := nI 2) dC_askForLease_37 (by decide) ?_
      refine rw_goto (pc := 38) dC_askForLease_38 (tgt := 42) rfl ?_
      refine rw_istore (pc := 42) (L' := [some (.inr (some (29 + 11 * c))), some (.inl (nI f)), some (.inl (nI k)), some (.inr (some (32 + 11 * c + 2 * f))), some (.inl (nI 2))]) dC_askForLease_42 (by decide) rfl ?_
      refine rw_aload_n (pc := 44) dC_askForLease_44 rfl ?_
      refine rw_aload_n (pc := 45) dC_askForLease_45 rfl ?_
      refine rw_getI (pc := 46) (x := nI c) flC_44_C dC_askForLease_46 (cs_o hc (by omega) (by omega)) (cs_SC hc (by omega)) (cv_C1 hc (by omega)).1 ?_
      refine rw_iload_n (pc := 49) dC_askForLease_49 rfl ?_
      refine rw_aload_n (pc := 50) dC_askForLease_50 rfl ?_
      refine rw_getI (pc := 51) (x := nu) flC_34_C dC_askForLease_51 (cs_o hc (by omega) (by omega)) (cs_SC hc (by omega)) (cv_C1 hc (by omega)).2.2.2.1 ?_
      refine rw_iconst (pc := 54) (x := nI 1) dC_askForLease_54 (by decide) ?_
      refine rw_iadd (pc := 55) (v := nu + (nI 1)) dC_askForLease_55 rfl ?_
      refine rw_iload (pc := 56) dC_askForLease_56 rfl ?_
      refine rw_aload_n (pc := 58) dC_askForLease_58 rfl ?_
      refine rw_iload (pc := 59) dC_askForLease_59 rfl ?_
      refine rw_aload_n (pc := 61) dC_askForLease_61 rfl ?_
      refine rw_getI (pc := 62) (x := nw) flC_31_C dC_askForLease_62 (cs_o hc (by omega) (by omega)) (cs_SC hc (by omega)) (cv_C1 hc (by omega)).2.2.1 ?_
      refine rw_vi (pc := 65) (z' := (0, 0, 0)) (rc' := 1) (rs' := 8) (av := [.inl (nI 2), .inl nw]) (st := [.inl (nI 2), .inl (nu + (nI 1)), .inl (nI f), .inl (nI c), .inr (some (29 + 11 * c))]) (ci := 5) mlC_66 miK_allows rfl mvK_allows_K dC_askForLease_65 (cs_o hc (by omega) (by omega)) (cs_SK hc (by omega) (by omega)) (cK_allows G _ hc hl hf4 (by omega) _) rfl rfl (Nat.le_of_ble_eq_true rfl) (by decide) rfl rfl (fun r5 h5 q5 => ?_)
      obtain ⟨rfl, rfl⟩ := q5
      refine rw_sr (pc := 68) (z' := (3, 1, 8)) (rc' := 0) (rs' := 0) (av := [.inl (nI c), .inl (nI f), .inl (nu + (nI 1)), .inl (nI 2), .inl (m_bi (f_al mo ti 2 nw))]) (st := [.inr (some (29 + 11 * c))]) mlC_74 msR_forLease dC_askForLease_68 (cR_forLease G _ (cs_n hc) hl hf4 _ (by omega) _) rfl rfl (Nat.le_of_ble_eq_true rfl) (by decide) rfl rfl (fun r6 h6 q6 => ?_)
      obtain ⟨hg, i, rfl, hm⟩ := q6
      replace hc := cv_gr hc hg
      replace hf := le_tr hf (gx_le hg)
      refine rw_vi (pc := 71) (z' := (1, 0, 0)) (rc' := 0) (rs' := 0) (av := [.inr (some i)]) (st := []) (ci := 4) mlC_80 miC_sendNew rfl mvC_sendNew_C dC_askForLease_71 (cs_o hc (by omega) (by omega)) (cs_SC hc (by omega)) (cC_sendNew G _ hc hl hm (Nat.le_of_ble_eq_true rfl)) rfl rfl (Nat.le_of_ble_eq_true rfl) (by decide) rfl rfl (fun r7 h7 q7 => ?_)
      obtain ⟨rfl, hc, hf1⟩ := q7
      replace hm := cm_le hm hf1
      replace hf := le_tr hf hf1
      have hF : f_as n c nw nu op si wr f mo ti re lo ps k = (am_n (fm_L c f (nu + nI 1) 2 ((f_al mo ti 2 nw))), f_send n (fm_L c f (nu + nI 1) 2 ((f_al mo ti 2 nw))), am_n (fm_L c f (nu + nI 1) 2 ((f_al mo ti 2 nw))), some (fm_L c f (nu + nI 1) 2 ((f_al mo ti 2 nw))), nw, (mo, ti, re, false, ps)) := by
        unfold f_as
        simp only [c2, c4, f_aK, cond_true, cond_false, if_true, if_false]
        try rfl
      rw [hF]
      exact rw_iret (pc := 74) dC_askForLease_74 rfl ⟨_, rfl, rfl, hc, hf⟩
    · skip
      replace c4 : (f_al mo ti 2 nw) = false := (m_bi0 _).mp c4
      refine rw_aload_n (pc := 29) dC_askForLease_29 rfl ?_
      refine rw_iload_n (pc := 30) dC_askForLease_30 rfl ?_
      refine rw_vi (pc := 31) (z' := (0, 0, 0)) (rc' := 1) (rs' := 8) (av := [.inl (nI f)]) (st := []) (ci := 4) mlC_70 miC_hasWritesTo rfl mvC_hasWritesTo_C dC_askForLease_31 (cs_o hc (by omega) (by omega)) (cs_SC hc (by omega)) (cC_hasWritesTo G _ hc hl hf4) rfl rfl (Nat.le_of_ble_eq_true rfl) (by decide) rfl rfl (fun r8 h8 q8 => ?_)
      obtain ⟨rfl, rfl⟩ := q8
      refine rw_ifeq (pc := 34) dC_askForLease_34 (tgt := 41) rfl (fun c9 => ?_) (fun c9 => ?_)
      · skip
        replace c9 : (f_hw wr f) = false := (m_bi0 _).mp c9
        refine rw_iload_n (pc := 41) dC_askForLease_41 rfl ?_
        refine rw_istore (pc := 42) (L' := [some (.inr (some (29 + 11 * c))), some (.inl (nI f)), some (.inl (nI k)), some (.inr (some (32 + 11 * c + 2 * f))), some (.inl (nI k))]) dC_askForLease_42 (by decide) rfl ?_
        refine rw_aload_n (pc := 44) dC_askForLease_44 rfl ?_
        refine rw_aload_n (pc := 45) dC_askForLease_45 rfl ?_
        refine rw_getI (pc := 46) (x := nI c) flC_44_C dC_askForLease_46 (cs_o hc (by omega) (by omega)) (cs_SC hc (by omega)) (cv_C1 hc (by omega)).1 ?_
        refine rw_iload_n (pc := 49) dC_askForLease_49 rfl ?_
        refine rw_aload_n (pc := 50) dC_askForLease_50 rfl ?_
        refine rw_getI (pc := 51) (x := nu) flC_34_C dC_askForLease_51 (cs_o hc (by omega) (by omega)) (cs_SC hc (by omega)) (cv_C1 hc (by omega)).2.2.2.1 ?_
        refine rw_iconst (pc := 54) (x := nI 1) dC_askForLease_54 (by decide) ?_
        refine rw_iadd (pc := 55) (v := nu + (nI 1)) dC_askForLease_55 rfl ?_
        refine rw_iload (pc := 56) dC_askForLease_56 rfl ?_
        refine rw_aload_n (pc := 58) dC_askForLease_58 rfl ?_
        refine rw_iload (pc := 59) dC_askForLease_59 rfl ?_
        refine rw_aload_n (pc := 61) dC_askForLease_61 rfl ?_
        refine rw_getI (pc := 62) (x := nw) flC_31_C dC_askForLease_62 (cs_o hc (by omega) (by omega)) (cs_SC hc (by omega)) (cv_C1 hc (by omega)).2.2.1 ?_
        refine rw_vi (pc := 65) (z' := (0, 0, 0)) (rc' := 1) (rs' := 8) (av := [.inl (nI k), .inl nw]) (st := [.inl (nI k), .inl (nu + (nI 1)), .inl (nI f), .inl (nI c), .inr (some (29 + 11 * c))]) (ci := 5) mlC_66 miK_allows rfl mvK_allows_K dC_askForLease_65 (cs_o hc (by omega) (by omega)) (cs_SK hc (by omega) (by omega)) (cK_allows G _ hc hl hf4 (by omega) _) rfl rfl (Nat.le_of_ble_eq_true rfl) (by decide) rfl rfl (fun r10 h10 q10 => ?_)
        obtain ⟨rfl, rfl⟩ := q10
        refine rw_sr (pc := 68) (z' := (3, 1, 8)) (rc' := 0) (rs' := 0) (av := [.inl (nI c), .inl (nI f), .inl (nu + (nI 1)), .inl (nI k), .inl (m_bi (f_al mo ti k nw))]) (st := [.inr (some (29 + 11 * c))]) mlC_74 msR_forLease dC_askForLease_68 (cR_forLease G _ (cs_n hc) hl hf4 _ (by omega) _) rfl rfl (Nat.le_of_ble_eq_true rfl) (by decide) rfl rfl (fun r11 h11 q11 => ?_)
        obtain ⟨hg, i, rfl, hm⟩ := q11
        replace hc := cv_gr hc hg
        replace hf := le_tr hf (gx_le hg)
        refine rw_vi (pc := 71) (z' := (1, 0, 0)) (rc' := 0) (rs' := 0) (av := [.inr (some i)]) (st := []) (ci := 4) mlC_80 miC_sendNew rfl mvC_sendNew_C dC_askForLease_71 (cs_o hc (by omega) (by omega)) (cs_SC hc (by omega)) (cC_sendNew G _ hc hl hm (Nat.le_of_ble_eq_true rfl)) rfl rfl (Nat.le_of_ble_eq_true rfl) (by decide) rfl rfl (fun r12 h12 q12 => ?_)
        obtain ⟨rfl, hc, hf1⟩ := q12
        replace hm := cm_le hm hf1
        replace hf := le_tr hf hf1
        have hF : f_as n c nw nu op si wr f mo ti re lo ps k = (am_n (fm_L c f (nu + nI 1) k ((f_al mo ti k nw))), f_send n (fm_L c f (nu + nI 1) k ((f_al mo ti k nw))), am_n (fm_L c f (nu + nI 1) k ((f_al mo ti k nw))), some (fm_L c f (nu + nI 1) k ((f_al mo ti k nw))), nw, (mo, ti, re, false, ps)) := by
          unfold f_as
          simp only [c2, c4, c9, f_aK, cond_true, cond_false, if_true, if_false]
          try rfl
        rw [hF]
        exact rw_iret (pc := 74) dC_askForLease_74 rfl ⟨_, rfl, rfl, hc, hf⟩
      · skip
        replace c9 : (f_hw wr f) = true := mb_T c9
        refine rw_iconst (pc := 37) (x := nI 2) dC_askForLease_37 (by decide) ?_
        refine rw_goto (pc := 38) dC_askForLease_38 (tgt := 42) rfl ?_
        refine rw_istore (pc := 42) (L' := [some (.inr (some (29 + 11 * c))), some (.inl (nI f)), some (.inl (nI k)), some (.inr (some (32 + 11 * c + 2 * f))), some (.inl (nI 2))]) dC_askForLease_42 (by decide) rfl ?_
        refine rw_aload_n (pc := 44) dC_askForLease_44 rfl ?_
        refine rw_aload_n (pc := 45) dC_askForLease_45 rfl ?_
        refine rw_getI (pc := 46) (x := nI c) flC_44_C dC_askForLease_46 (cs_o hc (by omega) (by omega)) (cs_SC hc (by omega)) (cv_C1 hc (by omega)).1 ?_
        refine rw_iload_n (pc := 49) dC_askForLease_49 rfl ?_
        refine rw_aload_n (pc := 50) dC_askForLease_50 rfl ?_
        refine rw_getI (pc := 51) (x := nu) flC_34_C dC_askForLease_51 (cs_o hc (by omega) (by omega)) (cs_SC hc (by omega)) (cv_C1 hc (by omega)).2.2.2.1 ?_
        refine rw_iconst (pc := 54) (x := nI 1) dC_askForLease_54 (by decide) ?_
        refine rw_iadd (pc := 55) (v := nu + (nI 1)) dC_askForLease_55 rfl ?_
        refine rw_iload (pc := 56) dC_askForLease_56 rfl ?_
        refine rw_aload_n (pc := 58) dC_askForLease_58 rfl ?_
        refine rw_iload (pc := 59) dC_askForLease_59 rfl ?_
        refine rw_aload_n (pc := 61) dC_askForLease_61 rfl ?_
        refine rw_getI (pc := 62) (x := nw) flC_31_C dC_askForLease_62 (cs_o hc (by omega) (by omega)) (cs_SC hc (by omega)) (cv_C1 hc (by omega)).2.2.1 ?_
        refine rw_vi (pc := 65) (z' := (0, 0, 0)) (rc' := 1) (rs' := 8) (av := [.inl (nI 2), .inl nw]) (st := [.inl (nI 2), .inl (nu + (nI 1)), .inl (nI f), .inl (nI c), .inr (some (29 + 11 * c))]) (ci := 5) mlC_66 miK_allows rfl mvK_allows_K dC_askForLease_65 (cs_o hc (by omega) (by omega)) (cs_SK hc (by omega) (by omega)) (cK_allows G _ hc hl hf4 (by omega) _) rfl rfl (Nat.le_of_ble_eq_true rfl) (by decide) rfl rfl (fun r13 h13 q13 => ?_)
        obtain ⟨rfl, rfl⟩ := q13
        refine rw_sr (pc := 68) (z' := (3, 1, 8)) (rc' := 0) (rs' := 0) (av := [.inl (nI c), .inl (nI f), .inl (nu + (nI 1)), .inl (nI 2), .inl (m_bi (f_al mo ti 2 nw))]) (st := [.inr (some (29 + 11 * c))]) mlC_74 msR_forLease dC_askForLease_68 (cR_forLease G _ (cs_n hc) hl hf4 _ (by omega) _) rfl rfl (Nat.le_of_ble_eq_true rfl) (by decide) rfl rfl (fun r14 h14 q14 => ?_)
        obtain ⟨hg, i, rfl, hm⟩ := q14
        replace hc := cv_gr hc hg
        replace hf := le_tr hf (gx_le hg)
        refine rw_vi (pc := 71) (z' := (1, 0, 0)) (rc' := 0) (rs' := 0) (av := [.inr (some i)]) (st := []) (ci := 4) mlC_80 miC_sendNew rfl mvC_sendNew_C dC_askForLease_71 (cs_o hc (by omega) (by omega)) (cs_SC hc (by omega)) (cC_sendNew G _ hc hl hm (Nat.le_of_ble_eq_true rfl)) rfl rfl (Nat.le_of_ble_eq_true rfl) (by decide) rfl rfl (fun r15 h15 q15 => ?_)
        obtain ⟨rfl, hc, hf1⟩ := q15
        replace hm := cm_le hm hf1
        replace hf := le_tr hf hf1
        have hF : f_as n c nw nu op si wr f mo ti re lo ps k = (am_n (fm_L c f (nu + nI 1) 2 ((f_al mo ti 2 nw))), f_send n (fm_L c f (nu + nI 1) 2 ((f_al mo ti 2 nw))), am_n (fm_L c f (nu + nI 1) 2 ((f_al mo ti 2 nw))), some (fm_L c f (nu + nI 1) 2 ((f_al mo ti 2 nw))), nw, (mo, ti, re, false, ps)) := by
          unfold f_as
          simp only [c2, c4, c9, f_aK, cond_true, cond_false, if_true, if_false]
          try rfl
        rw [hF]
        exact rw_iret (pc := 74) dC_askForLease_74 rfl ⟨_, rfl, rfl, hc, hf⟩
  · skip
    replace c2 : lo = true := mb_T c2
    refine rw_bipush (pc := 14) (x := (-3)) dC_askForLease_14 (by decide) ?_
    have hF : f_as n c nw nu op si wr f mo ti re lo ps k = ((-3), n, nu, op, si, (mo, ti, re, false, ps)) := by
      unfold f_as
      simp only [c2, f_aK, cond_true, cond_false, if_true, if_false]
      try rfl
    rw [hF]
    exact rw_iret (pc := 16) dC_askForLease_16 rfl ⟨_, rfl, rfl, hc, hf⟩
theorem cC_storeFirstWrite0 (G : mt_G) (h : ha_H) {L : Nat} {n : List ab_M} {su : Bool} {sn : Int32} {sg : Bool} {se : Int32} {pg : Nat → Nat → Int32} {md : Nat → Nat → Nat} {en : Nat → Nat → Int32} {sd : Nat → Option ab_M} {ln : Nat → List ab_M} {C : Nat → ab_C} {c : Nat} {up : Bool} {nw nu : Int32} {op : Option ab_M} {si : Int32} {cp : Nat → ab_P} {wr : List ab_W} (hc : CV L n su sn sg se pg md en sd ln (fu C c (up, nw, nu, op, si, cp, wr)) h) (hl : c < 3) (h0 : wr.length = 0) : rn_M G xC_storeFirstWrite (4, 1, 8) [.inr (some (29 + 11 * c))] h (rn_i (fun r h' => r = -1 ∧ h = h')) := by
  have hf := le_rf h
  refine rn_of (by decide +kernel) (Nat.le_of_ble_eq_true rfl) ?_
  show rn_W G xC_storeFirstWrite (4, 1, 8) 1 8 0 [some (.inr (some (29 + 11 * c))), none] [] h _
  refine rw_aload_n (pc := 0) dC_storeFirstWrite_0 rfl ?_
  refine rw_getI (pc := 1) (x := nI wr.length) flC_23_C dC_storeFirstWrite_1 (cs_o hc (by omega) (by omega)) (cs_SC hc (by omega)) (cv_C1 hc (by omega)).2.2.2.2.2.2.2.1.1 ?_
  refine rw_ifne (pc := 4) dC_storeFirstWrite_4 (tgt := 9) rfl (fun c1 => ?_) (fun c1 => ?_)
  · skip
    replace c1 : ¬ (wr.length = 0) := fun qz => c1 ((nI_eq (a := wr.length) (b := 0) (by omega) (by omega)).mpr qz)
    exact absurd h0 c1
  · skip
    replace c1 : wr.length = 0 := (nI_eq (a := wr.length) (b := 0) (by omega) (by omega)).mp c1
    refine rw_iconst (pc := 7) (x := (-1)) dC_storeFirstWrite_7 (by decide) ?_
    exact rw_iret (pc := 8) dC_storeFirstWrite_8 rfl ⟨_, rfl, rfl, rfl⟩
def fm_S (c : Nat) (x : Int32) (w : ab_W) : ab_M := (2, c, w.1, x, 0, false, w.2.1, w.2.2, fun _ => 0)
/-- flush, in a client -/
def f_st (n : List ab_M) (c : Nat) (nw nu : Int32) (op : Option ab_M) (si : Int32) (mo : Nat) (ti : Int32) (w : ab_W) : Int32 × List ab_M × Int32 × Option ab_M × Int32 :=
  bif f_al mo ti 2 nw then (nu + nI 1, f_send n (fm_S c (nu + nI 1) w), nu + nI 1, some (fm_S c (nu + nI 1) w), nw) else (-2, n, nu, op, si)
theorem cC_storeFirstWrite1 (G : mt_G) (h : ha_H) {L : Nat} {n : List ab_M} {su : Bool} {sn : Int32} {sg : Bool} {se : Int32} {pg : Nat → Nat → Int32} {md : Nat → Nat → Nat} {en : Nat → Nat → Int32} {sd : Nat → Option ab_M} {ln : Nat → List ab_M} {C : Nat → ab_C} {c : Nat} {up : Bool} {nw nu : Int32} {op : Option ab_M} {si : Int32} {cp : Nat → ab_P} {wr : List ab_W} {w0 : ab_W} {mo : Nat} {ti : Int32} {re lo : Bool} {ps : Nat → Int32} (hc : CV L n su sn sg se pg md en sd ln (fu C c (up, nw, nu, op, si, fu cp w0.1 (mo, ti, re, lo, ps), wr)) h) (hl : c < 3) (e0 : wr[0]? = some w0) : rn_M G xC_storeFirstWrite (4, 1, 8) [.inr (some (29 + 11 * c))] h (rn_i (fun r h' => r = (f_st n c nw nu op si mo ti w0).1 ∧ CV L (f_st n c nw nu op si mo ti w0).2.1 su sn sg se pg md en sd ln (fu C c (up, nw, (f_st n c nw nu op si mo ti w0).2.2.1, (f_st n c nw nu op si mo ti w0).2.2.2.1, (f_st n c nw nu op si mo ti w0).2.2.2.2, fu cp w0.1 (mo, ti, re, lo, ps), wr)) h' ∧ hp_le h h')) := by
  have hf := le_rf h
  obtain ⟨j0, ej0, hw0⟩ := (cv_C1 hc hl).2.2.2.2.2.2.2.2 0 w0 e0
  have hf4 : w0.1 < 4 := hw0.2.2.2.1
  have h6 : wr.length ≤ 6 := (cv_C1 hc hl).2.2.2.2.2.2.2.1.2
  refine rn_of (by decide +kernel) (Nat.le_of_ble_eq_true rfl) ?_
  show rn_W G xC_storeFirstWrite (4, 1, 8) 1 8 0 [some (.inr (some (29 + 11 * c))), none] [] h _
  refine rw_aload_n (pc := 0) dC_storeFirstWrite_0 rfl ?_
  refine rw_getI (pc := 1) (x := nI wr.length) flC_23_C dC_storeFirstWrite_1 (cs_o hc (by omega) (by omega)) (cs_SC hc (by omega)) (cv_C1 hc (by omega)).2.2.2.2.2.2.2.1.1 ?_
  refine rw_ifne (pc := 4) dC_storeFirstWrite_4 (tgt := 9) rfl (fun c1 => ?_) (fun c1 => ?_)
  · skip
    replace c1 : ¬ (wr.length = 0) := fun qz => c1 ((nI_eq (a := wr.length) (b := 0) (by omega) (by omega)).mpr qz)
    refine rw_aload_n (pc := 9) dC_storeFirstWrite_9 rfl ?_
    refine rw_getR (pc := 10) (x := some (31 + 11 * c)) flC_19_C dC_storeFirstWrite_10 (cs_o hc (by omega) (by omega)) (cs_SC hc (by omega)) (cr_C4 hc (by omega)) ?_
    refine rw_iconst (pc := 13) (x := nI 0) dC_storeFirstWrite_13 (by decide) ?_
    refine rw_aald (pc := 14) (v := some j0) (i := 0) (t := 8) rfl ⟨rfl, by decide⟩ dC_storeFirstWrite_14 (cs_o hc (by omega) (by omega)) (cs_Swr hc (by omega)) (ix_nI (by omega) (by decide)) ej0 ?_
    refine rw_astore_n (pc := 15) (L' := [some (.inr (some (29 + 11 * c))), some (.inr (some j0))]) dC_storeFirstWrite_15 (by decide) rfl ?_
    refine rw_aload_n (pc := 16) dC_storeFirstWrite_16 rfl ?_
    refine rw_getR (pc := 17) (x := some (30 + 11 * c)) flC_11_C dC_storeFirstWrite_17 (cs_o hc (by omega) (by omega)) (cs_SC hc (by omega)) (cr_C3 hc (by omega)) ?_
    refine rw_aload_n (pc := 20) dC_storeFirstWrite_20 rfl ?_
    refine rw_getI (pc := 21) (x := nI w0.1) flC_94_W dC_storeFirstWrite_21 (cw_o hw0) hw0.2.1 hw0.2.2.1 ?_
    refine rw_aald (pc := 24) (v := some (32 + 11 * c + 2 * w0.1)) (i := w0.1) (t := 7) rfl ⟨rfl, by decide⟩ dC_storeFirstWrite_24 (cs_o hc (by omega) (by omega)) (cs_Scp hc (by omega)) (ix_nI (by omega) (by decide)) (cr_cp hc (by omega) (by omega)) ?_
    refine rw_iconst (pc := 25) (x := nI 2) dC_storeFirstWrite_25 (by decide) ?_
    refine rw_aload_n (pc := 26) dC_storeFirstWrite_26 rfl ?_
    refine rw_getI (pc := 27) (x := nw) flC_31_C dC_storeFirstWrite_27 (cs_o hc (by omega) (by omega)) (cs_SC hc (by omega)) (cv_C1 hc (by omega)).2.2.1 ?_
    refine rw_vi (pc := 30) (z' := (0, 0, 0)) (rc' := 1) (rs' := 8) (av := [.inl (nI 2), .inl nw]) (st := []) (ci := 5) mlC_66 miK_allows rfl mvK_allows_K dC_storeFirstWrite_30 (cs_o hc (by omega) (by omega)) (cs_SK hc (by omega) (by omega)) (cK_allows G _ hc hl hf4 (by omega) _) rfl rfl (Nat.le_of_ble_eq_true rfl) (by decide) rfl rfl (fun r2 h2 q2 => ?_)
    obtain ⟨rfl, rfl⟩ := q2
    refine rw_ifne (pc := 33) dC_storeFirstWrite_33 (tgt := 39) rfl (fun c3 => ?_) (fun c3 => ?_)
    · skip
      replace c3 : (f_al mo ti 2 nw) = true := mb_T c3
      refine rw_aload_n (pc := 39) dC_storeFirstWrite_39 rfl ?_
      refine rw_aload_n (pc := 40) dC_storeFirstWrite_40 rfl ?_
      refine rw_getI (pc := 41) (x := nI c) flC_44_C dC_storeFirstWrite_41 (cs_o hc (by omega) (by omega)) (cs_SC hc (by omega)) (cv_C1 hc (by omega)).1 ?_
      refine rw_aload_n (pc := 44) dC_storeFirstWrite_44 rfl ?_
      refine rw_getI (pc := 45) (x := nu) flC_34_C dC_storeFirstWrite_45 (cs_o hc (by omega) (by omega)) (cs_SC hc (by omega)) (cv_C1 hc (by omega)).2.2.2.1 ?_
      refine rw_iconst (pc := 48) (x := nI 1) dC_storeFirstWrite_48 (by decide) ?_
      refine rw_iadd (pc := 49) (v := nu + (nI 1)) dC_storeFirstWrite_49 rfl ?_
      refine rw_aload_n (pc := 50) dC_storeFirstWrite_50 rfl ?_
      refine rw_sr (pc := 51) (z' := (3, 1, 8)) (rc' := 0) (rs' := 0) (av := [.inl (nI c), .inl (nu + (nI 1)), .inr (some j0)]) (st := [.inr (some (29 + 11 * c))]) mlC_97 msR_forStore dC_storeFirstWrite_51 (cR_forStore G _ (cs_n hc) hl _ hw0) rfl rfl (Nat.le_of_ble_eq_true rfl) (by decide) rfl rfl (fun r4 h4 q4 => ?_)
      obtain ⟨hg, i, rfl, hm⟩ := q4
      replace hc := cv_gr hc hg
      replace hf := le_tr hf (gx_le hg)
      refine rw_vi (pc := 54) (z' := (1, 0, 0)) (rc' := 0) (rs' := 0) (av := [.inr (some i)]) (st := []) (ci := 4) mlC_80 miC_sendNew rfl mvC_sendNew_C dC_storeFirstWrite_54 (cs_o hc (by omega) (by omega)) (cs_SC hc (by omega)) (cC_sendNew G _ hc hl hm (Nat.le_of_ble_eq_true rfl)) rfl rfl (Nat.le_of_ble_eq_true rfl) (by decide) rfl rfl (fun r5 h5 q5 => ?_)
      obtain ⟨rfl, hc, hf1⟩ := q5
      replace hm := cm_le hm hf1
      replace hf := le_tr hf hf1
      have hF : f_st n c nw nu op si mo ti w0 = (am_n (fm_S c (nu + nI 1) w0), f_send n (fm_S c (nu + nI 1) w0), am_n (fm_S c (nu + nI 1) w0), some (fm_S c (nu + nI 1) w0), nw) := by unfold f_st; simp only [c3, cond_true, cond_false]; try rfl
      rw [hF]
      exact rw_iret (pc := 57) dC_storeFirstWrite_57 rfl ⟨_, rfl, rfl, hc, hf⟩
    · skip
      replace c3 : (f_al mo ti 2 nw) = false := (m_bi0 _).mp c3
      refine rw_bipush (pc := 36) (x := (-2)) dC_storeFirstWrite_36 (by decide) ?_
      have hF : f_st n c nw nu op si mo ti w0 = ((-2), n, nu, op, si) := by unfold f_st; simp only [c3, cond_true, cond_false]; try rfl
      rw [hF]
      exact rw_iret (pc := 38) dC_storeFirstWrite_38 rfl ⟨_, rfl, rfl, hc, hf⟩
  · skip
    replace c1 : wr.length = 0 := (nI_eq (a := wr.length) (b := 0) (by omega) (by omega)).mp c1
    exact absurd c1 (by have := (List.getElem?_eq_some_iff.mp e0).1; omega)
/-- write, in a client -/
def f_wp (nw : Int32) (wr : List ab_W) (f mo : Nat) (ti : Int32) (re lo : Bool) (ps : Nat → Int32) (p : Nat) (v : Int32) : Int32 × ab_P × List ab_W :=
  bif lo then (-3, (mo, ti, re, false, ps), wr) else bif f_al mo ti 2 nw then (if wr.length < 6 then (nI (wr.length + 1), (mo, ti, re, false, fu ps p v), wr ++ [(f, p, v)]) else (-4, (mo, ti, re, false, ps), wr)) else (-2, (mo, ti, re, false, ps), wr)
theorem cw_mk {h : ha_H} {f p : Nat} {v : Int32} (h1 : 103 ≤ hp_n h) (hf : f < 4) (hp : p < 4) : hp_gr h (hp_sI (hp_sI (hp_sI (hp_new h (.inr 9)) (hp_n h) 0 (nI f)) (hp_n h) 1 (nI p)) (hp_n h) 2 v) ∧ cv_W (hp_sI (hp_sI (hp_sI (hp_new h (.inr 9)) (hp_n h) 0 (nI f)) (hp_n h) 1 (nI p)) (hp_n h) 2 v) (hp_n h) (f, p, v) := by
  refine ⟨gx_sI (gx_sI (gx_sI (gx_new (gx_rf h)) (Nat.le_refl _)) (Nat.le_refl _)) (Nat.le_refl _), ⟨h1, by rw [hp_n_sI, hp_n_sI, hp_n_sI, hp_n_new]; omega⟩, sh_sI (sh_sI (sh_sI sh_nw)), ?_, hf, ?_, hp, hI_set⟩
  · exact hI_sI2 (by omega) (hI_sI2 (by omega) hI_set)
  · exact hI_sI2 (by omega) hI_set
theorem cC_writePage (G : mt_G) (h : ha_H) {L : Nat} {n : List ab_M} {su : Bool} {sn : Int32} {sg : Bool} {se : Int32} {pg : Nat → Nat → Int32} {md : Nat → Nat → Nat} {en : Nat → Nat → Int32} {sd : Nat → Option ab_M} {ln : Nat → List ab_M} {C : Nat → ab_C} {c : Nat} {up : Bool} {nw nu : Int32} {op : Option ab_M} {si : Int32} {cp : Nat → ab_P} {wr : List ab_W} {f : Nat} {mo : Nat} {ti : Int32} {re lo : Bool} {ps : Nat → Int32} (hc : CV L n su sn sg se pg md en sd ln (fu C c (up, nw, nu, op, si, fu cp f (mo, ti, re, lo, ps), wr)) h) (hl : c < 3) (hf4 : f < 4) {p : Nat} (hp : p < 4) (v : Int32) : rn_M G xC_writePage (2, 1, 3) [.inr (some (29 + 11 * c)), .inl (nI f), .inl (nI p), .inl v] h (rn_i (fun r h' => r = (f_wp nw wr f mo ti re lo ps p v).1 ∧ CV L n su sn sg se pg md en sd ln (fu C c (up, nw, nu, op, si, fu cp f (f_wp nw wr f mo ti re lo ps p v).2.1, (f_wp nw wr f mo ti re lo ps p v).2.2)) h' ∧ hp_le h h')) := by
  have hf := le_rf h
  have h6 : wr.length ≤ 6 := (cv_C1 hc hl).2.2.2.2.2.2.2.1.2
  refine rn_of (by decide +kernel) (Nat.le_of_ble_eq_true rfl) ?_
  show rn_W G xC_writePage (2, 1, 3) 1 3 0 [some (.inr (some (29 + 11 * c))), some (.inl (nI f)), some (.inl (nI p)), some (.inl v), none] [] h _
  refine rw_aload_n (pc := 0) dC_writePage_0 rfl ?_
  refine rw_getR (pc := 1) (x := some (30 + 11 * c)) flC_11_C dC_writePage_1 (cs_o hc (by omega) (by omega)) (cs_SC hc (by omega)) (cr_C3 hc (by omega)) ?_
  refine rw_iload_n (pc := 4) dC_writePage_4 rfl ?_
  refine rw_aald (pc := 5) (v := some (32 + 11 * c + 2 * f)) (i := f) (t := 7) rfl ⟨rfl, by decide⟩ dC_writePage_5 (cs_o hc (by omega) (by omega)) (cs_Scp hc (by omega)) (ix_nI (by omega) (by decide)) (cr_cp hc (by omega) (by omega)) ?_
  refine rw_astore (pc := 6) (L' := [some (.inr (some (29 + 11 * c))), some (.inl (nI f)), some (.inl (nI p)), some (.inl v), some (.inr (some (32 + 11 * c + 2 * f)))]) dC_writePage_6 (by decide) rfl ?_
  refine rw_aload (pc := 8) dC_writePage_8 rfl ?_
  refine rw_vi (pc := 10) (z' := (0, 0, 0)) (rc' := 1) (rs' := 3) (av := []) (st := []) (ci := 5) mlC_62 miK_takeLostMark rfl mvK_takeLostMark_K dC_writePage_10 (cs_o hc (by omega) (by omega)) (cs_SK hc (by omega) (by omega)) (cK_takeLostMark G _ hc hl hf4) rfl rfl (Nat.le_of_ble_eq_true rfl) (by decide) rfl rfl (fun r1 h1 q1 => ?_)
  obtain ⟨rfl, hc, hf1⟩ := q1
  replace hf := le_tr hf hf1
  refine rw_ifeq (pc := 13) dC_writePage_13 (tgt := 19) rfl (fun c2 => ?_) (fun c2 => ?_)
  · skip
    replace c2 : lo = false := (m_bi0 _).mp c2
    refine rw_aload (pc := 19) dC_writePage_19 rfl ?_
    refine rw_iconst (pc := 21) (x := nI 2) dC_writePage_21 (by decide) ?_
    refine rw_aload_n (pc := 22) dC_writePage_22 rfl ?_
    refine rw_getI (pc := 23) (x := nw) flC_31_C dC_writePage_23 (cs_o hc (by omega) (by omega)) (cs_SC hc (by omega)) (cv_C1 hc (by omega)).2.2.1 ?_
    refine rw_vi (pc := 26) (z' := (0, 0, 0)) (rc' := 1) (rs' := 3) (av := [.inl (nI 2), .inl nw]) (st := []) (ci := 5) mlC_66 miK_allows rfl mvK_allows_K dC_writePage_26 (cs_o hc (by omega) (by omega)) (cs_SK hc (by omega) (by omega)) (cK_allows G _ hc hl hf4 (by omega) _) rfl rfl (Nat.le_of_ble_eq_true rfl) (by decide) rfl rfl (fun r3 h3 q3 => ?_)
    obtain ⟨rfl, rfl⟩ := q3
    refine rw_ifne (pc := 29) dC_writePage_29 (tgt := 35) rfl (fun c4 => ?_) (fun c4 => ?_)
    · skip
      replace c4 : (f_al mo ti 2 nw) = true := mb_T c4
      refine rw_aload_n (pc := 35) dC_writePage_35 rfl ?_
      refine rw_getI (pc := 36) (x := nI wr.length) flC_23_C dC_writePage_36 (cs_o hc (by omega) (by omega)) (cs_SC hc (by omega)) (cv_C1 hc (by omega)).2.2.2.2.2.2.2.1.1 ?_
      refine rw_bipush (pc := 39) (x := nI 6) dC_writePage_39 (by decide) ?_
      refine rw_icmplt (pc := 41) dC_writePage_41 (tgt := 47) rfl (fun c5 => ?_) (fun c5 => ?_)
      · skip
        replace c5 : wr.length < 6 := (nI_ltI (a := wr.length) (b := 6) (by omega) (by omega)).mp c5
        refine rw_aload (pc := 47) dC_writePage_47 rfl ?_
        refine rw_getR (pc := 49) (x := some (33 + 11 * c + 2 * f)) flC_84_K dC_writePage_49 (cs_o hc (by omega) (by omega)) (cs_SK hc (by omega) (by omega)) (cr_K hc (by omega) (by omega)) ?_
        refine rw_iload_n (pc := 52) dC_writePage_52 rfl ?_
        refine rw_iload_n (pc := 53) dC_writePage_53 rfl ?_
        refine rw_iast (pc := 54) (i := p) dC_writePage_54 (cs_o hc (by omega) (by omega)) (cs_Sk hc (by omega) (by omega)) (ix_nI (by omega) (by decide)) ?_
        replace hc := wp_ps hc (by omega) (by omega) (p := p) (by omega) v
        replace hf := le_tr hf (le_sI (h := h1) (A := (33 + 11 * c + 2 * f)) (k := p) (v := v) (by omega))
        generalize hp_sI h1 (33 + 11 * c + 2 * f) p v = g6 at hc hf ⊢
        refine rw_aload_n (pc := 55) dC_writePage_55 rfl ?_
        refine rw_getR (pc := 56) (x := some (31 + 11 * c)) flC_19_C dC_writePage_56 (cs_o hc (by omega) (by omega)) (cs_SC hc (by omega)) (cr_C4 hc (by omega)) ?_
        refine rw_aload_n (pc := 59) dC_writePage_59 rfl ?_
        refine rw_getI (pc := 60) (x := nI wr.length) flC_23_C dC_writePage_60 (cs_o hc (by omega) (by omega)) (cs_SC hc (by omega)) (cv_C1 hc (by omega)).2.2.2.2.2.2.2.1.1 ?_
        refine rw_new (pc := 63) (rc' := 0) (rs' := 0) nnC_17 dC_writePage_63 rfl rfl ?_
        refine rw_dup (pc := 66) dC_writePage_66 ?_
        refine rw_iload_n (pc := 67) dC_writePage_67 rfl ?_
        refine rw_iload_n (pc := 68) dC_writePage_68 rfl ?_
        refine rw_iload_n (pc := 69) dC_writePage_69 rfl ?_
        refine rw_iv (pc := 70) (z' := (1, 0, 0)) (rc' := 0) (rs' := 0) (av := [.inl (nI f), .inl (nI p), .inl v]) (st := [.inr (some (hp_n g6)), .inl (nI wr.length), .inr (some (31 + 11 * c))]) mlC_91 miW_init rfl rfl dC_writePage_70 (cW_init G _ (ok_nw (by have := cs_n hc; omega)) sh_nw _ _ _) rfl rfl (Nat.le_of_ble_eq_true rfl) (by decide) rfl rfl (fun h7 q7 => ?_)
        obtain rfl := q7
        obtain ⟨hg, hw⟩ := cw_mk (h := g6) (v := v) (cs_n hc) hf4 hp
        replace hc := cv_gr hc hg
        replace hf := le_tr hf (gx_le hg)
        generalize hp_sI (hp_sI (hp_sI (hp_new g6 (.inr 9)) (hp_n g6) 0 (nI f)) (hp_n g6) 1 (nI p)) (hp_n g6) 2 v = gw at hc hf hw ⊢
        clear hg
        generalize hp_n g6 = iw at hw ⊢
        refine rw_aast (pc := 73) (i := wr.length) so_8_W (by decide) dC_writePage_73 (cs_o hc (by omega) (by omega)) (cs_Swr hc (by omega)) (ix_nI (by omega) (by decide)) (cw_o hw) hw.2.1 ?_
        replace hc := ww_l hc hl (some iw)
        replace hw := cw_dy hw (le_dy (le_sR (h := gw) (A := (31 + 11 * c)) (k := wr.length) (v := some iw) (by omega)))
        replace hf := le_tr hf (le_sR (h := gw) (A := (31 + 11 * c)) (k := wr.length) (v := some iw) (by omega))
        have he : hp_R (hp_sR gw (31 + 11 * c) wr.length (some iw)) (31 + 11 * c) wr.length = some iw := rR_set
        generalize hp_sR gw (31 + 11 * c) wr.length (some iw) = g8 at hc hw hf he ⊢
        refine rw_aload_n (pc := 74) dC_writePage_74 rfl ?_
        refine rw_dup (pc := 75) dC_writePage_75 ?_
        refine rw_getI (pc := 76) (x := nI wr.length) flC_23_C dC_writePage_76 (cs_o hc (by omega) (by omega)) (cs_SC hc (by omega)) (cv_C1 hc (by omega)).2.2.2.2.2.2.2.1.1 ?_
        refine rw_iconst (pc := 79) (x := nI 1) dC_writePage_79 (by decide) ?_
        refine rw_iadd (pc := 80) (v := nI (wr.length + 1)) dC_writePage_80 (nI_add _ _) ?_
        refine rw_putI (pc := 81) pfC_23_C dC_writePage_81 (cs_o hc (by omega) (by omega)) (cs_SC hc (by omega)) ?_
        replace hc := ww_c hc hl (by omega) he hw
        replace hf := le_tr hf (le_sI (h := g8) (A := (29 + 11 * c)) (k := 5) (v := nI (wr.length + 1)) (by omega))
        generalize hp_sI g8 (29 + 11 * c) 5 (nI (wr.length + 1)) = g9 at hc hf ⊢
        refine rw_aload_n (pc := 84) dC_writePage_84 rfl ?_
        refine rw_getI (pc := 85) (x := nI (wr.length + 1)) flC_23_C dC_writePage_85 (cs_o hc (by omega) (by omega)) (cs_SC hc (by omega)) ((cv_C1 hc (by omega)).2.2.2.2.2.2.2.1.1.trans (by rw [List.length_append]; rfl)) ?_
        have hF : f_wp nw wr f mo ti re lo ps p v = (nI (wr.length + 1), (mo, ti, re, false, fu ps p v), wr ++ [(f, p, v)]) := by unfold f_wp; simp only [c2, c4, c5, cond_true, cond_false, if_true, if_false]; try rfl
        rw [hF]
        exact rw_iret (pc := 88) dC_writePage_88 rfl ⟨_, rfl, rfl, hc, hf⟩
      · skip
        replace c5 : ¬ (wr.length < 6) := fun qz => c5 ((nI_ltI (a := wr.length) (b := 6) (by omega) (by omega)).mpr qz)
        refine rw_bipush (pc := 44) (x := (-4)) dC_writePage_44 (by decide) ?_
        have hF : f_wp nw wr f mo ti re lo ps p v = ((-4), (mo, ti, re, false, ps), wr) := by unfold f_wp; simp only [c2, c4, c5, cond_true, cond_false, if_true, if_false]; try rfl
        rw [hF]
        exact rw_iret (pc := 46) dC_writePage_46 rfl ⟨_, rfl, rfl, hc, hf⟩
    · skip
      replace c4 : (f_al mo ti 2 nw) = false := (m_bi0 _).mp c4
      refine rw_bipush (pc := 32) (x := (-2)) dC_writePage_32 (by decide) ?_
      have hF : f_wp nw wr f mo ti re lo ps p v = ((-2), (mo, ti, re, false, ps), wr) := by unfold f_wp; simp only [c2, c4, cond_true, cond_false, if_true, if_false]; try rfl
      rw [hF]
      exact rw_iret (pc := 34) dC_writePage_34 rfl ⟨_, rfl, rfl, hc, hf⟩
  · skip
    replace c2 : lo = true := mb_T c2
    refine rw_bipush (pc := 16) (x := (-3)) dC_writePage_16 (by decide) ?_
    have hF : f_wp nw wr f mo ti re lo ps p v = ((-3), (mo, ti, re, false, ps), wr) := by unfold f_wp; simp only [c2, cond_true, cond_false, if_true, if_false]; try rfl
    rw [hF]
    exact rw_iret (pc := 18) dC_writePage_18 rfl ⟨_, rfl, rfl, hc, hf⟩
