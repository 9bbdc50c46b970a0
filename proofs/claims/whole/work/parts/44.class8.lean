def f_hl (md : Nat → Nat → Nat) (c f : Nat) : Bool := if md c f = 0 then false else true
def f_cf (md : Nat → Nat → Nat) (m : ab_M) (c : Nat) : Bool := if c = am_c m then false else bif f_hl md c (am_f m) then (if am_m m = 2 then true else if md c (am_f m) = 2 then true else false) else false
def f_ca (md : Nat → Nat → Nat) (m : ab_M) : Bool := bif f_cf md m 0 then true else bif f_cf md m 1 then true else bif f_cf md m 2 then true else false
def f_rp (k : Nat) (m : ab_M) (b : Bool) (four : Nat → Int32) : ab_M := (k, am_c m, am_f m, am_n m, am_m m, b, 0, 0, four)
theorem cv_mdx {L : Nat} {n : List ab_M} {su : Bool} {sn : Int32} {sg : Bool} {se : Int32} {pg : Nat → Nat → Int32} {md : Nat → Nat → Nat} {en : Nat → Nat → Int32} {sd : Nat → Option ab_M} {ln : Nat → List ab_M} {C : Nat → ab_C} {h : ha_H} {md' : Nat → Nat → Nat} (H : CV L n su sn sg se pg md en sd ln C h) (e : ∀ c f, c < 3 → f < 4 → md c f = md' c f) : CV L n su sn sg se pg md' en sd ln C h := by
  obtain ⟨H0, HL, Hn, Hsu, Hsn, Hsg, Hse, Hpg, Hmd, Hen, Hsd, Hln, HC⟩ := H
  exact ⟨H0, HL, Hn, Hsu, Hsn, Hsg, Hse, Hpg, fun c f hc hf => by rw [← e c f hc hf]; exact Hmd c f hc hf, Hen, Hsd, Hln, HC⟩
theorem cv_lnx {L : Nat} {n : List ab_M} {su : Bool} {sn : Int32} {sg : Bool} {se : Int32} {pg : Nat → Nat → Int32} {md : Nat → Nat → Nat} {en : Nat → Nat → Int32} {sd : Nat → Option ab_M} {ln : Nat → List ab_M} {C : Nat → ab_C} {h : ha_H} {ln' : Nat → List ab_M} (H : CV L n su sn sg se pg md en sd ln C h) (e : ∀ f, f < 4 → ln f = ln' f) : CV L n su sn sg se pg md en sd ln' C h := by
  obtain ⟨H0, HL, Hn, Hsu, Hsn, Hsg, Hse, Hpg, Hmd, Hen, Hsd, Hln, HC⟩ := H
  exact ⟨H0, HL, Hn, Hsu, Hsn, Hsg, Hse, Hpg, Hmd, Hen, Hsd, fun f hf => by rw [← e f hf]; exact Hln f hf, HC⟩
theorem cS_hasLease (G : mt_G) (h : ha_H) {L : Nat} {n : List ab_M} {su : Bool} {sn : Int32} {sg : Bool} {se : Int32} {pg : Nat → Nat → Int32} {md : Nat → Nat → Nat} {en : Nat → Nat → Int32} {sd : Nat → Option ab_M} {ln : Nat → List ab_M} {C : Nat → ab_C} (hc : CV L n su sn sg se pg md en sd ln C h) {c f : Nat} (hl : c < 3) (hf4 : f < 4) : rn_M G xS_hasLease (0, 0, 0) [.inr (some 4), .inl (nI c), .inl (nI f)] h (rn_i (fun r h' => r = m_bi (f_hl md c f) ∧ h = h')) := by
  have hf := le_rf h
  have hm2 := (cp_md hc c f hl hf4).2
  refine rn_of (by decide +kernel) (Nat.le_of_ble_eq_true rfl) ?_
  show rn_W G xS_hasLease (0, 0, 0) 0 0 0 [some (.inr (some 4)), some (.inl (nI c)), some (.inl (nI f))] [] h _
  refine rw_aload_n (pc := 0) dS_hasLease_0 rfl ?_
  refine rw_getR (pc := 1) (x := some 11) flS_22_S dS_hasLease_1 (cs_o hc (by omega) (by omega)) (cs_S4 hc) (cr_4_4 hc) ?_
  refine rw_iload_n (pc := 4) dS_hasLease_4 rfl ?_
  refine rw_aald (pc := 5) (v := some (12 + c)) (i := c) (t := 9) rfl ⟨rfl, by decide⟩ dS_hasLease_5 (cs_o hc (by omega) (by omega)) (cs_S11 hc) (ix_nI (by omega) (by decide)) (cr_11 hc (by omega)) ?_
  refine rw_iload_n (pc := 6) dS_hasLease_6 rfl ?_
  refine rw_iald (pc := 7) (v := nI (md c f)) (i := f) dS_hasLease_7 (cs_o hc (by omega) (by omega)) (cs_Smd hc (by omega)) (ix_nI (by omega) (by decide)) ((cp_md hc) _ _ (by omega) (by omega)).1 ?_
  refine rw_ifeq (pc := 8) dS_hasLease_8 (tgt := 15) rfl (fun c1 => ?_) (fun c1 => ?_)
  · skip
    replace c1 : (md c f) = 0 := (nI_eq (a := (md c f)) (b := 0) (by omega) (by omega)).mp c1
    refine rw_iconst (pc := 15) (x := nI 0) dS_hasLease_15 (by decide) ?_
    exact rw_zret (pc := 16) dS_hasLease_16 rfl (Or.inl rfl) ⟨_, rfl, by simp [f_hl, c1, m_bi], rfl⟩
  · skip
    replace c1 : ¬ ((md c f) = 0) := fun qz => c1 ((nI_eq (a := (md c f)) (b := 0) (by omega) (by omega)).mpr qz)
    refine rw_iconst (pc := 11) (x := nI 1) dS_hasLease_11 (by decide) ?_
    refine rw_goto (pc := 12) dS_hasLease_12 (tgt := 16) rfl ?_
    exact rw_zret (pc := 16) dS_hasLease_16 rfl (Or.inr rfl) ⟨_, rfl, by simp [f_hl, c1, m_bi], rfl⟩
theorem cS_conflicts (G : mt_G) (h : ha_H) {L : Nat} {n : List ab_M} {su : Bool} {sn : Int32} {sg : Bool} {se : Int32} {pg : Nat → Nat → Int32} {md : Nat → Nat → Nat} {en : Nat → Nat → Int32} {sd : Nat → Option ab_M} {ln : Nat → List ab_M} {C : Nat → ab_C} (hc : CV L n su sn sg se pg md en sd ln C h) {i : Nat} {m : ab_M} (hm : cv_M h i m) (hk3 : am_k m ≤ 3) {c : Nat} (hl3 : c < 3) : rn_M G xS_conflicts (1, 0, 0) [.inr (some 4), .inr (some i), .inl (nI c)] h (rn_i (fun r h' => r = m_bi (f_cf md m c) ∧ h = h')) := by
  have hf := le_rf h
  have hl := hm.2.2.1.1
  have hf4 := hm.2.2.1.2
  have hq2 := (cm_q hm hk3).2.2.2.1
  have hm2 := (cp_md hc c (am_f m) hl3 hf4).2
  refine rn_of (by decide +kernel) (Nat.le_of_ble_eq_true rfl) ?_
  show rn_W G xS_conflicts (1, 0, 0) 0 0 0 [some (.inr (some 4)), some (.inr (some i)), some (.inl (nI c))] [] h _
  refine rw_iload_n (pc := 0) dS_conflicts_0 rfl ?_
  refine rw_aload_n (pc := 1) dS_conflicts_1 rfl ?_
  refine rw_getI (pc := 2) (x := nI (am_c m)) flS_75_R dS_conflicts_2 (cm_o hm) (cm_q hm hk3).2.1 hm.2.1.2.1 ?_
  refine rw_icmpeq (pc := 5) dS_conflicts_5 (tgt := 47) rfl (fun c1 => ?_) (fun c1 => ?_)
  · skip
    replace c1 : c = (am_c m) := (nI_eq (a := c) (b := (am_c m)) (by omega) (by omega)).mp c1
    refine rw_iconst (pc := 47) (x := nI 0) dS_conflicts_47 (by decide) ?_
    exact rw_zret (pc := 48) dS_conflicts_48 rfl (Or.inl rfl) ⟨_, rfl, by simp [f_cf, c1, m_bi], rfl⟩
  · skip
    replace c1 : ¬ (c = (am_c m)) := fun qz => c1 ((nI_eq (a := c) (b := (am_c m)) (by omega) (by omega)).mpr qz)
    refine rw_aload_n (pc := 8) dS_conflicts_8 rfl ?_
    refine rw_iload_n (pc := 9) dS_conflicts_9 rfl ?_
    refine rw_aload_n (pc := 10) dS_conflicts_10 rfl ?_
    refine rw_getI (pc := 11) (x := nI (am_f m)) flS_111_R dS_conflicts_11 (cm_o hm) (cm_q hm hk3).2.1 hm.2.1.2.2.1 ?_
    refine rw_vi (pc := 14) (z' := (0, 0, 0)) (rc' := 0) (rs' := 0) (av := [.inl (nI c), .inl (nI (am_f m))]) (st := []) (ci := 2) mlS_71 miS_hasLease rfl mvS_hasLease_S dS_conflicts_14 (cs_o hc (by omega) (by omega)) (cs_S4 hc) (cS_hasLease G _ hc (by omega) (by omega)) rfl rfl (Nat.le_of_ble_eq_true rfl) (by decide) rfl rfl (fun r2 h2 q2 => ?_)
    obtain ⟨rfl, rfl⟩ := q2
    refine rw_ifeq (pc := 17) dS_conflicts_17 (tgt := 47) rfl (fun c3 => ?_) (fun c3 => ?_)
    · skip
      replace c3 : (f_hl md c (am_f m)) = false := (m_bi0 _).mp c3
      refine rw_iconst (pc := 47) (x := nI 0) dS_conflicts_47 (by decide) ?_
      exact rw_zret (pc := 48) dS_conflicts_48 rfl (Or.inl rfl) ⟨_, rfl, by simp [f_cf, c1, c3, m_bi], rfl⟩
    · skip
      replace c3 : (f_hl md c (am_f m)) = true := mb_T c3
      refine rw_aload_n (pc := 20) dS_conflicts_20 rfl ?_
      refine rw_getI (pc := 21) (x := nI (am_m m)) flS_145_R dS_conflicts_21 (cm_o hm) (cm_q hm hk3).2.1 (cm_q hm hk3).2.2.1 ?_
      refine rw_iconst (pc := 24) (x := nI 2) dS_conflicts_24 (by decide) ?_
      refine rw_icmpeq (pc := 25) dS_conflicts_25 (tgt := 43) rfl (fun c4 => ?_) (fun c4 => ?_)
      · skip
        replace c4 : (am_m m) = 2 := (nI_eq (a := (am_m m)) (b := 2) (by omega) (by omega)).mp c4
        refine rw_iconst (pc := 43) (x := nI 1) dS_conflicts_43 (by decide) ?_
        refine rw_goto (pc := 44) dS_conflicts_44 (tgt := 48) rfl ?_
        exact rw_zret (pc := 48) dS_conflicts_48 rfl (Or.inr rfl) ⟨_, rfl, by simp [f_cf, c1, c3, c4, m_bi], rfl⟩
      · skip
        replace c4 : ¬ ((am_m m) = 2) := fun qz => c4 ((nI_eq (a := (am_m m)) (b := 2) (by omega) (by omega)).mpr qz)
        refine rw_aload_n (pc := 28) dS_conflicts_28 rfl ?_
        refine rw_getR (pc := 29) (x := some 11) flS_22_S dS_conflicts_29 (cs_o hc (by omega) (by omega)) (cs_S4 hc) (cr_4_4 hc) ?_
        refine rw_iload_n (pc := 32) dS_conflicts_32 rfl ?_
        refine rw_aald (pc := 33) (v := some (12 + c)) (i := c) (t := 9) rfl ⟨rfl, by decide⟩ dS_conflicts_33 (cs_o hc (by omega) (by omega)) (cs_S11 hc) (ix_nI (by omega) (by decide)) (cr_11 hc (by omega)) ?_
        refine rw_aload_n (pc := 34) dS_conflicts_34 rfl ?_
        refine rw_getI (pc := 35) (x := nI (am_f m)) flS_111_R dS_conflicts_35 (cm_o hm) (cm_q hm hk3).2.1 hm.2.1.2.2.1 ?_
        refine rw_iald (pc := 38) (v := nI (md c (am_f m))) (i := (am_f m)) dS_conflicts_38 (cs_o hc (by omega) (by omega)) (cs_Smd hc (by omega)) (ix_nI (by omega) (by decide)) ((cp_md hc) _ _ (by omega) (by omega)).1 ?_
        refine rw_iconst (pc := 39) (x := nI 2) dS_conflicts_39 (by decide) ?_
        refine rw_icmpne (pc := 40) dS_conflicts_40 (tgt := 47) rfl (fun c5 => ?_) (fun c5 => ?_)
        · skip
          replace c5 : ¬ ((md c (am_f m)) = 2) := fun qz => c5 ((nI_eq (a := (md c (am_f m))) (b := 2) (by omega) (by omega)).mpr qz)
          refine rw_iconst (pc := 47) (x := nI 0) dS_conflicts_47 (by decide) ?_
          exact rw_zret (pc := 48) dS_conflicts_48 rfl (Or.inl rfl) ⟨_, rfl, by simp [f_cf, c1, c3, c4, c5, m_bi], rfl⟩
        · skip
          replace c5 : (md c (am_f m)) = 2 := (nI_eq (a := (md c (am_f m))) (b := 2) (by omega) (by omega)).mp c5
          refine rw_iconst (pc := 43) (x := nI 1) dS_conflicts_43 (by decide) ?_
          refine rw_goto (pc := 44) dS_conflicts_44 (tgt := 48) rfl ?_
          exact rw_zret (pc := 48) dS_conflicts_48 rfl (Or.inr rfl) ⟨_, rfl, by simp [f_cf, c1, c3, c4, c5, m_bi], rfl⟩
theorem cS_conflictsWithAny (G : mt_G) (h : ha_H) {L : Nat} {n : List ab_M} {su : Bool} {sn : Int32} {sg : Bool} {se : Int32} {pg : Nat → Nat → Int32} {md : Nat → Nat → Nat} {en : Nat → Nat → Int32} {sd : Nat → Option ab_M} {ln : Nat → List ab_M} {C : Nat → ab_C} (hc : CV L n su sn sg se pg md en sd ln C h) {i : Nat} {m : ab_M} (hm : cv_M h i m) (hk3 : am_k m ≤ 3) : rn_M G xS_conflictsWithAny (2, 0, 0) [.inr (some 4), .inr (some i)] h (rn_i (fun r h' => r = m_bi (f_ca md m) ∧ h = h')) := by
  have hf := le_rf h
  have hl := hm.2.2.1.1
  have hf4 := hm.2.2.1.2
  have hq2 := (cm_q hm hk3).2.2.2.1
  refine rn_of (by decide +kernel) (Nat.le_of_ble_eq_true rfl) ?_
  show rn_W G xS_conflictsWithAny (2, 0, 0) 0 0 0 [some (.inr (some 4)), some (.inr (some i)), none] [] h _
  refine rw_iconst (pc := 0) (x := nI 0) dS_conflictsWithAny_0 (by decide) ?_
  refine rw_istore_n (pc := 1) (L' := [some (.inr (some 4)), some (.inr (some i)), some (.inl (nI 0))]) dS_conflictsWithAny_1 (by decide) rfl ?_
  refine rw_iload_n (pc := 2) dS_conflictsWithAny_2 rfl ?_
  refine rw_iconst (pc := 3) (x := nI 3) dS_conflictsWithAny_3 (by decide) ?_
  refine rw_icmpge (pc := 4) dS_conflictsWithAny_4 (tgt := 24) rfl (fun c1 => ?_) (fun c1 => ?_)
  · skip
    replace c1 : 3 ≤ 0 := (nI_leI (a := 3) (b := 0) (by omega) (by omega)).mp c1
    exact absurd c1 (by decide)
  · skip
    replace c1 : ¬ (3 ≤ 0) := fun qz => c1 ((nI_leI (a := 3) (b := 0) (by omega) (by omega)).mpr qz)
    refine rw_aload_n (pc := 7) dS_conflictsWithAny_7 rfl ?_
    refine rw_aload_n (pc := 8) dS_conflictsWithAny_8 rfl ?_
    refine rw_iload_n (pc := 9) dS_conflictsWithAny_9 rfl ?_
    refine rw_vi (pc := 10) (z' := (1, 0, 0)) (rc' := 0) (rs' := 0) (av := [.inr (some i), .inl (nI 0)]) (st := []) (ci := 2) mlS_155 miS_conflicts rfl mvS_conflicts_S dS_conflictsWithAny_10 (cs_o hc (by omega) (by omega)) (cs_S4 hc) (cS_conflicts G _ hc hm hk3 (by omega)) rfl rfl (Nat.le_of_ble_eq_true rfl) (by decide) rfl rfl (fun r2 h2 q2 => ?_)
    obtain ⟨rfl, rfl⟩ := q2
    refine rw_ifeq (pc := 13) dS_conflictsWithAny_13 (tgt := 18) rfl (fun c3 => ?_) (fun c3 => ?_)
    · skip
      replace c3 : (f_cf md m 0) = false := (m_bi0 _).mp c3
      refine rw_iinc (pc := 18) (x := nI 0) (y := nI 1) (L' := [some (.inr (some 4)), some (.inr (some i)), some (.inl (nI 1))]) dS_conflictsWithAny_18 (by decide) rfl (by decide) rfl ?_
      refine rw_goto (pc := 21) dS_conflictsWithAny_21 (tgt := 2) rfl ?_
      refine rw_iload_n (pc := 2) dS_conflictsWithAny_2 rfl ?_
      refine rw_iconst (pc := 3) (x := nI 3) dS_conflictsWithAny_3 (by decide) ?_
      refine rw_icmpge (pc := 4) dS_conflictsWithAny_4 (tgt := 24) rfl (fun c4 => ?_) (fun c4 => ?_)
      · skip
        replace c4 : 3 ≤ 1 := (nI_leI (a := 3) (b := 1) (by omega) (by omega)).mp c4
        exact absurd c4 (by decide)
      · skip
        replace c4 : ¬ (3 ≤ 1) := fun qz => c4 ((nI_leI (a := 3) (b := 1) (by omega) (by omega)).mpr qz)
        refine rw_aload_n (pc := 7) dS_conflictsWithAny_7 rfl ?_
        refine rw_aload_n (pc := 8) dS_conflictsWithAny_8 rfl ?_
        refine rw_iload_n (pc := 9) dS_conflictsWithAny_9 rfl ?_
        refine rw_vi (pc := 10) (z' := (1, 0, 0)) (rc' := 0) (rs' := 0) (av := [.inr (some i), .inl (nI 1)]) (st := []) (ci := 2) mlS_155 miS_conflicts rfl mvS_conflicts_S dS_conflictsWithAny_10 (cs_o hc (by omega) (by omega)) (cs_S4 hc) (cS_conflicts G _ hc hm hk3 (by omega)) rfl rfl (Nat.le_of_ble_eq_true rfl) (by decide) rfl rfl (fun r5 h5 q5 => ?_)
        obtain ⟨rfl, rfl⟩ := q5
        refine rw_ifeq (pc := 13) dS_conflictsWithAny_13 (tgt := 18) rfl (fun c6 => ?_) (fun c6 => ?_)
        · skip
          replace c6 : (f_cf md m 1) = false := (m_bi0 _).mp c6
          refine rw_iinc (pc := 18) (x := nI 1) (y := nI 2) (L' := [some (.inr (some 4)), some (.inr (some i)), some (.inl (nI 2))]) dS_conflictsWithAny_18 (by decide) rfl (by decide) rfl ?_
          refine rw_goto (pc := 21) dS_conflictsWithAny_21 (tgt := 2) rfl ?_
          refine rw_iload_n (pc := 2) dS_conflictsWithAny_2 rfl ?_
          refine rw_iconst (pc := 3) (x := nI 3) dS_conflictsWithAny_3 (by decide) ?_
          refine rw_icmpge (pc := 4) dS_conflictsWithAny_4 (tgt := 24) rfl (fun c7 => ?_) (fun c7 => ?_)
          · skip
            replace c7 : 3 ≤ 2 := (nI_leI (a := 3) (b := 2) (by omega) (by omega)).mp c7
            exact absurd c7 (by decide)
          · skip
            replace c7 : ¬ (3 ≤ 2) := fun qz => c7 ((nI_leI (a := 3) (b := 2) (by omega) (by omega)).mpr qz)
            refine rw_aload_n (pc := 7) dS_conflictsWithAny_7 rfl ?_
            refine rw_aload_n (pc := 8) dS_conflictsWithAny_8 rfl ?_
            refine rw_iload_n (pc := 9) dS_conflictsWithAny_9 rfl ?_
            refine rw_vi (pc := 10) (z' := (1, 0, 0)) (rc' := 0) (rs' := 0) (av := [.inr (some i), .inl (nI 2)]) (st := []) (ci := 2) mlS_155 miS_conflicts rfl mvS_conflicts_S dS_conflictsWithAny_10 (cs_o hc (by omega) (by omega)) (cs_S4 hc) (cS_conflicts G _ hc hm hk3 (by omega)) rfl rfl (Nat.le_of_ble_eq_true rfl) (by decide) rfl rfl (fun r8 h8 q8 => ?_)
            obtain ⟨rfl, rfl⟩ := q8
            refine rw_ifeq (pc := 13) dS_conflictsWithAny_13 (tgt := 18) rfl (fun c9 => ?_) (fun c9 => ?_)
            · skip
              replace c9 : (f_cf md m 2) = false := (m_bi0 _).mp c9
              refine rw_iinc (pc := 18) (x := nI 2) (y := nI 3) (L' := [some (.inr (some 4)), some (.inr (some i)), some (.inl (nI 3))]) dS_conflictsWithAny_18 (by decide) rfl (by decide) rfl ?_
              refine rw_goto (pc := 21) dS_conflictsWithAny_21 (tgt := 2) rfl ?_
              refine rw_iload_n (pc := 2) dS_conflictsWithAny_2 rfl ?_
              refine rw_iconst (pc := 3) (x := nI 3) dS_conflictsWithAny_3 (by decide) ?_
              refine rw_icmpge (pc := 4) dS_conflictsWithAny_4 (tgt := 24) rfl (fun c10 => ?_) (fun c10 => ?_)
              · skip
                replace c10 : 3 ≤ 3 := (nI_leI (a := 3) (b := 3) (by omega) (by omega)).mp c10
                refine rw_iconst (pc := 24) (x := nI 0) dS_conflictsWithAny_24 (by decide) ?_
                exact rw_zret (pc := 25) dS_conflictsWithAny_25 rfl (Or.inl rfl) ⟨_, rfl, by simp [f_ca, c3, c6, c9, m_bi], rfl⟩
              · skip
                replace c10 : ¬ (3 ≤ 3) := fun qz => c10 ((nI_leI (a := 3) (b := 3) (by omega) (by omega)).mpr qz)
                exact absurd (by decide) c10
            · skip
              replace c9 : (f_cf md m 2) = true := mb_T c9
              refine rw_iconst (pc := 16) (x := nI 1) dS_conflictsWithAny_16 (by decide) ?_
              exact rw_zret (pc := 17) dS_conflictsWithAny_17 rfl (Or.inr rfl) ⟨_, rfl, by simp [f_ca, c3, c6, c9, m_bi], rfl⟩
        · skip
          replace c6 : (f_cf md m 1) = true := mb_T c6
          refine rw_iconst (pc := 16) (x := nI 1) dS_conflictsWithAny_16 (by decide) ?_
          exact rw_zret (pc := 17) dS_conflictsWithAny_17 rfl (Or.inr rfl) ⟨_, rfl, by simp [f_ca, c3, c6, m_bi], rfl⟩
    · skip
      replace c3 : (f_cf md m 0) = true := mb_T c3
      refine rw_iconst (pc := 16) (x := nI 1) dS_conflictsWithAny_16 (by decide) ?_
      exact rw_zret (pc := 17) dS_conflictsWithAny_17 rfl (Or.inr rfl) ⟨_, rfl, by simp [f_ca, c3, m_bi], rfl⟩
def f_wa (ln : Nat → List ab_M) (m : ab_M) : Bool := match f_of (ln (am_f m)) (am_c m) with | none => false | some o => if am_n o = am_n m then true else false
theorem cS_waitsAlready (G : mt_G) (h : ha_H) {L : Nat} {n : List ab_M} {su : Bool} {sn : Int32} {sg : Bool} {se : Int32} {pg : Nat → Nat → Int32} {md : Nat → Nat → Nat} {en : Nat → Nat → Int32} {sd : Nat → Option ab_M} {ln : Nat → List ab_M} {C : Nat → ab_C} (hc : CV L n su sn sg se pg md en sd ln C h) {i : Nat} {m : ab_M} (hm : cv_M h i m) (hk3 : am_k m ≤ 3) : rn_M G xS_waitsAlready (2, 0, 0) [.inr (some 4), .inr (some i)] h (rn_i (fun r h' => r = m_bi (f_wa ln m) ∧ h = h')) := by
  have hf := le_rf h
  have hl := hm.2.2.1.1
  have hf4 := hm.2.2.1.2
  have hq2 := (cm_q hm hk3).2.2.2.1
  refine rn_of (by decide +kernel) (Nat.le_of_ble_eq_true rfl) ?_
  show rn_W G xS_waitsAlready (2, 0, 0) 0 0 0 [some (.inr (some 4)), some (.inr (some i)), none] [] h _
  refine rw_aload_n (pc := 0) dS_waitsAlready_0 rfl ?_
  refine rw_getR (pc := 1) (x := some 19) flS_30_S dS_waitsAlready_1 (cs_o hc (by omega) (by omega)) (cs_S4 hc) (cr_4_6 hc) ?_
  refine rw_aload_n (pc := 4) dS_waitsAlready_4 rfl ?_
  refine rw_getI (pc := 5) (x := nI (am_f m)) flS_111_R dS_waitsAlready_5 (cm_o hm) (cm_q hm hk3).2.1 hm.2.1.2.2.1 ?_
  refine rw_aald (pc := 8) (v := some (20 + 2 * (am_f m))) (i := (am_f m)) (t := 4) rfl ⟨rfl, by decide⟩ dS_waitsAlready_8 (cs_o hc (by omega) (by omega)) (cs_S19 hc) (ix_nI (by omega) (by decide)) (cr_19 hc (by omega)) ?_
  refine rw_aload_n (pc := 9) dS_waitsAlready_9 rfl ?_
  refine rw_getI (pc := 10) (x := nI (am_c m)) flS_75_R dS_waitsAlready_10 (cm_o hm) (cm_q hm hk3).2.1 hm.2.1.2.1 ?_
  refine rw_vr (pc := 13) (z' := (1, 0, 0)) (rc' := 0) (rs' := 0) (av := [.inl (nI (am_c m))]) (st := []) (ci := 3) mlS_171 miQ_ofClient rfl mvQ_ofClient_Q dS_waitsAlready_13 (cs_o hc (by omega) (by omega)) (cs_SQ hc (by omega)) (cQ_ofClient G _ hc (by omega) (by omega)) rfl rfl (Nat.le_of_ble_eq_true rfl) (by decide) rfl rfl (fun r1 h1 q1 => ?_)
  obtain ⟨rfl, q1⟩ := q1
  rcases q1 with ⟨e1, rfl⟩ | ⟨o, j, e1, rfl, k1, k2, ho⟩
  · skip
    refine rw_astore_n (pc := 16) (L' := [some (.inr (some 4)), some (.inr (some i)), some (.inr none)]) dS_waitsAlready_16 (by decide) rfl ?_
    refine rw_aload_n (pc := 17) dS_waitsAlready_17 rfl ?_
    refine rw_ifnull (pc := 18) dS_waitsAlready_18 (tgt := 36) rfl (fun c2 => ?_) (fun rc2 c2 => ?_)
    · skip
      refine rw_iconst (pc := 36) (x := nI 0) dS_waitsAlready_36 (by decide) ?_
      exact rw_zret (pc := 37) dS_waitsAlready_37 rfl (Or.inl rfl) ⟨_, rfl, by unfold f_wa; rw [e1]; simp [m_bi], rfl⟩
    · skip
      cases c2
  · skip
    refine rw_astore_n (pc := 16) (L' := [some (.inr (some 4)), some (.inr (some i)), some (.inr (some j))]) dS_waitsAlready_16 (by decide) rfl ?_
    refine rw_aload_n (pc := 17) dS_waitsAlready_17 rfl ?_
    refine rw_ifnull (pc := 18) dS_waitsAlready_18 (tgt := 36) rfl (fun c3 => ?_) (fun rc3 c3 => ?_)
    · skip
      cases c3
    · skip
      refine rw_aload_n (pc := 21) dS_waitsAlready_21 rfl ?_
      refine rw_getI (pc := 22) (x := am_n o) flS_80_R dS_waitsAlready_22 (cm_o ho) (cm_q ho (by omega)).2.1 ho.2.1.2.2.2 ?_
      refine rw_aload_n (pc := 25) dS_waitsAlready_25 rfl ?_
      refine rw_getI (pc := 26) (x := am_n m) flS_80_R dS_waitsAlready_26 (cm_o hm) (cm_q hm hk3).2.1 hm.2.1.2.2.2 ?_
      refine rw_icmpne (pc := 29) dS_waitsAlready_29 (tgt := 36) rfl (fun c4 => ?_) (fun c4 => ?_)
      · skip
        refine rw_iconst (pc := 36) (x := nI 0) dS_waitsAlready_36 (by decide) ?_
        exact rw_zret (pc := 37) dS_waitsAlready_37 rfl (Or.inl rfl) ⟨_, rfl, by unfold f_wa; rw [e1]; simp [c4, m_bi], rfl⟩
      · skip
        refine rw_iconst (pc := 32) (x := nI 1) dS_waitsAlready_32 (by decide) ?_
        refine rw_goto (pc := 33) dS_waitsAlready_33 (tgt := 37) rfl ?_
        exact rw_zret (pc := 37) dS_waitsAlready_37 rfl (Or.inr rfl) ⟨_, rfl, by unfold f_wa; rw [e1]; simp [c4, m_bi], rfl⟩
theorem cS_takeOutOfLines (G : mt_G) (h : ha_H) {L : Nat} {n : List ab_M} {su : Bool} {sn : Int32} {sg : Bool} {se : Int32} {pg : Nat → Nat → Int32} {md : Nat → Nat → Nat} {en : Nat → Nat → Int32} {sd : Nat → Option ab_M} {ln : Nat → List ab_M} {C : Nat → ab_C} (hc : CV L n su sn sg se pg md en sd ln C h) {c : Nat} (hl : c < 3) : rn_M G xS_takeOutOfLines (2, 0, 0) [.inr (some 4), .inl (nI c)] h (rn_v (fun h' => CV L n su sn sg se pg md en sd (fun f => f_out (ln f) c) C h' ∧ hp_le h h')) := by
  have hf := le_rf h
  refine rn_of (by decide +kernel) (Nat.le_of_ble_eq_true rfl) ?_
  show rn_W G xS_takeOutOfLines (2, 0, 0) 0 0 0 [some (.inr (some 4)), some (.inl (nI c)), none] [] h _
  refine rw_iconst (pc := 0) (x := nI 0) dS_takeOutOfLines_0 (by decide) ?_
  refine rw_istore_n (pc := 1) (L' := [some (.inr (some 4)), some (.inl (nI c)), some (.inl (nI 0))]) dS_takeOutOfLines_1 (by decide) rfl ?_
  refine rw_iload_n (pc := 2) dS_takeOutOfLines_2 rfl ?_
  refine rw_iconst (pc := 3) (x := nI 4) dS_takeOutOfLines_3 (by decide) ?_
  refine rw_icmpge (pc := 4) dS_takeOutOfLines_4 (tgt := 23) rfl (fun c1 => ?_) (fun c1 => ?_)
  · skip
    replace c1 : 4 ≤ 0 := (nI_leI (a := 4) (b := 0) (by omega) (by omega)).mp c1
    exact absurd c1 (by decide)
  · skip
    replace c1 : ¬ (4 ≤ 0) := fun qz => c1 ((nI_leI (a := 4) (b := 0) (by omega) (by omega)).mpr qz)
    refine rw_aload_n (pc := 7) dS_takeOutOfLines_7 rfl ?_
    refine rw_getR (pc := 8) (x := some 19) flS_30_S dS_takeOutOfLines_8 (cs_o hc (by omega) (by omega)) (cs_S4 hc) (cr_4_6 hc) ?_
    refine rw_iload_n (pc := 11) dS_takeOutOfLines_11 rfl ?_
    refine rw_aald (pc := 12) (v := some (20 + 2 * 0)) (i := 0) (t := 4) rfl ⟨rfl, by decide⟩ dS_takeOutOfLines_12 (cs_o hc (by omega) (by omega)) (cs_S19 hc) (ix_nI (by omega) (by decide)) (cr_19 hc (by omega)) ?_
    refine rw_iload_n (pc := 13) dS_takeOutOfLines_13 rfl ?_
    refine rw_vv (pc := 14) (z' := (1, 0, 0)) (rc' := 0) (rs' := 0) (av := [.inl (nI c)]) (st := []) (ci := 3) mlS_168 miQ_takeOut rfl mvQ_takeOut_Q dS_takeOutOfLines_14 (cs_o hc (by omega) (by omega)) (cs_SQ hc (by omega)) (cQ_takeOut G _ hc (f := 0) (by omega) hl) rfl rfl (Nat.le_of_ble_eq_true rfl) (by decide) rfl rfl (fun h2 q2 => ?_)
    obtain ⟨hc, hf1⟩ := q2
    replace hf := le_tr hf hf1
    refine rw_iinc (pc := 17) (x := nI 0) (y := nI 1) (L' := [some (.inr (some 4)), some (.inl (nI c)), some (.inl (nI 1))]) dS_takeOutOfLines_17 (by decide) rfl (by decide) rfl ?_
    refine rw_goto (pc := 20) dS_takeOutOfLines_20 (tgt := 2) rfl ?_
    refine rw_iload_n (pc := 2) dS_takeOutOfLines_2 rfl ?_
    refine rw_iconst (pc := 3) (x := nI 4) dS_takeOutOfLines_3 (by decide) ?_
    refine rw_icmpge (pc := 4) dS_takeOutOfLines_4 (tgt := 23) rfl (fun c3 => ?_) (fun c3 => ?_)
    · skip
      replace c3 : 4 ≤ 1 := (nI_leI (a := 4) (b := 1) (by omega) (by omega)).mp c3
      exact absurd c3 (by decide)
    · skip
      replace c3 : ¬ (4 ≤ 1) := fun qz => c3 ((nI_leI (a := 4) (b := 1) (by omega) (by omega)).mpr qz)
      refine rw_aload_n (pc := 7) dS_takeOutOfLines_7 rfl ?_
      refine rw_getR (pc := 8) (x := some 19) flS_30_S dS_takeOutOfLines_8 (cs_o hc (by omega) (by omega)) (cs_S4 hc) (cr_4_6 hc) ?_
      refine rw_iload_n (pc := 11) dS_takeOutOfLines_11 rfl ?_
      refine rw_aald (pc := 12) (v := some (20 + 2 * 1)) (i := 1) (t := 4) rfl ⟨rfl, by decide⟩ dS_takeOutOfLines_12 (cs_o hc (by omega) (by omega)) (cs_S19 hc) (ix_nI (by omega) (by decide)) (cr_19 hc (by omega)) ?_
      refine rw_iload_n (pc := 13) dS_takeOutOfLines_13 rfl ?_
      refine rw_vv (pc := 14) (z' := (1, 0, 0)) (rc' := 0) (rs' := 0) (av := [.inl (nI c)]) (st := []) (ci := 3) mlS_168 miQ_takeOut rfl mvQ_takeOut_Q dS_takeOutOfLines_14 (cs_o hc (by omega) (by omega)) (cs_SQ hc (by omega)) (cQ_takeOut G _ hc (f := 1) (by omega) hl) rfl rfl (Nat.le_of_ble_eq_true rfl) (by decide) rfl rfl (fun h4 q4 => ?_)
      obtain ⟨hc, hf1⟩ := q4
      replace hf := le_tr hf hf1
      refine rw_iinc (pc := 17) (x := nI 1) (y := nI 2) (L' := [some (.inr (some 4)), some (.inl (nI c)), some (.inl (nI 2))]) dS_takeOutOfLines_17 (by decide) rfl (by decide) rfl ?_
      refine rw_goto (pc := 20) dS_takeOutOfLines_20 (tgt := 2) rfl ?_
      refine rw_iload_n (pc := 2) dS_takeOutOfLines_2 rfl ?_
      refine rw_iconst (pc := 3) (x := nI 4) dS_takeOutOfLines_3 (by decide) ?_
      refine rw_icmpge (pc := 4) dS_takeOutOfLines_4 (tgt := 23) rfl (fun c5 => ?_) (fun c5 => ?_)
      · skip
        replace c5 : 4 ≤ 2 := (nI_leI (a := 4) (b := 2) (by omega) (by omega)).mp c5
        exact absurd c5 (by decide)
      · skip
        replace c5 : ¬ (4 ≤ 2) := fun qz => c5 ((nI_leI (a := 4) (b := 2) (by omega) (by omega)).mpr qz)
        refine rw_aload_n (pc := 7) dS_takeOutOfLines_7 rfl ?_
        refine rw_getR (pc := 8) (x := some 19) flS_30_S dS_takeOutOfLines_8 (cs_o hc (by omega) (by omega)) (cs_S4 hc) (cr_4_6 hc) ?_
        refine rw_iload_n (pc := 11) dS_takeOutOfLines_11 rfl ?_
        refine rw_aald (pc := 12) (v := some (20 + 2 * 2)) (i := 2) (t := 4) rfl ⟨rfl, by decide⟩ dS_takeOutOfLines_12 (cs_o hc (by omega) (by omega)) (cs_S19 hc) (ix_nI (by omega) (by decide)) (cr_19 hc (by omega)) ?_
        refine rw_iload_n (pc := 13) dS_takeOutOfLines_13 rfl ?_
        refine rw_vv (pc := 14) (z' := (1, 0, 0)) (rc' := 0) (rs' := 0) (av := [.inl (nI c)]) (st := []) (ci := 3) mlS_168 miQ_takeOut rfl mvQ_takeOut_Q dS_takeOutOfLines_14 (cs_o hc (by omega) (by omega)) (cs_SQ hc (by omega)) (cQ_takeOut G _ hc (f := 2) (by omega) hl) rfl rfl (Nat.le_of_ble_eq_true rfl) (by decide) rfl rfl (fun h6 q6 => ?_)
        obtain ⟨hc, hf1⟩ := q6
        replace hf := le_tr hf hf1
        refine rw_iinc (pc := 17) (x := nI 2) (y := nI 3) (L' := [some (.inr (some 4)), some (.inl (nI c)), some (.inl (nI 3))]) dS_takeOutOfLines_17 (by decide) rfl (by decide) rfl ?_
        refine rw_goto (pc := 20) dS_takeOutOfLines_20 (tgt := 2) rfl ?_
        refine rw_iload_n (pc := 2) dS_takeOutOfLines_2 rfl ?_
        refine rw_iconst (pc := 3) (x := nI 4) dS_takeOutOfLines_3 (by decide) ?_
        refine rw_icmpge (pc := 4) dS_takeOutOfLines_4 (tgt := 23) rfl (fun c7 => ?_) (fun c7 => ?_)
        · skip
          replace c7 : 4 ≤ 3 := (nI_leI (a := 4) (b := 3) (by omega) (by omega)).mp c7
          exact absurd c7 (by decide)
        · skip
          replace c7 : ¬ (4 ≤ 3) := fun qz => c7 ((nI_leI (a := 4) (b := 3) (by omega) (by omega)).mpr qz)
          refine rw_aload_n (pc := 7) dS_takeOutOfLines_7 rfl ?_
          refine rw_getR (pc := 8) (x := some 19) flS_30_S dS_takeOutOfLines_8 (cs_o hc (by omega) (by omega)) (cs_S4 hc) (cr_4_6 hc) ?_
          refine rw_iload_n (pc := 11) dS_takeOutOfLines_11 rfl ?_
          refine rw_aald (pc := 12) (v := some (20 + 2 * 3)) (i := 3) (t := 4) rfl ⟨rfl, by decide⟩ dS_takeOutOfLines_12 (cs_o hc (by omega) (by omega)) (cs_S19 hc) (ix_nI (by omega) (by decide)) (cr_19 hc (by omega)) ?_
          refine rw_iload_n (pc := 13) dS_takeOutOfLines_13 rfl ?_
          refine rw_vv (pc := 14) (z' := (1, 0, 0)) (rc' := 0) (rs' := 0) (av := [.inl (nI c)]) (st := []) (ci := 3) mlS_168 miQ_takeOut rfl mvQ_takeOut_Q dS_takeOutOfLines_14 (cs_o hc (by omega) (by omega)) (cs_SQ hc (by omega)) (cQ_takeOut G _ hc (f := 3) (by omega) hl) rfl rfl (Nat.le_of_ble_eq_true rfl) (by decide) rfl rfl (fun h8 q8 => ?_)
          obtain ⟨hc, hf1⟩ := q8
          replace hf := le_tr hf hf1
          refine rw_iinc (pc := 17) (x := nI 3) (y := nI 4) (L' := [some (.inr (some 4)), some (.inl (nI c)), some (.inl (nI 4))]) dS_takeOutOfLines_17 (by decide) rfl (by decide) rfl ?_
          refine rw_goto (pc := 20) dS_takeOutOfLines_20 (tgt := 2) rfl ?_
          refine rw_iload_n (pc := 2) dS_takeOutOfLines_2 rfl ?_
          refine rw_iconst (pc := 3) (x := nI 4) dS_takeOutOfLines_3 (by decide) ?_
          refine rw_icmpge (pc := 4) dS_takeOutOfLines_4 (tgt := 23) rfl (fun c9 => ?_) (fun c9 => ?_)
          · skip
            replace c9 : 4 ≤ 4 := (nI_leI (a := 4) (b := 4) (by omega) (by omega)).mp c9
            refine rw_vret (pc := 23) dS_takeOutOfLines_23 rfl ⟨rfl, cv_lnx hc (fun f hf4 => ?_), hf⟩
            rcases (by omega : f = 0 ∨ f = 1 ∨ f = 2 ∨ f = 3) with rfl | rfl | rfl | rfl <;> simp [fu]
          · skip
            replace c9 : ¬ (4 ≤ 4) := fun qz => c9 ((nI_leI (a := 4) (b := 4) (by omega) (by omega)).mpr qz)
            exact absurd (by decide) c9
theorem cS_finish (G : mt_G) (h : ha_H) {L : Nat} {n : List ab_M} {su : Bool} {sn : Int32} {sg : Bool} {se : Int32} {pg : Nat → Nat → Int32} {md : Nat → Nat → Nat} {en : Nat → Nat → Int32} {sd : Nat → Option ab_M} {ln : Nat → List ab_M} {C : Nat → ab_C} (hc : CV L n su sn sg se pg md en sd ln C h) {i : Nat} {m : ab_M} (hm : cv_M h i m) (h4 : 4 ≤ am_k m) (h7 : am_k m ≤ 7) : rn_M G xS_finish (1, 0, 0) [.inr (some 4), .inr (some i)] h (rn_v (fun h' => CV L (f_send n m) su sn sg se pg md en (fu sd (am_c m) (some m)) ln C h' ∧ hp_le h h')) := by
  have hf := le_rf h
  have hl := hm.2.2.1.1
  refine rn_of (by decide +kernel) (Nat.le_of_ble_eq_true rfl) ?_
  show rn_W G xS_finish (1, 0, 0) 0 0 0 [some (.inr (some 4)), some (.inr (some i))] [] h _
  refine rw_aload_n (pc := 0) dS_finish_0 rfl ?_
  refine rw_getR (pc := 1) (x := some 10) flS_18_S dS_finish_1 (cs_o hc (by omega) (by omega)) (cs_S4 hc) (cr_4_3 hc) ?_
  refine rw_aload_n (pc := 4) dS_finish_4 rfl ?_
  refine rw_getI (pc := 5) (x := nI (am_c m)) flS_154_P dS_finish_5 (cm_o hm) (cm_p hm h4 h7).2.1 hm.2.1.2.1 ?_
  refine rw_aload_n (pc := 8) dS_finish_8 rfl ?_
  refine rw_aast (pc := 9) (i := (am_c m)) so_3_P (by decide) dS_finish_9 (cs_o hc (by omega) (by omega)) (cs_S10 hc) (ix_nI (by omega) (by decide)) (cm_o hm) (cm_p hm h4 h7).2.1 ?_
  replace hc := wv_sd hc (c := (am_c m)) (by omega) hm (by omega) (by omega)
  replace hm := cm_le hm (le_sR (h := h) (A := 10) (k := (am_c m)) (v := (some i)) (by omega))
  replace hf := le_tr hf (le_sR (h := h) (A := 10) (k := (am_c m)) (v := (some i)) (by omega))
  generalize hp_sR h 10 (am_c m) (some i) = g1 at hc hf hm ⊢
  refine rw_aload_n (pc := 10) dS_finish_10 rfl ?_
  refine rw_getR (pc := 11) (x := some 2) flS_48_S dS_finish_11 (cs_o hc (by omega) (by omega)) (cs_S4 hc) (cr_4_0 hc) ?_
  refine rw_aload_n (pc := 14) dS_finish_14 rfl ?_
  refine rw_vi (pc := 15) (z' := (0, 0, 0)) (rc' := 0) (rs' := 0) (av := [.inr (some i)]) (st := []) (ci := 1) mlS_84 miN_send rfl mvN_send_N dS_finish_15 (cs_o hc (by omega) (by omega)) (cs_S2 hc) (cN_send G _ hc hm) rfl rfl (Nat.le_of_ble_eq_true rfl) (by decide) rfl rfl (fun r2 h2 q2 => ?_)
  obtain ⟨rfl, hc, hf1⟩ := q2
  replace hm := cm_le hm hf1
  replace hf := le_tr hf hf1
  refine rw_pop (pc := 18) dS_finish_18 ?_
  exact rw_vret (pc := 19) dS_finish_19 rfl ⟨rfl, hc, hf⟩
def hr_8 (h : ha_H) (i : Nat) (k c f x m : Int32) (b : Bool) (r : Option Nat) : ha_H := hp_sR (hp_sI (hp_sI (hm_4 h i k c f x) i 4 m) i 5 (m_bi b)) i 6 r
theorem hI_m4 {h : ha_H} {i x y : Nat} {k c f z r : Int32} (n : ¬ x = i) (e : hp_I h x y = r) : hp_I (hm_4 h i k c f z) x y = r := hI_sI n (hI_sI n (hI_sI n (hI_sI n e)))
theorem gx_r8 {g h : ha_H} {i : Nat} {k c f x m : Int32} {b : Bool} {r : Option Nat} (q : hp_gr g h) (hA : hp_n g ≤ i) : hp_gr g (hr_8 h i k c f x m b r) := gx_sR (gx_sI (gx_sI (gx_m4 q hA) hA) hA) hA
theorem r8_S {h : ha_H} {i a : Nat} {k c f x m : Int32} {b : Bool} {r : Option Nat} {s : (Nat × Nat) ⊕ Nat} (H : hp_S h a = s) : hp_S (hr_8 h i k c f x m b r) a = s := sh_sR (sh_sI (sh_sI (sh_m4 H)))
theorem r8_n {h : ha_H} {i : Nat} {k c f x m : Int32} {b : Bool} {r : Option Nat} : hp_n (hr_8 h i k c f x m b r) = hp_n h := rfl
theorem r8_I {h : ha_H} {i a y : Nat} {k c f x m v : Int32} {b : Bool} {r : Option Nat} (n : ¬ a = i) (e : hp_I h a y = v) : hp_I (hr_8 h i k c f x m b r) a y = v := hR_of (hI_sI n (hI_sI n (hI_m4 n e)))
theorem r8_F {h : ha_H} {i : Nat} {k c f x m : Int32} {b : Bool} {r : Option Nat} : (hp_I (hr_8 h i k c f x m b r) i 0 = k ∧ hp_I (hr_8 h i k c f x m b r) i 1 = c ∧ hp_I (hr_8 h i k c f x m b r) i 2 = f ∧ hp_I (hr_8 h i k c f x m b r) i 3 = x) ∧ hp_I (hr_8 h i k c f x m b r) i 4 = m ∧ hp_I (hr_8 h i k c f x m b r) i 5 = m_bi b ∧ hp_R (hr_8 h i k c f x m b r) i 6 = r := by
  have e0 : hp_I (hm_4 h i k c f x) i 0 = k := by rw [mk_I]; rfl
  have e1 : hp_I (hm_4 h i k c f x) i 1 = c := by rw [mk_I]; rfl
  have e2 : hp_I (hm_4 h i k c f x) i 2 = f := by rw [mk_I]; rfl
  have e3 : hp_I (hm_4 h i k c f x) i 3 = x := by rw [mk_I]; rfl
  exact ⟨⟨hR_of (hI_sI2 (by omega) (hI_sI2 (by omega) e0)), hR_of (hI_sI2 (by omega) (hI_sI2 (by omega) e1)), hR_of (hI_sI2 (by omega) (hI_sI2 (by omega) e2)), hR_of (hI_sI2 (by omega) (hI_sI2 (by omega) e3))⟩, hR_of (hI_sI2 (by omega) hI_set), hR_of hI_set, rR_set⟩
/-- a reply without pages is made -/
theorem mk_rp {h : ha_H} {k : Nat} {m : ab_M} {b : Bool} (h1 : 103 ≤ hp_n h) (hb : am_c m < 3 ∧ am_f m < 4) (hm2 : am_m m ≤ 2) (k5 : 5 ≤ k) (k7 : k ≤ 7) : hp_gr h (hr_8 (hp_new h (.inr 8)) (hp_n h) (nI k) (nI (am_c m)) (nI (am_f m)) (am_n m) (nI (am_m m)) b none) ∧ cv_M (hr_8 (hp_new h (.inr 8)) (hp_n h) (nI k) (nI (am_c m)) (nI (am_f m)) (am_n m) (nI (am_m m)) b none) (hp_n h) (f_rp k m b (fun _ => 0)) := by
  refine ⟨gx_r8 (gx_new (gx_rf h)) (Nat.le_refl _), ⟨h1, by rw [r8_n, hp_n_new]; omega⟩, r8_F.1, hb, Or.inr (Or.inl ⟨⟨?_, k7⟩, r8_S sh_nw, r8_F.2.1, hm2, r8_F.2.2.1, fun e => ?_⟩)⟩
  · show 4 ≤ k
    omega
  · exfalso
    have e' : k = 4 := e
    omega
/-- a reply with pages is made -/
theorem mk_rg {L : Nat} {n : List ab_M} {su : Bool} {sn : Int32} {sg : Bool} {se : Int32} {pg : Nat → Nat → Int32} {md : Nat → Nat → Nat} {en : Nat → Nat → Int32} {sd : Nat → Option ab_M} {ln : Nat → List ab_M} {C : Nat → ab_C} {h : ha_H} {m : ab_M} {b : Bool} (hc : CV L n su sn sg se pg md en sd ln C h) (hb : am_c m < 3 ∧ am_f m < 4) (hm2 : am_m m ≤ 2) : hp_gr h (hr_8 (hp_cl (hp_new h (.inr 8)) (6 + am_f m)) (hp_n h) (nI 4) (nI (am_c m)) (nI (am_f m)) (am_n m) (nI (am_m m)) b (some (hp_n (hp_new h (.inr 8))))) ∧ cv_M (hr_8 (hp_cl (hp_new h (.inr 8)) (6 + am_f m)) (hp_n h) (nI 4) (nI (am_c m)) (nI (am_f m)) (am_n m) (nI (am_m m)) b (some (hp_n (hp_new h (.inr 8))))) (hp_n h) (f_rp 4 m b (pg (am_f m))) := by
  have h1 := cs_n hc
  have e8 : hp_S (hp_cl (hp_new h (.inr 8)) (6 + am_f m)) (hp_n h) = .inr 8 := by rw [hp_S_cl, if_neg (by rw [hp_n_new]; omega)]; exact sh_nw
  refine ⟨gx_r8 (gx_cl (gx_new (gx_rf h))) (Nat.le_refl _), ⟨h1, by rw [r8_n, hp_n_cl, hp_n_new]; omega⟩, r8_F.1, hb, Or.inr (Or.inl ⟨⟨Nat.le_of_ble_eq_true rfl, Nat.le_of_ble_eq_true rfl⟩, r8_S e8, r8_F.2.1, hm2, r8_F.2.2.1, fun _ => ⟨_, r8_F.2.2.2, ⟨by rw [hp_n_new]; omega, by rw [r8_n, hp_n_cl]; omega⟩, r8_S ?_, fun p hp => r8_I ?_ ?_⟩⟩)⟩
  · rw [hp_S_cl, if_pos rfl, hp_S_new, if_neg (by omega)]
    exact cs_Spg hc hb.2
  · rw [hp_n_new]
    omega
  · rw [hp_I_cl, if_pos rfl, hp_I_new, if_neg (by omega)]
    exact cp_pg hc _ _ hb.2 hp
/-- a recall is made -/
theorem mk_rc {h : ha_H} {c f : Nat} (h1 : 103 ≤ hp_n h) (hl : c < 3) (hf : f < 4) : hp_gr h (hm_4 (hp_new h (.inr 6)) (hp_n h) (nI 8) (nI c) (nI f) (nI 0)) ∧ cv_M (hm_4 (hp_new h (.inr 6)) (hp_n h) (nI 8) (nI c) (nI f) (nI 0)) (hp_n h) (8, c, f, nI 0, 0, false, 0, 0, fun _ => 0) := by
  refine ⟨gx_m4 (gx_new (gx_rf h)) (Nat.le_refl _), ⟨h1, ?_⟩, ⟨by rw [mk_I]; rfl, by rw [mk_I]; rfl, by rw [mk_I]; rfl, by rw [mk_I]; rfl⟩, ⟨hl, hf⟩, Or.inr (Or.inr ⟨rfl, sh_m4 sh_nw⟩)⟩
  show hp_n h < hp_n h + 1
  omega
theorem cP_init (G : mt_G) (h : ha_H) {i j : Nat} (ho : hp_ok h i) (hs : hp_S h i = .inr 8) (hoj : hp_ok h j) (hsj : hp_S h j = .inr 7) (hne : ¬ j = i) {c f x m : Int32} (y1 : hp_I h j 1 = c) (y2 : hp_I h j 2 = f) (y3 : hp_I h j 3 = x) (y4 : hp_I h j 4 = m) (k : Int32) (b : Bool) (r : Option Nat) : rn_M G xP_init (2, 0, 0) [.inr (some i), .inl k, .inr (some j), .inl (m_bi b), .inr r] h (rn_v (fun h' => hr_8 h i k c f x m b r = h')) := by
  refine rn_of (by decide +kernel) (Nat.le_of_ble_eq_true rfl) ?_
  show rn_W G xP_init (2, 0, 0) 0 0 0 [some (.inr (some i)), some (.inl k), some (.inr (some j)), some (.inl (m_bi b)), some (.inr r)] [] h _
  refine rw_aload_n (pc := 0) dP_init_0 rfl ?_
  refine rw_iload_n (pc := 1) dP_init_1 rfl ?_
  refine rw_aload_n (pc := 2) dP_init_2 rfl ?_
  refine rw_getI (pc := 3) (x := c) flP_1_R dP_init_3 hoj hsj y1 ?_
  refine rw_aload_n (pc := 6) dP_init_6 rfl ?_
  refine rw_getI (pc := 7) (x := f) flP_7_R dP_init_7 hoj hsj y2 ?_
  refine rw_aload_n (pc := 10) dP_init_10 rfl ?_
  refine rw_getI (pc := 11) (x := x) flP_10_R dP_init_11 hoj hsj y3 ?_
  refine rw_iv (pc := 14) (z' := (1, 0, 0)) (rc' := 0) (rs' := 0) (av := [.inl k, .inl c, .inl f, .inl x]) (st := []) mlP_13 miG_init rfl rfl dP_init_14 (cG_initP G _ ho hs _ _ _ _) rfl rfl (Nat.le_of_ble_eq_true rfl) (by decide) rfl rfl (fun h1 q1 => ?_)
  obtain rfl := q1
  replace ho := ok_m4 (i := i) (k := k) (c := c) (f := f) (x := x) ho
  replace hs := sh_m4 (i := i) (k := k) (c := c) (f := f) (x := x) hs
  replace hoj := ok_m4 (i := i) (k := k) (c := c) (f := f) (x := x) hoj
  replace hsj := sh_m4 (i := i) (k := k) (c := c) (f := f) (x := x) hsj
  replace y1 := hI_m4 (i := i) (k := k) (c := c) (f := f) (z := x) hne y1
  replace y2 := hI_m4 (i := i) (k := k) (c := c) (f := f) (z := x) hne y2
  replace y3 := hI_m4 (i := i) (k := k) (c := c) (f := f) (z := x) hne y3
  replace y4 := hI_m4 (i := i) (k := k) (c := c) (f := f) (z := x) hne y4
  refine rw_aload_n (pc := 17) dP_init_17 rfl ?_
  refine rw_aload_n (pc := 18) dP_init_18 rfl ?_
  refine rw_getI (pc := 19) (x := m) flP_19_R dP_init_19 hoj hsj y4 ?_
  refine rw_putI (pc := 22) pfP_22_P dP_init_22 ho hs ?_
  replace ho := ok_sI (A := i) (k := 4) (v := m) ho
  replace hs := sh_sI (A := i) (k := 4) (v := m) hs
  replace hoj := ok_sI (A := i) (k := 4) (v := m) hoj
  replace hsj := sh_sI (A := i) (k := 4) (v := m) hsj
  replace y1 := hI_sI (a := i) (k := 4) (v := m) (by omega) y1
  replace y2 := hI_sI (a := i) (k := 4) (v := m) (by omega) y2
  replace y3 := hI_sI (a := i) (k := 4) (v := m) (by omega) y3
  replace y4 := hI_sI (a := i) (k := 4) (v := m) (by omega) y4
  have e2 : hp_I (hp_sI (hm_4 h i k c f x) i 4 m) i 4 = m := hI_set
  refine rw_aload_n (pc := 25) dP_init_25 rfl ?_
  refine rw_iload_n (pc := 26) dP_init_26 rfl ?_
  refine rw_putZ (pc := 27) pfP_25_P dP_init_27 ho hs (m_bi01 _) ?_
  replace ho := ok_sI (A := i) (k := 5) (v := m_bi b) ho
  replace hs := sh_sI (A := i) (k := 5) (v := m_bi b) hs
  replace hoj := ok_sI (A := i) (k := 5) (v := m_bi b) hoj
  replace hsj := sh_sI (A := i) (k := 5) (v := m_bi b) hsj
  replace y1 := hI_sI (a := i) (k := 5) (v := m_bi b) (by omega) y1
  replace y2 := hI_sI (a := i) (k := 5) (v := m_bi b) (by omega) y2
  replace y3 := hI_sI (a := i) (k := 5) (v := m_bi b) (by omega) y3
  replace y4 := hI_sI (a := i) (k := 5) (v := m_bi b) (by omega) y4
  replace e2 := hI_sI2 (a := i) (k := 5) (v := m_bi b) (by omega) e2
  have e3 : hp_I (hp_sI (hp_sI (hm_4 h i k c f x) i 4 m) i 5 (m_bi b)) i 5 = (m_bi b) := hI_set
  refine rw_aload_n (pc := 30) dP_init_30 rfl ?_
  refine rw_aload (pc := 31) dP_init_31 rfl ?_
  refine rw_putR (pc := 33) pfP_29_P (Or.inr ⟨_, rfl⟩) dP_init_33 ho hs ?_
  replace ho := ok_sR (A := i) (k := 6) (v := r) ho
  replace hs := sh_sR (A := i) (k := 6) (v := r) hs
  replace hoj := ok_sR (A := i) (k := 6) (v := r) hoj
  replace hsj := sh_sR (A := i) (k := 6) (v := r) hsj
  replace y1 := hR_of (A := i) (k := 6) (v := r) y1
  replace y2 := hR_of (A := i) (k := 6) (v := r) y2
  replace y3 := hR_of (A := i) (k := 6) (v := r) y3
  replace y4 := hR_of (A := i) (k := 6) (v := r) y4
  replace e2 := hR_of (A := i) (k := 6) (v := r) e2
  replace e3 := hR_of (A := i) (k := 6) (v := r) e3
  have e4 : hp_R (hp_sR (hp_sI (hp_sI (hm_4 h i k c f x) i 4 m) i 5 (m_bi b)) i 6 r) i 6 = r := rR_set
  exact rw_vret (pc := 36) dP_init_36 rfl ⟨rfl, rfl⟩
