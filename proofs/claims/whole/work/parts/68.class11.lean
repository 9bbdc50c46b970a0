theorem ib_N {x : Int32} {n : Nat} (h : x < 0) : mi_ib x n = false := by
  unfold mi_ib mi_in
  rw [if_pos (show x < nI 0 from h)]
  rfl
theorem ib_G {x : Int32} {n : Nat} (hn : n < 1000) (h : nI (n + 1) ≤ x) : mi_ib x n = false := by
  unfold mi_ib mi_in
  by_cases z : x < nI 0
  · rw [if_pos z]
    rfl
  · rw [if_neg z, if_pos (Int32.lt_of_lt_of_le (nI_lt (Nat.lt_succ_self n) (by omega)) h)]
    rfl
theorem ib_Y {x : Int32} {n : Nat} (hn : n < 1000) (h0 : ¬ x < 0) (h1 : ¬ nI (n + 1) ≤ x) : mi_ib x n = true := by
  obtain ⟨j, hj, rfl⟩ := nI_of h0
  refine mi_ibI hn ?_
  by_cases z : j ≤ n
  · exact z
  · exact absurd (nI_le (by omega) hj) h1
theorem ib_23 {x : Int32} (h : mi_ib x 2 = true) : mi_ib x 3 = true := by
  obtain ⟨j, hj, rfl⟩ := mi_ibT (by omega) h
  exact mi_ibI (by omega) (by omega)
theorem ib_3F {x : Int32} (h : mi_ib x 2 = false) (h3 : ¬ x = nI 3) : mi_ib x 3 = false := by
  cases e : mi_ib x 3
  · rfl
  · exfalso
    obtain ⟨j, hj, rfl⟩ := mi_ibT (by omega) e
    by_cases z : j = 3
    · subst z
      exact h3 rfl
    · rw [mi_ibI (by omega) (by omega)] at h
      cases h
theorem foc_C (C : Nat → ab_C) (j : Nat) : ∃ (C1 : Nat → ab_C) (up : Bool) (nw nu : Int32) (op : Option ab_M) (si : Int32) (cp : Nat → ab_P) (wr : List ab_W), C = fu C1 j (up, nw, nu, op, si, cp, wr) := ⟨C, (C j).1, (C j).2.1, (C j).2.2.1, (C j).2.2.2.1, (C j).2.2.2.2.1, (C j).2.2.2.2.2.1, (C j).2.2.2.2.2.2, (fu_id C j).symm⟩
theorem foc_T (C : Nat → ab_C) (j : Nat) (b : Bool) (e : (C j).1 = b) : ∃ (C1 : Nat → ab_C) (nw nu : Int32) (op : Option ab_M) (si : Int32) (cp : Nat → ab_P) (wr : List ab_W), C = fu C1 j (b, nw, nu, op, si, cp, wr) := ⟨C, (C j).2.1, (C j).2.2.1, (C j).2.2.2.1, (C j).2.2.2.2.1, (C j).2.2.2.2.2.1, (C j).2.2.2.2.2.2, by subst e; exact (fu_id C j).symm⟩
theorem foc_P (cp : Nat → ab_P) (f : Nat) : ∃ (cp1 : Nat → ab_P) (mo : Nat) (ti : Int32) (re lo : Bool) (ps : Nat → Int32), cp = fu cp1 f (mo, ti, re, lo, ps) := ⟨cp, (cp f).1, (cp f).2.1, (cp f).2.2.1, (cp f).2.2.2.1, (cp f).2.2.2.2, (fu_id cp f).symm⟩
theorem nu_3 (su : Bool) (C : Nat → ab_C) : f_nu su C 3 = su := if_pos rfl
theorem nu_c (su : Bool) (C : Nat → ab_C) {x : Nat} (h : x < 3) : f_nu su C x = (C x).1 := if_neg (by omega)
theorem cL_isClient (G : mt_G) (h : ha_H) (x : Int32) : rn_M G xL_isClient (0, 0, 0) [.inl x] h (rn_i (fun r h' => r = m_bi (mi_ib x 2) ∧ h = h')) := by
  refine rn_of (by decide +kernel) (Nat.le_of_ble_eq_true rfl) ?_
  show rn_W G xL_isClient (0, 0, 0) 0 0 0 [some (.inl x)] [] h _
  refine rw_iload_n (pc := 0) dL_isClient_0 rfl ?_
  refine rw_iflt (pc := 1) dL_isClient_1 (tgt := 13) rfl (fun c1 => ?_) (fun c1 => ?_)
  · skip
    refine rw_iconst (pc := 13) (x := nI 0) dL_isClient_13 (by decide) ?_
    exact rw_zret (pc := 14) dL_isClient_14 rfl (Or.inl rfl) ⟨_, rfl, by rw [ib_N c1]; rfl, rfl⟩
  · skip
    refine rw_iload_n (pc := 4) dL_isClient_4 rfl ?_
    refine rw_iconst (pc := 5) (x := nI 3) dL_isClient_5 (by decide) ?_
    refine rw_icmpge (pc := 6) dL_isClient_6 (tgt := 13) rfl (fun c2 => ?_) (fun c2 => ?_)
    · skip
      refine rw_iconst (pc := 13) (x := nI 0) dL_isClient_13 (by decide) ?_
      exact rw_zret (pc := 14) dL_isClient_14 rfl (Or.inl rfl) ⟨_, rfl, by rw [ib_G (by omega) c2]; rfl, rfl⟩
    · skip
      refine rw_iconst (pc := 9) (x := nI 1) dL_isClient_9 (by decide) ?_
      refine rw_goto (pc := 10) dL_isClient_10 (tgt := 14) rfl ?_
      exact rw_zret (pc := 14) dL_isClient_14 rfl (Or.inr rfl) ⟨_, rfl, by rw [ib_Y (by omega) c1 c2]; rfl, rfl⟩
theorem cL_isFile (G : mt_G) (h : ha_H) (x : Int32) : rn_M G xL_isFile (0, 0, 0) [.inl x] h (rn_i (fun r h' => r = m_bi (mi_ib x 3) ∧ h = h')) := by
  refine rn_of (by decide +kernel) (Nat.le_of_ble_eq_true rfl) ?_
  show rn_W G xL_isFile (0, 0, 0) 0 0 0 [some (.inl x)] [] h _
  refine rw_iload_n (pc := 0) dL_isFile_0 rfl ?_
  refine rw_iflt (pc := 1) dL_isFile_1 (tgt := 13) rfl (fun c1 => ?_) (fun c1 => ?_)
  · skip
    refine rw_iconst (pc := 13) (x := nI 0) dL_isFile_13 (by decide) ?_
    exact rw_zret (pc := 14) dL_isFile_14 rfl (Or.inl rfl) ⟨_, rfl, by rw [ib_N c1]; rfl, rfl⟩
  · skip
    refine rw_iload_n (pc := 4) dL_isFile_4 rfl ?_
    refine rw_iconst (pc := 5) (x := nI 4) dL_isFile_5 (by decide) ?_
    refine rw_icmpge (pc := 6) dL_isFile_6 (tgt := 13) rfl (fun c2 => ?_) (fun c2 => ?_)
    · skip
      refine rw_iconst (pc := 13) (x := nI 0) dL_isFile_13 (by decide) ?_
      exact rw_zret (pc := 14) dL_isFile_14 rfl (Or.inl rfl) ⟨_, rfl, by rw [ib_G (by omega) c2]; rfl, rfl⟩
    · skip
      refine rw_iconst (pc := 9) (x := nI 1) dL_isFile_9 (by decide) ?_
      refine rw_goto (pc := 10) dL_isFile_10 (tgt := 14) rfl ?_
      exact rw_zret (pc := 14) dL_isFile_14 rfl (Or.inr rfl) ⟨_, rfl, by rw [ib_Y (by omega) c1 c2]; rfl, rfl⟩
theorem cL_isPage (G : mt_G) (h : ha_H) (x : Int32) : rn_M G xL_isPage (0, 0, 0) [.inl x] h (rn_i (fun r h' => r = m_bi (mi_ib x 3) ∧ h = h')) := by
  refine rn_of (by decide +kernel) (Nat.le_of_ble_eq_true rfl) ?_
  show rn_W G xL_isPage (0, 0, 0) 0 0 0 [some (.inl x)] [] h _
  refine rw_iload_n (pc := 0) dL_isPage_0 rfl ?_
  refine rw_iflt (pc := 1) dL_isPage_1 (tgt := 13) rfl (fun c1 => ?_) (fun c1 => ?_)
  · skip
    refine rw_iconst (pc := 13) (x := nI 0) dL_isPage_13 (by decide) ?_
    exact rw_zret (pc := 14) dL_isPage_14 rfl (Or.inl rfl) ⟨_, rfl, by rw [ib_N c1]; rfl, rfl⟩
  · skip
    refine rw_iload_n (pc := 4) dL_isPage_4 rfl ?_
    refine rw_iconst (pc := 5) (x := nI 4) dL_isPage_5 (by decide) ?_
    refine rw_icmpge (pc := 6) dL_isPage_6 (tgt := 13) rfl (fun c2 => ?_) (fun c2 => ?_)
    · skip
      refine rw_iconst (pc := 13) (x := nI 0) dL_isPage_13 (by decide) ?_
      exact rw_zret (pc := 14) dL_isPage_14 rfl (Or.inl rfl) ⟨_, rfl, by rw [ib_G (by omega) c2]; rfl, rfl⟩
    · skip
      refine rw_iconst (pc := 9) (x := nI 1) dL_isPage_9 (by decide) ?_
      refine rw_goto (pc := 10) dL_isPage_10 (tgt := 14) rfl ?_
      exact rw_zret (pc := 14) dL_isPage_14 rfl (Or.inr rfl) ⟨_, rfl, by rw [ib_Y (by omega) c1 c2]; rfl, rfl⟩
theorem cL_isNode (G : mt_G) (h : ha_H) (x : Int32) : rn_M G xL_isNode (1, 0, 0) [.inl x] h (rn_i (fun r h' => r = m_bi (mi_ib x 3) ∧ h = h')) := by
  refine rn_of (by decide +kernel) (Nat.le_of_ble_eq_true rfl) ?_
  show rn_W G xL_isNode (1, 0, 0) 0 0 0 [some (.inl x)] [] h _
  refine rw_iload_n (pc := 0) dL_isNode_0 rfl ?_
  refine rw_si (pc := 1) (z' := (0, 0, 0)) (rc' := 0) (rs' := 0) (av := [.inl x]) (st := []) mlL_158 msL_isClient dL_isNode_1 (cL_isClient G _ _) rfl rfl (Nat.le_of_ble_eq_true rfl) (by decide) rfl rfl (fun r1 h1 q1 => ?_)
  obtain ⟨rfl, rfl⟩ := q1
  refine rw_ifne (pc := 4) dL_isNode_4 (tgt := 12) rfl (fun c2 => ?_) (fun c2 => ?_)
  · skip
    replace c2 : (mi_ib x 2) = true := mb_T c2
    refine rw_iconst (pc := 12) (x := nI 1) dL_isNode_12 (by decide) ?_
    refine rw_goto (pc := 13) dL_isNode_13 (tgt := 17) rfl ?_
    exact rw_zret (pc := 17) dL_isNode_17 rfl (Or.inr rfl) ⟨_, rfl, by rw [ib_23 c2]; rfl, rfl⟩
  · skip
    replace c2 : (mi_ib x 2) = false := (m_bi0 _).mp c2
    refine rw_iload_n (pc := 7) dL_isNode_7 rfl ?_
    refine rw_iconst (pc := 8) (x := nI 3) dL_isNode_8 (by decide) ?_
    refine rw_icmpne (pc := 9) dL_isNode_9 (tgt := 16) rfl (fun c3 => ?_) (fun c3 => ?_)
    · skip
      refine rw_iconst (pc := 16) (x := nI 0) dL_isNode_16 (by decide) ?_
      exact rw_zret (pc := 17) dL_isNode_17 rfl (Or.inl rfl) ⟨_, rfl, by rw [ib_3F c2 c3]; rfl, rfl⟩
    · skip
      refine rw_iconst (pc := 12) (x := nI 1) dL_isNode_12 (by decide) ?_
      refine rw_goto (pc := 13) dL_isNode_13 (tgt := 17) rfl ?_
      exact rw_zret (pc := 17) dL_isNode_17 rfl (Or.inr rfl) ⟨_, rfl, by rw [c3, mi_ibI (by omega) (by omega)]; rfl, rfl⟩
theorem cL_isUp (G : mt_G) (h : ha_H) {L : Nat} {n : List ab_M} {su : Bool} {sn : Int32} {sg : Bool} {se : Int32} {pg : Nat → Nat → Int32} {md : Nat → Nat → Nat} {en : Nat → Nat → Int32} {sd : Nat → Option ab_M} {ln : Nat → List ab_M} {C : Nat → ab_C} (hc : CV L n su sn sg se pg md en sd ln C h) {x : Nat} (hx : x ≤ 3) : rn_M G xL_isUp (0, 0, 0) [.inr (some 1), .inl (nI x)] h (rn_i (fun r h' => r = m_bi (f_nu su C x) ∧ h = h')) := by
  refine rn_of (by decide +kernel) (Nat.le_of_ble_eq_true rfl) ?_
  show rn_W G xL_isUp (0, 0, 0) 0 0 0 [some (.inr (some 1)), some (.inl (nI x))] [] h _
  refine rw_iload_n (pc := 0) dL_isUp_0 rfl ?_
  refine rw_iconst (pc := 1) (x := nI 3) dL_isUp_1 (by decide) ?_
  refine rw_icmpne (pc := 2) dL_isUp_2 (tgt := 15) rfl (fun c1 => ?_) (fun c1 => ?_)
  · skip
    replace c1 : ¬ (x = 3) := fun qz => c1 ((nI_eq (a := x) (b := 3) (by omega) (by omega)).mpr qz)
    have hx3 : x < 3 := by omega
    obtain ⟨C1, up, nw, nu, op, si, cp, wr, rfl⟩ := foc_C C x
    refine rw_aload_n (pc := 15) dL_isUp_15 rfl ?_
    refine rw_getR (pc := 16) (x := some 28) flL_36_L dL_isUp_16 (cs_o hc (by omega) (by omega)) (cs_S1 hc) (cr_1_2 hc) ?_
    refine rw_iload_n (pc := 19) dL_isUp_19 rfl ?_
    refine rw_aald (pc := 20) (v := some (29 + 11 * x)) (i := x) (t := 6) rfl ⟨rfl, by decide⟩ dL_isUp_20 (cs_o hc (by omega) (by omega)) (cs_S28 hc) (ix_nI (by omega) (by decide)) (cr_28 hc (by omega)) ?_
    refine rw_getI (pc := 21) (x := m_bi up) flL_147_C dL_isUp_21 (cs_o hc (by omega) (by omega)) (cs_SC hc (by omega)) (cv_C1 hc (by omega)).2.1 ?_
    exact rw_zret (pc := 24) dL_isUp_24 rfl (m_bi01 _) ⟨_, rfl, by rw [nu_c _ _ hx3, fu_at], rfl⟩
  · skip
    replace c1 : x = 3 := (nI_eq (a := x) (b := 3) (by omega) (by omega)).mp c1
    obtain rfl : x = 3 := c1
    refine rw_aload_n (pc := 5) dL_isUp_5 rfl ?_
    refine rw_getR (pc := 6) (x := some 4) flL_30_L dL_isUp_6 (cs_o hc (by omega) (by omega)) (cs_S1 hc) (cr_1_1 hc) ?_
    refine rw_getI (pc := 9) (x := m_bi su) flL_177_S dL_isUp_9 (cs_o hc (by omega) (by omega)) (cs_S4 hc) (cp_su hc) ?_
    refine rw_goto (pc := 12) dL_isUp_12 (tgt := 24) rfl ?_
    exact rw_zret (pc := 24) dL_isUp_24 rfl (m_bi01 _) ⟨_, rfl, by rw [nu_3], rfl⟩
theorem cL_clientThatIsUp (G : mt_G) (h : ha_H) {L : Nat} {n : List ab_M} {su : Bool} {sn : Int32} {sg : Bool} {se : Int32} {pg : Nat → Nat → Int32} {md : Nat → Nat → Nat} {en : Nat → Nat → Int32} {sd : Nat → Option ab_M} {ln : Nat → List ab_M} {C : Nat → ab_C} (hc : CV L n su sn sg se pg md en sd ln C h) (c : Int32) : rn_M G xL_clientThatIsUp (1, 0, 0) [.inr (some 1), .inl c] h (rn_r (fun r h' => h = h' ∧ ((f_cu C c = false ∧ r = none) ∨ ∃ j, j < 3 ∧ c = nI j ∧ (C j).1 = true ∧ r = some (29 + 11 * j)))) := by
  refine rn_of (by decide +kernel) (Nat.le_of_ble_eq_true rfl) ?_
  show rn_W G xL_clientThatIsUp (1, 0, 0) 0 0 0 [some (.inr (some 1)), some (.inl c)] [] h _
  refine rw_iload_n (pc := 0) dL_clientThatIsUp_0 rfl ?_
  refine rw_si (pc := 1) (z' := (0, 0, 0)) (rc' := 0) (rs' := 0) (av := [.inl c]) (st := []) mlL_158 msL_isClient dL_clientThatIsUp_1 (cL_isClient G _ _) rfl rfl (Nat.le_of_ble_eq_true rfl) (by decide) rfl rfl (fun r1 h1 q1 => ?_)
  obtain ⟨rfl, rfl⟩ := q1
  refine rw_ifeq (pc := 4) dL_clientThatIsUp_4 (tgt := 28) rfl (fun c2 => ?_) (fun c2 => ?_)
  · skip
    replace c2 : (mi_ib c 2) = false := (m_bi0 _).mp c2
    refine rw_null (pc := 28) dL_clientThatIsUp_28 ?_
    exact rw_aret (pc := 29) dL_clientThatIsUp_29 rfl (Or.inl ⟨_, rfl⟩) ⟨_, rfl, rfl, Or.inl ⟨by unfold f_cu; rw [c2]; rfl, rfl⟩⟩
  · skip
    replace c2 : (mi_ib c 2) = true := mb_T c2
    obtain ⟨j, hj, rfl⟩ := mi_ibT (by omega) c2
    have hj3 : j < 3 := by omega
    obtain ⟨C1, up, nw, nu, op, si, cp, wr, rfl⟩ := foc_C C j
    refine rw_aload_n (pc := 7) dL_clientThatIsUp_7 rfl ?_
    refine rw_getR (pc := 8) (x := some 28) flL_36_L dL_clientThatIsUp_8 (cs_o hc (by omega) (by omega)) (cs_S1 hc) (cr_1_2 hc) ?_
    refine rw_iload_n (pc := 11) dL_clientThatIsUp_11 rfl ?_
    refine rw_aald (pc := 12) (v := some (29 + 11 * j)) (i := j) (t := 6) rfl ⟨rfl, by decide⟩ dL_clientThatIsUp_12 (cs_o hc (by omega) (by omega)) (cs_S28 hc) (ix_nI (by omega) (by decide)) (cr_28 hc (by omega)) ?_
    refine rw_getI (pc := 13) (x := m_bi up) flL_147_C dL_clientThatIsUp_13 (cs_o hc (by omega) (by omega)) (cs_SC hc (by omega)) (cv_C1 hc (by omega)).2.1 ?_
    refine rw_ifeq (pc := 16) dL_clientThatIsUp_16 (tgt := 28) rfl (fun c3 => ?_) (fun c3 => ?_)
    · skip
      replace c3 : up = false := (m_bi0 _).mp c3
      refine rw_null (pc := 28) dL_clientThatIsUp_28 ?_
      exact rw_aret (pc := 29) dL_clientThatIsUp_29 rfl (Or.inl ⟨_, rfl⟩) ⟨_, rfl, rfl, Or.inl ⟨by rw [cu_at hj3]; exact c3, rfl⟩⟩
    · skip
      replace c3 : up = true := mb_T c3
      refine rw_aload_n (pc := 19) dL_clientThatIsUp_19 rfl ?_
      refine rw_getR (pc := 20) (x := some 28) flL_36_L dL_clientThatIsUp_20 (cs_o hc (by omega) (by omega)) (cs_S1 hc) (cr_1_2 hc) ?_
      refine rw_iload_n (pc := 23) dL_clientThatIsUp_23 rfl ?_
      refine rw_aald (pc := 24) (v := some (29 + 11 * j)) (i := j) (t := 6) rfl ⟨rfl, by decide⟩ dL_clientThatIsUp_24 (cs_o hc (by omega) (by omega)) (cs_S28 hc) (ix_nI (by omega) (by decide)) (cr_28 hc (by omega)) ?_
      refine rw_goto (pc := 25) dL_clientThatIsUp_25 (tgt := 29) rfl ?_
      exact rw_aret (pc := 29) dL_clientThatIsUp_29 rfl (Or.inl ⟨_, rfl⟩) ⟨_, rfl, rfl, Or.inr ⟨j, hj3, rfl, by rw [fu_at]; exact c3, rfl⟩⟩
theorem cL_acquire (G : mt_G) (h : ha_H) {L : Nat} {n : List ab_M} {su : Bool} {sn : Int32} {sg : Bool} {se : Int32} {pg : Nat → Nat → Int32} {md : Nat → Nat → Nat} {en : Nat → Nat → Int32} {sd : Nat → Option ab_M} {ln : Nat → List ab_M} {C : Nat → ab_C} {K : Nat} (hc : CV L n su sn sg se pg md en sd ln C h) (hM : MV K L n su sn sg se pg md en sd ln C h) (hK : K < 2 ^ 20) (c f mo0 : Int32) : rn_M G xL_acquire (6, 27, 144) [.inr (some 1), .inl c, .inl f, .inl mo0] h (rn_i (PO K (fun g => m_acquire g c f mo0) h)) := by
  have hf := le_rf h
  refine rn_of (by decide +kernel) (Nat.le_of_ble_eq_true rfl) ?_
  show rn_W G xL_acquire (6, 27, 144) 27 144 0 [some (.inr (some 1)), some (.inl c), some (.inl f), some (.inl mo0), none] [] h _
  refine rw_aload_n (pc := 0) dL_acquire_0 rfl ?_
  refine rw_iload_n (pc := 1) dL_acquire_1 rfl ?_
  refine rw_vr (pc := 2) (z' := (1, 0, 0)) (rc' := 27) (rs' := 144) (av := [.inl c]) (st := []) (ci := 0) mlL_43 miL_clientThatIsUp rfl mvL_clientThatIsUp_L dL_acquire_2 (cs_o hc (by omega) (by omega)) (cs_S1 hc) (cL_clientThatIsUp G _ hc _) rfl rfl (Nat.le_of_ble_eq_true rfl) (by decide) rfl rfl (fun r1 h1 q1 => ?_)
  obtain ⟨rfl, q1⟩ := q1
  rcases q1 with ⟨hcu, rfl⟩ | ⟨j, hj, rfl, hup, rfl⟩
  · skip
    refine rw_astore (pc := 5) (L' := [some (.inr (some 1)), some (.inl c), some (.inl f), some (.inl mo0), some (.inr none)]) dL_acquire_5 (by decide) rfl ?_
    refine rw_aload (pc := 7) dL_acquire_7 rfl ?_
    refine rw_ifnull (pc := 9) dL_acquire_9 (tgt := 37) rfl (fun c2 => ?_) (fun rc2 c2 => ?_)
    · skip
      refine rw_iconst (pc := 37) (x := (-1)) dL_acquire_37 (by decide) ?_
      exact rw_iret (pc := 38) dL_acquire_38 rfl ⟨_, rfl, po_acq_no hc hM (Or.inl hcu)⟩
    · skip
      cases c2
  · skip
    obtain ⟨C1, nw, nu, op, si, cp, wr, rfl⟩ := foc_T C j true hup
    rcases op with _ | o
    · skip
      refine rw_astore (pc := 5) (L' := [some (.inr (some 1)), some (.inl (nI j)), some (.inl f), some (.inl mo0), some (.inr (some (29 + 11 * j)))]) dL_acquire_5 (by decide) rfl ?_
      refine rw_aload (pc := 7) dL_acquire_7 rfl ?_
      refine rw_ifnull (pc := 9) dL_acquire_9 (tgt := 37) rfl (fun c3 => ?_) (fun rc3 c3 => ?_)
      · skip
        cases c3
      · skip
        refine rw_iload_n (pc := 12) dL_acquire_12 rfl ?_
        refine rw_si (pc := 13) (z' := (0, 0, 0)) (rc' := 27) (rs' := 144) (av := [.inl f]) (st := []) mlL_47 msL_isFile dL_acquire_13 (cL_isFile G _ _) rfl rfl (Nat.le_of_ble_eq_true rfl) (by decide) rfl rfl (fun r4 h4 q4 => ?_)
        obtain ⟨rfl, rfl⟩ := q4
        refine rw_ifeq (pc := 16) dL_acquire_16 (tgt := 37) rfl (fun c5 => ?_) (fun c5 => ?_)
        · skip
          replace c5 : (mi_ib f 3) = false := (m_bi0 _).mp c5
          refine rw_iconst (pc := 37) (x := (-1)) dL_acquire_37 (by decide) ?_
          exact rw_iret (pc := 38) dL_acquire_38 rfl ⟨_, rfl, po_acq_no hc hM (Or.inr (Or.inl c5))⟩
        · skip
          replace c5 : (mi_ib f 3) = true := mb_T c5
          obtain ⟨i, hi, rfl⟩ := mi_ibT (by omega) c5
          have hf4 : i < 4 := by omega
          refine rw_iload_n (pc := 19) dL_acquire_19 rfl ?_
          refine rw_iconst (pc := 20) (x := nI 1) dL_acquire_20 (by decide) ?_
          refine rw_icmplt (pc := 21) dL_acquire_21 (tgt := 37) rfl (fun c6 => ?_) (fun c6 => ?_)
          · skip
            refine rw_iconst (pc := 37) (x := (-1)) dL_acquire_37 (by decide) ?_
            exact rw_iret (pc := 38) dL_acquire_38 rfl ⟨_, rfl, po_acq_no hc hM (Or.inr (Or.inr (Or.inl c6)))⟩
          · skip
            refine rw_iload_n (pc := 24) dL_acquire_24 rfl ?_
            refine rw_iconst (pc := 25) (x := nI 2) dL_acquire_25 (by decide) ?_
            refine rw_icmpgt (pc := 26) dL_acquire_26 (tgt := 37) rfl (fun c7 => ?_) (fun c7 => ?_)
            · skip
              refine rw_iconst (pc := 37) (x := (-1)) dL_acquire_37 (by decide) ?_
              exact rw_iret (pc := 38) dL_acquire_38 rfl ⟨_, rfl, po_acq_no hc hM (Or.inr (Or.inr (Or.inr c7)))⟩
            · skip
              obtain ⟨k, hk1, hk2, rfl⟩ : ∃ k, 1 ≤ k ∧ k ≤ 2 ∧ mo0 = nI k := by
                obtain ⟨q, q1, q2⟩ := nI_of (x := mo0) (fun z => c6 (Int32.lt_trans z (by decide)))
                subst q2
                exact ⟨q, Nat.le_of_not_lt (fun z => c6 (nI_lt z (by omega))), Nat.le_of_not_lt (fun z => c7 (nI_lt z q1)), rfl⟩
              have hk := And.intro hk1 hk2
              refine rw_aload (pc := 29) dL_acquire_29 rfl ?_
              refine rw_getR (pc := 31) (x := none) flL_51_C dL_acquire_31 (cs_o hc (by omega) (by omega)) (cs_SC hc (by omega)) (co_N (cv_C1 hc (by omega)).2.2.2.2.1) ?_
              refine rw_ifnull (pc := 34) dL_acquire_34 (tgt := 39) rfl (fun c8 => ?_) (fun rc8 c8 => ?_)
              · skip
                refine rw_aload (pc := 39) dL_acquire_39 rfl ?_
                refine rw_iload_n (pc := 41) dL_acquire_41 rfl ?_
                refine rw_iload_n (pc := 42) dL_acquire_42 rfl ?_
                obtain ⟨cp1, mo, ti, re, lo, ps, rfl⟩ := foc_P cp i
                refine rw_vi (pc := 43) (z' := (4, 1, 8)) (rc' := 26) (rs' := 136) (av := [.inl (nI i), .inl (nI k)]) (st := []) (ci := 4) mlL_55 miC_askForLease rfl mvC_askForLease_C dL_acquire_43 (cs_o hc (by omega) (by omega)) (cs_SC hc (by omega)) (cC_askForLease G _ hc hj hf4 hk) rfl rfl (Nat.le_of_ble_eq_true rfl) (Nat.le_of_ble_eq_true rfl) rfl rfl (fun r9 h9 q9 => ?_)
                obtain ⟨rfl, hc, hf1⟩ := q9
                replace hf := le_tr hf hf1
                exact rw_iret (pc := 46) dL_acquire_46 rfl ⟨_, rfl, po_acq hM hj hf4 hk hc hf⟩
              · skip
                cases c8
    · skip
      refine rw_astore (pc := 5) (L' := [some (.inr (some 1)), some (.inl (nI j)), some (.inl f), some (.inl mo0), some (.inr (some (29 + 11 * j)))]) dL_acquire_5 (by decide) rfl ?_
      refine rw_aload (pc := 7) dL_acquire_7 rfl ?_
      refine rw_ifnull (pc := 9) dL_acquire_9 (tgt := 37) rfl (fun c10 => ?_) (fun rc10 c10 => ?_)
      · skip
        cases c10
      · skip
        refine rw_iload_n (pc := 12) dL_acquire_12 rfl ?_
        refine rw_si (pc := 13) (z' := (0, 0, 0)) (rc' := 27) (rs' := 144) (av := [.inl f]) (st := []) mlL_47 msL_isFile dL_acquire_13 (cL_isFile G _ _) rfl rfl (Nat.le_of_ble_eq_true rfl) (by decide) rfl rfl (fun r11 h11 q11 => ?_)
        obtain ⟨rfl, rfl⟩ := q11
        refine rw_ifeq (pc := 16) dL_acquire_16 (tgt := 37) rfl (fun c12 => ?_) (fun c12 => ?_)
        · skip
          replace c12 : (mi_ib f 3) = false := (m_bi0 _).mp c12
          refine rw_iconst (pc := 37) (x := (-1)) dL_acquire_37 (by decide) ?_
          exact rw_iret (pc := 38) dL_acquire_38 rfl ⟨_, rfl, po_acq_no hc hM (Or.inr (Or.inl c12))⟩
        · skip
          replace c12 : (mi_ib f 3) = true := mb_T c12
          obtain ⟨i, hi, rfl⟩ := mi_ibT (by omega) c12
          have hf4 : i < 4 := by omega
          refine rw_iload_n (pc := 19) dL_acquire_19 rfl ?_
          refine rw_iconst (pc := 20) (x := nI 1) dL_acquire_20 (by decide) ?_
          refine rw_icmplt (pc := 21) dL_acquire_21 (tgt := 37) rfl (fun c13 => ?_) (fun c13 => ?_)
          · skip
            refine rw_iconst (pc := 37) (x := (-1)) dL_acquire_37 (by decide) ?_
            exact rw_iret (pc := 38) dL_acquire_38 rfl ⟨_, rfl, po_acq_no hc hM (Or.inr (Or.inr (Or.inl c13)))⟩
          · skip
            refine rw_iload_n (pc := 24) dL_acquire_24 rfl ?_
            refine rw_iconst (pc := 25) (x := nI 2) dL_acquire_25 (by decide) ?_
            refine rw_icmpgt (pc := 26) dL_acquire_26 (tgt := 37) rfl (fun c14 => ?_) (fun c14 => ?_)
            · skip
              refine rw_iconst (pc := 37) (x := (-1)) dL_acquire_37 (by decide) ?_
              exact rw_iret (pc := 38) dL_acquire_38 rfl ⟨_, rfl, po_acq_no hc hM (Or.inr (Or.inr (Or.inr c14)))⟩
            · skip
              obtain ⟨k, hk1, hk2, rfl⟩ : ∃ k, 1 ≤ k ∧ k ≤ 2 ∧ mo0 = nI k := by
                obtain ⟨q, q1, q2⟩ := nI_of (x := mo0) (fun z => c13 (Int32.lt_trans z (by decide)))
                subst q2
                exact ⟨q, Nat.le_of_not_lt (fun z => c13 (nI_lt z (by omega))), Nat.le_of_not_lt (fun z => c14 (nI_lt z q1)), rfl⟩
              have hk := And.intro hk1 hk2
              refine rw_aload (pc := 29) dL_acquire_29 rfl ?_
              obtain ⟨o15, eo15, ko15, lo15, ho15⟩ := co_Sm (cv_C1 hc (by omega)).2.2.2.2.1
              refine rw_getR (pc := 31) (x := some o15) flL_51_C dL_acquire_31 (cs_o hc (by omega) (by omega)) (cs_SC hc (by omega)) eo15 ?_
              refine rw_ifnull (pc := 34) dL_acquire_34 (tgt := 39) rfl (fun c16 => ?_) (fun rc16 c16 => ?_)
              · skip
                cases c16
              · skip
                refine rw_iconst (pc := 37) (x := (-1)) dL_acquire_37 (by decide) ?_
                exact rw_iret (pc := 38) dL_acquire_38 rfl ⟨_, rfl, po_acq_op hc hM hj⟩
theorem cL_read (G : mt_G) (h : ha_H) {L : Nat} {n : List ab_M} {su : Bool} {sn : Int32} {sg : Bool} {se : Int32} {pg : Nat → Nat → Int32} {md : Nat → Nat → Nat} {en : Nat → Nat → Int32} {sd : Nat → Option ab_M} {ln : Nat → List ab_M} {C : Nat → ab_C} {K : Nat} (hc : CV L n su sn sg se pg md en sd ln C h) (hM : MV K L n su sn sg se pg md en sd ln C h) (hK : K < 2 ^ 20) (c f p o : Int32) : rn_M G xL_read (6, 27, 144) [.inr (some 1), .inl c, .inl f, .inl p, .inl o] h (rn_i (PO K (fun g => m_read g c f p o) h)) := by
  have hf := le_rf h
  refine rn_of (by decide +kernel) (Nat.le_of_ble_eq_true rfl) ?_
  show rn_W G xL_read (6, 27, 144) 27 144 0 [some (.inr (some 1)), some (.inl c), some (.inl f), some (.inl p), some (.inl o), none] [] h _
  refine rw_aload_n (pc := 0) dL_read_0 rfl ?_
  refine rw_iload_n (pc := 1) dL_read_1 rfl ?_
  refine rw_vr (pc := 2) (z' := (1, 0, 0)) (rc' := 27) (rs' := 144) (av := [.inl c]) (st := []) (ci := 0) mlL_43 miL_clientThatIsUp rfl mvL_clientThatIsUp_L dL_read_2 (cs_o hc (by omega) (by omega)) (cs_S1 hc) (cL_clientThatIsUp G _ hc _) rfl rfl (Nat.le_of_ble_eq_true rfl) (by decide) rfl rfl (fun r1 h1 q1 => ?_)
  obtain ⟨rfl, q1⟩ := q1
  rcases q1 with ⟨hcu, rfl⟩ | ⟨j, hj, rfl, hup, rfl⟩
  · skip
    refine rw_astore (pc := 5) (L' := [some (.inr (some 1)), some (.inl c), some (.inl f), some (.inl p), some (.inl o), some (.inr none)]) dL_read_5 (by decide) rfl ?_
    refine rw_aload (pc := 7) dL_read_7 rfl ?_
    refine rw_ifnull (pc := 9) dL_read_9 (tgt := 37) rfl (fun c2 => ?_) (fun rc2 c2 => ?_)
    · skip
      refine rw_iconst (pc := 37) (x := (-1)) dL_read_37 (by decide) ?_
      exact rw_iret (pc := 38) dL_read_38 rfl ⟨_, rfl, po_read_no hc hM (Or.inl hcu)⟩
    · skip
      cases c2
  · skip
    obtain ⟨C1, nw, nu, op, si, cp, wr, rfl⟩ := foc_T C j true hup
    refine rw_astore (pc := 5) (L' := [some (.inr (some 1)), some (.inl (nI j)), some (.inl f), some (.inl p), some (.inl o), some (.inr (some (29 + 11 * j)))]) dL_read_5 (by decide) rfl ?_
    refine rw_aload (pc := 7) dL_read_7 rfl ?_
    refine rw_ifnull (pc := 9) dL_read_9 (tgt := 37) rfl (fun c3 => ?_) (fun rc3 c3 => ?_)
    · skip
      cases c3
    · skip
      refine rw_iload_n (pc := 12) dL_read_12 rfl ?_
      refine rw_si (pc := 13) (z' := (0, 0, 0)) (rc' := 27) (rs' := 144) (av := [.inl f]) (st := []) mlL_47 msL_isFile dL_read_13 (cL_isFile G _ _) rfl rfl (Nat.le_of_ble_eq_true rfl) (by decide) rfl rfl (fun r4 h4 q4 => ?_)
      obtain ⟨rfl, rfl⟩ := q4
      refine rw_ifeq (pc := 16) dL_read_16 (tgt := 37) rfl (fun c5 => ?_) (fun c5 => ?_)
      · skip
        replace c5 : (mi_ib f 3) = false := (m_bi0 _).mp c5
        refine rw_iconst (pc := 37) (x := (-1)) dL_read_37 (by decide) ?_
        exact rw_iret (pc := 38) dL_read_38 rfl ⟨_, rfl, po_read_no hc hM (Or.inr (Or.inl c5))⟩
      · skip
        replace c5 : (mi_ib f 3) = true := mb_T c5
        obtain ⟨i, hi, rfl⟩ := mi_ibT (by omega) c5
        have hf4 : i < 4 := by omega
        refine rw_iload_n (pc := 19) dL_read_19 rfl ?_
        refine rw_si (pc := 20) (z' := (0, 0, 0)) (rc' := 27) (rs' := 144) (av := [.inl p]) (st := []) mlL_58 msL_isPage dL_read_20 (cL_isPage G _ _) rfl rfl (Nat.le_of_ble_eq_true rfl) (by decide) rfl rfl (fun r6 h6 q6 => ?_)
        obtain ⟨rfl, rfl⟩ := q6
        refine rw_ifeq (pc := 23) dL_read_23 (tgt := 37) rfl (fun c7 => ?_) (fun c7 => ?_)
        · skip
          replace c7 : (mi_ib p 3) = false := (m_bi0 _).mp c7
          refine rw_iconst (pc := 37) (x := (-1)) dL_read_37 (by decide) ?_
          exact rw_iret (pc := 38) dL_read_38 rfl ⟨_, rfl, po_read_no hc hM (Or.inr (Or.inr (Or.inl c7)))⟩
        · skip
          replace c7 : (mi_ib p 3) = true := mb_T c7
          obtain ⟨q, hq, rfl⟩ := mi_ibT (by omega) c7
          have hp4 : q < 4 := by omega
          refine rw_iload (pc := 26) dL_read_26 rfl ?_
          refine rw_iflt (pc := 28) dL_read_28 (tgt := 37) rfl (fun c8 => ?_) (fun c8 => ?_)
          · skip
            refine rw_iconst (pc := 37) (x := (-1)) dL_read_37 (by decide) ?_
            exact rw_iret (pc := 38) dL_read_38 rfl ⟨_, rfl, po_read_no hc hM (Or.inr (Or.inr (Or.inr (mi01_F (Or.inl c8)))))⟩
          · skip
            refine rw_iload (pc := 31) dL_read_31 rfl ?_
            refine rw_iconst (pc := 33) (x := nI 1) dL_read_33 (by decide) ?_
            refine rw_icmple (pc := 34) dL_read_34 (tgt := 39) rfl (fun c9 => ?_) (fun c9 => ?_)
            · skip
              obtain ⟨k, hk1, rfl⟩ : ∃ k, k ≤ 1 ∧ o = nI k := by
                obtain ⟨q, q1, q2⟩ := nI_of (x := o) c8
                subst q2
                exact ⟨q, Nat.le_of_not_lt (fun z => absurd c9 (Int32.not_le.mpr (nI_lt z q1))), rfl⟩
              refine rw_iload (pc := 39) dL_read_39 rfl ?_
              refine rw_ifne (pc := 41) dL_read_41 (tgt := 54) rfl (fun c10 => ?_) (fun c10 => ?_)
              · skip
                replace c10 : ¬ (k = 0) := fun qz => c10 ((nI_eq (a := k) (b := 0) (by omega) (by omega)).mpr qz)
                obtain rfl : k = 1 := by omega
                refine rw_aload (pc := 54) dL_read_54 rfl ?_
                refine rw_iload_n (pc := 56) dL_read_56 rfl ?_
                obtain ⟨cp1, mo, ti, re, lo, ps, rfl⟩ := foc_P cp i
                refine rw_vi (pc := 57) (z' := (1, 0, 0)) (rc' := 27) (rs' := 144) (av := [.inl (nI i)]) (st := []) (ci := 4) mlL_64 miC_canRead rfl mvC_canRead_C dL_read_57 (cs_o hc (by omega) (by omega)) (cs_SC hc (by omega)) (cC_canRead G _ hc hj hf4) rfl rfl (Nat.le_of_ble_eq_true rfl) (Nat.le_of_ble_eq_true rfl) rfl rfl (fun r11 h11 q11 => ?_)
                obtain ⟨rfl, rfl⟩ := q11
                exact rw_iret (pc := 60) dL_read_60 rfl ⟨_, rfl, po_rd1 hc hM hj hf4 hp4⟩
              · skip
                replace c10 : k = 0 := (nI_eq (a := k) (b := 0) (by omega) (by omega)).mp c10
                obtain rfl : k = 0 := c10
                refine rw_aload (pc := 44) dL_read_44 rfl ?_
                refine rw_iload_n (pc := 46) dL_read_46 rfl ?_
                refine rw_iload_n (pc := 47) dL_read_47 rfl ?_
                obtain ⟨cp1, mo, ti, re, lo, ps, rfl⟩ := foc_P cp i
                refine rw_vi (pc := 48) (z' := (1, 0, 0)) (rc' := 27) (rs' := 144) (av := [.inl (nI i), .inl (nI q)]) (st := []) (ci := 4) mlL_61 miC_readPage rfl mvC_readPage_C dL_read_48 (cs_o hc (by omega) (by omega)) (cs_SC hc (by omega)) (cC_readPage G _ hc hj hf4 hp4) rfl rfl (Nat.le_of_ble_eq_true rfl) (Nat.le_of_ble_eq_true rfl) rfl rfl (fun r12 h12 q12 => ?_)
                obtain ⟨rfl, hc, hf1⟩ := q12
                replace hf := le_tr hf hf1
                refine rw_goto (pc := 51) dL_read_51 (tgt := 60) rfl ?_
                exact rw_iret (pc := 60) dL_read_60 rfl ⟨_, rfl, po_rd0 hM hj hf4 hp4 hc hf⟩
            · skip
              refine rw_iconst (pc := 37) (x := (-1)) dL_read_37 (by decide) ?_
              exact rw_iret (pc := 38) dL_read_38 rfl ⟨_, rfl, po_read_no hc hM (Or.inr (Or.inr (Or.inr (mi01_F (Or.inr (Int32.not_le.mp c9))))))⟩
theorem cL_write (G : mt_G) (h : ha_H) {L : Nat} {n : List ab_M} {su : Bool} {sn : Int32} {sg : Bool} {se : Int32} {pg : Nat → Nat → Int32} {md : Nat → Nat → Nat} {en : Nat → Nat → Int32} {sd : Nat → Option ab_M} {ln : Nat → List ab_M} {C : Nat → ab_C} {K : Nat} (hc : CV L n su sn sg se pg md en sd ln C h) (hM : MV K L n su sn sg se pg md en sd ln C h) (hK : K < 2 ^ 20) (c f p v : Int32) : rn_M G xL_write (6, 27, 144) [.inr (some 1), .inl c, .inl f, .inl p, .inl v] h (rn_i (PO K (fun g => m_write g c f p v) h)) := by
  have hf := le_rf h
  refine rn_of (by decide +kernel) (Nat.le_of_ble_eq_true rfl) ?_
  show rn_W G xL_write (6, 27, 144) 27 144 0 [some (.inr (some 1)), some (.inl c), some (.inl f), some (.inl p), some (.inl v), none] [] h _
  refine rw_aload_n (pc := 0) dL_write_0 rfl ?_
  refine rw_iload_n (pc := 1) dL_write_1 rfl ?_
  refine rw_vr (pc := 2) (z' := (1, 0, 0)) (rc' := 27) (rs' := 144) (av := [.inl c]) (st := []) (ci := 0) mlL_43 miL_clientThatIsUp rfl mvL_clientThatIsUp_L dL_write_2 (cs_o hc (by omega) (by omega)) (cs_S1 hc) (cL_clientThatIsUp G _ hc _) rfl rfl (Nat.le_of_ble_eq_true rfl) (by decide) rfl rfl (fun r1 h1 q1 => ?_)
  obtain ⟨rfl, q1⟩ := q1
  rcases q1 with ⟨hcu, rfl⟩ | ⟨j, hj, rfl, hup, rfl⟩
  · skip
    refine rw_astore (pc := 5) (L' := [some (.inr (some 1)), some (.inl c), some (.inl f), some (.inl p), some (.inl v), some (.inr none)]) dL_write_5 (by decide) rfl ?_
    refine rw_aload (pc := 7) dL_write_7 rfl ?_
    refine rw_ifnull (pc := 9) dL_write_9 (tgt := 26) rfl (fun c2 => ?_) (fun rc2 c2 => ?_)
    · skip
      refine rw_iconst (pc := 26) (x := (-1)) dL_write_26 (by decide) ?_
      exact rw_iret (pc := 27) dL_write_27 rfl ⟨_, rfl, po_wr_no hc hM (Or.inl hcu)⟩
    · skip
      cases c2
  · skip
    obtain ⟨C1, nw, nu, op, si, cp, wr, rfl⟩ := foc_T C j true hup
    refine rw_astore (pc := 5) (L' := [some (.inr (some 1)), some (.inl (nI j)), some (.inl f), some (.inl p), some (.inl v), some (.inr (some (29 + 11 * j)))]) dL_write_5 (by decide) rfl ?_
    refine rw_aload (pc := 7) dL_write_7 rfl ?_
    refine rw_ifnull (pc := 9) dL_write_9 (tgt := 26) rfl (fun c3 => ?_) (fun rc3 c3 => ?_)
    · skip
      cases c3
    · skip
      refine rw_iload_n (pc := 12) dL_write_12 rfl ?_
      refine rw_si (pc := 13) (z' := (0, 0, 0)) (rc' := 27) (rs' := 144) (av := [.inl f]) (st := []) mlL_47 msL_isFile dL_write_13 (cL_isFile G _ _) rfl rfl (Nat.le_of_ble_eq_true rfl) (by decide) rfl rfl (fun r4 h4 q4 => ?_)
      obtain ⟨rfl, rfl⟩ := q4
      refine rw_ifeq (pc := 16) dL_write_16 (tgt := 26) rfl (fun c5 => ?_) (fun c5 => ?_)
      · skip
        replace c5 : (mi_ib f 3) = false := (m_bi0 _).mp c5
        refine rw_iconst (pc := 26) (x := (-1)) dL_write_26 (by decide) ?_
        exact rw_iret (pc := 27) dL_write_27 rfl ⟨_, rfl, po_wr_no hc hM (Or.inr (Or.inl c5))⟩
      · skip
        replace c5 : (mi_ib f 3) = true := mb_T c5
        obtain ⟨i, hi, rfl⟩ := mi_ibT (by omega) c5
        have hf4 : i < 4 := by omega
        refine rw_iload_n (pc := 19) dL_write_19 rfl ?_
        refine rw_si (pc := 20) (z' := (0, 0, 0)) (rc' := 27) (rs' := 144) (av := [.inl p]) (st := []) mlL_58 msL_isPage dL_write_20 (cL_isPage G _ _) rfl rfl (Nat.le_of_ble_eq_true rfl) (by decide) rfl rfl (fun r6 h6 q6 => ?_)
        obtain ⟨rfl, rfl⟩ := q6
        refine rw_ifne (pc := 23) dL_write_23 (tgt := 28) rfl (fun c7 => ?_) (fun c7 => ?_)
        · skip
          replace c7 : (mi_ib p 3) = true := mb_T c7
          obtain ⟨q, hq, rfl⟩ := mi_ibT (by omega) c7
          have hp4 : q < 4 := by omega
          refine rw_aload (pc := 28) dL_write_28 rfl ?_
          refine rw_iload_n (pc := 30) dL_write_30 rfl ?_
          refine rw_iload_n (pc := 31) dL_write_31 rfl ?_
          refine rw_iload (pc := 32) dL_write_32 rfl ?_
          obtain ⟨cp1, mo, ti, re, lo, ps, rfl⟩ := foc_P cp i
          refine rw_vi (pc := 34) (z' := (2, 1, 3)) (rc' := 26) (rs' := 141) (av := [.inl (nI i), .inl (nI q), .inl v]) (st := []) (ci := 4) mlL_68 miC_writePage rfl mvC_writePage_C dL_write_34 (cs_o hc (by omega) (by omega)) (cs_SC hc (by omega)) (cC_writePage G _ hc hj hf4 hp4 _) rfl rfl (Nat.le_of_ble_eq_true rfl) (Nat.le_of_ble_eq_true rfl) rfl rfl (fun r8 h8 q8 => ?_)
          obtain ⟨rfl, hc, hf1⟩ := q8
          replace hf := le_tr hf hf1
          exact rw_iret (pc := 37) dL_write_37 rfl ⟨_, rfl, po_wr hM hj hf4 hp4 hc hf⟩
        · skip
          replace c7 : (mi_ib p 3) = false := (m_bi0 _).mp c7
          refine rw_iconst (pc := 26) (x := (-1)) dL_write_26 (by decide) ?_
          exact rw_iret (pc := 27) dL_write_27 rfl ⟨_, rfl, po_wr_no hc hM (Or.inr (Or.inr c7))⟩
theorem cL_flush (G : mt_G) (h : ha_H) {L : Nat} {n : List ab_M} {su : Bool} {sn : Int32} {sg : Bool} {se : Int32} {pg : Nat → Nat → Int32} {md : Nat → Nat → Nat} {en : Nat → Nat → Int32} {sd : Nat → Option ab_M} {ln : Nat → List ab_M} {C : Nat → ab_C} {K : Nat} (hc : CV L n su sn sg se pg md en sd ln C h) (hM : MV K L n su sn sg se pg md en sd ln C h) (hK : K < 2 ^ 20) (c : Int32) : rn_M G xL_flush (6, 27, 144) [.inr (some 1), .inl c] h (rn_i (PO K (fun g => m_flush g c) h)) := by
  have hf := le_rf h
  refine rn_of (by decide +kernel) (Nat.le_of_ble_eq_true rfl) ?_
  show rn_W G xL_flush (6, 27, 144) 27 144 0 [some (.inr (some 1)), some (.inl c), none] [] h _
  refine rw_aload_n (pc := 0) dL_flush_0 rfl ?_
  refine rw_iload_n (pc := 1) dL_flush_1 rfl ?_
  refine rw_vr (pc := 2) (z' := (1, 0, 0)) (rc' := 27) (rs' := 144) (av := [.inl c]) (st := []) (ci := 0) mlL_43 miL_clientThatIsUp rfl mvL_clientThatIsUp_L dL_flush_2 (cs_o hc (by omega) (by omega)) (cs_S1 hc) (cL_clientThatIsUp G _ hc _) rfl rfl (Nat.le_of_ble_eq_true rfl) (by decide) rfl rfl (fun r1 h1 q1 => ?_)
  obtain ⟨rfl, q1⟩ := q1
  rcases q1 with ⟨hcu, rfl⟩ | ⟨j, hj, rfl, hup, rfl⟩
  · skip
    refine rw_astore_n (pc := 5) (L' := [some (.inr (some 1)), some (.inl c), some (.inr none)]) dL_flush_5 (by decide) rfl ?_
    refine rw_aload_n (pc := 6) dL_flush_6 rfl ?_
    refine rw_ifnull (pc := 7) dL_flush_7 (tgt := 17) rfl (fun c2 => ?_) (fun rc2 c2 => ?_)
    · skip
      refine rw_iconst (pc := 17) (x := (-1)) dL_flush_17 (by decide) ?_
      exact rw_iret (pc := 18) dL_flush_18 rfl ⟨_, rfl, po_fl_no hc hM hcu⟩
    · skip
      cases c2
  · skip
    obtain ⟨C1, nw, nu, op, si, cp, wr, rfl⟩ := foc_T C j true hup
    rcases op with _ | o
    · skip
      refine rw_astore_n (pc := 5) (L' := [some (.inr (some 1)), some (.inl (nI j)), some (.inr (some (29 + 11 * j)))]) dL_flush_5 (by decide) rfl ?_
      refine rw_aload_n (pc := 6) dL_flush_6 rfl ?_
      refine rw_ifnull (pc := 7) dL_flush_7 (tgt := 17) rfl (fun c3 => ?_) (fun rc3 c3 => ?_)
      · skip
        cases c3
      · skip
        refine rw_aload_n (pc := 10) dL_flush_10 rfl ?_
        refine rw_getR (pc := 11) (x := none) flL_51_C dL_flush_11 (cs_o hc (by omega) (by omega)) (cs_SC hc (by omega)) (co_N (cv_C1 hc (by omega)).2.2.2.2.1) ?_
        refine rw_ifnull (pc := 14) dL_flush_14 (tgt := 19) rfl (fun c4 => ?_) (fun rc4 c4 => ?_)
        · skip
          refine rw_aload_n (pc := 19) dL_flush_19 rfl ?_
          rcases hw0 : wr with _ | ⟨w0, wl⟩
          · skip
            have h0 : ([] : List ab_W).length = 0 := rfl
            subst hw0
            refine rw_vi (pc := 20) (z' := (4, 1, 8)) (rc' := 26) (rs' := 136) (av := []) (st := []) (ci := 4) mlL_72 miC_storeFirstWrite rfl mvC_storeFirstWrite_C dL_flush_20 (cs_o hc (by omega) (by omega)) (cs_SC hc (by omega)) (cC_storeFirstWrite0 G _ hc hj h0) rfl rfl (Nat.le_of_ble_eq_true rfl) (Nat.le_of_ble_eq_true rfl) rfl rfl (fun r5 h5 q5 => ?_)
            obtain ⟨rfl, rfl⟩ := q5
            exact rw_iret (pc := 23) dL_flush_23 rfl ⟨_, rfl, po_fl_op hc hM hj (Or.inr h0)⟩
          · skip
            subst hw0
            have e0 : (w0 :: wl)[0]? = some w0 := rfl
            obtain ⟨cp1, mo, ti, re, lo, ps, rfl⟩ := foc_P cp w0.1
            refine rw_vi (pc := 20) (z' := (4, 1, 8)) (rc' := 26) (rs' := 136) (av := []) (st := []) (ci := 4) mlL_72 miC_storeFirstWrite rfl mvC_storeFirstWrite_C dL_flush_20 (cs_o hc (by omega) (by omega)) (cs_SC hc (by omega)) (cC_storeFirstWrite1 G _ hc hj e0) rfl rfl (Nat.le_of_ble_eq_true rfl) (Nat.le_of_ble_eq_true rfl) rfl rfl (fun r6 h6 q6 => ?_)
            obtain ⟨rfl, hc, hf1⟩ := q6
            replace hf := le_tr hf hf1
            exact rw_iret (pc := 23) dL_flush_23 rfl ⟨_, rfl, po_fl hM hj e0 hc hf⟩
        · skip
          cases c4
    · skip
      refine rw_astore_n (pc := 5) (L' := [some (.inr (some 1)), some (.inl (nI j)), some (.inr (some (29 + 11 * j)))]) dL_flush_5 (by decide) rfl ?_
      refine rw_aload_n (pc := 6) dL_flush_6 rfl ?_
      refine rw_ifnull (pc := 7) dL_flush_7 (tgt := 17) rfl (fun c7 => ?_) (fun rc7 c7 => ?_)
      · skip
        cases c7
      · skip
        refine rw_aload_n (pc := 10) dL_flush_10 rfl ?_
        obtain ⟨o8, eo8, ko8, lo8, ho8⟩ := co_Sm (cv_C1 hc (by omega)).2.2.2.2.1
        refine rw_getR (pc := 11) (x := some o8) flL_51_C dL_flush_11 (cs_o hc (by omega) (by omega)) (cs_SC hc (by omega)) eo8 ?_
        refine rw_ifnull (pc := 14) dL_flush_14 (tgt := 19) rfl (fun c9 => ?_) (fun rc9 c9 => ?_)
        · skip
          cases c9
        · skip
          refine rw_iconst (pc := 17) (x := (-1)) dL_flush_17 (by decide) ?_
          exact rw_iret (pc := 18) dL_flush_18 rfl ⟨_, rfl, po_fl_op hc hM hj (Or.inl (fun z => by cases z))⟩
theorem cL_close (G : mt_G) (h : ha_H) {L : Nat} {n : List ab_M} {su : Bool} {sn : Int32} {sg : Bool} {se : Int32} {pg : Nat → Nat → Int32} {md : Nat → Nat → Nat} {en : Nat → Nat → Int32} {sd : Nat → Option ab_M} {ln : Nat → List ab_M} {C : Nat → ab_C} {K : Nat} (hc : CV L n su sn sg se pg md en sd ln C h) (hM : MV K L n su sn sg se pg md en sd ln C h) (hK : K < 2 ^ 20) (c f : Int32) : rn_M G xL_close (6, 27, 144) [.inr (some 1), .inl c, .inl f] h (rn_i (PO K (fun g => m_close g c f) h)) := by
  have hf := le_rf h
  refine rn_of (by decide +kernel) (Nat.le_of_ble_eq_true rfl) ?_
  show rn_W G xL_close (6, 27, 144) 27 144 0 [some (.inr (some 1)), some (.inl c), some (.inl f), none] [] h _
  refine rw_aload_n (pc := 0) dL_close_0 rfl ?_
  refine rw_iload_n (pc := 1) dL_close_1 rfl ?_
  refine rw_vr (pc := 2) (z' := (1, 0, 0)) (rc' := 27) (rs' := 144) (av := [.inl c]) (st := []) (ci := 0) mlL_43 miL_clientThatIsUp rfl mvL_clientThatIsUp_L dL_close_2 (cs_o hc (by omega) (by omega)) (cs_S1 hc) (cL_clientThatIsUp G _ hc _) rfl rfl (Nat.le_of_ble_eq_true rfl) (by decide) rfl rfl (fun r1 h1 q1 => ?_)
  obtain ⟨rfl, q1⟩ := q1
  rcases q1 with ⟨hcu, rfl⟩ | ⟨j, hj, rfl, hup, rfl⟩
  · skip
    refine rw_astore_n (pc := 5) (L' := [some (.inr (some 1)), some (.inl c), some (.inl f), some (.inr none)]) dL_close_5 (by decide) rfl ?_
    refine rw_aload_n (pc := 6) dL_close_6 rfl ?_
    refine rw_ifnull (pc := 7) dL_close_7 (tgt := 32) rfl (fun c2 => ?_) (fun rc2 c2 => ?_)
    · skip
      refine rw_iconst (pc := 32) (x := (-1)) dL_close_32 (by decide) ?_
      exact rw_iret (pc := 33) dL_close_33 rfl ⟨_, rfl, po_cl_no hc hM (Or.inl hcu)⟩
    · skip
      cases c2
  · skip
    obtain ⟨C1, nw, nu, op, si, cp, wr, rfl⟩ := foc_T C j true hup
    rcases op with _ | o
    · skip
      refine rw_astore_n (pc := 5) (L' := [some (.inr (some 1)), some (.inl (nI j)), some (.inl f), some (.inr (some (29 + 11 * j)))]) dL_close_5 (by decide) rfl ?_
      refine rw_aload_n (pc := 6) dL_close_6 rfl ?_
      refine rw_ifnull (pc := 7) dL_close_7 (tgt := 32) rfl (fun c3 => ?_) (fun rc3 c3 => ?_)
      · skip
        cases c3
      · skip
        refine rw_iload_n (pc := 10) dL_close_10 rfl ?_
        refine rw_si (pc := 11) (z' := (0, 0, 0)) (rc' := 27) (rs' := 144) (av := [.inl f]) (st := []) mlL_47 msL_isFile dL_close_11 (cL_isFile G _ _) rfl rfl (Nat.le_of_ble_eq_true rfl) (by decide) rfl rfl (fun r4 h4 q4 => ?_)
        obtain ⟨rfl, rfl⟩ := q4
        refine rw_ifeq (pc := 14) dL_close_14 (tgt := 32) rfl (fun c5 => ?_) (fun c5 => ?_)
        · skip
          replace c5 : (mi_ib f 3) = false := (m_bi0 _).mp c5
          refine rw_iconst (pc := 32) (x := (-1)) dL_close_32 (by decide) ?_
          exact rw_iret (pc := 33) dL_close_33 rfl ⟨_, rfl, po_cl_no hc hM (Or.inr c5)⟩
        · skip
          replace c5 : (mi_ib f 3) = true := mb_T c5
          obtain ⟨i, hi, rfl⟩ := mi_ibT (by omega) c5
          have hf4 : i < 4 := by omega
          refine rw_aload_n (pc := 17) dL_close_17 rfl ?_
          refine rw_getR (pc := 18) (x := none) flL_51_C dL_close_18 (cs_o hc (by omega) (by omega)) (cs_SC hc (by omega)) (co_N (cv_C1 hc (by omega)).2.2.2.2.1) ?_
          refine rw_ifnonnull (pc := 21) dL_close_21 (tgt := 32) rfl (fun rc6 c6 => ?_) (fun c6 => ?_)
          · skip
            cases c6
          · skip
            refine rw_aload_n (pc := 24) dL_close_24 rfl ?_
            refine rw_iload_n (pc := 25) dL_close_25 rfl ?_
            refine rw_vi (pc := 26) (z' := (0, 0, 0)) (rc' := 27) (rs' := 144) (av := [.inl (nI i)]) (st := []) (ci := 4) mlL_76 miC_hasWritesTo rfl mvC_hasWritesTo_C dL_close_26 (cs_o hc (by omega) (by omega)) (cs_SC hc (by omega)) (cC_hasWritesTo G _ hc hj hf4) rfl rfl (Nat.le_of_ble_eq_true rfl) (Nat.le_of_ble_eq_true rfl) rfl rfl (fun r7 h7 q7 => ?_)
            obtain ⟨rfl, rfl⟩ := q7
            refine rw_ifeq (pc := 29) dL_close_29 (tgt := 34) rfl (fun c8 => ?_) (fun c8 => ?_)
            · skip
              replace c8 : (f_hw wr i) = false := (m_bi0 _).mp c8
              refine rw_aload_n (pc := 34) dL_close_34 rfl ?_
              refine rw_iload_n (pc := 35) dL_close_35 rfl ?_
              obtain ⟨cp1, mo, ti, re, lo, ps, rfl⟩ := foc_P cp i
              refine rw_vi (pc := 36) (z' := (4, 1, 8)) (rc' := 26) (rs' := 136) (av := [.inl (nI i)]) (st := []) (ci := 4) mlL_79 miC_giveBack rfl mvC_giveBack_C dL_close_36 (cs_o hc (by omega) (by omega)) (cs_SC hc (by omega)) (cC_giveBack G _ hc hj hf4) rfl rfl (Nat.le_of_ble_eq_true rfl) (Nat.le_of_ble_eq_true rfl) rfl rfl (fun r9 h9 q9 => ?_)
              obtain ⟨rfl, hc, hf1⟩ := q9
              replace hf := le_tr hf hf1
              exact rw_iret (pc := 39) dL_close_39 rfl ⟨_, rfl, po_cl hM hj hf4 c8 hc hf⟩
            · skip
              replace c8 : (f_hw wr i) = true := mb_T c8
              refine rw_iconst (pc := 32) (x := (-1)) dL_close_32 (by decide) ?_
              exact rw_iret (pc := 33) dL_close_33 rfl ⟨_, rfl, po_cl_op hc hM hj hf4 (Or.inr c8)⟩
    · skip
      refine rw_astore_n (pc := 5) (L' := [some (.inr (some 1)), some (.inl (nI j)), some (.inl f), some (.inr (some (29 + 11 * j)))]) dL_close_5 (by decide) rfl ?_
      refine rw_aload_n (pc := 6) dL_close_6 rfl ?_
      refine rw_ifnull (pc := 7) dL_close_7 (tgt := 32) rfl (fun c10 => ?_) (fun rc10 c10 => ?_)
      · skip
        cases c10
      · skip
        refine rw_iload_n (pc := 10) dL_close_10 rfl ?_
        refine rw_si (pc := 11) (z' := (0, 0, 0)) (rc' := 27) (rs' := 144) (av := [.inl f]) (st := []) mlL_47 msL_isFile dL_close_11 (cL_isFile G _ _) rfl rfl (Nat.le_of_ble_eq_true rfl) (by decide) rfl rfl (fun r11 h11 q11 => ?_)
        obtain ⟨rfl, rfl⟩ := q11
        refine rw_ifeq (pc := 14) dL_close_14 (tgt := 32) rfl (fun c12 => ?_) (fun c12 => ?_)
        · skip
          replace c12 : (mi_ib f 3) = false := (m_bi0 _).mp c12
          refine rw_iconst (pc := 32) (x := (-1)) dL_close_32 (by decide) ?_
          exact rw_iret (pc := 33) dL_close_33 rfl ⟨_, rfl, po_cl_no hc hM (Or.inr c12)⟩
        · skip
          replace c12 : (mi_ib f 3) = true := mb_T c12
          obtain ⟨i, hi, rfl⟩ := mi_ibT (by omega) c12
          have hf4 : i < 4 := by omega
          refine rw_aload_n (pc := 17) dL_close_17 rfl ?_
          obtain ⟨o13, eo13, ko13, lo13, ho13⟩ := co_Sm (cv_C1 hc (by omega)).2.2.2.2.1
          refine rw_getR (pc := 18) (x := some o13) flL_51_C dL_close_18 (cs_o hc (by omega) (by omega)) (cs_SC hc (by omega)) eo13 ?_
          refine rw_ifnonnull (pc := 21) dL_close_21 (tgt := 32) rfl (fun rc14 c14 => ?_) (fun c14 => ?_)
          · skip
            refine rw_iconst (pc := 32) (x := (-1)) dL_close_32 (by decide) ?_
            exact rw_iret (pc := 33) dL_close_33 rfl ⟨_, rfl, po_cl_op hc hM hj hf4 (Or.inl (fun z => by cases z))⟩
          · skip
            cases c14
theorem cL_retry (G : mt_G) (h : ha_H) {L : Nat} {n : List ab_M} {su : Bool} {sn : Int32} {sg : Bool} {se : Int32} {pg : Nat → Nat → Int32} {md : Nat → Nat → Nat} {en : Nat → Nat → Int32} {sd : Nat → Option ab_M} {ln : Nat → List ab_M} {C : Nat → ab_C} {K : Nat} (hc : CV L n su sn sg se pg md en sd ln C h) (hM : MV K L n su sn sg se pg md en sd ln C h) (hK : K < 2 ^ 20) (c : Int32) : rn_M G xL_retry (6, 27, 144) [.inr (some 1), .inl c] h (rn_i (PO K (fun g => m_retry g c) h)) := by
  have hf := le_rf h
  refine rn_of (by decide +kernel) (Nat.le_of_ble_eq_true rfl) ?_
  show rn_W G xL_retry (6, 27, 144) 27 144 0 [some (.inr (some 1)), some (.inl c), none] [] h _
  refine rw_aload_n (pc := 0) dL_retry_0 rfl ?_
  refine rw_iload_n (pc := 1) dL_retry_1 rfl ?_
  refine rw_vr (pc := 2) (z' := (1, 0, 0)) (rc' := 27) (rs' := 144) (av := [.inl c]) (st := []) (ci := 0) mlL_43 miL_clientThatIsUp rfl mvL_clientThatIsUp_L dL_retry_2 (cs_o hc (by omega) (by omega)) (cs_S1 hc) (cL_clientThatIsUp G _ hc _) rfl rfl (Nat.le_of_ble_eq_true rfl) (by decide) rfl rfl (fun r1 h1 q1 => ?_)
  obtain ⟨rfl, q1⟩ := q1
  rcases q1 with ⟨hcu, rfl⟩ | ⟨j, hj, rfl, hup, rfl⟩
  · skip
    refine rw_astore_n (pc := 5) (L' := [some (.inr (some 1)), some (.inl c), some (.inr none)]) dL_retry_5 (by decide) rfl ?_
    refine rw_aload_n (pc := 6) dL_retry_6 rfl ?_
    refine rw_ifnonnull (pc := 7) dL_retry_7 (tgt := 14) rfl (fun rc2 c2 => ?_) (fun c2 => ?_)
    · skip
      cases c2
    · skip
      refine rw_iconst (pc := 10) (x := (-1)) dL_retry_10 (by decide) ?_
      refine rw_goto (pc := 11) dL_retry_11 (tgt := 18) rfl ?_
      exact rw_iret (pc := 18) dL_retry_18 rfl ⟨_, rfl, po_re_no hc hM hcu⟩
  · skip
    obtain ⟨C1, nw, nu, op, si, cp, wr, rfl⟩ := foc_T C j true hup
    rcases op with _ | o
    · skip
      refine rw_astore_n (pc := 5) (L' := [some (.inr (some 1)), some (.inl (nI j)), some (.inr (some (29 + 11 * j)))]) dL_retry_5 (by decide) rfl ?_
      refine rw_aload_n (pc := 6) dL_retry_6 rfl ?_
      refine rw_ifnonnull (pc := 7) dL_retry_7 (tgt := 14) rfl (fun rc3 c3 => ?_) (fun c3 => ?_)
      · skip
        refine rw_aload_n (pc := 14) dL_retry_14 rfl ?_
        refine rw_vi (pc := 15) (z' := (1, 0, 0)) (rc' := 27) (rs' := 144) (av := []) (st := []) (ci := 4) mlL_82 miC_sendAgain rfl mvC_sendAgain_C dL_retry_15 (cs_o hc (by omega) (by omega)) (cs_SC hc (by omega)) (cC_sendAgain0 G _ hc hj) rfl rfl (Nat.le_of_ble_eq_true rfl) (Nat.le_of_ble_eq_true rfl) rfl rfl (fun r4 h4 q4 => ?_)
        obtain ⟨rfl, hc, hf1⟩ := q4
        replace hf := le_tr hf hf1
        exact rw_iret (pc := 18) dL_retry_18 rfl ⟨_, rfl, po_re_op hM hj hc hf⟩
      · skip
        cases c3
    · skip
      refine rw_astore_n (pc := 5) (L' := [some (.inr (some 1)), some (.inl (nI j)), some (.inr (some (29 + 11 * j)))]) dL_retry_5 (by decide) rfl ?_
      refine rw_aload_n (pc := 6) dL_retry_6 rfl ?_
      refine rw_ifnonnull (pc := 7) dL_retry_7 (tgt := 14) rfl (fun rc5 c5 => ?_) (fun c5 => ?_)
      · skip
        refine rw_aload_n (pc := 14) dL_retry_14 rfl ?_
        refine rw_vi (pc := 15) (z' := (1, 0, 0)) (rc' := 27) (rs' := 144) (av := []) (st := []) (ci := 4) mlL_82 miC_sendAgain rfl mvC_sendAgain_C dL_retry_15 (cs_o hc (by omega) (by omega)) (cs_SC hc (by omega)) (cC_sendAgain1 G _ hc hj) rfl rfl (Nat.le_of_ble_eq_true rfl) (Nat.le_of_ble_eq_true rfl) rfl rfl (fun r6 h6 q6 => ?_)
        obtain ⟨rfl, hc, hf1⟩ := q6
        replace hf := le_tr hf hf1
        exact rw_iret (pc := 18) dL_retry_18 rfl ⟨_, rfl, po_re hM hj hc hf⟩
      · skip
        cases c5
theorem cL_messages (G : mt_G) (h : ha_H) {L : Nat} {n : List ab_M} {su : Bool} {sn : Int32} {sg : Bool} {se : Int32} {pg : Nat → Nat → Int32} {md : Nat → Nat → Nat} {en : Nat → Nat → Int32} {sd : Nat → Option ab_M} {ln : Nat → List ab_M} {C : Nat → ab_C} {K : Nat} (hc : CV L n su sn sg se pg md en sd ln C h) (hM : MV K L n su sn sg se pg md en sd ln C h) (hK : K < 2 ^ 20) : rn_M G xL_messages (6, 27, 144) [.inr (some 1)] h (rn_i (PO K (fun g => (hp_I g 62 34, g)) h)) := by
  have hf := le_rf h
  refine rn_of (by decide +kernel) (Nat.le_of_ble_eq_true rfl) ?_
  show rn_W G xL_messages (6, 27, 144) 27 144 0 [some (.inr (some 1))] [] h _
  refine rw_aload_n (pc := 0) dL_messages_0 rfl ?_
  refine rw_getR (pc := 1) (x := some 2) flL_21_L dL_messages_1 (cs_o hc (by omega) (by omega)) (cs_S1 hc) (cr_1_0 hc) ?_
  refine rw_getI (pc := 4) (x := nI n.length) flL_85_N dL_messages_4 (cs_o hc (by omega) (by omega)) (cs_S2 hc) (cp_n hc).1 ?_
  exact rw_iret (pc := 7) dL_messages_7 rfl ⟨_, rfl, po_msgs hc hM⟩
theorem cL_message (G : mt_G) (h : ha_H) {L : Nat} {n : List ab_M} {su : Bool} {sn : Int32} {sg : Bool} {se : Int32} {pg : Nat → Nat → Int32} {md : Nat → Nat → Nat} {en : Nat → Nat → Int32} {sd : Nat → Option ab_M} {ln : Nat → List ab_M} {C : Nat → ab_C} {K : Nat} (hc : CV L n su sn sg se pg md en sd ln C h) (hM : MV K L n su sn sg se pg md en sd ln C h) (hK : K < 2 ^ 20) (x : Int32) : rn_M G xL_message (6, 27, 144) [.inr (some 1), .inl x] h (rn_i (PO K (fun g => (m_message g (m_u g) x, g)) h)) := by
  have hf := le_rf h
  refine rn_of (by decide +kernel) (Nat.le_of_ble_eq_true rfl) ?_
  show rn_W G xL_message (6, 27, 144) 27 144 0 [some (.inr (some 1)), some (.inl x), none] [] h _
  refine rw_aload_n (pc := 0) dL_message_0 rfl ?_
  refine rw_getR (pc := 1) (x := some 2) flL_21_L dL_message_1 (cs_o hc (by omega) (by omega)) (cs_S1 hc) (cr_1_0 hc) ?_
  refine rw_iload_n (pc := 4) dL_message_4 rfl ?_
  refine rw_vr (pc := 5) (z' := (0, 0, 0)) (rc' := 27) (rs' := 144) (av := [.inl x]) (st := []) (ci := 1) mlL_89 miN_at rfl mvN_at_N dL_message_5 (cs_o hc (by omega) (by omega)) (cs_S2 hc) (cN_at G _ hc _) rfl rfl (Nat.le_of_ble_eq_true rfl) (Nat.le_of_ble_eq_true rfl) rfl rfl (fun r1 h1 q1 => ?_)
  obtain ⟨rfl, q1⟩ := q1
  rcases q1 with ⟨e1, rfl⟩ | ⟨m, ix, e1, rfl, k1, k2, hm⟩
  · skip
    refine rw_astore_n (pc := 8) (L' := [some (.inr (some 1)), some (.inl x), some (.inr none)]) dL_message_8 (by decide) rfl ?_
    refine rw_aload_n (pc := 9) dL_message_9 rfl ?_
    refine rw_ifnonnull (pc := 10) dL_message_10 (tgt := 17) rfl (fun rc2 c2 => ?_) (fun c2 => ?_)
    · skip
      cases c2
    · skip
      refine rw_iconst (pc := 13) (x := (-1)) dL_message_13 (by decide) ?_
      refine rw_goto (pc := 14) dL_message_14 (tgt := 21) rfl ?_
      exact rw_iret (pc := 21) dL_message_21 rfl ⟨_, rfl, po_msg_no hc hM e1⟩
  · skip
    rcases hm.2.2.2 with ⟨b1, b2, b3⟩ | ⟨b1, b2, b3⟩ | ⟨b1, b2⟩
    · skip
      refine rw_astore_n (pc := 8) (L' := [some (.inr (some 1)), some (.inl x), some (.inr (some ix))]) dL_message_8 (by decide) rfl ?_
      refine rw_aload_n (pc := 9) dL_message_9 rfl ?_
      refine rw_ifnonnull (pc := 10) dL_message_10 (tgt := 17) rfl (fun rc3 c3 => ?_) (fun c3 => ?_)
      · skip
        refine rw_aload_n (pc := 17) dL_message_17 rfl ?_
        refine rw_vi (pc := 18) (z' := (0, 0, 0)) (rc' := 27) (rs' := 144) (av := []) (st := []) (ci := 7) mlL_93 miG_code rfl mvG_code_R dL_message_18 (cm_o hm) (cm_q hm b1.2).2.1 (cG_code G _ hm) rfl rfl (Nat.le_of_ble_eq_true rfl) (Nat.le_of_ble_eq_true rfl) rfl rfl (fun r4 h4 q4 => ?_)
        obtain ⟨rfl, rfl⟩ := q4
        exact rw_iret (pc := 21) dL_message_21 rfl ⟨_, rfl, po_msg hc hM e1⟩
      · skip
        cases c3
    · skip
      refine rw_astore_n (pc := 8) (L' := [some (.inr (some 1)), some (.inl x), some (.inr (some ix))]) dL_message_8 (by decide) rfl ?_
      refine rw_aload_n (pc := 9) dL_message_9 rfl ?_
      refine rw_ifnonnull (pc := 10) dL_message_10 (tgt := 17) rfl (fun rc5 c5 => ?_) (fun c5 => ?_)
      · skip
        refine rw_aload_n (pc := 17) dL_message_17 rfl ?_
        refine rw_vi (pc := 18) (z' := (0, 0, 0)) (rc' := 27) (rs' := 144) (av := []) (st := []) (ci := 8) mlL_93 miG_code rfl mvG_code_P dL_message_18 (cm_o hm) (cm_p hm b1.1 b1.2).2.1 (cG_code G _ hm) rfl rfl (Nat.le_of_ble_eq_true rfl) (Nat.le_of_ble_eq_true rfl) rfl rfl (fun r6 h6 q6 => ?_)
        obtain ⟨rfl, rfl⟩ := q6
        exact rw_iret (pc := 21) dL_message_21 rfl ⟨_, rfl, po_msg hc hM e1⟩
      · skip
        cases c5
    · skip
      refine rw_astore_n (pc := 8) (L' := [some (.inr (some 1)), some (.inl x), some (.inr (some ix))]) dL_message_8 (by decide) rfl ?_
      refine rw_aload_n (pc := 9) dL_message_9 rfl ?_
      refine rw_ifnonnull (pc := 10) dL_message_10 (tgt := 17) rfl (fun rc7 c7 => ?_) (fun c7 => ?_)
      · skip
        refine rw_aload_n (pc := 17) dL_message_17 rfl ?_
        refine rw_vi (pc := 18) (z' := (0, 0, 0)) (rc' := 27) (rs' := 144) (av := []) (st := []) (ci := 6) mlL_93 miG_code rfl mvG_code_G dL_message_18 (cm_o hm) (cm_g hm (by omega)) (cG_code G _ hm) rfl rfl (Nat.le_of_ble_eq_true rfl) (Nat.le_of_ble_eq_true rfl) rfl rfl (fun r8 h8 q8 => ?_)
        obtain ⟨rfl, rfl⟩ := q8
        exact rw_iret (pc := 21) dL_message_21 rfl ⟨_, rfl, po_msg hc hM e1⟩
      · skip
        cases c7
theorem cL_drop (G : mt_G) (h : ha_H) {L : Nat} {n : List ab_M} {su : Bool} {sn : Int32} {sg : Bool} {se : Int32} {pg : Nat → Nat → Int32} {md : Nat → Nat → Nat} {en : Nat → Nat → Int32} {sd : Nat → Option ab_M} {ln : Nat → List ab_M} {C : Nat → ab_C} {K : Nat} (hc : CV L n su sn sg se pg md en sd ln C h) (hM : MV K L n su sn sg se pg md en sd ln C h) (hK : K < 2 ^ 20) (x : Int32) : rn_M G xL_drop (6, 27, 144) [.inr (some 1), .inl x] h (rn_i (PO K (fun g => (m_dropR (m_u g) x, m_dropH g (m_u g) x)) h)) := by
  have hf := le_rf h
  refine rn_of (by decide +kernel) (Nat.le_of_ble_eq_true rfl) ?_
  show rn_W G xL_drop (6, 27, 144) 27 144 0 [some (.inr (some 1)), some (.inl x)] [] h _
  refine rw_aload_n (pc := 0) dL_drop_0 rfl ?_
  refine rw_getR (pc := 1) (x := some 2) flL_21_L dL_drop_1 (cs_o hc (by omega) (by omega)) (cs_S1 hc) (cr_1_0 hc) ?_
  refine rw_iload_n (pc := 4) dL_drop_4 rfl ?_
  refine rw_vr (pc := 5) (z' := (1, 0, 0)) (rc' := 27) (rs' := 144) (av := [.inl x]) (st := []) (ci := 1) mlL_98 miN_takeOut rfl mvN_takeOut_N dL_drop_5 (cs_o hc (by omega) (by omega)) (cs_S2 hc) (cN_takeOut G _ hc _) rfl rfl (Nat.le_of_ble_eq_true rfl) (Nat.le_of_ble_eq_true rfl) rfl rfl (fun r1 h1 q1 => ?_)
  obtain ⟨hf1, q1⟩ := q1
  replace hf := le_tr hf hf1
  clear hf1
  clear hc
  rcases q1 with ⟨e1, rfl, hc⟩ | ⟨m, ix, jx, e1, rfl, e2, hjx, hm, hc⟩
  · skip
    refine rw_ifnull (pc := 8) dL_drop_8 (tgt := 15) rfl (fun c2 => ?_) (fun rc2 c2 => ?_)
    · skip
      refine rw_iconst (pc := 15) (x := nI 0) dL_drop_15 (by decide) ?_
      exact rw_zret (pc := 16) dL_drop_16 rfl (Or.inl rfl) ⟨_, rfl, po_drop_no hM e1 hc hf⟩
    · skip
      cases c2
  · skip
    rcases hm.2.2.2 with ⟨b1, b2, b3⟩ | ⟨b1, b2, b3⟩ | ⟨b1, b2⟩
    · skip
      refine rw_ifnull (pc := 8) dL_drop_8 (tgt := 15) rfl (fun c3 => ?_) (fun rc3 c3 => ?_)
      · skip
        cases c3
      · skip
        refine rw_iconst (pc := 11) (x := nI 1) dL_drop_11 (by decide) ?_
        refine rw_goto (pc := 12) dL_drop_12 (tgt := 16) rfl ?_
        exact rw_zret (pc := 16) dL_drop_16 rfl (Or.inr rfl) ⟨_, rfl, po_drop hM e1 e2 hjx hc hf⟩
    · skip
      refine rw_ifnull (pc := 8) dL_drop_8 (tgt := 15) rfl (fun c4 => ?_) (fun rc4 c4 => ?_)
      · skip
        cases c4
      · skip
        refine rw_iconst (pc := 11) (x := nI 1) dL_drop_11 (by decide) ?_
        refine rw_goto (pc := 12) dL_drop_12 (tgt := 16) rfl ?_
        exact rw_zret (pc := 16) dL_drop_16 rfl (Or.inr rfl) ⟨_, rfl, po_drop hM e1 e2 hjx hc hf⟩
    · skip
      refine rw_ifnull (pc := 8) dL_drop_8 (tgt := 15) rfl (fun c5 => ?_) (fun rc5 c5 => ?_)
      · skip
        cases c5
      · skip
        refine rw_iconst (pc := 11) (x := nI 1) dL_drop_11 (by decide) ?_
        refine rw_goto (pc := 12) dL_drop_12 (tgt := 16) rfl ?_
        exact rw_zret (pc := 16) dL_drop_16 rfl (Or.inr rfl) ⟨_, rfl, po_drop hM e1 e2 hjx hc hf⟩
theorem cL_duplicate (G : mt_G) (h : ha_H) {L : Nat} {n : List ab_M} {su : Bool} {sn : Int32} {sg : Bool} {se : Int32} {pg : Nat → Nat → Int32} {md : Nat → Nat → Nat} {en : Nat → Nat → Int32} {sd : Nat → Option ab_M} {ln : Nat → List ab_M} {C : Nat → ab_C} {K : Nat} (hc : CV L n su sn sg se pg md en sd ln C h) (hM : MV K L n su sn sg se pg md en sd ln C h) (hK : K < 2 ^ 20) (x : Int32) : rn_M G xL_duplicate (6, 27, 144) [.inr (some 1), .inl x] h (rn_i (PO K (fun g => (m_dupR (m_u g) x, m_dupH g (m_u g) x)) h)) := by
  have hf := le_rf h
  refine rn_of (by decide +kernel) (Nat.le_of_ble_eq_true rfl) ?_
  show rn_W G xL_duplicate (6, 27, 144) 27 144 0 [some (.inr (some 1)), some (.inl x), none] [] h _
  refine rw_aload_n (pc := 0) dL_duplicate_0 rfl ?_
  refine rw_getR (pc := 1) (x := some 2) flL_21_L dL_duplicate_1 (cs_o hc (by omega) (by omega)) (cs_S1 hc) (cr_1_0 hc) ?_
  refine rw_iload_n (pc := 4) dL_duplicate_4 rfl ?_
  refine rw_vr (pc := 5) (z' := (0, 0, 0)) (rc' := 27) (rs' := 144) (av := [.inl x]) (st := []) (ci := 1) mlL_89 miN_at rfl mvN_at_N dL_duplicate_5 (cs_o hc (by omega) (by omega)) (cs_S2 hc) (cN_at G _ hc _) rfl rfl (Nat.le_of_ble_eq_true rfl) (Nat.le_of_ble_eq_true rfl) rfl rfl (fun r1 h1 q1 => ?_)
  obtain ⟨rfl, q1⟩ := q1
  rcases q1 with ⟨e1, rfl⟩ | ⟨m, ix, e1, rfl, k1, k2, hm⟩
  · skip
    refine rw_astore_n (pc := 8) (L' := [some (.inr (some 1)), some (.inl x), some (.inr none)]) dL_duplicate_8 (by decide) rfl ?_
    refine rw_aload_n (pc := 9) dL_duplicate_9 rfl ?_
    refine rw_ifnull (pc := 10) dL_duplicate_10 (tgt := 28) rfl (fun c2 => ?_) (fun rc2 c2 => ?_)
    · skip
      refine rw_iconst (pc := 28) (x := nI 0) dL_duplicate_28 (by decide) ?_
      exact rw_zret (pc := 29) dL_duplicate_29 rfl (Or.inl rfl) ⟨_, rfl, po_dup_no hc hM e1⟩
    · skip
      cases c2
  · skip
    rcases hm.2.2.2 with ⟨b1, b2, b3⟩ | ⟨b1, b2, b3⟩ | ⟨b1, b2⟩
    · skip
      refine rw_astore_n (pc := 8) (L' := [some (.inr (some 1)), some (.inl x), some (.inr (some ix))]) dL_duplicate_8 (by decide) rfl ?_
      refine rw_aload_n (pc := 9) dL_duplicate_9 rfl ?_
      refine rw_ifnull (pc := 10) dL_duplicate_10 (tgt := 28) rfl (fun c3 => ?_) (fun rc3 c3 => ?_)
      · skip
        cases c3
      · skip
        refine rw_aload_n (pc := 13) dL_duplicate_13 rfl ?_
        refine rw_getR (pc := 14) (x := some 2) flL_21_L dL_duplicate_14 (cs_o hc (by omega) (by omega)) (cs_S1 hc) (cr_1_0 hc) ?_
        refine rw_aload_n (pc := 17) dL_duplicate_17 rfl ?_
        refine rw_vi (pc := 18) (z' := (0, 0, 0)) (rc' := 27) (rs' := 144) (av := [.inr (some ix)]) (st := []) (ci := 1) mlL_124 miN_send rfl mvN_send_N dL_duplicate_18 (cs_o hc (by omega) (by omega)) (cs_S2 hc) (cN_send G _ hc hm) rfl rfl (Nat.le_of_ble_eq_true rfl) (Nat.le_of_ble_eq_true rfl) rfl rfl (fun r4 h4 q4 => ?_)
        obtain ⟨rfl, hc, hf1⟩ := q4
        replace hm := cm_le hm hf1
        replace hf := le_tr hf hf1
        refine rw_ifeq (pc := 21) dL_duplicate_21 (tgt := 28) rfl (fun c5 => ?_) (fun c5 => ?_)
        · skip
          replace c5 : (decide (n.length < 60)) = false := (m_bi0 _).mp c5
          refine rw_iconst (pc := 28) (x := nI 0) dL_duplicate_28 (by decide) ?_
          have hP := po_dup hM e1 hc hf
          rw [c5] at hP
          exact rw_zret (pc := 29) dL_duplicate_29 rfl (Or.inl rfl) ⟨_, rfl, hP⟩
        · skip
          replace c5 : (decide (n.length < 60)) = true := mb_T c5
          refine rw_iconst (pc := 24) (x := nI 1) dL_duplicate_24 (by decide) ?_
          refine rw_goto (pc := 25) dL_duplicate_25 (tgt := 29) rfl ?_
          have hP := po_dup hM e1 hc hf
          rw [c5] at hP
          exact rw_zret (pc := 29) dL_duplicate_29 rfl (Or.inr rfl) ⟨_, rfl, hP⟩
    · skip
      refine rw_astore_n (pc := 8) (L' := [some (.inr (some 1)), some (.inl x), some (.inr (some ix))]) dL_duplicate_8 (by decide) rfl ?_
      refine rw_aload_n (pc := 9) dL_duplicate_9 rfl ?_
      refine rw_ifnull (pc := 10) dL_duplicate_10 (tgt := 28) rfl (fun c6 => ?_) (fun rc6 c6 => ?_)
      · skip
        cases c6
      · skip
        refine rw_aload_n (pc := 13) dL_duplicate_13 rfl ?_
        refine rw_getR (pc := 14) (x := some 2) flL_21_L dL_duplicate_14 (cs_o hc (by omega) (by omega)) (cs_S1 hc) (cr_1_0 hc) ?_
        refine rw_aload_n (pc := 17) dL_duplicate_17 rfl ?_
        refine rw_vi (pc := 18) (z' := (0, 0, 0)) (rc' := 27) (rs' := 144) (av := [.inr (some ix)]) (st := []) (ci := 1) mlL_124 miN_send rfl mvN_send_N dL_duplicate_18 (cs_o hc (by omega) (by omega)) (cs_S2 hc) (cN_send G _ hc hm) rfl rfl (Nat.le_of_ble_eq_true rfl) (Nat.le_of_ble_eq_true rfl) rfl rfl (fun r7 h7 q7 => ?_)
        obtain ⟨rfl, hc, hf1⟩ := q7
        replace hm := cm_le hm hf1
        replace hf := le_tr hf hf1
        refine rw_ifeq (pc := 21) dL_duplicate_21 (tgt := 28) rfl (fun c8 => ?_) (fun c8 => ?_)
        · skip
          replace c8 : (decide (n.length < 60)) = false := (m_bi0 _).mp c8
          refine rw_iconst (pc := 28) (x := nI 0) dL_duplicate_28 (by decide) ?_
          have hP := po_dup hM e1 hc hf
          rw [c8] at hP
          exact rw_zret (pc := 29) dL_duplicate_29 rfl (Or.inl rfl) ⟨_, rfl, hP⟩
        · skip
          replace c8 : (decide (n.length < 60)) = true := mb_T c8
          refine rw_iconst (pc := 24) (x := nI 1) dL_duplicate_24 (by decide) ?_
          refine rw_goto (pc := 25) dL_duplicate_25 (tgt := 29) rfl ?_
          have hP := po_dup hM e1 hc hf
          rw [c8] at hP
          exact rw_zret (pc := 29) dL_duplicate_29 rfl (Or.inr rfl) ⟨_, rfl, hP⟩
    · skip
      refine rw_astore_n (pc := 8) (L' := [some (.inr (some 1)), some (.inl x), some (.inr (some ix))]) dL_duplicate_8 (by decide) rfl ?_
      refine rw_aload_n (pc := 9) dL_duplicate_9 rfl ?_
      refine rw_ifnull (pc := 10) dL_duplicate_10 (tgt := 28) rfl (fun c9 => ?_) (fun rc9 c9 => ?_)
      · skip
        cases c9
      · skip
        refine rw_aload_n (pc := 13) dL_duplicate_13 rfl ?_
        refine rw_getR (pc := 14) (x := some 2) flL_21_L dL_duplicate_14 (cs_o hc (by omega) (by omega)) (cs_S1 hc) (cr_1_0 hc) ?_
        refine rw_aload_n (pc := 17) dL_duplicate_17 rfl ?_
        refine rw_vi (pc := 18) (z' := (0, 0, 0)) (rc' := 27) (rs' := 144) (av := [.inr (some ix)]) (st := []) (ci := 1) mlL_124 miN_send rfl mvN_send_N dL_duplicate_18 (cs_o hc (by omega) (by omega)) (cs_S2 hc) (cN_send G _ hc hm) rfl rfl (Nat.le_of_ble_eq_true rfl) (Nat.le_of_ble_eq_true rfl) rfl rfl (fun r10 h10 q10 => ?_)
        obtain ⟨rfl, hc, hf1⟩ := q10
        replace hm := cm_le hm hf1
        replace hf := le_tr hf hf1
        refine rw_ifeq (pc := 21) dL_duplicate_21 (tgt := 28) rfl (fun c11 => ?_) (fun c11 => ?_)
        · skip
          replace c11 : (decide (n.length < 60)) = false := (m_bi0 _).mp c11
          refine rw_iconst (pc := 28) (x := nI 0) dL_duplicate_28 (by decide) ?_
          have hP := po_dup hM e1 hc hf
          rw [c11] at hP
          exact rw_zret (pc := 29) dL_duplicate_29 rfl (Or.inl rfl) ⟨_, rfl, hP⟩
        · skip
          replace c11 : (decide (n.length < 60)) = true := mb_T c11
          refine rw_iconst (pc := 24) (x := nI 1) dL_duplicate_24 (by decide) ?_
          refine rw_goto (pc := 25) dL_duplicate_25 (tgt := 29) rfl ?_
          have hP := po_dup hM e1 hc hf
          rw [c11] at hP
          exact rw_zret (pc := 29) dL_duplicate_29 rfl (Or.inr rfl) ⟨_, rfl, hP⟩
theorem cL_deliver (G : mt_G) (h : ha_H) {L : Nat} {n : List ab_M} {su : Bool} {sn : Int32} {sg : Bool} {se : Int32} {pg : Nat → Nat → Int32} {md : Nat → Nat → Nat} {en : Nat → Nat → Int32} {sd : Nat → Option ab_M} {ln : Nat → List ab_M} {C : Nat → ab_C} {K : Nat} (hc : CV L n su sn sg se pg md en sd ln C h) (hM : MV K L n su sn sg se pg md en sd ln C h) (hK : K < 2 ^ 20) (x : Int32) : rn_M G xL_deliver (6, 27, 144) [.inr (some 1), .inl x] h (rn_i (PO K (fun g => m_deliver g x) h)) := by
  have hf := le_rf h
  refine rn_of (by decide +kernel) (Nat.le_of_ble_eq_true rfl) ?_
  show rn_W G xL_deliver (6, 27, 144) 27 144 0 [some (.inr (some 1)), some (.inl x), none, none, none] [] h _
  refine rw_aload_n (pc := 0) dL_deliver_0 rfl ?_
  refine rw_getR (pc := 1) (x := some 2) flL_21_L dL_deliver_1 (cs_o hc (by omega) (by omega)) (cs_S1 hc) (cr_1_0 hc) ?_
  refine rw_iload_n (pc := 4) dL_deliver_4 rfl ?_
  refine rw_vr (pc := 5) (z' := (1, 0, 0)) (rc' := 27) (rs' := 144) (av := [.inl x]) (st := []) (ci := 1) mlL_98 miN_takeOut rfl mvN_takeOut_N dL_deliver_5 (cs_o hc (by omega) (by omega)) (cs_S2 hc) (cN_takeOut G _ hc _) rfl rfl (Nat.le_of_ble_eq_true rfl) (Nat.le_of_ble_eq_true rfl) rfl rfl (fun r1 h1 q1 => ?_)
  obtain ⟨hf1, q1⟩ := q1
  replace hf := le_tr hf hf1
  clear hf1
  clear hc
  rcases q1 with ⟨e1, rfl, hc⟩ | ⟨m, ix, jx, e1, rfl, e2, hjx, hm, hc⟩
  · skip
    refine rw_astore_n (pc := 8) (L' := [some (.inr (some 1)), some (.inl x), some (.inr none), none, none]) dL_deliver_8 (by decide) rfl ?_
    refine rw_aload_n (pc := 9) dL_deliver_9 rfl ?_
    refine rw_ifnonnull (pc := 10) dL_deliver_10 (tgt := 15) rfl (fun rc2 c2 => ?_) (fun c2 => ?_)
    · skip
      cases c2
    · skip
      refine rw_iconst (pc := 13) (x := nI 0) dL_deliver_13 (by decide) ?_
      exact rw_zret (pc := 14) dL_deliver_14 rfl (Or.inl rfl) ⟨_, rfl, po_dl_no hM e1 hc hf⟩
  · skip
    rcases hm.2.2.2 with ⟨b1, b2, b3⟩ | ⟨b1, b2, b3⟩ | ⟨b1, b2⟩
    · skip
      refine rw_astore_n (pc := 8) (L' := [some (.inr (some 1)), some (.inl x), some (.inr (some ix)), none, none]) dL_deliver_8 (by decide) rfl ?_
      refine rw_aload_n (pc := 9) dL_deliver_9 rfl ?_
      refine rw_ifnonnull (pc := 10) dL_deliver_10 (tgt := 15) rfl (fun rc3 c3 => ?_) (fun c3 => ?_)
      · skip
        refine rw_aload_n (pc := 15) dL_deliver_15 rfl ?_
        refine rw_instS (pc := 16) (ci := 7) rfl bw_408 dL_deliver_16 (cm_o hm) (cm_q hm b1.2).2.1 ?_
        show rn_W G xL_deliver (6, 27, 144) 27 144 19 [some (.inr (some 1)), some (.inl x), some (.inr (some ix)), none, none] [.inl (m_bi true)] h1 _
        refine rw_ifeq (pc := 19) dL_deliver_19 (tgt := 38) rfl (fun c4 => ?_) (fun c4 => ?_)
        · skip
          replace c4 : true = false := (m_bi0 _).mp c4
          cases c4
        · skip
          replace c4 : true = true := mb_T c4
          refine rw_aload_n (pc := 22) dL_deliver_22 rfl ?_
          refine rw_castS (pc := 23) (ci := 7) rfl bw_408 dL_deliver_23 (cm_o hm) (cm_q hm b1.2).2.1 ?_
          refine rw_astore_n (pc := 26) (L' := [some (.inr (some 1)), some (.inl x), some (.inr (some ix)), some (.inr (some ix)), none]) dL_deliver_26 (by decide) rfl ?_
          refine rw_aload_n (pc := 27) dL_deliver_27 rfl ?_
          refine rw_getR (pc := 28) (x := some 4) flL_30_L dL_deliver_28 (cs_o hc (by omega) (by omega)) (cs_S1 hc) (cr_1_1 hc) ?_
          refine rw_aload_n (pc := 31) dL_deliver_31 rfl ?_
          rcases hes : sd (am_c m) with _ | p
          · skip
            refine rw_vv (pc := 32) (z' := (5, 27, 144)) (rc' := 0) (rs' := 0) (av := [.inr (some ix)]) (st := []) (ci := 2) mlL_103 miS_requestArrives rfl mvS_requestArrives_S dL_deliver_32 (cs_o hc (by omega) (by omega)) (cs_S4 hc) (cS_requestArrives0 G _ hc hm b1.2 hes) rfl rfl (Nat.le_of_ble_eq_true rfl) (Nat.le_of_ble_eq_true rfl) rfl rfl (fun h5 q5 => ?_)
            obtain ⟨hc, hf1⟩ := q5
            replace hm := cm_le hm hf1
            replace hf := le_tr hf hf1
            refine rw_goto (pc := 35) dL_deliver_35 (tgt := 85) rfl ?_
            refine rw_iconst (pc := 85) (x := nI 1) dL_deliver_85 (by decide) ?_
            exact rw_zret (pc := 86) dL_deliver_86 rfl (Or.inr rfl) ⟨_, rfl, po_dlq hM hK e1 e2 hjx b1.2 hc hf⟩
          · skip
            refine rw_vv (pc := 32) (z' := (5, 27, 144)) (rc' := 0) (rs' := 0) (av := [.inr (some ix)]) (st := []) (ci := 2) mlL_103 miS_requestArrives rfl mvS_requestArrives_S dL_deliver_32 (cs_o hc (by omega) (by omega)) (cs_S4 hc) (cS_requestArrives1 G _ hc hm b1.2 hes) rfl rfl (Nat.le_of_ble_eq_true rfl) (Nat.le_of_ble_eq_true rfl) rfl rfl (fun h6 q6 => ?_)
            obtain ⟨hc, hf1⟩ := q6
            replace hm := cm_le hm hf1
            replace hf := le_tr hf hf1
            refine rw_goto (pc := 35) dL_deliver_35 (tgt := 85) rfl ?_
            refine rw_iconst (pc := 85) (x := nI 1) dL_deliver_85 (by decide) ?_
            exact rw_zret (pc := 86) dL_deliver_86 rfl (Or.inr rfl) ⟨_, rfl, po_dlq hM hK e1 e2 hjx b1.2 hc hf⟩
      · skip
        cases c3
    · skip
      refine rw_astore_n (pc := 8) (L' := [some (.inr (some 1)), some (.inl x), some (.inr (some ix)), none, none]) dL_deliver_8 (by decide) rfl ?_
      refine rw_aload_n (pc := 9) dL_deliver_9 rfl ?_
      refine rw_ifnonnull (pc := 10) dL_deliver_10 (tgt := 15) rfl (fun rc7 c7 => ?_) (fun c7 => ?_)
      · skip
        refine rw_aload_n (pc := 15) dL_deliver_15 rfl ?_
        refine rw_instNo (pc := 16) (ci := 8) rfl bw_408 (by decide) dL_deliver_16 (cm_o hm) (cm_p hm b1.1 b1.2).2.1 ?_
        show rn_W G xL_deliver (6, 27, 144) 27 144 19 [some (.inr (some 1)), some (.inl x), some (.inr (some ix)), none, none] [.inl (m_bi false)] h1 _
        refine rw_ifeq (pc := 19) dL_deliver_19 (tgt := 38) rfl (fun c8 => ?_) (fun c8 => ?_)
        · skip
          replace c8 : false = false := (m_bi0 _).mp c8
          refine rw_aload_n (pc := 38) dL_deliver_38 rfl ?_
          refine rw_instS (pc := 39) (ci := 8) rfl bw_519 dL_deliver_39 (cm_o hm) (cm_p hm b1.1 b1.2).2.1 ?_
          show rn_W G xL_deliver (6, 27, 144) 27 144 42 [some (.inr (some 1)), some (.inl x), some (.inr (some ix)), none, none] [.inl (m_bi true)] h1 _
          refine rw_ifeq (pc := 42) dL_deliver_42 (tgt := 69) rfl (fun c9 => ?_) (fun c9 => ?_)
          · skip
            replace c9 : true = false := (m_bi0 _).mp c9
            cases c9
          · skip
            replace c9 : true = true := mb_T c9
            refine rw_aload_n (pc := 45) dL_deliver_45 rfl ?_
            refine rw_castS (pc := 46) (ci := 8) rfl bw_519 dL_deliver_46 (cm_o hm) (cm_p hm b1.1 b1.2).2.1 ?_
            refine rw_astore (pc := 49) (L' := [some (.inr (some 1)), some (.inl x), some (.inr (some ix)), none, some (.inr (some ix))]) dL_deliver_49 (by decide) rfl ?_
            refine rw_aload_n (pc := 51) dL_deliver_51 rfl ?_
            refine rw_getR (pc := 52) (x := some 28) flL_36_L dL_deliver_52 (cs_o hc (by omega) (by omega)) (cs_S1 hc) (cr_1_2 hc) ?_
            refine rw_aload (pc := 55) dL_deliver_55 rfl ?_
            refine rw_getI (pc := 57) (x := nI (am_c m)) flL_109_P dL_deliver_57 (cm_o hm) (cm_p hm b1.1 b1.2).2.1 hm.2.1.2.1 ?_
            refine rw_aald (pc := 60) (v := some (29 + 11 * (am_c m))) (i := (am_c m)) (t := 6) rfl ⟨rfl, by decide⟩ dL_deliver_60 (cs_o hc (by omega) (by omega)) (cs_S28 hc) (ix_nI hm.2.2.1.1 (by decide)) (cr_28 hc hm.2.2.1.1) ?_
            refine rw_aload (pc := 61) dL_deliver_61 rfl ?_
            have hcl := hm.2.2.1.1
            have hfl := hm.2.2.1.2
            have h8 := (cp_L hc).2.1
            obtain ⟨C1, up, nw, nu, op, si, cp, wr, rfl⟩ := foc_C C (am_c m)
            obtain ⟨cp1, mo, ti, re, lo, ps, rfl⟩ := foc_P cp (am_f m)
            rcases op with _ | o
            · skip
              refine rw_vv (pc := 63) (z' := (3, 0, 0)) (rc' := 27) (rs' := 144) (av := [.inr (some ix)]) (st := []) (ci := 4) mlL_112 miC_replyArrives rfl mvC_replyArrives_C dL_deliver_63 (cs_o hc (by omega) (by omega)) (cs_SC hc (by omega)) (cC_replyArrives0 G _ hc hcl hm b1.1 b1.2) rfl rfl (Nat.le_of_ble_eq_true rfl) (Nat.le_of_ble_eq_true rfl) rfl rfl (fun h10 q10 => ?_)
              obtain ⟨hc, hf1⟩ := q10
              replace hm := cm_le hm hf1
              replace hf := le_tr hf hf1
              refine rw_goto (pc := 66) dL_deliver_66 (tgt := 85) rfl ?_
              refine rw_iconst (pc := 85) (x := nI 1) dL_deliver_85 (by decide) ?_
              exact rw_zret (pc := 86) dL_deliver_86 rfl (Or.inr rfl) ⟨_, rfl, po_dlp hM hK h8.1 h8.2 rfl e1 e2 hjx b1.1 b1.2 hc hf⟩
            · skip
              refine rw_vv (pc := 63) (z' := (3, 0, 0)) (rc' := 27) (rs' := 144) (av := [.inr (some ix)]) (st := []) (ci := 4) mlL_112 miC_replyArrives rfl mvC_replyArrives_C dL_deliver_63 (cs_o hc (by omega) (by omega)) (cs_SC hc (by omega)) (cC_replyArrives1 G _ hc hcl hm b1.1 b1.2) rfl rfl (Nat.le_of_ble_eq_true rfl) (Nat.le_of_ble_eq_true rfl) rfl rfl (fun h11 q11 => ?_)
              obtain ⟨hc, hf1⟩ := q11
              replace hm := cm_le hm hf1
              replace hf := le_tr hf hf1
              refine rw_goto (pc := 66) dL_deliver_66 (tgt := 85) rfl ?_
              refine rw_iconst (pc := 85) (x := nI 1) dL_deliver_85 (by decide) ?_
              exact rw_zret (pc := 86) dL_deliver_86 rfl (Or.inr rfl) ⟨_, rfl, po_dlp hM hK h8.1 h8.2 rfl e1 e2 hjx b1.1 b1.2 hc hf⟩
        · skip
          replace c8 : false = true := mb_T c8
          cases c8
      · skip
        cases c7
    · skip
      refine rw_astore_n (pc := 8) (L' := [some (.inr (some 1)), some (.inl x), some (.inr (some ix)), none, none]) dL_deliver_8 (by decide) rfl ?_
      refine rw_aload_n (pc := 9) dL_deliver_9 rfl ?_
      refine rw_ifnonnull (pc := 10) dL_deliver_10 (tgt := 15) rfl (fun rc12 c12 => ?_) (fun c12 => ?_)
      · skip
        refine rw_aload_n (pc := 15) dL_deliver_15 rfl ?_
        refine rw_instNo (pc := 16) (ci := 6) rfl bw_408 (by decide) dL_deliver_16 (cm_o hm) (cm_g hm (by omega)) ?_
        show rn_W G xL_deliver (6, 27, 144) 27 144 19 [some (.inr (some 1)), some (.inl x), some (.inr (some ix)), none, none] [.inl (m_bi false)] h1 _
        refine rw_ifeq (pc := 19) dL_deliver_19 (tgt := 38) rfl (fun c13 => ?_) (fun c13 => ?_)
        · skip
          replace c13 : false = false := (m_bi0 _).mp c13
          refine rw_aload_n (pc := 38) dL_deliver_38 rfl ?_
          refine rw_instNo (pc := 39) (ci := 6) rfl bw_519 (by decide) dL_deliver_39 (cm_o hm) (cm_g hm (by omega)) ?_
          show rn_W G xL_deliver (6, 27, 144) 27 144 42 [some (.inr (some 1)), some (.inl x), some (.inr (some ix)), none, none] [.inl (m_bi false)] h1 _
          refine rw_ifeq (pc := 42) dL_deliver_42 (tgt := 69) rfl (fun c14 => ?_) (fun c14 => ?_)
          · skip
            replace c14 : false = false := (m_bi0 _).mp c14
            refine rw_aload_n (pc := 69) dL_deliver_69 rfl ?_
            refine rw_getR (pc := 70) (x := some 28) flL_36_L dL_deliver_70 (cs_o hc (by omega) (by omega)) (cs_S1 hc) (cr_1_2 hc) ?_
            refine rw_aload_n (pc := 73) dL_deliver_73 rfl ?_
            refine rw_getI (pc := 74) (x := nI (am_c m)) flL_116_G dL_deliver_74 (cm_o hm) (cm_g hm (by omega)) hm.2.1.2.1 ?_
            refine rw_aald (pc := 77) (v := some (29 + 11 * (am_c m))) (i := (am_c m)) (t := 6) rfl ⟨rfl, by decide⟩ dL_deliver_77 (cs_o hc (by omega) (by omega)) (cs_S28 hc) (ix_nI hm.2.2.1.1 (by decide)) (cr_28 hc hm.2.2.1.1) ?_
            refine rw_aload_n (pc := 78) dL_deliver_78 rfl ?_
            refine rw_getI (pc := 79) (x := nI (am_f m)) flL_117_G dL_deliver_79 (cm_o hm) (cm_g hm (by omega)) hm.2.1.2.2.1 ?_
            have hcl := hm.2.2.1.1
            have hfl := hm.2.2.1.2
            obtain ⟨C1, up, nw, nu, op, si, cp, wr, rfl⟩ := foc_C C (am_c m)
            obtain ⟨cp1, mo, ti, re, lo, ps, rfl⟩ := foc_P cp (am_f m)
            refine rw_vv (pc := 82) (z' := (0, 0, 0)) (rc' := 27) (rs' := 144) (av := [.inl (nI (am_f m))]) (st := []) (ci := 4) mlL_120 miC_recallArrives rfl mvC_recallArrives_C dL_deliver_82 (cs_o hc (by omega) (by omega)) (cs_SC hc (by omega)) (cC_recallArrives G _ hc hcl hfl) rfl rfl (Nat.le_of_ble_eq_true rfl) (Nat.le_of_ble_eq_true rfl) rfl rfl (fun h15 q15 => ?_)
            obtain ⟨hc, hf1⟩ := q15
            replace hm := cm_le hm hf1
            replace hf := le_tr hf hf1
            refine rw_iconst (pc := 85) (x := nI 1) dL_deliver_85 (by decide) ?_
            exact rw_zret (pc := 86) dL_deliver_86 rfl (Or.inr rfl) ⟨_, rfl, po_dlr hM rfl e1 e2 hjx b1 hc hf⟩
          · skip
            replace c14 : false = true := mb_T c14
            cases c14
        · skip
          replace c13 : false = true := mb_T c13
          cases c13
      · skip
        cases c12
theorem cL_tick (G : mt_G) (h : ha_H) {L : Nat} {n : List ab_M} {su : Bool} {sn : Int32} {sg : Bool} {se : Int32} {pg : Nat → Nat → Int32} {md : Nat → Nat → Nat} {en : Nat → Nat → Int32} {sd : Nat → Option ab_M} {ln : Nat → List ab_M} {C : Nat → ab_C} {K : Nat} (hc : CV L n su sn sg se pg md en sd ln C h) (hM : MV K L n su sn sg se pg md en sd ln C h) (hK : K < 2 ^ 20) (x y : Int32) : rn_M G xL_tick (6, 27, 144) [.inr (some 1), .inl x, .inl y] h (rn_i (PO K (fun g => m_tick g x y) h)) := by
  have hf := le_rf h
  refine rn_of (by decide +kernel) (Nat.le_of_ble_eq_true rfl) ?_
  show rn_W G xL_tick (6, 27, 144) 27 144 0 [some (.inr (some 1)), some (.inl x), some (.inl y)] [] h _
  refine rw_iload_n (pc := 0) dL_tick_0 rfl ?_
  refine rw_si (pc := 1) (z' := (1, 0, 0)) (rc' := 27) (rs' := 144) (av := [.inl x]) (st := []) mlL_128 msL_isNode dL_tick_1 (cL_isNode G _ _) rfl rfl (Nat.le_of_ble_eq_true rfl) (by decide) rfl rfl (fun r1 h1 q1 => ?_)
  obtain ⟨rfl, rfl⟩ := q1
  refine rw_ifeq (pc := 4) dL_tick_4 (tgt := 26) rfl (fun c2 => ?_) (fun c2 => ?_)
  · skip
    replace c2 : (mi_ib x 3) = false := (m_bi0 _).mp c2
    refine rw_iconst (pc := 26) (x := nI 0) dL_tick_26 (by decide) ?_
    exact rw_zret (pc := 27) dL_tick_27 rfl (Or.inl rfl) ⟨_, rfl, po_tk_no hc hM (Or.inl c2)⟩
  · skip
    replace c2 : (mi_ib x 3) = true := mb_T c2
    obtain ⟨x0, hx3, rfl⟩ := mi_ibT (by omega) c2
    refine rw_aload_n (pc := 7) dL_tick_7 rfl ?_
    refine rw_iload_n (pc := 8) dL_tick_8 rfl ?_
    refine rw_vi (pc := 9) (z' := (0, 0, 0)) (rc' := 27) (rs' := 144) (av := [.inl (nI x0)]) (st := []) (ci := 0) mlL_131 miL_isUp rfl mvL_isUp_L dL_tick_9 (cs_o hc (by omega) (by omega)) (cs_S1 hc) (cL_isUp G _ hc hx3) rfl rfl (Nat.le_of_ble_eq_true rfl) (Nat.le_of_ble_eq_true rfl) rfl rfl (fun r3 h3 q3 => ?_)
    obtain ⟨rfl, rfl⟩ := q3
    refine rw_ifeq (pc := 12) dL_tick_12 (tgt := 26) rfl (fun c4 => ?_) (fun c4 => ?_)
    · skip
      replace c4 : (f_nu su C x0) = false := (m_bi0 _).mp c4
      refine rw_iconst (pc := 26) (x := nI 0) dL_tick_26 (by decide) ?_
      exact rw_zret (pc := 27) dL_tick_27 rfl (Or.inl rfl) ⟨_, rfl, po_tk_no hc hM (Or.inr (Or.inr (Or.inr ⟨x0, rfl, hx3, c4⟩)))⟩
    · skip
      replace c4 : (f_nu su C x0) = true := mb_T c4
      refine rw_iload_n (pc := 15) dL_tick_15 rfl ?_
      refine rw_iconst (pc := 16) (x := nI 1) dL_tick_16 (by decide) ?_
      refine rw_icmplt (pc := 17) dL_tick_17 (tgt := 26) rfl (fun c5 => ?_) (fun c5 => ?_)
      · skip
        refine rw_iconst (pc := 26) (x := nI 0) dL_tick_26 (by decide) ?_
        exact rw_zret (pc := 27) dL_tick_27 rfl (Or.inl rfl) ⟨_, rfl, po_tk_no hc hM (Or.inr (Or.inl c5))⟩
      · skip
        refine rw_iload_n (pc := 20) dL_tick_20 rfl ?_
        refine rw_bipush (pc := 21) (x := nI 100) dL_tick_21 (by decide) ?_
        refine rw_icmple (pc := 23) dL_tick_23 (tgt := 28) rfl (fun c6 => ?_) (fun c6 => ?_)
        · skip
          obtain ⟨k, hk1, hk2, rfl⟩ : ∃ k, 1 ≤ k ∧ k ≤ 100 ∧ y = nI k := by
            obtain ⟨q, q1, q2⟩ := nI_of (x := y) (fun z => c5 (Int32.lt_trans z (by decide)))
            subst q2
            exact ⟨q, Nat.le_of_not_lt (fun z => c5 (nI_lt z (by omega))), Nat.le_of_not_lt (fun z => absurd c6 (Int32.not_le.mpr (nI_lt z q1))), rfl⟩
          refine rw_iload_n (pc := 28) dL_tick_28 rfl ?_
          refine rw_iconst (pc := 29) (x := nI 3) dL_tick_29 (by decide) ?_
          refine rw_icmpne (pc := 30) dL_tick_30 (tgt := 44) rfl (fun c7 => ?_) (fun c7 => ?_)
          · skip
            replace c7 : ¬ (x0 = 3) := fun qz => c7 ((nI_eq (a := x0) (b := 3) (by omega) (by omega)).mpr qz)
            have hj : x0 < 3 := by omega
            rw [nu_c _ _ hj] at c4
            obtain ⟨C1, nw, nu, op, si, cp, wr, rfl⟩ := foc_T C x0 true c4
            refine rw_aload_n (pc := 44) dL_tick_44 rfl ?_
            refine rw_getR (pc := 45) (x := some 28) flL_36_L dL_tick_45 (cs_o hc (by omega) (by omega)) (cs_S1 hc) (cr_1_2 hc) ?_
            refine rw_iload_n (pc := 48) dL_tick_48 rfl ?_
            refine rw_aald (pc := 49) (v := some (29 + 11 * x0)) (i := x0) (t := 6) rfl ⟨rfl, by decide⟩ dL_tick_49 (cs_o hc (by omega) (by omega)) (cs_S28 hc) (ix_nI (by omega) (by decide)) (cr_28 hc (by omega)) ?_
            refine rw_dup (pc := 50) dL_tick_50 ?_
            refine rw_getI (pc := 51) (x := nw) flL_137_C dL_tick_51 (cs_o hc (by omega) (by omega)) (cs_SC hc (by omega)) (cv_C1 hc (by omega)).2.2.1 ?_
            refine rw_iload_n (pc := 54) dL_tick_54 rfl ?_
            refine rw_iadd (pc := 55) (v := nw + (nI k)) dL_tick_55 rfl ?_
            refine rw_putI (pc := 56) pfL_137_C dL_tick_56 (cs_o hc (by omega) (by omega)) (cs_SC hc (by omega)) ?_
            replace hc := wc_nw hc (by omega) (nw + (nI k))
            replace hf := le_tr hf (le_sI (h := h) (A := (29 + 11 * x0)) (k := 7) (v := (nw + (nI k))) (by omega))
            generalize hp_sI h (29 + 11 * x0) 7 (nw + (nI k)) = g8 at hc hf ⊢
            refine rw_iconst (pc := 59) (x := nI 1) dL_tick_59 (by decide) ?_
            exact rw_zret (pc := 60) dL_tick_60 rfl (Or.inr rfl) ⟨_, rfl, po_tkc hM hj hk1 hk2 hc hf⟩
          · skip
            replace c7 : x0 = 3 := (nI_eq (a := x0) (b := 3) (by omega) (by omega)).mp c7
            obtain rfl : x0 = 3 := c7
            rw [nu_3] at c4
            subst c4
            refine rw_aload_n (pc := 33) dL_tick_33 rfl ?_
            refine rw_getR (pc := 34) (x := some 4) flL_30_L dL_tick_34 (cs_o hc (by omega) (by omega)) (cs_S1 hc) (cr_1_1 hc) ?_
            refine rw_iload_n (pc := 37) dL_tick_37 rfl ?_
            refine rw_vv (pc := 38) (z' := (5, 24, 132)) (rc' := 3) (rs' := 12) (av := [.inl (nI k)]) (st := []) (ci := 2) mlL_134 miS_advance rfl mvS_advance_S dL_tick_38 (cs_o hc (by omega) (by omega)) (cs_S4 hc) (cS_advance G _ hc hk2) rfl rfl (Nat.le_of_ble_eq_true rfl) (Nat.le_of_ble_eq_true rfl) rfl rfl (fun h9 q9 => ?_)
            obtain ⟨hc, hf1⟩ := q9
            replace hf := le_tr hf hf1
            refine rw_goto (pc := 41) dL_tick_41 (tgt := 59) rfl ?_
            refine rw_iconst (pc := 59) (x := nI 1) dL_tick_59 (by decide) ?_
            exact rw_zret (pc := 60) dL_tick_60 rfl (Or.inr rfl) ⟨_, rfl, po_tk3 hM hk1 hk2 hc hf⟩
        · skip
          refine rw_iconst (pc := 26) (x := nI 0) dL_tick_26 (by decide) ?_
          exact rw_zret (pc := 27) dL_tick_27 rfl (Or.inl rfl) ⟨_, rfl, po_tk_no hc hM (Or.inr (Or.inr (Or.inl (Int32.not_le.mp c6))))⟩
theorem cL_crash (G : mt_G) (h : ha_H) {L : Nat} {n : List ab_M} {su : Bool} {sn : Int32} {sg : Bool} {se : Int32} {pg : Nat → Nat → Int32} {md : Nat → Nat → Nat} {en : Nat → Nat → Int32} {sd : Nat → Option ab_M} {ln : Nat → List ab_M} {C : Nat → ab_C} {K : Nat} (hc : CV L n su sn sg se pg md en sd ln C h) (hM : MV K L n su sn sg se pg md en sd ln C h) (hK : K < 2 ^ 20) (x : Int32) : rn_M G xL_crash (6, 27, 144) [.inr (some 1), .inl x] h (rn_i (PO K (fun g => m_crash g x) h)) := by
  have hf := le_rf h
  refine rn_of (by decide +kernel) (Nat.le_of_ble_eq_true rfl) ?_
  show rn_W G xL_crash (6, 27, 144) 27 144 0 [some (.inr (some 1)), some (.inl x)] [] h _
  refine rw_iload_n (pc := 0) dL_crash_0 rfl ?_
  refine rw_si (pc := 1) (z' := (1, 0, 0)) (rc' := 27) (rs' := 144) (av := [.inl x]) (st := []) mlL_128 msL_isNode dL_crash_1 (cL_isNode G _ _) rfl rfl (Nat.le_of_ble_eq_true rfl) (by decide) rfl rfl (fun r1 h1 q1 => ?_)
  obtain ⟨rfl, rfl⟩ := q1
  refine rw_ifeq (pc := 4) dL_crash_4 (tgt := 15) rfl (fun c2 => ?_) (fun c2 => ?_)
  · skip
    replace c2 : (mi_ib x 3) = false := (m_bi0 _).mp c2
    refine rw_iconst (pc := 15) (x := nI 0) dL_crash_15 (by decide) ?_
    exact rw_zret (pc := 16) dL_crash_16 rfl (Or.inl rfl) ⟨_, rfl, po_cr_no hc hM (Or.inl c2)⟩
  · skip
    replace c2 : (mi_ib x 3) = true := mb_T c2
    obtain ⟨x0, hx3, rfl⟩ := mi_ibT (by omega) c2
    refine rw_aload_n (pc := 7) dL_crash_7 rfl ?_
    refine rw_iload_n (pc := 8) dL_crash_8 rfl ?_
    refine rw_vi (pc := 9) (z' := (0, 0, 0)) (rc' := 27) (rs' := 144) (av := [.inl (nI x0)]) (st := []) (ci := 0) mlL_131 miL_isUp rfl mvL_isUp_L dL_crash_9 (cs_o hc (by omega) (by omega)) (cs_S1 hc) (cL_isUp G _ hc hx3) rfl rfl (Nat.le_of_ble_eq_true rfl) (Nat.le_of_ble_eq_true rfl) rfl rfl (fun r3 h3 q3 => ?_)
    obtain ⟨rfl, rfl⟩ := q3
    refine rw_ifne (pc := 12) dL_crash_12 (tgt := 17) rfl (fun c4 => ?_) (fun c4 => ?_)
    · skip
      replace c4 : (f_nu su C x0) = true := mb_T c4
      refine rw_iload_n (pc := 17) dL_crash_17 rfl ?_
      refine rw_iconst (pc := 18) (x := nI 3) dL_crash_18 (by decide) ?_
      refine rw_icmpne (pc := 19) dL_crash_19 (tgt := 32) rfl (fun c5 => ?_) (fun c5 => ?_)
      · skip
        replace c5 : ¬ (x0 = 3) := fun qz => c5 ((nI_eq (a := x0) (b := 3) (by omega) (by omega)).mpr qz)
        have hj : x0 < 3 := by omega
        rw [nu_c _ _ hj] at c4
        obtain ⟨C1, nw, nu, op, si, cp, wr, rfl⟩ := foc_T C x0 true c4
        refine rw_aload_n (pc := 32) dL_crash_32 rfl ?_
        refine rw_getR (pc := 33) (x := some 28) flL_36_L dL_crash_33 (cs_o hc (by omega) (by omega)) (cs_S1 hc) (cr_1_2 hc) ?_
        refine rw_iload_n (pc := 36) dL_crash_36 rfl ?_
        refine rw_aald (pc := 37) (v := some (29 + 11 * x0)) (i := x0) (t := 6) rfl ⟨rfl, by decide⟩ dL_crash_37 (cs_o hc (by omega) (by omega)) (cs_S28 hc) (ix_nI (by omega) (by decide)) (cr_28 hc (by omega)) ?_
        refine rw_vv (pc := 38) (z' := (2, 0, 0)) (rc' := 27) (rs' := 144) (av := []) (st := []) (ci := 4) mlL_143 miC_goDown rfl mvC_goDown_C dL_crash_38 (cs_o hc (by omega) (by omega)) (cs_SC hc (by omega)) (cC_goDown G _ hc hj) rfl rfl (Nat.le_of_ble_eq_true rfl) (Nat.le_of_ble_eq_true rfl) rfl rfl (fun h6 q6 => ?_)
        obtain ⟨hc, hf1⟩ := q6
        replace hf := le_tr hf hf1
        refine rw_iconst (pc := 41) (x := nI 1) dL_crash_41 (by decide) ?_
        exact rw_zret (pc := 42) dL_crash_42 rfl (Or.inr rfl) ⟨_, rfl, po_crc hM hj hc hf⟩
      · skip
        replace c5 : x0 = 3 := (nI_eq (a := x0) (b := 3) (by omega) (by omega)).mp c5
        obtain rfl : x0 = 3 := c5
        rw [nu_3] at c4
        subst c4
        refine rw_aload_n (pc := 22) dL_crash_22 rfl ?_
        refine rw_getR (pc := 23) (x := some 4) flL_30_L dL_crash_23 (cs_o hc (by omega) (by omega)) (cs_S1 hc) (cr_1_1 hc) ?_
        refine rw_vv (pc := 26) (z' := (1, 0, 0)) (rc' := 27) (rs' := 144) (av := []) (st := []) (ci := 2) mlL_140 miS_goDown rfl mvS_goDown_S dL_crash_26 (cs_o hc (by omega) (by omega)) (cs_S4 hc) (cS_goDown G _ hc) rfl rfl (Nat.le_of_ble_eq_true rfl) (Nat.le_of_ble_eq_true rfl) rfl rfl (fun h7 q7 => ?_)
        obtain ⟨hc, hf1⟩ := q7
        replace hf := le_tr hf hf1
        refine rw_goto (pc := 29) dL_crash_29 (tgt := 41) rfl ?_
        refine rw_iconst (pc := 41) (x := nI 1) dL_crash_41 (by decide) ?_
        exact rw_zret (pc := 42) dL_crash_42 rfl (Or.inr rfl) ⟨_, rfl, po_cr3 hM hc hf⟩
    · skip
      replace c4 : (f_nu su C x0) = false := (m_bi0 _).mp c4
      refine rw_iconst (pc := 15) (x := nI 0) dL_crash_15 (by decide) ?_
      exact rw_zret (pc := 16) dL_crash_16 rfl (Or.inl rfl) ⟨_, rfl, po_cr_no hc hM (Or.inr ⟨x0, rfl, hx3, c4⟩)⟩
theorem cL_restart (G : mt_G) (h : ha_H) {L : Nat} {n : List ab_M} {su : Bool} {sn : Int32} {sg : Bool} {se : Int32} {pg : Nat → Nat → Int32} {md : Nat → Nat → Nat} {en : Nat → Nat → Int32} {sd : Nat → Option ab_M} {ln : Nat → List ab_M} {C : Nat → ab_C} {K : Nat} (hc : CV L n su sn sg se pg md en sd ln C h) (hM : MV K L n su sn sg se pg md en sd ln C h) (hK : K < 2 ^ 20) (x : Int32) : rn_M G xL_restart (6, 27, 144) [.inr (some 1), .inl x] h (rn_i (PO K (fun g => m_restart g x) h)) := by
  have hf := le_rf h
  refine rn_of (by decide +kernel) (Nat.le_of_ble_eq_true rfl) ?_
  show rn_W G xL_restart (6, 27, 144) 27 144 0 [some (.inr (some 1)), some (.inl x)] [] h _
  refine rw_iload_n (pc := 0) dL_restart_0 rfl ?_
  refine rw_si (pc := 1) (z' := (1, 0, 0)) (rc' := 27) (rs' := 144) (av := [.inl x]) (st := []) mlL_128 msL_isNode dL_restart_1 (cL_isNode G _ _) rfl rfl (Nat.le_of_ble_eq_true rfl) (by decide) rfl rfl (fun r1 h1 q1 => ?_)
  obtain ⟨rfl, rfl⟩ := q1
  refine rw_ifeq (pc := 4) dL_restart_4 (tgt := 15) rfl (fun c2 => ?_) (fun c2 => ?_)
  · skip
    replace c2 : (mi_ib x 3) = false := (m_bi0 _).mp c2
    refine rw_iconst (pc := 15) (x := nI 0) dL_restart_15 (by decide) ?_
    exact rw_zret (pc := 16) dL_restart_16 rfl (Or.inl rfl) ⟨_, rfl, po_rs_no hc hM (Or.inl c2)⟩
  · skip
    replace c2 : (mi_ib x 3) = true := mb_T c2
    obtain ⟨x0, hx3, rfl⟩ := mi_ibT (by omega) c2
    refine rw_aload_n (pc := 7) dL_restart_7 rfl ?_
    refine rw_iload_n (pc := 8) dL_restart_8 rfl ?_
    refine rw_vi (pc := 9) (z' := (0, 0, 0)) (rc' := 27) (rs' := 144) (av := [.inl (nI x0)]) (st := []) (ci := 0) mlL_131 miL_isUp rfl mvL_isUp_L dL_restart_9 (cs_o hc (by omega) (by omega)) (cs_S1 hc) (cL_isUp G _ hc hx3) rfl rfl (Nat.le_of_ble_eq_true rfl) (Nat.le_of_ble_eq_true rfl) rfl rfl (fun r3 h3 q3 => ?_)
    obtain ⟨rfl, rfl⟩ := q3
    refine rw_ifeq (pc := 12) dL_restart_12 (tgt := 17) rfl (fun c4 => ?_) (fun c4 => ?_)
    · skip
      replace c4 : (f_nu su C x0) = false := (m_bi0 _).mp c4
      refine rw_iload_n (pc := 17) dL_restart_17 rfl ?_
      refine rw_iconst (pc := 18) (x := nI 3) dL_restart_18 (by decide) ?_
      refine rw_icmpne (pc := 19) dL_restart_19 (tgt := 32) rfl (fun c5 => ?_) (fun c5 => ?_)
      · skip
        replace c5 : ¬ (x0 = 3) := fun qz => c5 ((nI_eq (a := x0) (b := 3) (by omega) (by omega)).mpr qz)
        have hj : x0 < 3 := by omega
        rw [nu_c _ _ hj] at c4
        obtain ⟨C1, nw, nu, op, si, cp, wr, rfl⟩ := foc_T C x0 false c4
        refine rw_aload_n (pc := 32) dL_restart_32 rfl ?_
        refine rw_getR (pc := 33) (x := some 28) flL_36_L dL_restart_33 (cs_o hc (by omega) (by omega)) (cs_S1 hc) (cr_1_2 hc) ?_
        refine rw_iload_n (pc := 36) dL_restart_36 rfl ?_
        refine rw_aald (pc := 37) (v := some (29 + 11 * x0)) (i := x0) (t := 6) rfl ⟨rfl, by decide⟩ dL_restart_37 (cs_o hc (by omega) (by omega)) (cs_S28 hc) (ix_nI (by omega) (by decide)) (cr_28 hc (by omega)) ?_
        refine rw_iconst (pc := 38) (x := nI 1) dL_restart_38 (by decide) ?_
        refine rw_putZ (pc := 39) pfL_147_C dL_restart_39 (cs_o hc (by omega) (by omega)) (cs_SC hc (by omega)) (Or.inr rfl) ?_
        replace hc := wc_up hc (by omega) true
        replace hf := le_tr hf (le_sI (h := h) (A := (29 + 11 * x0)) (k := 6) (v := (m_bi true)) (by omega))
        show rn_W G xL_restart (6, 27, 144) 27 144 42 [some (.inr (some 1)), some (.inl (nI x0))] [] (hp_sI h (29 + 11 * x0) 6 (m_bi true)) _
        generalize hp_sI h (29 + 11 * x0) 6 (m_bi true) = g6 at hc hf ⊢
        refine rw_iconst (pc := 42) (x := nI 1) dL_restart_42 (by decide) ?_
        exact rw_zret (pc := 43) dL_restart_43 rfl (Or.inr rfl) ⟨_, rfl, po_rsc hM hj hc hf⟩
      · skip
        replace c5 : x0 = 3 := (nI_eq (a := x0) (b := 3) (by omega) (by omega)).mp c5
        obtain rfl : x0 = 3 := c5
        rw [nu_3] at c4
        subst c4
        refine rw_aload_n (pc := 22) dL_restart_22 rfl ?_
        refine rw_getR (pc := 23) (x := some 4) flL_30_L dL_restart_23 (cs_o hc (by omega) (by omega)) (cs_S1 hc) (cr_1_1 hc) ?_
        refine rw_vv (pc := 26) (z' := (0, 0, 0)) (rc' := 27) (rs' := 144) (av := []) (st := []) (ci := 2) mlL_144 miS_comeUp rfl mvS_comeUp_S dL_restart_26 (cs_o hc (by omega) (by omega)) (cs_S4 hc) (cS_comeUp G _ hc) rfl rfl (Nat.le_of_ble_eq_true rfl) (Nat.le_of_ble_eq_true rfl) rfl rfl (fun h7 q7 => ?_)
        obtain ⟨hc, hf1⟩ := q7
        replace hf := le_tr hf hf1
        refine rw_goto (pc := 29) dL_restart_29 (tgt := 42) rfl ?_
        refine rw_iconst (pc := 42) (x := nI 1) dL_restart_42 (by decide) ?_
        exact rw_zret (pc := 43) dL_restart_43 rfl (Or.inr rfl) ⟨_, rfl, po_rs3 hM hK (cp_L hc).2.1.1 (cp_L hc).2.1.2 hc hf⟩
    · skip
      replace c4 : (f_nu su C x0) = true := mb_T c4
      refine rw_iconst (pc := 15) (x := nI 0) dL_restart_15 (by decide) ?_
      exact rw_zret (pc := 16) dL_restart_16 rfl (Or.inl rfl) ⟨_, rfl, po_rs_no hc hM (Or.inr ⟨x0, rfl, hx3, c4⟩)⟩
theorem cL_clock (G : mt_G) (h : ha_H) {L : Nat} {n : List ab_M} {su : Bool} {sn : Int32} {sg : Bool} {se : Int32} {pg : Nat → Nat → Int32} {md : Nat → Nat → Nat} {en : Nat → Nat → Int32} {sd : Nat → Option ab_M} {ln : Nat → List ab_M} {C : Nat → ab_C} {K : Nat} (hc : CV L n su sn sg se pg md en sd ln C h) (hM : MV K L n su sn sg se pg md en sd ln C h) (hK : K < 2 ^ 20) (x : Int32) : rn_M G xL_clock (6, 27, 144) [.inr (some 1), .inl x] h (rn_i (PO K (fun g => (m_clock g x, g)) h)) := by
  have hf := le_rf h
  refine rn_of (by decide +kernel) (Nat.le_of_ble_eq_true rfl) ?_
  show rn_W G xL_clock (6, 27, 144) 27 144 0 [some (.inr (some 1)), some (.inl x)] [] h _
  refine rw_iload_n (pc := 0) dL_clock_0 rfl ?_
  refine rw_si (pc := 1) (z' := (1, 0, 0)) (rc' := 27) (rs' := 144) (av := [.inl x]) (st := []) mlL_128 msL_isNode dL_clock_1 (cL_isNode G _ _) rfl rfl (Nat.le_of_ble_eq_true rfl) (by decide) rfl rfl (fun r1 h1 q1 => ?_)
  obtain ⟨rfl, rfl⟩ := q1
  refine rw_ifne (pc := 4) dL_clock_4 (tgt := 9) rfl (fun c2 => ?_) (fun c2 => ?_)
  · skip
    replace c2 : (mi_ib x 3) = true := mb_T c2
    obtain ⟨x0, hx3, rfl⟩ := mi_ibT (by omega) c2
    refine rw_iload_n (pc := 9) dL_clock_9 rfl ?_
    refine rw_iconst (pc := 10) (x := nI 3) dL_clock_10 (by decide) ?_
    refine rw_icmpne (pc := 11) dL_clock_11 (tgt := 24) rfl (fun c3 => ?_) (fun c3 => ?_)
    · skip
      replace c3 : ¬ (x0 = 3) := fun qz => c3 ((nI_eq (a := x0) (b := 3) (by omega) (by omega)).mpr qz)
      have hj : x0 < 3 := by omega
      obtain ⟨C1, up, nw, nu, op, si, cp, wr, rfl⟩ := foc_C C x0
      refine rw_aload_n (pc := 24) dL_clock_24 rfl ?_
      refine rw_getR (pc := 25) (x := some 28) flL_36_L dL_clock_25 (cs_o hc (by omega) (by omega)) (cs_S1 hc) (cr_1_2 hc) ?_
      refine rw_iload_n (pc := 28) dL_clock_28 rfl ?_
      refine rw_aald (pc := 29) (v := some (29 + 11 * x0)) (i := x0) (t := 6) rfl ⟨rfl, by decide⟩ dL_clock_29 (cs_o hc (by omega) (by omega)) (cs_S28 hc) (ix_nI (by omega) (by decide)) (cr_28 hc (by omega)) ?_
      refine rw_getI (pc := 30) (x := nw) flL_137_C dL_clock_30 (cs_o hc (by omega) (by omega)) (cs_SC hc (by omega)) (cv_C1 hc (by omega)).2.2.1 ?_
      have hP := po_ck hc hM hx3
      rw [if_neg (by omega), fu_at] at hP
      exact rw_iret (pc := 33) dL_clock_33 rfl ⟨_, rfl, hP⟩
    · skip
      replace c3 : x0 = 3 := (nI_eq (a := x0) (b := 3) (by omega) (by omega)).mp c3
      obtain rfl : x0 = 3 := c3
      refine rw_aload_n (pc := 14) dL_clock_14 rfl ?_
      refine rw_getR (pc := 15) (x := some 4) flL_30_L dL_clock_15 (cs_o hc (by omega) (by omega)) (cs_S1 hc) (cr_1_1 hc) ?_
      refine rw_getI (pc := 18) (x := sn) flL_151_S dL_clock_18 (cs_o hc (by omega) (by omega)) (cs_S4 hc) (cp_sn hc) ?_
      refine rw_goto (pc := 21) dL_clock_21 (tgt := 33) rfl ?_
      have hP := po_ck hc hM hx3
      rw [if_pos rfl] at hP
      exact rw_iret (pc := 33) dL_clock_33 rfl ⟨_, rfl, hP⟩
  · skip
    replace c2 : (mi_ib x 3) = false := (m_bi0 _).mp c2
    refine rw_iconst (pc := 7) (x := (-1)) dL_clock_7 (by decide) ?_
    exact rw_iret (pc := 8) dL_clock_8 rfl ⟨_, rfl, po_ck_no hc hM c2⟩
theorem cL_lease (G : mt_G) (h : ha_H) {L : Nat} {n : List ab_M} {su : Bool} {sn : Int32} {sg : Bool} {se : Int32} {pg : Nat → Nat → Int32} {md : Nat → Nat → Nat} {en : Nat → Nat → Int32} {sd : Nat → Option ab_M} {ln : Nat → List ab_M} {C : Nat → ab_C} {K : Nat} (hc : CV L n su sn sg se pg md en sd ln C h) (hM : MV K L n su sn sg se pg md en sd ln C h) (hK : K < 2 ^ 20) (c f : Int32) : rn_M G xL_lease (6, 27, 144) [.inr (some 1), .inl c, .inl f] h (rn_i (PO K (fun g => (m_lease g c f, g)) h)) := by
  have hf := le_rf h
  refine rn_of (by decide +kernel) (Nat.le_of_ble_eq_true rfl) ?_
  show rn_W G xL_lease (6, 27, 144) 27 144 0 [some (.inr (some 1)), some (.inl c), some (.inl f), none] [] h _
  refine rw_aload_n (pc := 0) dL_lease_0 rfl ?_
  refine rw_iload_n (pc := 1) dL_lease_1 rfl ?_
  refine rw_vr (pc := 2) (z' := (1, 0, 0)) (rc' := 27) (rs' := 144) (av := [.inl c]) (st := []) (ci := 0) mlL_43 miL_clientThatIsUp rfl mvL_clientThatIsUp_L dL_lease_2 (cs_o hc (by omega) (by omega)) (cs_S1 hc) (cL_clientThatIsUp G _ hc _) rfl rfl (Nat.le_of_ble_eq_true rfl) (by decide) rfl rfl (fun r1 h1 q1 => ?_)
  obtain ⟨rfl, q1⟩ := q1
  rcases q1 with ⟨hcu, rfl⟩ | ⟨j, hj, rfl, hup, rfl⟩
  · skip
    refine rw_astore_n (pc := 5) (L' := [some (.inr (some 1)), some (.inl c), some (.inl f), some (.inr none)]) dL_lease_5 (by decide) rfl ?_
    refine rw_aload_n (pc := 6) dL_lease_6 rfl ?_
    refine rw_ifnull (pc := 7) dL_lease_7 (tgt := 17) rfl (fun c2 => ?_) (fun rc2 c2 => ?_)
    · skip
      refine rw_iconst (pc := 17) (x := (-1)) dL_lease_17 (by decide) ?_
      refine rw_goto (pc := 18) dL_lease_18 (tgt := 26) rfl ?_
      exact rw_iret (pc := 26) dL_lease_26 rfl ⟨_, rfl, po_ls_no hc hM (Or.inl hcu)⟩
    · skip
      cases c2
  · skip
    obtain ⟨C1, nw, nu, op, si, cp, wr, rfl⟩ := foc_T C j true hup
    refine rw_astore_n (pc := 5) (L' := [some (.inr (some 1)), some (.inl (nI j)), some (.inl f), some (.inr (some (29 + 11 * j)))]) dL_lease_5 (by decide) rfl ?_
    refine rw_aload_n (pc := 6) dL_lease_6 rfl ?_
    refine rw_ifnull (pc := 7) dL_lease_7 (tgt := 17) rfl (fun c3 => ?_) (fun rc3 c3 => ?_)
    · skip
      cases c3
    · skip
      refine rw_iload_n (pc := 10) dL_lease_10 rfl ?_
      refine rw_si (pc := 11) (z' := (0, 0, 0)) (rc' := 27) (rs' := 144) (av := [.inl f]) (st := []) mlL_47 msL_isFile dL_lease_11 (cL_isFile G _ _) rfl rfl (Nat.le_of_ble_eq_true rfl) (by decide) rfl rfl (fun r4 h4 q4 => ?_)
      obtain ⟨rfl, rfl⟩ := q4
      refine rw_ifne (pc := 14) dL_lease_14 (tgt := 21) rfl (fun c5 => ?_) (fun c5 => ?_)
      · skip
        replace c5 : (mi_ib f 3) = true := mb_T c5
        obtain ⟨i, hi, rfl⟩ := mi_ibT (by omega) c5
        have hf4 : i < 4 := by omega
        refine rw_aload_n (pc := 21) dL_lease_21 rfl ?_
        refine rw_iload_n (pc := 22) dL_lease_22 rfl ?_
        obtain ⟨cp1, mo, ti, re, lo, ps, rfl⟩ := foc_P cp i
        refine rw_vi (pc := 23) (z' := (1, 0, 0)) (rc' := 27) (rs' := 144) (av := [.inl (nI i)]) (st := []) (ci := 4) mlL_152 miC_leaseAndMarks rfl mvC_leaseAndMarks_C dL_lease_23 (cs_o hc (by omega) (by omega)) (cs_SC hc (by omega)) (cC_leaseAndMarks G _ hc hj hf4) rfl rfl (Nat.le_of_ble_eq_true rfl) (Nat.le_of_ble_eq_true rfl) rfl rfl (fun r6 h6 q6 => ?_)
        obtain ⟨rfl, rfl⟩ := q6
        exact rw_iret (pc := 26) dL_lease_26 rfl ⟨_, rfl, po_ls hc hM hj hf4⟩
      · skip
        replace c5 : (mi_ib f 3) = false := (m_bi0 _).mp c5
        refine rw_iconst (pc := 17) (x := (-1)) dL_lease_17 (by decide) ?_
        refine rw_goto (pc := 18) dL_lease_18 (tgt := 26) rfl ?_
        exact rw_iret (pc := 26) dL_lease_26 rfl ⟨_, rfl, po_ls_no hc hM (Or.inr c5)⟩
theorem cL_dirty (G : mt_G) (h : ha_H) {L : Nat} {n : List ab_M} {su : Bool} {sn : Int32} {sg : Bool} {se : Int32} {pg : Nat → Nat → Int32} {md : Nat → Nat → Nat} {en : Nat → Nat → Int32} {sd : Nat → Option ab_M} {ln : Nat → List ab_M} {C : Nat → ab_C} {K : Nat} (hc : CV L n su sn sg se pg md en sd ln C h) (hM : MV K L n su sn sg se pg md en sd ln C h) (hK : K < 2 ^ 20) (c : Int32) : rn_M G xL_dirty (6, 27, 144) [.inr (some 1), .inl c] h (rn_i (PO K (fun g => (m_dirty g c, g)) h)) := by
  have hf := le_rf h
  refine rn_of (by decide +kernel) (Nat.le_of_ble_eq_true rfl) ?_
  show rn_W G xL_dirty (6, 27, 144) 27 144 0 [some (.inr (some 1)), some (.inl c), none] [] h _
  refine rw_aload_n (pc := 0) dL_dirty_0 rfl ?_
  refine rw_iload_n (pc := 1) dL_dirty_1 rfl ?_
  refine rw_vr (pc := 2) (z' := (1, 0, 0)) (rc' := 27) (rs' := 144) (av := [.inl c]) (st := []) (ci := 0) mlL_43 miL_clientThatIsUp rfl mvL_clientThatIsUp_L dL_dirty_2 (cs_o hc (by omega) (by omega)) (cs_S1 hc) (cL_clientThatIsUp G _ hc _) rfl rfl (Nat.le_of_ble_eq_true rfl) (by decide) rfl rfl (fun r1 h1 q1 => ?_)
  obtain ⟨rfl, q1⟩ := q1
  rcases q1 with ⟨hcu, rfl⟩ | ⟨j, hj, rfl, hup, rfl⟩
  · skip
    refine rw_astore_n (pc := 5) (L' := [some (.inr (some 1)), some (.inl c), some (.inr none)]) dL_dirty_5 (by decide) rfl ?_
    refine rw_aload_n (pc := 6) dL_dirty_6 rfl ?_
    refine rw_ifnonnull (pc := 7) dL_dirty_7 (tgt := 14) rfl (fun rc2 c2 => ?_) (fun c2 => ?_)
    · skip
      cases c2
    · skip
      refine rw_iconst (pc := 10) (x := (-1)) dL_dirty_10 (by decide) ?_
      refine rw_goto (pc := 11) dL_dirty_11 (tgt := 18) rfl ?_
      exact rw_iret (pc := 18) dL_dirty_18 rfl ⟨_, rfl, po_dt_no hc hM hcu⟩
  · skip
    obtain ⟨C1, nw, nu, op, si, cp, wr, rfl⟩ := foc_T C j true hup
    refine rw_astore_n (pc := 5) (L' := [some (.inr (some 1)), some (.inl (nI j)), some (.inr (some (29 + 11 * j)))]) dL_dirty_5 (by decide) rfl ?_
    refine rw_aload_n (pc := 6) dL_dirty_6 rfl ?_
    refine rw_ifnonnull (pc := 7) dL_dirty_7 (tgt := 14) rfl (fun rc3 c3 => ?_) (fun c3 => ?_)
    · skip
      refine rw_aload_n (pc := 14) dL_dirty_14 rfl ?_
      refine rw_getI (pc := 15) (x := nI wr.length) flL_155_C dL_dirty_15 (cs_o hc (by omega) (by omega)) (cs_SC hc (by omega)) (cv_C1 hc (by omega)).2.2.2.2.2.2.2.1.1 ?_
      exact rw_iret (pc := 18) dL_dirty_18 rfl ⟨_, rfl, po_dt hc hM hj⟩
    · skip
      cases c3
theorem cL_held (G : mt_G) (h : ha_H) {L : Nat} {n : List ab_M} {su : Bool} {sn : Int32} {sg : Bool} {se : Int32} {pg : Nat → Nat → Int32} {md : Nat → Nat → Nat} {en : Nat → Nat → Int32} {sd : Nat → Option ab_M} {ln : Nat → List ab_M} {C : Nat → ab_C} {K : Nat} (hc : CV L n su sn sg se pg md en sd ln C h) (hM : MV K L n su sn sg se pg md en sd ln C h) (hK : K < 2 ^ 20) (c f : Int32) : rn_M G xL_held (6, 27, 144) [.inr (some 1), .inl c, .inl f] h (rn_i (PO K (fun g => (m_held g c f, g)) h)) := by
  have hf := le_rf h
  refine rn_of (by decide +kernel) (Nat.le_of_ble_eq_true rfl) ?_
  show rn_W G xL_held (6, 27, 144) 27 144 0 [some (.inr (some 1)), some (.inl c), some (.inl f)] [] h _
  refine rw_iload_n (pc := 0) dL_held_0 rfl ?_
  refine rw_si (pc := 1) (z' := (0, 0, 0)) (rc' := 27) (rs' := 144) (av := [.inl c]) (st := []) mlL_158 msL_isClient dL_held_1 (cL_isClient G _ _) rfl rfl (Nat.le_of_ble_eq_true rfl) (by decide) rfl rfl (fun r1 h1 q1 => ?_)
  obtain ⟨rfl, rfl⟩ := q1
  refine rw_ifeq (pc := 4) dL_held_4 (tgt := 26) rfl (fun c2 => ?_) (fun c2 => ?_)
  · skip
    replace c2 : (mi_ib c 2) = false := (m_bi0 _).mp c2
    refine rw_iconst (pc := 26) (x := (-1)) dL_held_26 (by decide) ?_
    exact rw_iret (pc := 27) dL_held_27 rfl ⟨_, rfl, po_hd_no hc hM (Or.inl c2)⟩
  · skip
    replace c2 : (mi_ib c 2) = true := mb_T c2
    obtain ⟨j, hj, rfl⟩ := mi_ibT (by omega) c2
    have hj4 : j < 3 := by omega
    refine rw_iload_n (pc := 7) dL_held_7 rfl ?_
    refine rw_si (pc := 8) (z' := (0, 0, 0)) (rc' := 27) (rs' := 144) (av := [.inl f]) (st := []) mlL_47 msL_isFile dL_held_8 (cL_isFile G _ _) rfl rfl (Nat.le_of_ble_eq_true rfl) (by decide) rfl rfl (fun r3 h3 q3 => ?_)
    obtain ⟨rfl, rfl⟩ := q3
    refine rw_ifeq (pc := 11) dL_held_11 (tgt := 26) rfl (fun c4 => ?_) (fun c4 => ?_)
    · skip
      replace c4 : (mi_ib f 3) = false := (m_bi0 _).mp c4
      refine rw_iconst (pc := 26) (x := (-1)) dL_held_26 (by decide) ?_
      exact rw_iret (pc := 27) dL_held_27 rfl ⟨_, rfl, po_hd_no hc hM (Or.inr c4)⟩
    · skip
      replace c4 : (mi_ib f 3) = true := mb_T c4
      obtain ⟨i, hi, rfl⟩ := mi_ibT (by omega) c4
      have hf4 : i < 4 := by omega
      refine rw_aload_n (pc := 14) dL_held_14 rfl ?_
      refine rw_getR (pc := 15) (x := some 4) flL_30_L dL_held_15 (cs_o hc (by omega) (by omega)) (cs_S1 hc) (cr_1_1 hc) ?_
      refine rw_iload_n (pc := 18) dL_held_18 rfl ?_
      refine rw_iload_n (pc := 19) dL_held_19 rfl ?_
      refine rw_vi (pc := 20) (z' := (1, 0, 0)) (rc' := 27) (rs' := 144) (av := [.inl (nI j), .inl (nI i)]) (st := []) (ci := 2) mlL_161 miS_leaseAndRest rfl mvS_leaseAndRest_S dL_held_20 (cs_o hc (by omega) (by omega)) (cs_S4 hc) (cS_leaseAndRest G _ hc hj4 hf4) rfl rfl (Nat.le_of_ble_eq_true rfl) (Nat.le_of_ble_eq_true rfl) rfl rfl (fun r5 h5 q5 => ?_)
      obtain ⟨rfl, rfl⟩ := q5
      refine rw_goto (pc := 23) dL_held_23 (tgt := 27) rfl ?_
      exact rw_iret (pc := 27) dL_held_27 rfl ⟨_, rfl, po_hd hc hM hj4 hf4⟩
theorem cL_waiting (G : mt_G) (h : ha_H) {L : Nat} {n : List ab_M} {su : Bool} {sn : Int32} {sg : Bool} {se : Int32} {pg : Nat → Nat → Int32} {md : Nat → Nat → Nat} {en : Nat → Nat → Int32} {sd : Nat → Option ab_M} {ln : Nat → List ab_M} {C : Nat → ab_C} {K : Nat} (hc : CV L n su sn sg se pg md en sd ln C h) (hM : MV K L n su sn sg se pg md en sd ln C h) (hK : K < 2 ^ 20) (f : Int32) : rn_M G xL_waiting (6, 27, 144) [.inr (some 1), .inl f] h (rn_i (PO K (fun g => (m_waiting g f, g)) h)) := by
  have hf := le_rf h
  refine rn_of (by decide +kernel) (Nat.le_of_ble_eq_true rfl) ?_
  show rn_W G xL_waiting (6, 27, 144) 27 144 0 [some (.inr (some 1)), some (.inl f)] [] h _
  refine rw_iload_n (pc := 0) dL_waiting_0 rfl ?_
  refine rw_si (pc := 1) (z' := (0, 0, 0)) (rc' := 27) (rs' := 144) (av := [.inl f]) (st := []) mlL_47 msL_isFile dL_waiting_1 (cL_isFile G _ _) rfl rfl (Nat.le_of_ble_eq_true rfl) (by decide) rfl rfl (fun r1 h1 q1 => ?_)
  obtain ⟨rfl, rfl⟩ := q1
  refine rw_ifeq (pc := 4) dL_waiting_4 (tgt := 22) rfl (fun c2 => ?_) (fun c2 => ?_)
  · skip
    replace c2 : (mi_ib f 3) = false := (m_bi0 _).mp c2
    refine rw_iconst (pc := 22) (x := (-1)) dL_waiting_22 (by decide) ?_
    exact rw_iret (pc := 23) dL_waiting_23 rfl ⟨_, rfl, po_wt_no hc hM c2⟩
  · skip
    replace c2 : (mi_ib f 3) = true := mb_T c2
    obtain ⟨i, hi, rfl⟩ := mi_ibT (by omega) c2
    have hf4 : i < 4 := by omega
    refine rw_aload_n (pc := 7) dL_waiting_7 rfl ?_
    refine rw_getR (pc := 8) (x := some 4) flL_30_L dL_waiting_8 (cs_o hc (by omega) (by omega)) (cs_S1 hc) (cr_1_1 hc) ?_
    refine rw_getR (pc := 11) (x := some 19) flL_164_S dL_waiting_11 (cs_o hc (by omega) (by omega)) (cs_S4 hc) (cr_4_6 hc) ?_
    refine rw_iload_n (pc := 14) dL_waiting_14 rfl ?_
    refine rw_aald (pc := 15) (v := some (20 + 2 * i)) (i := i) (t := 4) rfl ⟨rfl, by decide⟩ dL_waiting_15 (cs_o hc (by omega) (by omega)) (cs_S19 hc) (ix_nI (by omega) (by decide)) (cr_19 hc (by omega)) ?_
    refine rw_getI (pc := 16) (x := nI ((ln i).length)) flL_168_Q dL_waiting_16 (cs_o hc (by omega) (by omega)) (cs_SQ hc (by omega)) ((cp_ln hc) i (by omega)).1 ?_
    refine rw_goto (pc := 19) dL_waiting_19 (tgt := 23) rfl ?_
    exact rw_iret (pc := 23) dL_waiting_23 rfl ⟨_, rfl, po_wt hc hM hf4⟩
theorem cL_stored (G : mt_G) (h : ha_H) {L : Nat} {n : List ab_M} {su : Bool} {sn : Int32} {sg : Bool} {se : Int32} {pg : Nat → Nat → Int32} {md : Nat → Nat → Nat} {en : Nat → Nat → Int32} {sd : Nat → Option ab_M} {ln : Nat → List ab_M} {C : Nat → ab_C} {K : Nat} (hc : CV L n su sn sg se pg md en sd ln C h) (hM : MV K L n su sn sg se pg md en sd ln C h) (hK : K < 2 ^ 20) (f p : Int32) : rn_M G xL_stored (6, 27, 144) [.inr (some 1), .inl f, .inl p] h (rn_i (PO K (fun g => (m_stored g f p, g)) h)) := by
  have hf := le_rf h
  refine rn_of (by decide +kernel) (Nat.le_of_ble_eq_true rfl) ?_
  show rn_W G xL_stored (6, 27, 144) 27 144 0 [some (.inr (some 1)), some (.inl f), some (.inl p)] [] h _
  refine rw_iload_n (pc := 0) dL_stored_0 rfl ?_
  refine rw_si (pc := 1) (z' := (0, 0, 0)) (rc' := 27) (rs' := 144) (av := [.inl f]) (st := []) mlL_47 msL_isFile dL_stored_1 (cL_isFile G _ _) rfl rfl (Nat.le_of_ble_eq_true rfl) (by decide) rfl rfl (fun r1 h1 q1 => ?_)
  obtain ⟨rfl, rfl⟩ := q1
  refine rw_ifeq (pc := 4) dL_stored_4 (tgt := 28) rfl (fun c2 => ?_) (fun c2 => ?_)
  · skip
    replace c2 : (mi_ib f 3) = false := (m_bi0 _).mp c2
    refine rw_iconst (pc := 28) (x := nI 0) dL_stored_28 (by decide) ?_
    exact rw_iret (pc := 29) dL_stored_29 rfl ⟨_, rfl, po_sr_no hc hM (Or.inl c2)⟩
  · skip
    replace c2 : (mi_ib f 3) = true := mb_T c2
    obtain ⟨i, hi, rfl⟩ := mi_ibT (by omega) c2
    have hf4 : i < 4 := by omega
    refine rw_iload_n (pc := 7) dL_stored_7 rfl ?_
    refine rw_si (pc := 8) (z' := (0, 0, 0)) (rc' := 27) (rs' := 144) (av := [.inl p]) (st := []) mlL_58 msL_isPage dL_stored_8 (cL_isPage G _ _) rfl rfl (Nat.le_of_ble_eq_true rfl) (by decide) rfl rfl (fun r3 h3 q3 => ?_)
    obtain ⟨rfl, rfl⟩ := q3
    refine rw_ifeq (pc := 11) dL_stored_11 (tgt := 28) rfl (fun c4 => ?_) (fun c4 => ?_)
    · skip
      replace c4 : (mi_ib p 3) = false := (m_bi0 _).mp c4
      refine rw_iconst (pc := 28) (x := nI 0) dL_stored_28 (by decide) ?_
      exact rw_iret (pc := 29) dL_stored_29 rfl ⟨_, rfl, po_sr_no hc hM (Or.inr c4)⟩
    · skip
      replace c4 : (mi_ib p 3) = true := mb_T c4
      obtain ⟨q, hq, rfl⟩ := mi_ibT (by omega) c4
      have hp4 : q < 4 := by omega
      refine rw_aload_n (pc := 14) dL_stored_14 rfl ?_
      refine rw_getR (pc := 15) (x := some 4) flL_30_L dL_stored_15 (cs_o hc (by omega) (by omega)) (cs_S1 hc) (cr_1_1 hc) ?_
      refine rw_getR (pc := 18) (x := some 5) flL_173_S dL_stored_18 (cs_o hc (by omega) (by omega)) (cs_S4 hc) (cr_4_2 hc) ?_
      refine rw_iload_n (pc := 21) dL_stored_21 rfl ?_
      refine rw_aald (pc := 22) (v := some (6 + i)) (i := i) (t := 9) rfl ⟨rfl, by decide⟩ dL_stored_22 (cs_o hc (by omega) (by omega)) (cs_S5 hc) (ix_nI (by omega) (by decide)) (cr_5 hc (by omega)) ?_
      refine rw_iload_n (pc := 23) dL_stored_23 rfl ?_
      refine rw_iald (pc := 24) (v := pg i q) (i := q) dL_stored_24 (cs_o hc (by omega) (by omega)) (cs_Spg hc (by omega)) (ix_nI (by omega) (by decide)) ((cp_pg hc) _ _ (by omega) (by omega)) ?_
      refine rw_goto (pc := 25) dL_stored_25 (tgt := 29) rfl ?_
      exact rw_iret (pc := 29) dL_stored_29 rfl ⟨_, rfl, po_sr hc hM hf4 hp4⟩
