def mi_ib (x : Int32) (n : Nat) : Bool := !decide (mi_in x (nI 0) (nI n) = 0)
theorem mi_rng {x : Int32} {n : Nat} (hn : n < 1000) (c : ¬ mi_in x (nI 0) (nI n) = 0) : ∃ j, j ≤ n ∧ x = nI j := by
  unfold mi_in at c
  by_cases c1 : x < nI 0
  · rw [if_pos c1] at c
    exact absurd rfl c
  · rw [if_neg c1] at c
    by_cases c2 : nI n < x
    · rw [if_pos c2] at c
      exact absurd rfl c
    · obtain ⟨j, hj, rfl⟩ := nI_of (x := x) c1
      refine ⟨j, ?_, rfl⟩
      rw [nI_ltI (by omega) hj] at c2
      omega
theorem mi_rngI {j n : Nat} (hn : n < 1000) (hj : j ≤ n) : mi_in (nI j) (nI 0) (nI n) = 1 := by
  unfold mi_in
  rw [if_neg (by rw [nI_ltI (by omega) (by omega)]; omega), if_neg (by rw [nI_ltI (by omega) (by omega)]; omega)]
theorem mi_ibT {x : Int32} {n : Nat} (hn : n < 1000) (c : mi_ib x n = true) : ∃ j, j ≤ n ∧ x = nI j := mi_rng hn (by intro q; simp [mi_ib, q] at c)
theorem mi_ibI {j n : Nat} (hn : n < 1000) (hj : j ≤ n) : mi_ib (nI j) n = true := by
  unfold mi_ib
  rw [mi_rngI hn hj]
  decide
def m_wk (h : ha_H) (c : Int32) : Bool := mi_ib c 2 && decide (hp_I h 63 c.toNatClampNeg = 0)
theorem m_wkT {h : ha_H} {c : Int32} (e : m_wk h c = true) : ∃ j, j < 3 ∧ c = nI j ∧ hp_I h 63 j = 0 := by
  unfold m_wk at e
  rw [Bool.and_eq_true] at e
  obtain ⟨j, hj, rfl⟩ := mi_ibT (by decide) e.1
  refine ⟨j, by omega, rfl, ?_⟩
  have := of_decide_eq_true e.2
  rwa [nI_clamp (by omega)] at this
theorem cM_works (G : mt_G) (h : ha_H) (hm : mo_ok h) (c : Int32) : rn_M G xM_works (1, 0, 0) [.inr (some 62), .inl c] h (rn_i (fun r h' => r = m_bi (m_wk h c) ∧ h = h')) := by
  refine rn_of (by decide +kernel) (Nat.le_of_ble_eq_true rfl) ?_
  show rn_W G xM_works (1, 0, 0) 0 0 0 [some (.inr (some 62)), some (.inl c)] [] h _
  refine rw_iload_n (pc := 0) dM_works_0 rfl ?_
  refine rw_iconst (pc := 1) (x := nI 0) dM_works_1 (by decide) ?_
  refine rw_iconst (pc := 2) (x := nI 2) dM_works_2 (by decide) ?_
  refine rw_si (pc := 3) (z' := (0, 0, 0)) (rc' := 0) (rs' := 0) (av := [.inl c, .inl (nI 0), .inl (nI 2)]) (st := []) mlM_138 msM_in dM_works_3 (cM_in G _ _ _ _) rfl rfl (Nat.le_of_ble_eq_true rfl) (by decide) rfl rfl (fun r1 h1 q1 => ?_)
  obtain ⟨rfl, rfl⟩ := q1
  refine rw_ifeq (pc := 6) dM_works_6 (tgt := 22) rfl (fun c2 => ?_) (fun c2 => ?_)
  · skip
    refine rw_iconst (pc := 22) (x := nI 0) dM_works_22 (by decide) ?_
    exact rw_zret (pc := 23) dM_works_23 rfl (Or.inl rfl) ⟨_, rfl, by unfold m_wk mi_ib; simp [c2, m_bi], rfl⟩
  · skip
    obtain ⟨j, hj, rfl⟩ := mi_rng (by decide) c2
    refine rw_aload_n (pc := 9) dM_works_9 rfl ?_
    refine rw_getR (pc := 10) (x := some 63) flM_7_M dM_works_10 (mo_o62 hm) (mo_S62 hm) (mo_R63 hm) ?_
    refine rw_iload_n (pc := 13) dM_works_13 rfl ?_
    refine rw_zald (pc := 14) (v := hp_I h 63 j) (i := j) dM_works_14 (mo_o63 hm) (mo_S63 hm) (ix_nI (by omega) (by decide)) rfl ?_
    refine rw_ifne (pc := 15) dM_works_15 (tgt := 22) rfl (fun c3 => ?_) (fun c3 => ?_)
    · skip
      refine rw_iconst (pc := 22) (x := nI 0) dM_works_22 (by decide) ?_
      exact rw_zret (pc := 23) dM_works_23 rfl (Or.inl rfl) ⟨_, rfl, by unfold m_wk; rw [mi_ibI (by decide) hj, nI_clamp (by omega)]; simp [c3, m_bi], rfl⟩
    · skip
      refine rw_iconst (pc := 18) (x := nI 1) dM_works_18 (by decide) ?_
      refine rw_goto (pc := 19) dM_works_19 (tgt := 23) rfl ?_
      exact rw_zret (pc := 23) dM_works_23 rfl (Or.inr rfl) ⟨_, rfl, by unfold m_wk; rw [mi_ibI (by decide) hj, nI_clamp (by omega)]; simp [c3, m_bi], rfl⟩
def m_opH (h : ha_H) (c : Nat) (k f m : Int32) (cl : Bool) (nn ck : Int32) : ha_H := hp_sI (hp_sI (hp_sI (hp_sI (hp_sI (hp_sI h 78 c (nn + nI 1)) 87 c k) 88 c f) 89 c m) 90 c (m_bi cl)) 93 c ck
theorem m_op78 {h : ha_H} {c : Nat} {k f m : Int32} {cl : Bool} {nn ck : Int32} : hp_I (m_opH h c k f m cl nn ck) 78 c = nn + nI 1 := by
  unfold m_opH
  refine hI_sI (by decide) (hI_sI (by decide) (hI_sI (by decide) (hI_sI (by decide) (hI_sI (by decide) hI_set))))
theorem mI_opH {h : ha_H} (hi : mo_I h) {c : Nat} {k f m : Int32} {cl : Bool} {nn ck : Int32} : mo_I (m_opH h c k f m cl nn ck) ∧ m_u (m_opH h c k f m cl nn ck) = m_u h := by
  have h1 := mI_sI hi (a := 78) (k := c) (v := nn + nI 1) (by decide) (fun q => absurd q (by decide))
  have h2 := mI_sI h1.1 (a := 87) (k := c) (v := k) (by decide) (fun q => absurd q (by decide))
  have h3 := mI_sI h2.1 (a := 88) (k := c) (v := f) (by decide) (fun q => absurd q (by decide))
  have h4 := mI_sI h3.1 (a := 89) (k := c) (v := m) (by decide) (fun q => absurd q (by decide))
  have h5 := mI_sI h4.1 (a := 90) (k := c) (v := m_bi cl) (by decide) (fun _ => m_bi01 _)
  have h6 := mI_sI h5.1 (a := 93) (k := c) (v := ck) (by decide) (fun q => absurd q (by decide))
  exact ⟨h6.1, by rw [show m_u (m_opH h c k f m cl nn ck) = _ from h6.2, h5.2, h4.2, h3.2, h2.2, h1.2]⟩
theorem m_ask78 {h : ha_H} {u c j : Nat} : hp_I (m_ask h u c) 78 j = hp_I h 78 j := by
  unfold m_ask
  by_cases e : u = 60
  · rw [if_pos e]
  · rw [if_neg e]
    rfl
theorem mo_ask {h : ha_H} {u c : Nat} (hi : mo_I (m_ask h u c)) : mo_ok (m_ask h u c) := hi.1
def m_open (h : ha_H) (c : Nat) (k f m : Int32) (cl : Bool) : Int32 × ha_H := (hp_I h 78 c + nI 1, m_ask (m_opH h c k f m cl (hp_I h 78 c) (hp_I h 64 c)) (m_u h) c)
theorem mI_open {h : ha_H} (hi : mo_I h) {c : Nat} {k f m : Int32} {cl : Bool} : mo_I (m_open h c k f m cl).2 := by
  unfold m_open
  have h0 := mI_opH hi (c := c) (k := k) (f := f) (m := m) (cl := cl) (nn := hp_I h 78 c) (ck := hp_I h 64 c)
  have hz := (mI_ask h0.1 (c := c)).1
  rw [h0.2] at hz
  exact hz
theorem cM_open (G : mt_G) (h : ha_H) (hi : mo_I h) {c : Nat} (hc : c < 3) (k f m : Int32) (cl : Bool) : rn_M G xM_open (2, 0, 0) [.inr (some 62), .inl (nI c), .inl k, .inl f, .inl m, .inl (m_bi cl)] h (rn_i (fun r h' => r = (m_open h c k f m cl).1 ∧ (m_open h c k f m cl).2 = h')) := by
  have hm := hi.1
  have hb := hi.2.1
  have hu := hi.2.2.1
  have h60 := hi.2.2.2
  obtain ⟨nn, hn0⟩ : ∃ t, hp_I h 78 c = t := ⟨_, rfl⟩
  obtain ⟨ck, hk0⟩ : ∃ t, hp_I h 64 c = t := ⟨_, rfl⟩
  have hn := hn0
  have hk := hk0
  have hI0 := mI_opH hi (c := c) (k := k) (f := f) (m := m) (cl := cl) (nn := nn) (ck := ck)
  have hI : mo_I (m_ask (m_opH h c k f m cl nn ck) (m_u h) c) := by have hz := (mI_ask hI0.1 (c := c)).1; rw [hI0.2] at hz; exact hz
  have rfl_op : hp_I (m_opH h c k f m cl nn ck) 78 c = nn + nI 1 := m_op78
  refine rn_of (by decide +kernel) (Nat.le_of_ble_eq_true rfl) ?_
  show rn_W G xM_open (2, 0, 0) 0 0 0 [some (.inr (some 62)), some (.inl (nI c)), some (.inl k), some (.inl f), some (.inl m), some (.inl (m_bi cl))] [] h _
  refine rw_aload_n (pc := 0) dM_open_0 rfl ?_
  refine rw_getR (pc := 1) (x := some 78) flM_56_M dM_open_1 (mo_o62 hm) (mo_S62 hm) (mo_R78 hm) ?_
  refine rw_iload_n (pc := 4) dM_open_4 rfl ?_
  refine rw_dup2 (pc := 5) dM_open_5 ?_
  refine rw_iald (pc := 6) (v := nn) (i := c) dM_open_6 (mo_o78 hm) (mo_S78 hm) (ix_nI (by omega) (by decide)) hn ?_
  refine rw_iconst (pc := 7) (x := nI 1) dM_open_7 (by decide) ?_
  refine rw_iadd (pc := 8) (v := nn + (nI 1)) dM_open_8 rfl ?_
  refine rw_iast (pc := 9) (i := c) dM_open_9 (mo_o78 hm) (mo_S78 hm) (ix_nI (by omega) (by decide)) ?_
  replace hm := mo_sI (a := 78) (k := c) (v := nn + (nI 1)) hm
  replace hu := hI_sI (a := 78) (k := c) (v := nn + (nI 1)) (by decide) hu
  replace hk := hI_sI (a := 78) (k := c) (v := nn + (nI 1)) (by decide) hk
  replace hb := mb_sI hb (a := 78) (k := c) (v := nn + (nI 1)) (fun q => absurd q (by decide))
  refine rw_aload_n (pc := 10) dM_open_10 rfl ?_
  refine rw_getR (pc := 11) (x := some 87) flM_83_M dM_open_11 (mo_o62 hm) (mo_S62 hm) (mo_R87 hm) ?_
  refine rw_iload_n (pc := 14) dM_open_14 rfl ?_
  refine rw_iload_n (pc := 15) dM_open_15 rfl ?_
  refine rw_iast (pc := 16) (i := c) dM_open_16 (mo_o87 hm) (mo_S87 hm) (ix_nI (by omega) (by decide)) ?_
  replace hm := mo_sI (a := 87) (k := c) (v := k) hm
  replace hu := hI_sI (a := 87) (k := c) (v := k) (by decide) hu
  replace hk := hI_sI (a := 87) (k := c) (v := k) (by decide) hk
  replace hb := mb_sI hb (a := 87) (k := c) (v := k) (fun q => absurd q (by decide))
  refine rw_aload_n (pc := 17) dM_open_17 rfl ?_
  refine rw_getR (pc := 18) (x := some 88) flM_86_M dM_open_18 (mo_o62 hm) (mo_S62 hm) (mo_R88 hm) ?_
  refine rw_iload_n (pc := 21) dM_open_21 rfl ?_
  refine rw_iload_n (pc := 22) dM_open_22 rfl ?_
  refine rw_iast (pc := 23) (i := c) dM_open_23 (mo_o88 hm) (mo_S88 hm) (ix_nI (by omega) (by decide)) ?_
  replace hm := mo_sI (a := 88) (k := c) (v := f) hm
  replace hu := hI_sI (a := 88) (k := c) (v := f) (by decide) hu
  replace hk := hI_sI (a := 88) (k := c) (v := f) (by decide) hk
  replace hb := mb_sI hb (a := 88) (k := c) (v := f) (fun q => absurd q (by decide))
  refine rw_aload_n (pc := 24) dM_open_24 rfl ?_
  refine rw_getR (pc := 25) (x := some 89) flM_89_M dM_open_25 (mo_o62 hm) (mo_S62 hm) (mo_R89 hm) ?_
  refine rw_iload_n (pc := 28) dM_open_28 rfl ?_
  refine rw_iload (pc := 29) dM_open_29 rfl ?_
  refine rw_iast (pc := 31) (i := c) dM_open_31 (mo_o89 hm) (mo_S89 hm) (ix_nI (by omega) (by decide)) ?_
  replace hm := mo_sI (a := 89) (k := c) (v := m) hm
  replace hu := hI_sI (a := 89) (k := c) (v := m) (by decide) hu
  replace hk := hI_sI (a := 89) (k := c) (v := m) (by decide) hk
  replace hb := mb_sI hb (a := 89) (k := c) (v := m) (fun q => absurd q (by decide))
  refine rw_aload_n (pc := 32) dM_open_32 rfl ?_
  refine rw_getR (pc := 33) (x := some 90) flM_92_M dM_open_33 (mo_o62 hm) (mo_S62 hm) (mo_R90 hm) ?_
  refine rw_iload_n (pc := 36) dM_open_36 rfl ?_
  refine rw_iload (pc := 37) dM_open_37 rfl ?_
  refine rw_zast (pc := 39) (i := c) (m_bi01 _) dM_open_39 (mo_o90 hm) (mo_S90 hm) (ix_nI (by omega) (by decide)) ?_
  replace hm := mo_sI (a := 90) (k := c) (v := m_bi cl) hm
  replace hu := hI_sI (a := 90) (k := c) (v := m_bi cl) (by decide) hu
  replace hk := hI_sI (a := 90) (k := c) (v := m_bi cl) (by decide) hk
  replace hb := mb_sI hb (a := 90) (k := c) (v := m_bi cl) (fun _ => m_bi01 _)
  refine rw_aload_n (pc := 40) dM_open_40 rfl ?_
  refine rw_getR (pc := 41) (x := some 93) flM_101_M dM_open_41 (mo_o62 hm) (mo_S62 hm) (mo_R93 hm) ?_
  refine rw_iload_n (pc := 44) dM_open_44 rfl ?_
  refine rw_aload_n (pc := 45) dM_open_45 rfl ?_
  refine rw_getR (pc := 46) (x := some 64) flM_13_M dM_open_46 (mo_o62 hm) (mo_S62 hm) (mo_R64 hm) ?_
  refine rw_iload_n (pc := 49) dM_open_49 rfl ?_
  refine rw_iald (pc := 50) (v := ck) (i := c) dM_open_50 (mo_o64 hm) (mo_S64 hm) (ix_nI (by omega) (by decide)) hk ?_
  refine rw_iast (pc := 51) (i := c) dM_open_51 (mo_o93 hm) (mo_S93 hm) (ix_nI (by omega) (by decide)) ?_
  replace hm := mo_sI (a := 93) (k := c) (v := ck) hm
  replace hu := hI_sI (a := 93) (k := c) (v := ck) (by decide) hu
  replace hk := hI_sI (a := 93) (k := c) (v := ck) (by decide) hk
  replace hb := mb_sI hb (a := 93) (k := c) (v := ck) (fun q => absurd q (by decide))
  refine rw_aload_n (pc := 52) dM_open_52 rfl ?_
  refine rw_iload_n (pc := 53) dM_open_53 rfl ?_
  refine rw_vv (pc := 54) (z' := (1, 0, 0)) (rc' := 0) (rs' := 0) (av := [.inl (nI c)]) (st := []) (ci := 10) mlM_212 miM_ask rfl mvM_ask_M dM_open_54 (mo_o62 hm) (mo_S62 hm) (cM_ask G _ hm hb hu h60 hc) rfl rfl (Nat.le_of_ble_eq_true rfl) (by decide) rfl rfl (fun h1 q1 => ?_)
  obtain rfl := q1
  replace hm := mo_ask (c := c) hI
  have e78 := (m_ask78 (h := m_opH h c k f m cl nn ck) (u := m_u h) (c := c) (j := c)).trans (show hp_I (m_opH h c k f m cl nn ck) 78 c = nn + nI 1 from rfl_op)
  refine rw_aload_n (pc := 57) dM_open_57 rfl ?_
  refine rw_getR (pc := 58) (x := some 78) flM_56_M dM_open_58 (mo_o62 hm) (mo_S62 hm) (mo_R78 hm) ?_
  refine rw_iload_n (pc := 61) dM_open_61 rfl ?_
  refine rw_iald (pc := 62) (v := nn + nI 1) (i := c) dM_open_62 (mo_o78 hm) (mo_S78 hm) (ix_nI (by omega) (by decide)) e78 ?_
  exact rw_iret (pc := 63) dM_open_63 rfl ⟨_, rfl, by simp [m_open, hn0], by unfold m_open; rw [hn0, hk0]; try rfl⟩
