theorem mo_u {h : ha_H} {u : Nat} (hu : hp_I h 62 34 = nI u) (h60 : u ≤ 60) : (hp_I h 62 34).toNatClampNeg = u := by rw [hu]; exact nI_clamp (by omega)
def m_finH (h : ha_H) (c : Nat) (x k f : Int32) : ha_H := hp_sI (hp_sI (hp_sI h 68 c x) 69 c k) 70 c f
def m_fin (h : ha_H) (u c : Nat) (x k f : Int32) : ha_H := m_ans (m_finH h c x k f) u c
theorem cM_finish (G : mt_G) (h : ha_H) (hm : mo_ok h) (hb : mo_b h) {u : Nat} (hu : hp_I h 62 34 = nI u) (h60 : u ≤ 60) {c : Nat} (hc : c < 3) (x k f : Int32) : rn_M G xM_finish (2, 0, 0) [.inr (some 62), .inl (nI c), .inl x, .inl k, .inl f] h (rn_v (fun h' => m_fin h u c x k f = h')) := by
  refine rn_of (by decide +kernel) (Nat.le_of_ble_eq_true rfl) ?_
  show rn_W G xM_finish (2, 0, 0) 0 0 0 [some (.inr (some 62)), some (.inl (nI c)), some (.inl x), some (.inl k), some (.inl f)] [] h _
  refine rw_aload_n (pc := 0) dM_finish_0 rfl ?_
  refine rw_getR (pc := 1) (x := some 68) flM_26_M dM_finish_1 (mo_o62 hm) (mo_S62 hm) (mo_R68 hm) ?_
  refine rw_iload_n (pc := 4) dM_finish_4 rfl ?_
  refine rw_iload_n (pc := 5) dM_finish_5 rfl ?_
  refine rw_iast (pc := 6) (i := c) dM_finish_6 (mo_o68 hm) (mo_S68 hm) (ix_nI (by omega) (by decide)) ?_
  replace hm := mo_sI (a := 68) (k := c) (v := x) hm
  replace hu := hI_sI (a := 68) (k := c) (v := x) (by decide) hu
  replace hb := mb_sI (a := 68) (k := c) (v := x) hb (fun q => absurd q (by decide))
  refine rw_aload_n (pc := 7) dM_finish_7 rfl ?_
  refine rw_getR (pc := 8) (x := some 69) flM_29_M dM_finish_8 (mo_o62 hm) (mo_S62 hm) (mo_R69 hm) ?_
  refine rw_iload_n (pc := 11) dM_finish_11 rfl ?_
  refine rw_iload_n (pc := 12) dM_finish_12 rfl ?_
  refine rw_iast (pc := 13) (i := c) dM_finish_13 (mo_o69 hm) (mo_S69 hm) (ix_nI (by omega) (by decide)) ?_
  replace hm := mo_sI (a := 69) (k := c) (v := k) hm
  replace hu := hI_sI (a := 69) (k := c) (v := k) (by decide) hu
  replace hb := mb_sI (a := 69) (k := c) (v := k) hb (fun q => absurd q (by decide))
  refine rw_aload_n (pc := 14) dM_finish_14 rfl ?_
  refine rw_getR (pc := 15) (x := some 70) flM_32_M dM_finish_15 (mo_o62 hm) (mo_S62 hm) (mo_R70 hm) ?_
  refine rw_iload_n (pc := 18) dM_finish_18 rfl ?_
  refine rw_iload (pc := 19) dM_finish_19 rfl ?_
  refine rw_iast (pc := 21) (i := c) dM_finish_21 (mo_o70 hm) (mo_S70 hm) (ix_nI (by omega) (by decide)) ?_
  replace hm := mo_sI (a := 70) (k := c) (v := f) hm
  replace hu := hI_sI (a := 70) (k := c) (v := f) (by decide) hu
  replace hb := mb_sI (a := 70) (k := c) (v := f) hb (fun q => absurd q (by decide))
  refine rw_aload_n (pc := 22) dM_finish_22 rfl ?_
  refine rw_iload_n (pc := 23) dM_finish_23 rfl ?_
  refine rw_vv (pc := 24) (z' := (1, 0, 0)) (rc' := 0) (rs' := 0) (av := [.inl (nI c)]) (st := []) (ci := 10) mlM_175 miM_answer rfl mvM_answer_M dM_finish_24 (mo_o62 hm) (mo_S62 hm) (cM_answer G _ hm hb hu h60 hc) rfl rfl (Nat.le_of_ble_eq_true rfl) (by decide) rfl rfl (fun h1 q1 => ?_)
  obtain rfl := q1
  exact rw_vret (pc := 27) dM_finish_27 rfl ⟨rfl, rfl⟩
def m_hs (h : ha_H) (c f : Nat) : Bool := !decide (hp_I h 66 (4 * c + f) ≤ 0)
theorem cM_has (G : mt_G) (h : ha_H) (hm : mo_ok h) {c f : Nat} (hc : c < 3) (hf : f < 4) : rn_M G xM_has (0, 0, 0) [.inr (some 62), .inl (nI c), .inl (nI f)] h (rn_i (fun r h' => r = m_bi (m_hs h c f) ∧ h = h')) := by
  refine rn_of (by decide +kernel) (Nat.le_of_ble_eq_true rfl) ?_
  show rn_W G xM_has (0, 0, 0) 0 0 0 [some (.inr (some 62)), some (.inl (nI c)), some (.inl (nI f))] [] h _
  refine rw_aload_n (pc := 0) dM_has_0 rfl ?_
  refine rw_getR (pc := 1) (x := some 66) flM_20_M dM_has_1 (mo_o62 hm) (mo_S62 hm) (mo_R66 hm) ?_
  refine rw_iconst (pc := 4) (x := nI 4) dM_has_4 (by decide) ?_
  refine rw_iload_n (pc := 5) dM_has_5 rfl ?_
  refine rw_imul (pc := 6) (v := nI (4 * c)) dM_has_6 (pk_mul _ _) ?_
  refine rw_iload_n (pc := 7) dM_has_7 rfl ?_
  refine rw_iadd (pc := 8) (v := nI (4 * c + f)) dM_has_8 (nI_add _ _) ?_
  refine rw_iald (pc := 9) (v := hp_I h 66 (4 * c + f)) (i := (4 * c + f)) dM_has_9 (mo_o66 hm) (mo_S66 hm) (ix_nI (by omega) (by decide)) rfl ?_
  refine rw_ifle (pc := 10) dM_has_10 (tgt := 17) rfl (fun c1 => ?_) (fun c1 => ?_)
  · skip
    refine rw_iconst (pc := 17) (x := nI 0) dM_has_17 (by decide) ?_
    exact rw_zret (pc := 18) dM_has_18 rfl (Or.inl rfl) ⟨_, rfl, by unfold m_hs; simp [c1, m_bi], rfl⟩
  · skip
    refine rw_iconst (pc := 13) (x := nI 1) dM_has_13 (by decide) ?_
    refine rw_goto (pc := 14) dM_has_14 (tgt := 18) rfl ?_
    exact rw_zret (pc := 18) dM_has_18 rfl (Or.inr rfl) ⟨_, rfl, by unfold m_hs; simp [c1, m_bi], rfl⟩
def m_otB (h : ha_H) (c : Nat) (f : Int32) (d : Nat) : Bool := !decide (d = c) && decide (hp_I h 74 d = f)
def m_otN (h : ha_H) (c : Nat) (f : Int32) : Nat → Bool
  | 0 => false
  | d + 1 => m_otN h c f d || m_otB h c f d
theorem cM_others (G : mt_G) (h : ha_H) (hm : mo_ok h) {c f : Nat} (hc : c < 3) (hf : f < 4) : rn_M G xM_others (0, 0, 0) [.inr (some 62), .inl (nI c), .inl (nI f)] h (rn_i (fun r h' => r = m_bi (m_otN h c (nI f) 3) ∧ h = h')) := by
  refine rn_of (by decide +kernel) (Nat.le_of_ble_eq_true rfl) ?_
  show rn_W G xM_others (0, 0, 0) 0 0 0 [some (.inr (some 62)), some (.inl (nI c)), some (.inl (nI f)), none, none] [] h _
  refine rw_iconst (pc := 0) (x := nI 0) dM_others_0 (by decide) ?_
  refine rw_istore_n (pc := 1) (L' := [some (.inr (some 62)), some (.inl (nI c)), some (.inl (nI f)), some (.inl (nI 0)), none]) dM_others_1 (by decide) rfl ?_
  refine rw_iconst (pc := 2) (x := nI 0) dM_others_2 (by decide) ?_
  refine rw_istore (pc := 3) (L' := [some (.inr (some 62)), some (.inl (nI c)), some (.inl (nI f)), some (.inl (nI 0)), some (.inl (nI 0))]) dM_others_3 (by decide) rfl ?_
  have loop : ∀ (n d : Nat), d + n = 3 → rn_W G xM_others (0, 0, 0) 0 0 5 [some (.inr (some 62)), some (.inl (nI c)), some (.inl (nI f)), some (.inl (m_bi (m_otN h c (nI f) d))), some (.inl (nI d))] [] h (rn_i (fun r h' => r = m_bi (m_otN h c (nI f) 3) ∧ h = h')) := by
    intro n
    induction n with
    | zero =>
      intro d hd
      refine rw_iload (pc := 5) dM_others_5 rfl ?_
      refine rw_iconst (pc := 7) (x := nI 3) dM_others_7 (by decide) ?_
      refine rw_icmpge (pc := 8) dM_others_8 (tgt := 44) rfl (fun c1 => ?_) (fun c1 => ?_)
      · skip
        replace c1 : 3 ≤ d := (nI_leI (a := 3) (b := d) (by omega) (by omega)).mp c1
        refine rw_iload_n (pc := 44) dM_others_44 rfl ?_
        exact rw_zret (pc := 45) dM_others_45 rfl (m_bi01 _) ⟨_, rfl, by rw [show d = 3 by omega], rfl⟩
      · skip
        replace c1 : ¬ (3 ≤ d) := fun qz => c1 ((nI_leI (a := 3) (b := d) (by omega) (by omega)).mpr qz)
        omega
    | succ n ih =>
      intro d hd
      have join : ∀ (v : Int32), v = m_bi (m_otN h c (nI f) (d + 1)) → rn_W G xM_others (0, 0, 0) 0 0 37 [some (.inr (some 62)), some (.inl (nI c)), some (.inl (nI f)), some (.inl (m_bi (m_otN h c (nI f) d))), some (.inl (nI d))] [.inl v] h (rn_i (fun r h' => r = m_bi (m_otN h c (nI f) 3) ∧ h = h')) := by
        intro v hv
        refine rw_istore_n (pc := 37) (L' := [some (.inr (some 62)), some (.inl (nI c)), some (.inl (nI f)), some (.inl v), some (.inl (nI d))]) dM_others_37 (by decide) rfl ?_
        refine rw_iinc (pc := 38) (x := nI d) (y := nI (d + 1)) (L' := [some (.inr (some 62)), some (.inl (nI c)), some (.inl (nI f)), some (.inl v), some (.inl (nI (d + 1)))]) dM_others_38 (by decide) rfl (nI_add _ 1) rfl ?_
        refine rw_goto (pc := 41) dM_others_41 (tgt := 5) rfl ?_
        subst hv
        exact ih (d + 1) (by omega)
      refine rw_iload (pc := 5) dM_others_5 rfl ?_
      refine rw_iconst (pc := 7) (x := nI 3) dM_others_7 (by decide) ?_
      refine rw_icmpge (pc := 8) dM_others_8 (tgt := 44) rfl (fun c2 => ?_) (fun c2 => ?_)
      · skip
        replace c2 : 3 ≤ d := (nI_leI (a := 3) (b := d) (by omega) (by omega)).mp c2
        omega
      · skip
        replace c2 : ¬ (3 ≤ d) := fun qz => c2 ((nI_leI (a := 3) (b := d) (by omega) (by omega)).mpr qz)
        refine rw_iload_n (pc := 11) dM_others_11 rfl ?_
        refine rw_ifne (pc := 12) dM_others_12 (tgt := 32) rfl (fun c3 => ?_) (fun c3 => ?_)
        · skip
          refine rw_iconst (pc := 32) (x := nI 1) dM_others_32 (by decide) ?_
          refine rw_goto (pc := 33) dM_others_33 (tgt := 37) rfl ?_
          exact join _ (by clear join ih; simp_all [m_bi0, m_biT, m_biF, m_otN, m_otB])
        · skip
          refine rw_iload (pc := 15) dM_others_15 rfl ?_
          refine rw_iload_n (pc := 17) dM_others_17 rfl ?_
          refine rw_icmpeq (pc := 18) dM_others_18 (tgt := 36) rfl (fun c4 => ?_) (fun c4 => ?_)
          · skip
            replace c4 : d = c := (nI_eq (a := d) (b := c) (by omega) (by omega)).mp c4
            refine rw_iconst (pc := 36) (x := nI 0) dM_others_36 (by decide) ?_
            exact join _ (by clear join ih; simp_all [m_bi0, m_biT, m_biF, m_otN, m_otB])
          · skip
            replace c4 : ¬ (d = c) := fun qz => c4 ((nI_eq (a := d) (b := c) (by omega) (by omega)).mpr qz)
            refine rw_aload_n (pc := 21) dM_others_21 rfl ?_
            refine rw_getR (pc := 22) (x := some 74) flM_44_M dM_others_22 (mo_o62 hm) (mo_S62 hm) (mo_R74 hm) ?_
            refine rw_iload (pc := 25) dM_others_25 rfl ?_
            refine rw_iald (pc := 27) (v := hp_I h 74 d) (i := d) dM_others_27 (mo_o74 hm) (mo_S74 hm) (ix_nI (by omega) (by decide)) rfl ?_
            refine rw_iload_n (pc := 28) dM_others_28 rfl ?_
            refine rw_icmpne (pc := 29) dM_others_29 (tgt := 36) rfl (fun c5 => ?_) (fun c5 => ?_)
            · skip
              refine rw_iconst (pc := 36) (x := nI 0) dM_others_36 (by decide) ?_
              exact join _ (by clear join ih; simp_all [m_bi0, m_biT, m_biF, m_otN, m_otB])
            · skip
              refine rw_iconst (pc := 32) (x := nI 1) dM_others_32 (by decide) ?_
              refine rw_goto (pc := 33) dM_others_33 (tgt := 37) rfl ?_
              exact join _ (by clear join ih; simp_all [m_bi0, m_biT, m_biF, m_otN, m_otB])
  exact loop 3 0 rfl
def m_cfB (h : ha_H) (c f : Nat) (m : Int32) (d : Nat) : Bool := !decide (d = c) && (m_hs h d f && (decide (m = nI 2) || decide (hp_I h 66 (4 * d + f) = nI 2)))
def m_cfN (h : ha_H) (c f : Nat) (m : Int32) : Nat → Bool
  | 0 => false
  | d + 1 => m_cfN h c f m d || m_cfB h c f m d
theorem cM_conflicts (G : mt_G) (h : ha_H) (hm : mo_ok h) {c f : Nat} (hc : c < 3) (hf : f < 4) (m : Int32) : rn_M G xM_conflicts (1, 0, 0) [.inr (some 62), .inl (nI c), .inl (nI f), .inl m] h (rn_i (fun r h' => r = m_bi (m_cfN h c f m 3) ∧ h = h')) := by
  refine rn_of (by decide +kernel) (Nat.le_of_ble_eq_true rfl) ?_
  show rn_W G xM_conflicts (1, 0, 0) 0 0 0 [some (.inr (some 62)), some (.inl (nI c)), some (.inl (nI f)), some (.inl m), none, none] [] h _
  refine rw_iconst (pc := 0) (x := nI 0) dM_conflicts_0 (by decide) ?_
  refine rw_istore (pc := 1) (L' := [some (.inr (some 62)), some (.inl (nI c)), some (.inl (nI f)), some (.inl m), some (.inl (nI 0)), none]) dM_conflicts_1 (by decide) rfl ?_
  refine rw_iconst (pc := 3) (x := nI 0) dM_conflicts_3 (by decide) ?_
  refine rw_istore (pc := 4) (L' := [some (.inr (some 62)), some (.inl (nI c)), some (.inl (nI f)), some (.inl m), some (.inl (nI 0)), some (.inl (nI 0))]) dM_conflicts_4 (by decide) rfl ?_
  have loop : ∀ (n d : Nat), d + n = 3 → rn_W G xM_conflicts (1, 0, 0) 0 0 6 [some (.inr (some 62)), some (.inl (nI c)), some (.inl (nI f)), some (.inl m), some (.inl (m_bi (m_cfN h c f m d))), some (.inl (nI d))] [] h (rn_i (fun r h' => r = m_bi (m_cfN h c f m 3) ∧ h = h')) := by
    intro n
    induction n with
    | zero =>
      intro d hd
      refine rw_iload (pc := 6) dM_conflicts_6 rfl ?_
      refine rw_iconst (pc := 8) (x := nI 3) dM_conflicts_8 (by decide) ?_
      refine rw_icmpge (pc := 9) dM_conflicts_9 (tgt := 66) rfl (fun c1 => ?_) (fun c1 => ?_)
      · skip
        replace c1 : 3 ≤ d := (nI_leI (a := 3) (b := d) (by omega) (by omega)).mp c1
        refine rw_iload (pc := 66) dM_conflicts_66 rfl ?_
        exact rw_zret (pc := 68) dM_conflicts_68 rfl (m_bi01 _) ⟨_, rfl, by rw [show d = 3 by omega], rfl⟩
      · skip
        replace c1 : ¬ (3 ≤ d) := fun qz => c1 ((nI_leI (a := 3) (b := d) (by omega) (by omega)).mpr qz)
        omega
    | succ n ih =>
      intro d hd
      have join : ∀ (v : Int32), v = m_bi (m_cfN h c f m (d + 1)) → rn_W G xM_conflicts (1, 0, 0) 0 0 58 [some (.inr (some 62)), some (.inl (nI c)), some (.inl (nI f)), some (.inl m), some (.inl (m_bi (m_cfN h c f m d))), some (.inl (nI d))] [.inl v] h (rn_i (fun r h' => r = m_bi (m_cfN h c f m 3) ∧ h = h')) := by
        intro v hv
        refine rw_istore (pc := 58) (L' := [some (.inr (some 62)), some (.inl (nI c)), some (.inl (nI f)), some (.inl m), some (.inl v), some (.inl (nI d))]) dM_conflicts_58 (by decide) rfl ?_
        refine rw_iinc (pc := 60) (x := nI d) (y := nI (d + 1)) (L' := [some (.inr (some 62)), some (.inl (nI c)), some (.inl (nI f)), some (.inl m), some (.inl v), some (.inl (nI (d + 1)))]) dM_conflicts_60 (by decide) rfl (nI_add _ 1) rfl ?_
        refine rw_goto (pc := 63) dM_conflicts_63 (tgt := 6) rfl ?_
        subst hv
        exact ih (d + 1) (by omega)
      refine rw_iload (pc := 6) dM_conflicts_6 rfl ?_
      refine rw_iconst (pc := 8) (x := nI 3) dM_conflicts_8 (by decide) ?_
      refine rw_icmpge (pc := 9) dM_conflicts_9 (tgt := 66) rfl (fun c2 => ?_) (fun c2 => ?_)
      · skip
        replace c2 : 3 ≤ d := (nI_leI (a := 3) (b := d) (by omega) (by omega)).mp c2
        omega
      · skip
        replace c2 : ¬ (3 ≤ d) := fun qz => c2 ((nI_leI (a := 3) (b := d) (by omega) (by omega)).mpr qz)
        refine rw_iload (pc := 12) dM_conflicts_12 rfl ?_
        refine rw_ifne (pc := 14) dM_conflicts_14 (tgt := 53) rfl (fun c3 => ?_) (fun c3 => ?_)
        · skip
          refine rw_iconst (pc := 53) (x := nI 1) dM_conflicts_53 (by decide) ?_
          refine rw_goto (pc := 54) dM_conflicts_54 (tgt := 58) rfl ?_
          exact join _ (by clear join ih; simp_all [m_bi0, m_biT, m_biF, m_cfN, m_cfB])
        · skip
          refine rw_iload (pc := 17) dM_conflicts_17 rfl ?_
          refine rw_iload_n (pc := 19) dM_conflicts_19 rfl ?_
          refine rw_icmpeq (pc := 20) dM_conflicts_20 (tgt := 57) rfl (fun c4 => ?_) (fun c4 => ?_)
          · skip
            replace c4 : d = c := (nI_eq (a := d) (b := c) (by omega) (by omega)).mp c4
            refine rw_iconst (pc := 57) (x := nI 0) dM_conflicts_57 (by decide) ?_
            exact join _ (by clear join ih; simp_all [m_bi0, m_biT, m_biF, m_cfN, m_cfB])
          · skip
            replace c4 : ¬ (d = c) := fun qz => c4 ((nI_eq (a := d) (b := c) (by omega) (by omega)).mpr qz)
            refine rw_aload_n (pc := 23) dM_conflicts_23 rfl ?_
            refine rw_iload (pc := 24) dM_conflicts_24 rfl ?_
            refine rw_iload_n (pc := 26) dM_conflicts_26 rfl ?_
            refine rw_vi (pc := 27) (z' := (0, 0, 0)) (rc' := 0) (rs' := 0) (av := [.inl (nI d), .inl (nI f)]) (st := []) (ci := 10) mlM_171 miM_has rfl mvM_has_M dM_conflicts_27 (mo_o62 hm) (mo_S62 hm) (cM_has G _ hm (by omega) (by omega)) rfl rfl (Nat.le_of_ble_eq_true rfl) (by decide) rfl rfl (fun r5 h5 q5 => ?_)
            obtain ⟨rfl, rfl⟩ := q5
            refine rw_ifeq (pc := 30) dM_conflicts_30 (tgt := 57) rfl (fun c6 => ?_) (fun c6 => ?_)
            · skip
              refine rw_iconst (pc := 57) (x := nI 0) dM_conflicts_57 (by decide) ?_
              exact join _ (by clear join ih; simp_all [m_bi0, m_biT, m_biF, m_cfN, m_cfB])
            · skip
              refine rw_iload_n (pc := 33) dM_conflicts_33 rfl ?_
              refine rw_iconst (pc := 34) (x := nI 2) dM_conflicts_34 (by decide) ?_
              refine rw_icmpeq (pc := 35) dM_conflicts_35 (tgt := 53) rfl (fun c7 => ?_) (fun c7 => ?_)
              · skip
                refine rw_iconst (pc := 53) (x := nI 1) dM_conflicts_53 (by decide) ?_
                refine rw_goto (pc := 54) dM_conflicts_54 (tgt := 58) rfl ?_
                exact join _ (by clear join ih; simp_all [m_bi0, m_biT, m_biF, m_cfN, m_cfB])
              · skip
                refine rw_aload_n (pc := 38) dM_conflicts_38 rfl ?_
                refine rw_getR (pc := 39) (x := some 66) flM_20_M dM_conflicts_39 (mo_o62 hm) (mo_S62 hm) (mo_R66 hm) ?_
                refine rw_iconst (pc := 42) (x := nI 4) dM_conflicts_42 (by decide) ?_
                refine rw_iload (pc := 43) dM_conflicts_43 rfl ?_
                refine rw_imul (pc := 45) (v := nI (4 * d)) dM_conflicts_45 (pk_mul _ _) ?_
                refine rw_iload_n (pc := 46) dM_conflicts_46 rfl ?_
                refine rw_iadd (pc := 47) (v := nI (4 * d + f)) dM_conflicts_47 (nI_add _ _) ?_
                refine rw_iald (pc := 48) (v := hp_I h 66 (4 * d + f)) (i := (4 * d + f)) dM_conflicts_48 (mo_o66 hm) (mo_S66 hm) (ix_nI (by omega) (by decide)) rfl ?_
                refine rw_iconst (pc := 49) (x := nI 2) dM_conflicts_49 (by decide) ?_
                refine rw_icmpne (pc := 50) dM_conflicts_50 (tgt := 57) rfl (fun c8 => ?_) (fun c8 => ?_)
                · skip
                  refine rw_iconst (pc := 57) (x := nI 0) dM_conflicts_57 (by decide) ?_
                  exact join _ (by clear join ih; simp_all [m_bi0, m_biT, m_biF, m_cfN, m_cfB])
                · skip
                  refine rw_iconst (pc := 53) (x := nI 1) dM_conflicts_53 (by decide) ?_
                  refine rw_goto (pc := 54) dM_conflicts_54 (tgt := 58) rfl ?_
                  exact join _ (by clear join ih; simp_all [m_bi0, m_biT, m_biF, m_cfN, m_cfB])
  exact loop 3 0 rfl
