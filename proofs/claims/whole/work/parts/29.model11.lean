def m_clock (h : ha_H) (x : Int32) : Int32 := if mi_ib x 3 = true then hp_I h 64 x.toNatClampNeg else -1
theorem cM_clock (G : mt_G) (h : ha_H) (hm : mo_ok h) (x : Int32) : rn_M G xM_clock (1, 0, 0) [.inr (some 62), .inl x] h (rn_i (fun r h' => r = m_clock h x ∧ h = h')) := by
  refine rn_of (by decide +kernel) (Nat.le_of_ble_eq_true rfl) ?_
  show rn_W G xM_clock (1, 0, 0) 0 0 0 [some (.inr (some 62)), some (.inl x)] [] h _
  refine rw_iload_n (pc := 0) dM_clock_0 rfl ?_
  refine rw_iconst (pc := 1) (x := nI 0) dM_clock_1 (by decide) ?_
  refine rw_iconst (pc := 2) (x := nI 3) dM_clock_2 (by decide) ?_
  refine rw_si (pc := 3) (z' := (0, 0, 0)) (rc' := 0) (rs' := 0) (av := [.inl x, .inl (nI 0), .inl (nI 3)]) (st := []) mlM_138 msM_in dM_clock_3 (cM_in G _ _ _ _) rfl rfl (Nat.le_of_ble_eq_true rfl) (by decide) rfl rfl (fun r1 h1 q1 => ?_)
  obtain ⟨rfl, rfl⟩ := q1
  refine rw_ifeq (pc := 6) dM_clock_6 (tgt := 18) rfl (fun c2 => ?_) (fun c2 => ?_)
  · skip
    refine rw_iconst (pc := 18) (x := (-1)) dM_clock_18 (by decide) ?_
    exact rw_iret (pc := 19) dM_clock_19 rfl ⟨_, rfl, by simp [m_clock, mi_ib, c2], rfl⟩
  · skip
    obtain ⟨j, hj, rfl⟩ := mi_rng (by decide) c2
    refine rw_aload_n (pc := 9) dM_clock_9 rfl ?_
    refine rw_getR (pc := 10) (x := some 64) flM_13_M dM_clock_10 (mo_o62 hm) (mo_S62 hm) (mo_R64 hm) ?_
    refine rw_iload_n (pc := 13) dM_clock_13 rfl ?_
    refine rw_iald (pc := 14) (v := hp_I h 64 j) (i := j) dM_clock_14 (mo_o64 hm) (mo_S64 hm) (ix_nI (by omega) (by decide)) rfl ?_
    refine rw_goto (pc := 15) dM_clock_15 (tgt := 19) rfl ?_
    exact rw_iret (pc := 19) dM_clock_19 rfl ⟨_, rfl, by simp [m_clock, mi_ib, c2, nI_clamp (show j < 2 ^ 31 by omega)], rfl⟩
def m_dirty (h : ha_H) (c : Int32) : Int32 := if m_wk h c = true then hp_I h 84 c.toNatClampNeg else -1
theorem cM_dirty (G : mt_G) (h : ha_H) (hm : mo_ok h) (c : Int32) : rn_M G xM_dirty (2, 0, 0) [.inr (some 62), .inl c] h (rn_i (fun r h' => r = m_dirty h c ∧ h = h')) := by
  refine rn_of (by decide +kernel) (Nat.le_of_ble_eq_true rfl) ?_
  show rn_W G xM_dirty (2, 0, 0) 0 0 0 [some (.inr (some 62)), some (.inl c)] [] h _
  refine rw_aload_n (pc := 0) dM_dirty_0 rfl ?_
  refine rw_iload_n (pc := 1) dM_dirty_1 rfl ?_
  refine rw_vi (pc := 2) (z' := (1, 0, 0)) (rc' := 0) (rs' := 0) (av := [.inl c]) (st := []) (ci := 10) mlM_215 miM_works rfl mvM_works_M dM_dirty_2 (mo_o62 hm) (mo_S62 hm) (cM_works G _ hm _) rfl rfl (Nat.le_of_ble_eq_true rfl) (by decide) rfl rfl (fun r1 h1 q1 => ?_)
  obtain ⟨rfl, rfl⟩ := q1
  refine rw_ifeq (pc := 5) dM_dirty_5 (tgt := 17) rfl (fun c2 => ?_) (fun c2 => ?_)
  · skip
    replace c2 := (m_bi0 _).mp c2
    refine rw_iconst (pc := 17) (x := (-1)) dM_dirty_17 (by decide) ?_
    exact rw_iret (pc := 18) dM_dirty_18 rfl ⟨_, rfl, by simp [m_dirty, mi_ib, c2], rfl⟩
  · skip
    replace c2 := m_bi1 c2
    obtain ⟨j, hj, rfl, hdn⟩ := m_wkT c2
    refine rw_aload_n (pc := 8) dM_dirty_8 rfl ?_
    refine rw_getR (pc := 9) (x := some 84) flM_74_M dM_dirty_9 (mo_o62 hm) (mo_S62 hm) (mo_R84 hm) ?_
    refine rw_iload_n (pc := 12) dM_dirty_12 rfl ?_
    refine rw_iald (pc := 13) (v := hp_I h 84 j) (i := j) dM_dirty_13 (mo_o84 hm) (mo_S84 hm) (ix_nI (by omega) (by decide)) rfl ?_
    refine rw_goto (pc := 14) dM_dirty_14 (tgt := 18) rfl ?_
    exact rw_iret (pc := 18) dM_dirty_18 rfl ⟨_, rfl, by simp [m_dirty, mi_ib, c2, nI_clamp (show j < 2 ^ 31 by omega)], rfl⟩
def m_stored (h : ha_H) (f p : Int32) : Int32 := if (mi_ib f 3 && mi_ib p 3) = true then hp_I h 65 (4 * f.toNatClampNeg + p.toNatClampNeg) else nI 0
theorem cM_stored (G : mt_G) (h : ha_H) (hm : mo_ok h) (f p : Int32) : rn_M G xM_stored (1, 0, 0) [.inr (some 62), .inl f, .inl p] h (rn_i (fun r h' => r = m_stored h f p ∧ h = h')) := by
  refine rn_of (by decide +kernel) (Nat.le_of_ble_eq_true rfl) ?_
  show rn_W G xM_stored (1, 0, 0) 0 0 0 [some (.inr (some 62)), some (.inl f), some (.inl p)] [] h _
  refine rw_iload_n (pc := 0) dM_stored_0 rfl ?_
  refine rw_iconst (pc := 1) (x := nI 0) dM_stored_1 (by decide) ?_
  refine rw_iconst (pc := 2) (x := nI 3) dM_stored_2 (by decide) ?_
  refine rw_si (pc := 3) (z' := (0, 0, 0)) (rc' := 0) (rs' := 0) (av := [.inl f, .inl (nI 0), .inl (nI 3)]) (st := []) mlM_138 msM_in dM_stored_3 (cM_in G _ _ _ _) rfl rfl (Nat.le_of_ble_eq_true rfl) (by decide) rfl rfl (fun r1 h1 q1 => ?_)
  obtain ⟨rfl, rfl⟩ := q1
  refine rw_ifeq (pc := 6) dM_stored_6 (tgt := 31) rfl (fun c2 => ?_) (fun c2 => ?_)
  · skip
    refine rw_iconst (pc := 31) (x := nI 0) dM_stored_31 (by decide) ?_
    exact rw_iret (pc := 32) dM_stored_32 rfl ⟨_, rfl, by simp [m_stored, mi_ib, c2], rfl⟩
  · skip
    obtain ⟨j, hj, rfl⟩ := mi_rng (by decide) c2
    refine rw_iload_n (pc := 9) dM_stored_9 rfl ?_
    refine rw_iconst (pc := 10) (x := nI 0) dM_stored_10 (by decide) ?_
    refine rw_iconst (pc := 11) (x := nI 3) dM_stored_11 (by decide) ?_
    refine rw_si (pc := 12) (z' := (0, 0, 0)) (rc' := 0) (rs' := 0) (av := [.inl p, .inl (nI 0), .inl (nI 3)]) (st := []) mlM_138 msM_in dM_stored_12 (cM_in G _ _ _ _) rfl rfl (Nat.le_of_ble_eq_true rfl) (by decide) rfl rfl (fun r3 h3 q3 => ?_)
    obtain ⟨rfl, rfl⟩ := q3
    refine rw_ifeq (pc := 15) dM_stored_15 (tgt := 31) rfl (fun c4 => ?_) (fun c4 => ?_)
    · skip
      refine rw_iconst (pc := 31) (x := nI 0) dM_stored_31 (by decide) ?_
      exact rw_iret (pc := 32) dM_stored_32 rfl ⟨_, rfl, by simp [m_stored, mi_ib, c2, c4, nI_clamp (show j < 2 ^ 31 by omega)], rfl⟩
    · skip
      obtain ⟨k, hk, rfl⟩ := mi_rng (by decide) c4
      refine rw_aload_n (pc := 18) dM_stored_18 rfl ?_
      refine rw_getR (pc := 19) (x := some 65) flM_17_M dM_stored_19 (mo_o62 hm) (mo_S62 hm) (mo_R65 hm) ?_
      refine rw_iconst (pc := 22) (x := nI 4) dM_stored_22 (by decide) ?_
      refine rw_iload_n (pc := 23) dM_stored_23 rfl ?_
      refine rw_imul (pc := 24) (v := nI (4 * j)) dM_stored_24 (pk_mul _ _) ?_
      refine rw_iload_n (pc := 25) dM_stored_25 rfl ?_
      refine rw_iadd (pc := 26) (v := nI (4 * j + k)) dM_stored_26 (nI_add _ _) ?_
      refine rw_iald (pc := 27) (v := hp_I h 65 (4 * j + k)) (i := (4 * j + k)) dM_stored_27 (mo_o65 hm) (mo_S65 hm) (ix_nI (by omega) (by decide)) rfl ?_
      refine rw_goto (pc := 28) dM_stored_28 (tgt := 32) rfl ?_
      exact rw_iret (pc := 32) dM_stored_32 rfl ⟨_, rfl, by simp [m_stored, mi_ib, c2, c4, nI_clamp (show j < 2 ^ 31 by omega), nI_clamp (show k < 2 ^ 31 by omega)], rfl⟩
def m_heldA (h : ha_H) (c f : Nat) : Int32 := if hp_I h 66 (4 * c + f) = 0 then nI 0 else nI 1000 * hp_I h 66 (4 * c + f) + hp_I h 67 (4 * c + f) - hp_I h 64 3
def m_held (h : ha_H) (c f : Int32) : Int32 := if (mi_ib c 2 && mi_ib f 3) = true then m_heldA h c.toNatClampNeg f.toNatClampNeg else -1
theorem cM_held (G : mt_G) (h : ha_H) (hm : mo_ok h) (c f : Int32) : rn_M G xM_held (1, 0, 0) [.inr (some 62), .inl c, .inl f] h (rn_i (fun r h' => r = m_held h c f ∧ h = h')) := by
  refine rn_of (by decide +kernel) (Nat.le_of_ble_eq_true rfl) ?_
  show rn_W G xM_held (1, 0, 0) 0 0 0 [some (.inr (some 62)), some (.inl c), some (.inl f)] [] h _
  refine rw_iload_n (pc := 0) dM_held_0 rfl ?_
  refine rw_iconst (pc := 1) (x := nI 0) dM_held_1 (by decide) ?_
  refine rw_iconst (pc := 2) (x := nI 2) dM_held_2 (by decide) ?_
  refine rw_si (pc := 3) (z' := (0, 0, 0)) (rc' := 0) (rs' := 0) (av := [.inl c, .inl (nI 0), .inl (nI 2)]) (st := []) mlM_138 msM_in dM_held_3 (cM_in G _ _ _ _) rfl rfl (Nat.le_of_ble_eq_true rfl) (by decide) rfl rfl (fun r1 h1 q1 => ?_)
  obtain ⟨rfl, rfl⟩ := q1
  refine rw_ifeq (pc := 6) dM_held_6 (tgt := 18) rfl (fun c2 => ?_) (fun c2 => ?_)
  · skip
    refine rw_iconst (pc := 18) (x := (-1)) dM_held_18 (by decide) ?_
    exact rw_iret (pc := 19) dM_held_19 rfl ⟨_, rfl, by simp [m_held, m_heldA, mi_ib, c2], rfl⟩
  · skip
    obtain ⟨j, hj, rfl⟩ := mi_rng (by decide) c2
    refine rw_iload_n (pc := 9) dM_held_9 rfl ?_
    refine rw_iconst (pc := 10) (x := nI 0) dM_held_10 (by decide) ?_
    refine rw_iconst (pc := 11) (x := nI 3) dM_held_11 (by decide) ?_
    refine rw_si (pc := 12) (z' := (0, 0, 0)) (rc' := 0) (rs' := 0) (av := [.inl f, .inl (nI 0), .inl (nI 3)]) (st := []) mlM_138 msM_in dM_held_12 (cM_in G _ _ _ _) rfl rfl (Nat.le_of_ble_eq_true rfl) (by decide) rfl rfl (fun r3 h3 q3 => ?_)
    obtain ⟨rfl, rfl⟩ := q3
    refine rw_ifne (pc := 15) dM_held_15 (tgt := 20) rfl (fun c4 => ?_) (fun c4 => ?_)
    · skip
      obtain ⟨k, hk, rfl⟩ := mi_rng (by decide) c4
      refine rw_aload_n (pc := 20) dM_held_20 rfl ?_
      refine rw_getR (pc := 21) (x := some 66) flM_20_M dM_held_21 (mo_o62 hm) (mo_S62 hm) (mo_R66 hm) ?_
      refine rw_iconst (pc := 24) (x := nI 4) dM_held_24 (by decide) ?_
      refine rw_iload_n (pc := 25) dM_held_25 rfl ?_
      refine rw_imul (pc := 26) (v := nI (4 * j)) dM_held_26 (pk_mul _ _) ?_
      refine rw_iload_n (pc := 27) dM_held_27 rfl ?_
      refine rw_iadd (pc := 28) (v := nI (4 * j + k)) dM_held_28 (nI_add _ _) ?_
      refine rw_iald (pc := 29) (v := hp_I h 66 (4 * j + k)) (i := (4 * j + k)) dM_held_29 (mo_o66 hm) (mo_S66 hm) (ix_nI (by omega) (by decide)) rfl ?_
      refine rw_ifne (pc := 30) dM_held_30 (tgt := 37) rfl (fun c5 => ?_) (fun c5 => ?_)
      · skip
        refine rw_sipush (pc := 37) (x := nI 1000) dM_held_37 (by decide) ?_
        refine rw_aload_n (pc := 40) dM_held_40 rfl ?_
        refine rw_getR (pc := 41) (x := some 66) flM_20_M dM_held_41 (mo_o62 hm) (mo_S62 hm) (mo_R66 hm) ?_
        refine rw_iconst (pc := 44) (x := nI 4) dM_held_44 (by decide) ?_
        refine rw_iload_n (pc := 45) dM_held_45 rfl ?_
        refine rw_imul (pc := 46) (v := nI (4 * j)) dM_held_46 (pk_mul _ _) ?_
        refine rw_iload_n (pc := 47) dM_held_47 rfl ?_
        refine rw_iadd (pc := 48) (v := nI (4 * j + k)) dM_held_48 (nI_add _ _) ?_
        refine rw_iald (pc := 49) (v := hp_I h 66 (4 * j + k)) (i := (4 * j + k)) dM_held_49 (mo_o66 hm) (mo_S66 hm) (ix_nI (by omega) (by decide)) rfl ?_
        refine rw_imul (pc := 50) (v := (nI 1000) * (hp_I h 66 (4 * j + k))) dM_held_50 rfl ?_
        refine rw_aload_n (pc := 51) dM_held_51 rfl ?_
        refine rw_getR (pc := 52) (x := some 67) flM_23_M dM_held_52 (mo_o62 hm) (mo_S62 hm) (mo_R67 hm) ?_
        refine rw_iconst (pc := 55) (x := nI 4) dM_held_55 (by decide) ?_
        refine rw_iload_n (pc := 56) dM_held_56 rfl ?_
        refine rw_imul (pc := 57) (v := nI (4 * j)) dM_held_57 (pk_mul _ _) ?_
        refine rw_iload_n (pc := 58) dM_held_58 rfl ?_
        refine rw_iadd (pc := 59) (v := nI (4 * j + k)) dM_held_59 (nI_add _ _) ?_
        refine rw_iald (pc := 60) (v := hp_I h 67 (4 * j + k)) (i := (4 * j + k)) dM_held_60 (mo_o67 hm) (mo_S67 hm) (ix_nI (by omega) (by decide)) rfl ?_
        refine rw_iadd (pc := 61) (v := ((nI 1000) * (hp_I h 66 (4 * j + k))) + (hp_I h 67 (4 * j + k))) dM_held_61 rfl ?_
        refine rw_aload_n (pc := 62) dM_held_62 rfl ?_
        refine rw_getR (pc := 63) (x := some 64) flM_13_M dM_held_63 (mo_o62 hm) (mo_S62 hm) (mo_R64 hm) ?_
        refine rw_iconst (pc := 66) (x := nI 3) dM_held_66 (by decide) ?_
        refine rw_iald (pc := 67) (v := hp_I h 64 3) (i := 3) dM_held_67 (mo_o64 hm) (mo_S64 hm) (ix_nI (by omega) (by decide)) rfl ?_
        refine rw_isub (pc := 68) (v := (((nI 1000) * (hp_I h 66 (4 * j + k))) + (hp_I h 67 (4 * j + k))) - (hp_I h 64 3)) dM_held_68 rfl ?_
        exact rw_iret (pc := 69) dM_held_69 rfl ⟨_, rfl, by simp [m_held, m_heldA, mi_ib, c2, c4, c5, nI_clamp (show j < 2 ^ 31 by omega), nI_clamp (show k < 2 ^ 31 by omega)], rfl⟩
      · skip
        refine rw_iconst (pc := 33) (x := nI 0) dM_held_33 (by decide) ?_
        refine rw_goto (pc := 34) dM_held_34 (tgt := 69) rfl ?_
        exact rw_iret (pc := 69) dM_held_69 rfl ⟨_, rfl, by simp [m_held, m_heldA, mi_ib, c2, c4, c5, nI_clamp (show j < 2 ^ 31 by omega), nI_clamp (show k < 2 ^ 31 by omega)], rfl⟩
    · skip
      refine rw_iconst (pc := 18) (x := (-1)) dM_held_18 (by decide) ?_
      exact rw_iret (pc := 19) dM_held_19 rfl ⟨_, rfl, by simp [m_held, m_heldA, mi_ib, c2, c4, nI_clamp (show j < 2 ^ 31 by omega)], rfl⟩
def m_leaseA (h : ha_H) (c f : Nat) : Int32 := (if m_vl h c f = true then hp_I h 79 (4 * c + f) else nI 0) + (if hp_I h 81 (4 * c + f) = 0 then nI 0 else nI 10) + (if hp_I h 82 (4 * c + f) = 0 then nI 0 else nI 100)
def m_lease (h : ha_H) (c f : Int32) : Int32 := if (m_wk h c && mi_ib f 3) = true then m_leaseA h c.toNatClampNeg f.toNatClampNeg else -1
theorem cM_lease (G : mt_G) (h : ha_H) (hm : mo_ok h) (c f : Int32) : rn_M G xM_lease (2, 0, 0) [.inr (some 62), .inl c, .inl f] h (rn_i (fun r h' => r = m_lease h c f ∧ h = h')) := by
  refine rn_of (by decide +kernel) (Nat.le_of_ble_eq_true rfl) ?_
  show rn_W G xM_lease (2, 0, 0) 0 0 0 [some (.inr (some 62)), some (.inl c), some (.inl f)] [] h _
  refine rw_aload_n (pc := 0) dM_lease_0 rfl ?_
  refine rw_iload_n (pc := 1) dM_lease_1 rfl ?_
  refine rw_vi (pc := 2) (z' := (1, 0, 0)) (rc' := 0) (rs' := 0) (av := [.inl c]) (st := []) (ci := 10) mlM_215 miM_works rfl mvM_works_M dM_lease_2 (mo_o62 hm) (mo_S62 hm) (cM_works G _ hm _) rfl rfl (Nat.le_of_ble_eq_true rfl) (by decide) rfl rfl (fun r1 h1 q1 => ?_)
  obtain ⟨rfl, rfl⟩ := q1
  refine rw_ifeq (pc := 5) dM_lease_5 (tgt := 17) rfl (fun c2 => ?_) (fun c2 => ?_)
  · skip
    replace c2 := (m_bi0 _).mp c2
    refine rw_iconst (pc := 17) (x := (-1)) dM_lease_17 (by decide) ?_
    exact rw_iret (pc := 18) dM_lease_18 rfl ⟨_, rfl, by simp [m_lease, mi_ib, c2], rfl⟩
  · skip
    replace c2 := m_bi1 c2
    obtain ⟨j, hj, rfl, hdn⟩ := m_wkT c2
    refine rw_iload_n (pc := 8) dM_lease_8 rfl ?_
    refine rw_iconst (pc := 9) (x := nI 0) dM_lease_9 (by decide) ?_
    refine rw_iconst (pc := 10) (x := nI 3) dM_lease_10 (by decide) ?_
    refine rw_si (pc := 11) (z' := (0, 0, 0)) (rc' := 0) (rs' := 0) (av := [.inl f, .inl (nI 0), .inl (nI 3)]) (st := []) mlM_138 msM_in dM_lease_11 (cM_in G _ _ _ _) rfl rfl (Nat.le_of_ble_eq_true rfl) (by decide) rfl rfl (fun r3 h3 q3 => ?_)
    obtain ⟨rfl, rfl⟩ := q3
    refine rw_ifne (pc := 14) dM_lease_14 (tgt := 19) rfl (fun c4 => ?_) (fun c4 => ?_)
    · skip
      obtain ⟨k, hk, rfl⟩ := mi_rng (by decide) c4
      refine rw_aload_n (pc := 19) dM_lease_19 rfl ?_
      refine rw_iload_n (pc := 20) dM_lease_20 rfl ?_
      refine rw_iload_n (pc := 21) dM_lease_21 rfl ?_
      refine rw_vi (pc := 22) (z' := (0, 0, 0)) (rc' := 0) (rs' := 0) (av := [.inl (nI j), .inl (nI k)]) (st := []) (ci := 10) mlM_221 miM_valid rfl mvM_valid_M dM_lease_22 (mo_o62 hm) (mo_S62 hm) (cM_valid G _ hm (by omega) (by omega)) rfl rfl (Nat.le_of_ble_eq_true rfl) (by decide) rfl rfl (fun r5 h5 q5 => ?_)
      obtain ⟨rfl, rfl⟩ := q5
      refine rw_ifeq (pc := 25) dM_lease_25 (tgt := 41) rfl (fun c6 => ?_) (fun c6 => ?_)
      · skip
        replace c6 := (m_bi0 _).mp c6
        refine rw_iconst (pc := 41) (x := nI 0) dM_lease_41 (by decide) ?_
        refine rw_aload_n (pc := 42) dM_lease_42 rfl ?_
        refine rw_getR (pc := 43) (x := some 81) flM_65_M dM_lease_43 (mo_o62 hm) (mo_S62 hm) (mo_R81 hm) ?_
        refine rw_iconst (pc := 46) (x := nI 4) dM_lease_46 (by decide) ?_
        refine rw_iload_n (pc := 47) dM_lease_47 rfl ?_
        refine rw_imul (pc := 48) (v := nI (4 * j)) dM_lease_48 (pk_mul _ _) ?_
        refine rw_iload_n (pc := 49) dM_lease_49 rfl ?_
        refine rw_iadd (pc := 50) (v := nI (4 * j + k)) dM_lease_50 (nI_add _ _) ?_
        refine rw_zald (pc := 51) (v := hp_I h 81 (4 * j + k)) (i := (4 * j + k)) dM_lease_51 (mo_o81 hm) (mo_S81 hm) (ix_nI (by omega) (by decide)) rfl ?_
        refine rw_ifeq (pc := 52) dM_lease_52 (tgt := 60) rfl (fun c7 => ?_) (fun c7 => ?_)
        · skip
          refine rw_iconst (pc := 60) (x := nI 0) dM_lease_60 (by decide) ?_
          refine rw_iadd (pc := 61) (v := nI 0) dM_lease_61 (by decide) ?_
          refine rw_aload_n (pc := 62) dM_lease_62 rfl ?_
          refine rw_getR (pc := 63) (x := some 82) flM_68_M dM_lease_63 (mo_o62 hm) (mo_S62 hm) (mo_R82 hm) ?_
          refine rw_iconst (pc := 66) (x := nI 4) dM_lease_66 (by decide) ?_
          refine rw_iload_n (pc := 67) dM_lease_67 rfl ?_
          refine rw_imul (pc := 68) (v := nI (4 * j)) dM_lease_68 (pk_mul _ _) ?_
          refine rw_iload_n (pc := 69) dM_lease_69 rfl ?_
          refine rw_iadd (pc := 70) (v := nI (4 * j + k)) dM_lease_70 (nI_add _ _) ?_
          refine rw_zald (pc := 71) (v := hp_I h 82 (4 * j + k)) (i := (4 * j + k)) dM_lease_71 (mo_o82 hm) (mo_S82 hm) (ix_nI (by omega) (by decide)) rfl ?_
          refine rw_ifeq (pc := 72) dM_lease_72 (tgt := 80) rfl (fun c8 => ?_) (fun c8 => ?_)
          · skip
            refine rw_iconst (pc := 80) (x := nI 0) dM_lease_80 (by decide) ?_
            refine rw_iadd (pc := 81) (v := nI 0) dM_lease_81 (by decide) ?_
            refine rw_iret (pc := 82) dM_lease_82 rfl ⟨_, rfl, ?_, rfl⟩
            have e9 : m_lease h (nI j) (nI k) = m_leaseA h j k := by simp [m_lease, mi_ib, c2, c4, nI_clamp (show j < 2 ^ 31 by omega), nI_clamp (show k < 2 ^ 31 by omega)]
            rw [e9]
            unfold m_leaseA
            rw [if_neg (by rw [c6]; decide), if_pos c7, if_pos c8]
            try rfl
          · skip
            refine rw_bipush (pc := 75) (x := nI 100) dM_lease_75 (by decide) ?_
            refine rw_goto (pc := 77) dM_lease_77 (tgt := 81) rfl ?_
            refine rw_iadd (pc := 81) (v := nI 100) dM_lease_81 (by decide) ?_
            refine rw_iret (pc := 82) dM_lease_82 rfl ⟨_, rfl, ?_, rfl⟩
            have e9 : m_lease h (nI j) (nI k) = m_leaseA h j k := by simp [m_lease, mi_ib, c2, c4, nI_clamp (show j < 2 ^ 31 by omega), nI_clamp (show k < 2 ^ 31 by omega)]
            rw [e9]
            unfold m_leaseA
            rw [if_neg (by rw [c6]; decide), if_pos c7, if_neg c8]
            try rfl
        · skip
          refine rw_bipush (pc := 55) (x := nI 10) dM_lease_55 (by decide) ?_
          refine rw_goto (pc := 57) dM_lease_57 (tgt := 61) rfl ?_
          refine rw_iadd (pc := 61) (v := nI 10) dM_lease_61 (by decide) ?_
          refine rw_aload_n (pc := 62) dM_lease_62 rfl ?_
          refine rw_getR (pc := 63) (x := some 82) flM_68_M dM_lease_63 (mo_o62 hm) (mo_S62 hm) (mo_R82 hm) ?_
          refine rw_iconst (pc := 66) (x := nI 4) dM_lease_66 (by decide) ?_
          refine rw_iload_n (pc := 67) dM_lease_67 rfl ?_
          refine rw_imul (pc := 68) (v := nI (4 * j)) dM_lease_68 (pk_mul _ _) ?_
          refine rw_iload_n (pc := 69) dM_lease_69 rfl ?_
          refine rw_iadd (pc := 70) (v := nI (4 * j + k)) dM_lease_70 (nI_add _ _) ?_
          refine rw_zald (pc := 71) (v := hp_I h 82 (4 * j + k)) (i := (4 * j + k)) dM_lease_71 (mo_o82 hm) (mo_S82 hm) (ix_nI (by omega) (by decide)) rfl ?_
          refine rw_ifeq (pc := 72) dM_lease_72 (tgt := 80) rfl (fun c9 => ?_) (fun c9 => ?_)
          · skip
            refine rw_iconst (pc := 80) (x := nI 0) dM_lease_80 (by decide) ?_
            refine rw_iadd (pc := 81) (v := nI 10) dM_lease_81 (by decide) ?_
            refine rw_iret (pc := 82) dM_lease_82 rfl ⟨_, rfl, ?_, rfl⟩
            have e9 : m_lease h (nI j) (nI k) = m_leaseA h j k := by simp [m_lease, mi_ib, c2, c4, nI_clamp (show j < 2 ^ 31 by omega), nI_clamp (show k < 2 ^ 31 by omega)]
            rw [e9]
            unfold m_leaseA
            rw [if_neg (by rw [c6]; decide), if_neg c7, if_pos c9]
            try rfl
          · skip
            refine rw_bipush (pc := 75) (x := nI 100) dM_lease_75 (by decide) ?_
            refine rw_goto (pc := 77) dM_lease_77 (tgt := 81) rfl ?_
            refine rw_iadd (pc := 81) (v := nI 110) dM_lease_81 (by decide) ?_
            refine rw_iret (pc := 82) dM_lease_82 rfl ⟨_, rfl, ?_, rfl⟩
            have e9 : m_lease h (nI j) (nI k) = m_leaseA h j k := by simp [m_lease, mi_ib, c2, c4, nI_clamp (show j < 2 ^ 31 by omega), nI_clamp (show k < 2 ^ 31 by omega)]
            rw [e9]
            unfold m_leaseA
            rw [if_neg (by rw [c6]; decide), if_neg c7, if_neg c9]
            try rfl
      · skip
        replace c6 := m_bi1 c6
        refine rw_aload_n (pc := 28) dM_lease_28 rfl ?_
        refine rw_getR (pc := 29) (x := some 79) flM_59_M dM_lease_29 (mo_o62 hm) (mo_S62 hm) (mo_R79 hm) ?_
        refine rw_iconst (pc := 32) (x := nI 4) dM_lease_32 (by decide) ?_
        refine rw_iload_n (pc := 33) dM_lease_33 rfl ?_
        refine rw_imul (pc := 34) (v := nI (4 * j)) dM_lease_34 (pk_mul _ _) ?_
        refine rw_iload_n (pc := 35) dM_lease_35 rfl ?_
        refine rw_iadd (pc := 36) (v := nI (4 * j + k)) dM_lease_36 (nI_add _ _) ?_
        refine rw_iald (pc := 37) (v := hp_I h 79 (4 * j + k)) (i := (4 * j + k)) dM_lease_37 (mo_o79 hm) (mo_S79 hm) (ix_nI (by omega) (by decide)) rfl ?_
        refine rw_goto (pc := 38) dM_lease_38 (tgt := 42) rfl ?_
        refine rw_aload_n (pc := 42) dM_lease_42 rfl ?_
        refine rw_getR (pc := 43) (x := some 81) flM_65_M dM_lease_43 (mo_o62 hm) (mo_S62 hm) (mo_R81 hm) ?_
        refine rw_iconst (pc := 46) (x := nI 4) dM_lease_46 (by decide) ?_
        refine rw_iload_n (pc := 47) dM_lease_47 rfl ?_
        refine rw_imul (pc := 48) (v := nI (4 * j)) dM_lease_48 (pk_mul _ _) ?_
        refine rw_iload_n (pc := 49) dM_lease_49 rfl ?_
        refine rw_iadd (pc := 50) (v := nI (4 * j + k)) dM_lease_50 (nI_add _ _) ?_
        refine rw_zald (pc := 51) (v := hp_I h 81 (4 * j + k)) (i := (4 * j + k)) dM_lease_51 (mo_o81 hm) (mo_S81 hm) (ix_nI (by omega) (by decide)) rfl ?_
        refine rw_ifeq (pc := 52) dM_lease_52 (tgt := 60) rfl (fun c10 => ?_) (fun c10 => ?_)
        · skip
          refine rw_iconst (pc := 60) (x := nI 0) dM_lease_60 (by decide) ?_
          refine rw_iadd (pc := 61) (v := (hp_I h 79 (4 * j + k)) + (nI 0)) dM_lease_61 rfl ?_
          refine rw_aload_n (pc := 62) dM_lease_62 rfl ?_
          refine rw_getR (pc := 63) (x := some 82) flM_68_M dM_lease_63 (mo_o62 hm) (mo_S62 hm) (mo_R82 hm) ?_
          refine rw_iconst (pc := 66) (x := nI 4) dM_lease_66 (by decide) ?_
          refine rw_iload_n (pc := 67) dM_lease_67 rfl ?_
          refine rw_imul (pc := 68) (v := nI (4 * j)) dM_lease_68 (pk_mul _ _) ?_
          refine rw_iload_n (pc := 69) dM_lease_69 rfl ?_
          refine rw_iadd (pc := 70) (v := nI (4 * j + k)) dM_lease_70 (nI_add _ _) ?_
          refine rw_zald (pc := 71) (v := hp_I h 82 (4 * j + k)) (i := (4 * j + k)) dM_lease_71 (mo_o82 hm) (mo_S82 hm) (ix_nI (by omega) (by decide)) rfl ?_
          refine rw_ifeq (pc := 72) dM_lease_72 (tgt := 80) rfl (fun c11 => ?_) (fun c11 => ?_)
          · skip
            refine rw_iconst (pc := 80) (x := nI 0) dM_lease_80 (by decide) ?_
            refine rw_iadd (pc := 81) (v := ((hp_I h 79 (4 * j + k)) + (nI 0)) + (nI 0)) dM_lease_81 rfl ?_
            refine rw_iret (pc := 82) dM_lease_82 rfl ⟨_, rfl, ?_, rfl⟩
            have e9 : m_lease h (nI j) (nI k) = m_leaseA h j k := by simp [m_lease, mi_ib, c2, c4, nI_clamp (show j < 2 ^ 31 by omega), nI_clamp (show k < 2 ^ 31 by omega)]
            rw [e9]
            unfold m_leaseA
            rw [if_pos c6, if_pos c10, if_pos c11]
            try rfl
          · skip
            refine rw_bipush (pc := 75) (x := nI 100) dM_lease_75 (by decide) ?_
            refine rw_goto (pc := 77) dM_lease_77 (tgt := 81) rfl ?_
            refine rw_iadd (pc := 81) (v := ((hp_I h 79 (4 * j + k)) + (nI 0)) + (nI 100)) dM_lease_81 rfl ?_
            refine rw_iret (pc := 82) dM_lease_82 rfl ⟨_, rfl, ?_, rfl⟩
            have e9 : m_lease h (nI j) (nI k) = m_leaseA h j k := by simp [m_lease, mi_ib, c2, c4, nI_clamp (show j < 2 ^ 31 by omega), nI_clamp (show k < 2 ^ 31 by omega)]
            rw [e9]
            unfold m_leaseA
            rw [if_pos c6, if_pos c10, if_neg c11]
            try rfl
        · skip
          refine rw_bipush (pc := 55) (x := nI 10) dM_lease_55 (by decide) ?_
          refine rw_goto (pc := 57) dM_lease_57 (tgt := 61) rfl ?_
          refine rw_iadd (pc := 61) (v := (hp_I h 79 (4 * j + k)) + (nI 10)) dM_lease_61 rfl ?_
          refine rw_aload_n (pc := 62) dM_lease_62 rfl ?_
          refine rw_getR (pc := 63) (x := some 82) flM_68_M dM_lease_63 (mo_o62 hm) (mo_S62 hm) (mo_R82 hm) ?_
          refine rw_iconst (pc := 66) (x := nI 4) dM_lease_66 (by decide) ?_
          refine rw_iload_n (pc := 67) dM_lease_67 rfl ?_
          refine rw_imul (pc := 68) (v := nI (4 * j)) dM_lease_68 (pk_mul _ _) ?_
          refine rw_iload_n (pc := 69) dM_lease_69 rfl ?_
          refine rw_iadd (pc := 70) (v := nI (4 * j + k)) dM_lease_70 (nI_add _ _) ?_
          refine rw_zald (pc := 71) (v := hp_I h 82 (4 * j + k)) (i := (4 * j + k)) dM_lease_71 (mo_o82 hm) (mo_S82 hm) (ix_nI (by omega) (by decide)) rfl ?_
          refine rw_ifeq (pc := 72) dM_lease_72 (tgt := 80) rfl (fun c12 => ?_) (fun c12 => ?_)
          · skip
            refine rw_iconst (pc := 80) (x := nI 0) dM_lease_80 (by decide) ?_
            refine rw_iadd (pc := 81) (v := ((hp_I h 79 (4 * j + k)) + (nI 10)) + (nI 0)) dM_lease_81 rfl ?_
            refine rw_iret (pc := 82) dM_lease_82 rfl ⟨_, rfl, ?_, rfl⟩
            have e9 : m_lease h (nI j) (nI k) = m_leaseA h j k := by simp [m_lease, mi_ib, c2, c4, nI_clamp (show j < 2 ^ 31 by omega), nI_clamp (show k < 2 ^ 31 by omega)]
            rw [e9]
            unfold m_leaseA
            rw [if_pos c6, if_neg c10, if_pos c12]
            try rfl
          · skip
            refine rw_bipush (pc := 75) (x := nI 100) dM_lease_75 (by decide) ?_
            refine rw_goto (pc := 77) dM_lease_77 (tgt := 81) rfl ?_
            refine rw_iadd (pc := 81) (v := ((hp_I h 79 (4 * j + k)) + (nI 10)) + (nI 100)) dM_lease_81 rfl ?_
            refine rw_iret (pc := 82) dM_lease_82 rfl ⟨_, rfl, ?_, rfl⟩
            have e9 : m_lease h (nI j) (nI k) = m_leaseA h j k := by simp [m_lease, mi_ib, c2, c4, nI_clamp (show j < 2 ^ 31 by omega), nI_clamp (show k < 2 ^ 31 by omega)]
            rw [e9]
            unfold m_leaseA
            rw [if_pos c6, if_neg c10, if_neg c12]
            try rfl
    · skip
      refine rw_iconst (pc := 17) (x := (-1)) dM_lease_17 (by decide) ?_
      exact rw_iret (pc := 18) dM_lease_18 rfl ⟨_, rfl, by simp [m_lease, mi_ib, c2, c4, nI_clamp (show j < 2 ^ 31 by omega)], rfl⟩
def m_wtN (h : ha_H) (f : Int32) : Nat → Nat
  | 0 => 0
  | d + 1 => if hp_I h 74 d = f then m_wtN h f d + 1 else m_wtN h f d
theorem m_wtN_le {h : ha_H} {f : Int32} : ∀ d, m_wtN h f d ≤ d
  | 0 => Nat.le_refl _
  | d + 1 => by
    have := m_wtN_le (h := h) (f := f) d
    unfold m_wtN
    split <;> omega
def m_waiting (h : ha_H) (f : Int32) : Int32 := if mi_ib f 3 = true then nI (m_wtN h f 3) else -1
theorem cM_waiting (G : mt_G) (h : ha_H) (hm : mo_ok h) (f : Int32) : rn_M G xM_waiting (1, 0, 0) [.inr (some 62), .inl f] h (rn_i (fun r h' => r = m_waiting h f ∧ h = h')) := by
  refine rn_of (by decide +kernel) (Nat.le_of_ble_eq_true rfl) ?_
  show rn_W G xM_waiting (1, 0, 0) 0 0 0 [some (.inr (some 62)), some (.inl f), none, none] [] h _
  refine rw_iload_n (pc := 0) dM_waiting_0 rfl ?_
  refine rw_iconst (pc := 1) (x := nI 0) dM_waiting_1 (by decide) ?_
  refine rw_iconst (pc := 2) (x := nI 3) dM_waiting_2 (by decide) ?_
  refine rw_si (pc := 3) (z' := (0, 0, 0)) (rc' := 0) (rs' := 0) (av := [.inl f, .inl (nI 0), .inl (nI 3)]) (st := []) mlM_138 msM_in dM_waiting_3 (cM_in G _ _ _ _) rfl rfl (Nat.le_of_ble_eq_true rfl) (by decide) rfl rfl (fun r1 h1 q1 => ?_)
  obtain ⟨rfl, rfl⟩ := q1
  refine rw_ifne (pc := 6) dM_waiting_6 (tgt := 11) rfl (fun c2 => ?_) (fun c2 => ?_)
  · skip
    refine rw_iconst (pc := 11) (x := nI 0) dM_waiting_11 (by decide) ?_
    refine rw_istore_n (pc := 12) (L' := [some (.inr (some 62)), some (.inl f), some (.inl (nI 0)), none]) dM_waiting_12 (by decide) rfl ?_
    refine rw_iconst (pc := 13) (x := nI 0) dM_waiting_13 (by decide) ?_
    refine rw_istore_n (pc := 14) (L' := [some (.inr (some 62)), some (.inl f), some (.inl (nI 0)), some (.inl (nI 0))]) dM_waiting_14 (by decide) rfl ?_
    have e9 : m_waiting h f = nI (m_wtN h f 3) := by simp [m_waiting, mi_ib, c2]
    have loop : ∀ (n d : Nat), d + n = 3 → rn_W G xM_waiting (1, 0, 0) 0 0 15 [some (.inr (some 62)), some (.inl f), some (.inl (nI (m_wtN h f d))), some (.inl (nI d))] [] h (rn_i (fun r h' => r = m_waiting h f ∧ h = h')) := by
      intro n
      induction n with
      | zero =>
        intro d hd
        refine rw_iload_n (pc := 15) dM_waiting_15 rfl ?_
        refine rw_iconst (pc := 16) (x := nI 3) dM_waiting_16 (by decide) ?_
        refine rw_icmpge (pc := 17) dM_waiting_17 (tgt := 44) rfl (fun c3 => ?_) (fun c3 => ?_)
        · skip
          replace c3 : 3 ≤ d := (nI_leI (a := 3) (b := d) (by omega) (by omega)).mp c3
          refine rw_iload_n (pc := 44) dM_waiting_44 rfl ?_
          exact rw_iret (pc := 45) dM_waiting_45 rfl ⟨_, rfl, by rw [e9, show d = 3 by omega], rfl⟩
        · skip
          replace c3 : ¬ (3 ≤ d) := fun qz => c3 ((nI_leI (a := 3) (b := d) (by omega) (by omega)).mpr qz)
          omega
      | succ n ih =>
        intro d hd
        refine rw_iload_n (pc := 15) dM_waiting_15 rfl ?_
        refine rw_iconst (pc := 16) (x := nI 3) dM_waiting_16 (by decide) ?_
        refine rw_icmpge (pc := 17) dM_waiting_17 (tgt := 44) rfl (fun c4 => ?_) (fun c4 => ?_)
        · skip
          replace c4 : 3 ≤ d := (nI_leI (a := 3) (b := d) (by omega) (by omega)).mp c4
          omega
        · skip
          replace c4 : ¬ (3 ≤ d) := fun qz => c4 ((nI_leI (a := 3) (b := d) (by omega) (by omega)).mpr qz)
          refine rw_aload_n (pc := 20) dM_waiting_20 rfl ?_
          refine rw_getR (pc := 21) (x := some 74) flM_44_M dM_waiting_21 (mo_o62 hm) (mo_S62 hm) (mo_R74 hm) ?_
          refine rw_iload_n (pc := 24) dM_waiting_24 rfl ?_
          refine rw_iald (pc := 25) (v := hp_I h 74 d) (i := d) dM_waiting_25 (mo_o74 hm) (mo_S74 hm) (ix_nI (by omega) (by decide)) rfl ?_
          refine rw_iload_n (pc := 26) dM_waiting_26 rfl ?_
          refine rw_icmpne (pc := 27) dM_waiting_27 (tgt := 36) rfl (fun c5 => ?_) (fun c5 => ?_)
          · skip
            refine rw_iload_n (pc := 36) dM_waiting_36 rfl ?_
            refine rw_istore_n (pc := 37) (L' := [some (.inr (some 62)), some (.inl f), some (.inl (nI (m_wtN h f d))), some (.inl (nI d))]) dM_waiting_37 (by decide) rfl ?_
            refine rw_iinc (pc := 38) (x := nI d) (y := nI (d + 1)) (L' := [some (.inr (some 62)), some (.inl f), some (.inl (nI (m_wtN h f d))), some (.inl (nI (d + 1)))]) dM_waiting_38 (by decide) rfl (nI_add _ 1) rfl ?_
            refine rw_goto (pc := 41) dM_waiting_41 (tgt := 15) rfl ?_
            have i9 := ih (d + 1) (by omega)
            rw [show m_wtN h f (d + 1) = _ from if_neg c5] at i9
            exact i9
          · skip
            refine rw_iload_n (pc := 30) dM_waiting_30 rfl ?_
            refine rw_iconst (pc := 31) (x := nI 1) dM_waiting_31 (by decide) ?_
            refine rw_iadd (pc := 32) (v := nI (m_wtN h f d + 1)) dM_waiting_32 (nI_add _ _) ?_
            refine rw_goto (pc := 33) dM_waiting_33 (tgt := 37) rfl ?_
            refine rw_istore_n (pc := 37) (L' := [some (.inr (some 62)), some (.inl f), some (.inl (nI (m_wtN h f d + 1))), some (.inl (nI d))]) dM_waiting_37 (by decide) rfl ?_
            refine rw_iinc (pc := 38) (x := nI d) (y := nI (d + 1)) (L' := [some (.inr (some 62)), some (.inl f), some (.inl (nI (m_wtN h f d + 1))), some (.inl (nI (d + 1)))]) dM_waiting_38 (by decide) rfl (nI_add _ 1) rfl ?_
            refine rw_goto (pc := 41) dM_waiting_41 (tgt := 15) rfl ?_
            have i9 := ih (d + 1) (by omega)
            rw [show m_wtN h f (d + 1) = _ from if_pos c5] at i9
            exact i9
    exact loop 3 0 rfl
  · skip
    refine rw_iconst (pc := 9) (x := (-1)) dM_waiting_9 (by decide) ?_
    exact rw_iret (pc := 10) dM_waiting_10 rfl ⟨_, rfl, by simp [m_waiting, mi_ib, c2], rfl⟩
def m_retry (h : ha_H) (c : Int32) : Int32 × ha_H := if (m_wk h c && !decide (hp_I h 87 c.toNatClampNeg = 0)) = true then (hp_I h 78 c.toNatClampNeg, m_ask h (m_u h) c.toNatClampNeg) else (-1, h)
theorem cM_retry (G : mt_G) (h : ha_H) (hi : mo_I h) (c : Int32) : rn_M G xM_retry (3, 0, 0) [.inr (some 62), .inl c] h (rn_i (fun r h' => r = (m_retry h c).1 ∧ (m_retry h c).2 = h')) := by
  have hm := hi.1
  refine rn_of (by decide +kernel) (Nat.le_of_ble_eq_true rfl) ?_
  show rn_W G xM_retry (3, 0, 0) 0 0 0 [some (.inr (some 62)), some (.inl c)] [] h _
  refine rw_aload_n (pc := 0) dM_retry_0 rfl ?_
  refine rw_iload_n (pc := 1) dM_retry_1 rfl ?_
  refine rw_vi (pc := 2) (z' := (1, 0, 0)) (rc' := 0) (rs' := 0) (av := [.inl c]) (st := []) (ci := 10) mlM_215 miM_works rfl mvM_works_M dM_retry_2 (mo_o62 hm) (mo_S62 hm) (cM_works G _ hm _) rfl rfl (Nat.le_of_ble_eq_true rfl) (by decide) rfl rfl (fun r1 h1 q1 => ?_)
  obtain ⟨rfl, rfl⟩ := q1
  refine rw_ifeq (pc := 5) dM_retry_5 (tgt := 17) rfl (fun c2 => ?_) (fun c2 => ?_)
  · skip
    replace c2 := (m_bi0 _).mp c2
    refine rw_iconst (pc := 17) (x := (-1)) dM_retry_17 (by decide) ?_
    exact rw_iret (pc := 18) dM_retry_18 rfl ⟨_, rfl, by simp [m_retry, mi_ib, c2], by simp [m_retry, mi_ib, c2]⟩
  · skip
    replace c2 := m_bi1 c2
    obtain ⟨j, hj, rfl, hdn⟩ := m_wkT c2
    refine rw_aload_n (pc := 8) dM_retry_8 rfl ?_
    refine rw_getR (pc := 9) (x := some 87) flM_83_M dM_retry_9 (mo_o62 hm) (mo_S62 hm) (mo_R87 hm) ?_
    refine rw_iload_n (pc := 12) dM_retry_12 rfl ?_
    refine rw_iald (pc := 13) (v := hp_I h 87 j) (i := j) dM_retry_13 (mo_o87 hm) (mo_S87 hm) (ix_nI (by omega) (by decide)) rfl ?_
    refine rw_ifne (pc := 14) dM_retry_14 (tgt := 19) rfl (fun c3 => ?_) (fun c3 => ?_)
    · skip
      refine rw_aload_n (pc := 19) dM_retry_19 rfl ?_
      refine rw_iload_n (pc := 20) dM_retry_20 rfl ?_
      refine rw_vv (pc := 21) (z' := (1, 0, 0)) (rc' := 0) (rs' := 0) (av := [.inl (nI j)]) (st := []) (ci := 10) mlM_212 miM_ask rfl mvM_ask_M dM_retry_21 (mo_o62 hm) (mo_S62 hm) (cM_ask G _ hm hi.2.1 hi.2.2.1 hi.2.2.2 hj) rfl rfl (Nat.le_of_ble_eq_true rfl) (by decide) rfl rfl (fun h4 q4 => ?_)
      obtain rfl := q4
      replace hm := (mI_ask hi (c := j)).1.1
      have e78 := m_ask78 (h := h) (u := m_u h) (c := j) (j := j)
      refine rw_aload_n (pc := 24) dM_retry_24 rfl ?_
      refine rw_getR (pc := 25) (x := some 78) flM_56_M dM_retry_25 (mo_o62 hm) (mo_S62 hm) (mo_R78 hm) ?_
      refine rw_iload_n (pc := 28) dM_retry_28 rfl ?_
      refine rw_iald (pc := 29) (v := hp_I h 78 j) (i := j) dM_retry_29 (mo_o78 hm) (mo_S78 hm) (ix_nI (by omega) (by decide)) e78 ?_
      exact rw_iret (pc := 30) dM_retry_30 rfl ⟨_, rfl, by simp [m_retry, mi_ib, c2, c3, nI_clamp (show j < 2 ^ 31 by omega)], by simp [m_retry, mi_ib, c2, c3, nI_clamp (show j < 2 ^ 31 by omega)]⟩
    · skip
      refine rw_iconst (pc := 17) (x := (-1)) dM_retry_17 (by decide) ?_
      exact rw_iret (pc := 18) dM_retry_18 rfl ⟨_, rfl, by simp [m_retry, mi_ib, c2, c3, nI_clamp (show j < 2 ^ 31 by omega)], by simp [m_retry, mi_ib, c2, c3, nI_clamp (show j < 2 ^ 31 by omega)]⟩
