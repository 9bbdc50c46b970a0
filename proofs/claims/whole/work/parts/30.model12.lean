def m_readA (h : ha_H) (c f p q : Nat) : Int32 × ha_H := if hp_I h 82 (4 * c + f) = 0 then (if m_vl h c f = true then ((if q = 1 then nI 1 else hp_I h 83 (16 * c + 4 * f + p)), h) else (-2, h)) else (-3, hp_sI h 82 (4 * c + f) (if q = 1 then nI 1 else nI 0))
def m_read (h : ha_H) (c f p o : Int32) : Int32 × ha_H := if (m_wk h c && (mi_ib f 3 && (mi_ib p 3 && mi_ib o 1))) = true then m_readA h c.toNatClampNeg f.toNatClampNeg p.toNatClampNeg o.toNatClampNeg else (-1, h)
theorem cM_read (G : mt_G) (h : ha_H) (hm : mo_ok h) (c f p o : Int32) : rn_M G xM_read (2, 0, 0) [.inr (some 62), .inl c, .inl f, .inl p, .inl o] h (rn_i (fun r h' => r = (m_read h c f p o).1 ∧ (m_read h c f p o).2 = h')) := by
  refine rn_of (by decide +kernel) (Nat.le_of_ble_eq_true rfl) ?_
  show rn_W G xM_read (2, 0, 0) 0 0 0 [some (.inr (some 62)), some (.inl c), some (.inl f), some (.inl p), some (.inl o)] [] h _
  refine rw_aload_n (pc := 0) dM_read_0 rfl ?_
  refine rw_iload_n (pc := 1) dM_read_1 rfl ?_
  refine rw_vi (pc := 2) (z' := (1, 0, 0)) (rc' := 0) (rs' := 0) (av := [.inl c]) (st := []) (ci := 10) mlM_215 miM_works rfl mvM_works_M dM_read_2 (mo_o62 hm) (mo_S62 hm) (cM_works G _ hm _) rfl rfl (Nat.le_of_ble_eq_true rfl) (by decide) rfl rfl (fun r1 h1 q1 => ?_)
  obtain ⟨rfl, rfl⟩ := q1
  refine rw_ifeq (pc := 5) dM_read_5 (tgt := 36) rfl (fun c2 => ?_) (fun c2 => ?_)
  · skip
    replace c2 := (m_bi0 _).mp c2
    refine rw_iconst (pc := 36) (x := (-1)) dM_read_36 (by decide) ?_
    exact rw_iret (pc := 37) dM_read_37 rfl ⟨_, rfl, by simp [m_read, mi_ib, c2], by simp [m_read, mi_ib, c2]⟩
  · skip
    replace c2 := m_bi1 c2
    obtain ⟨j, hj, rfl, hdn⟩ := m_wkT c2
    refine rw_iload_n (pc := 8) dM_read_8 rfl ?_
    refine rw_iconst (pc := 9) (x := nI 0) dM_read_9 (by decide) ?_
    refine rw_iconst (pc := 10) (x := nI 3) dM_read_10 (by decide) ?_
    refine rw_si (pc := 11) (z' := (0, 0, 0)) (rc' := 0) (rs' := 0) (av := [.inl f, .inl (nI 0), .inl (nI 3)]) (st := []) mlM_138 msM_in dM_read_11 (cM_in G _ _ _ _) rfl rfl (Nat.le_of_ble_eq_true rfl) (by decide) rfl rfl (fun r3 h3 q3 => ?_)
    obtain ⟨rfl, rfl⟩ := q3
    refine rw_ifeq (pc := 14) dM_read_14 (tgt := 36) rfl (fun c4 => ?_) (fun c4 => ?_)
    · skip
      refine rw_iconst (pc := 36) (x := (-1)) dM_read_36 (by decide) ?_
      exact rw_iret (pc := 37) dM_read_37 rfl ⟨_, rfl, by simp [m_read, mi_ib, c2, c4, nI_clamp (show j < 2 ^ 31 by omega)], by simp [m_read, mi_ib, c2, c4, nI_clamp (show j < 2 ^ 31 by omega)]⟩
    · skip
      obtain ⟨k, hk, rfl⟩ := mi_rng (by decide) c4
      refine rw_iload_n (pc := 17) dM_read_17 rfl ?_
      refine rw_iconst (pc := 18) (x := nI 0) dM_read_18 (by decide) ?_
      refine rw_iconst (pc := 19) (x := nI 3) dM_read_19 (by decide) ?_
      refine rw_si (pc := 20) (z' := (0, 0, 0)) (rc' := 0) (rs' := 0) (av := [.inl p, .inl (nI 0), .inl (nI 3)]) (st := []) mlM_138 msM_in dM_read_20 (cM_in G _ _ _ _) rfl rfl (Nat.le_of_ble_eq_true rfl) (by decide) rfl rfl (fun r5 h5 q5 => ?_)
      obtain ⟨rfl, rfl⟩ := q5
      refine rw_ifeq (pc := 23) dM_read_23 (tgt := 36) rfl (fun c6 => ?_) (fun c6 => ?_)
      · skip
        refine rw_iconst (pc := 36) (x := (-1)) dM_read_36 (by decide) ?_
        exact rw_iret (pc := 37) dM_read_37 rfl ⟨_, rfl, by simp [m_read, mi_ib, c2, c4, c6, nI_clamp (show j < 2 ^ 31 by omega), nI_clamp (show k < 2 ^ 31 by omega)], by simp [m_read, mi_ib, c2, c4, c6, nI_clamp (show j < 2 ^ 31 by omega), nI_clamp (show k < 2 ^ 31 by omega)]⟩
      · skip
        obtain ⟨l, hl, rfl⟩ := mi_rng (by decide) c6
        refine rw_iload (pc := 26) dM_read_26 rfl ?_
        refine rw_iconst (pc := 28) (x := nI 0) dM_read_28 (by decide) ?_
        refine rw_iconst (pc := 29) (x := nI 1) dM_read_29 (by decide) ?_
        refine rw_si (pc := 30) (z' := (0, 0, 0)) (rc' := 0) (rs' := 0) (av := [.inl o, .inl (nI 0), .inl (nI 1)]) (st := []) mlM_138 msM_in dM_read_30 (cM_in G _ _ _ _) rfl rfl (Nat.le_of_ble_eq_true rfl) (by decide) rfl rfl (fun r7 h7 q7 => ?_)
        obtain ⟨rfl, rfl⟩ := q7
        refine rw_ifne (pc := 33) dM_read_33 (tgt := 38) rfl (fun c8 => ?_) (fun c8 => ?_)
        · skip
          obtain ⟨q, hq, rfl⟩ := mi_rng (by decide) c8
          refine rw_aload_n (pc := 38) dM_read_38 rfl ?_
          refine rw_getR (pc := 39) (x := some 82) flM_68_M dM_read_39 (mo_o62 hm) (mo_S62 hm) (mo_R82 hm) ?_
          refine rw_iconst (pc := 42) (x := nI 4) dM_read_42 (by decide) ?_
          refine rw_iload_n (pc := 43) dM_read_43 rfl ?_
          refine rw_imul (pc := 44) (v := nI (4 * j)) dM_read_44 (pk_mul _ _) ?_
          refine rw_iload_n (pc := 45) dM_read_45 rfl ?_
          refine rw_iadd (pc := 46) (v := nI (4 * j + k)) dM_read_46 (nI_add _ _) ?_
          refine rw_zald (pc := 47) (v := hp_I h 82 (4 * j + k)) (i := (4 * j + k)) dM_read_47 (mo_o82 hm) (mo_S82 hm) (ix_nI (by omega) (by decide)) rfl ?_
          refine rw_ifeq (pc := 48) dM_read_48 (tgt := 75) rfl (fun c9 => ?_) (fun c9 => ?_)
          · skip
            refine rw_aload_n (pc := 75) dM_read_75 rfl ?_
            refine rw_iload_n (pc := 76) dM_read_76 rfl ?_
            refine rw_iload_n (pc := 77) dM_read_77 rfl ?_
            refine rw_vi (pc := 78) (z' := (0, 0, 0)) (rc' := 0) (rs' := 0) (av := [.inl (nI j), .inl (nI k)]) (st := []) (ci := 10) mlM_221 miM_valid rfl mvM_valid_M dM_read_78 (mo_o62 hm) (mo_S62 hm) (cM_valid G _ hm (by omega) (by omega)) rfl rfl (Nat.le_of_ble_eq_true rfl) (by decide) rfl rfl (fun r10 h10 q10 => ?_)
            obtain ⟨rfl, rfl⟩ := q10
            refine rw_ifne (pc := 81) dM_read_81 (tgt := 87) rfl (fun c11 => ?_) (fun c11 => ?_)
            · skip
              replace c11 := m_bi1 c11
              refine rw_iload (pc := 87) dM_read_87 rfl ?_
              refine rw_iconst (pc := 89) (x := nI 1) dM_read_89 (by decide) ?_
              refine rw_icmpne (pc := 90) dM_read_90 (tgt := 97) rfl (fun c12 => ?_) (fun c12 => ?_)
              · skip
                replace c12 : ¬ (q = 1) := fun qz => c12 ((nI_eq (a := q) (b := 1) (by omega) (by omega)).mpr qz)
                refine rw_aload_n (pc := 97) dM_read_97 rfl ?_
                refine rw_getR (pc := 98) (x := some 83) flM_71_M dM_read_98 (mo_o62 hm) (mo_S62 hm) (mo_R83 hm) ?_
                refine rw_bipush (pc := 101) (x := nI 16) dM_read_101 (by decide) ?_
                refine rw_iload_n (pc := 103) dM_read_103 rfl ?_
                refine rw_imul (pc := 104) (v := nI (16 * j)) dM_read_104 (pk_mul _ _) ?_
                refine rw_iconst (pc := 105) (x := nI 4) dM_read_105 (by decide) ?_
                refine rw_iload_n (pc := 106) dM_read_106 rfl ?_
                refine rw_imul (pc := 107) (v := nI (4 * k)) dM_read_107 (pk_mul _ _) ?_
                refine rw_iadd (pc := 108) (v := nI (16 * j + (4 * k))) dM_read_108 (nI_add _ _) ?_
                refine rw_iload_n (pc := 109) dM_read_109 rfl ?_
                refine rw_iadd (pc := 110) (v := nI (16 * j + (4 * k) + l)) dM_read_110 (nI_add _ _) ?_
                refine rw_iald (pc := 111) (v := hp_I h 83 (16 * j + (4 * k) + l)) (i := (16 * j + (4 * k) + l)) dM_read_111 (mo_o83 hm) (mo_S83 hm) (ix_nI (by omega) (by decide)) rfl ?_
                have e9 : m_read h (nI j) (nI k) (nI l) (nI q) = m_readA h j k l q := by simp [m_read, mi_ib, c2, c4, c6, c8, nI_clamp (show j < 2 ^ 31 by omega), nI_clamp (show k < 2 ^ 31 by omega), nI_clamp (show l < 2 ^ 31 by omega), nI_clamp (show q < 2 ^ 31 by omega)]
                refine rw_iret (pc := 112) dM_read_112 rfl ⟨_, rfl, ?_, ?_⟩ <;> rw [e9] <;> simp [m_readA, c9, c11, c12]
              · skip
                replace c12 : q = 1 := (nI_eq (a := q) (b := 1) (by omega) (by omega)).mp c12
                refine rw_iconst (pc := 93) (x := nI 1) dM_read_93 (by decide) ?_
                refine rw_goto (pc := 94) dM_read_94 (tgt := 112) rfl ?_
                have e9 : m_read h (nI j) (nI k) (nI l) (nI q) = m_readA h j k l q := by simp [m_read, mi_ib, c2, c4, c6, c8, nI_clamp (show j < 2 ^ 31 by omega), nI_clamp (show k < 2 ^ 31 by omega), nI_clamp (show l < 2 ^ 31 by omega), nI_clamp (show q < 2 ^ 31 by omega)]
                refine rw_iret (pc := 112) dM_read_112 rfl ⟨_, rfl, ?_, ?_⟩ <;> rw [e9] <;> simp [m_readA, c9, c11, c12]
            · skip
              replace c11 := (m_bi0 _).mp c11
              refine rw_bipush (pc := 84) (x := (-2)) dM_read_84 (by decide) ?_
              have e9 : m_read h (nI j) (nI k) (nI l) (nI q) = m_readA h j k l q := by simp [m_read, mi_ib, c2, c4, c6, c8, nI_clamp (show j < 2 ^ 31 by omega), nI_clamp (show k < 2 ^ 31 by omega), nI_clamp (show l < 2 ^ 31 by omega), nI_clamp (show q < 2 ^ 31 by omega)]
              refine rw_iret (pc := 86) dM_read_86 rfl ⟨_, rfl, ?_, ?_⟩ <;> rw [e9] <;> simp [m_readA, c9, c11]
          · skip
            refine rw_aload_n (pc := 51) dM_read_51 rfl ?_
            refine rw_getR (pc := 52) (x := some 82) flM_68_M dM_read_52 (mo_o62 hm) (mo_S62 hm) (mo_R82 hm) ?_
            refine rw_iconst (pc := 55) (x := nI 4) dM_read_55 (by decide) ?_
            refine rw_iload_n (pc := 56) dM_read_56 rfl ?_
            refine rw_imul (pc := 57) (v := nI (4 * j)) dM_read_57 (pk_mul _ _) ?_
            refine rw_iload_n (pc := 58) dM_read_58 rfl ?_
            refine rw_iadd (pc := 59) (v := nI (4 * j + k)) dM_read_59 (nI_add _ _) ?_
            refine rw_iload (pc := 60) dM_read_60 rfl ?_
            refine rw_iconst (pc := 62) (x := nI 1) dM_read_62 (by decide) ?_
            refine rw_icmpne (pc := 63) dM_read_63 (tgt := 70) rfl (fun c13 => ?_) (fun c13 => ?_)
            · skip
              replace c13 : ¬ (q = 1) := fun qz => c13 ((nI_eq (a := q) (b := 1) (by omega) (by omega)).mpr qz)
              refine rw_iconst (pc := 70) (x := nI 0) dM_read_70 (by decide) ?_
              refine rw_zast (pc := 71) (i := (4 * j + k)) (Or.inl rfl) dM_read_71 (mo_o82 hm) (mo_S82 hm) (ix_nI (by omega) (by decide)) ?_
              replace hm := mo_sI (a := 82) (k := (4 * j + k)) (v := nI 0) hm
              refine rw_bipush (pc := 72) (x := (-3)) dM_read_72 (by decide) ?_
              have e9 : m_read h (nI j) (nI k) (nI l) (nI q) = m_readA h j k l q := by simp [m_read, mi_ib, c2, c4, c6, c8, nI_clamp (show j < 2 ^ 31 by omega), nI_clamp (show k < 2 ^ 31 by omega), nI_clamp (show l < 2 ^ 31 by omega), nI_clamp (show q < 2 ^ 31 by omega)]
              refine rw_iret (pc := 74) dM_read_74 rfl ⟨_, rfl, ?_, ?_⟩ <;> rw [e9] <;> simp [m_readA, c9, c13]
            · skip
              replace c13 : q = 1 := (nI_eq (a := q) (b := 1) (by omega) (by omega)).mp c13
              refine rw_iconst (pc := 66) (x := nI 1) dM_read_66 (by decide) ?_
              refine rw_goto (pc := 67) dM_read_67 (tgt := 71) rfl ?_
              refine rw_zast (pc := 71) (i := (4 * j + k)) (Or.inr rfl) dM_read_71 (mo_o82 hm) (mo_S82 hm) (ix_nI (by omega) (by decide)) ?_
              replace hm := mo_sI (a := 82) (k := (4 * j + k)) (v := nI 1) hm
              refine rw_bipush (pc := 72) (x := (-3)) dM_read_72 (by decide) ?_
              have e9 : m_read h (nI j) (nI k) (nI l) (nI q) = m_readA h j k l q := by simp [m_read, mi_ib, c2, c4, c6, c8, nI_clamp (show j < 2 ^ 31 by omega), nI_clamp (show k < 2 ^ 31 by omega), nI_clamp (show l < 2 ^ 31 by omega), nI_clamp (show q < 2 ^ 31 by omega)]
              refine rw_iret (pc := 74) dM_read_74 rfl ⟨_, rfl, ?_, ?_⟩ <;> rw [e9] <;> simp [m_readA, c9, c13]
        · skip
          refine rw_iconst (pc := 36) (x := (-1)) dM_read_36 (by decide) ?_
          exact rw_iret (pc := 37) dM_read_37 rfl ⟨_, rfl, by simp [m_read, mi_ib, c2, c4, c6, c8, nI_clamp (show j < 2 ^ 31 by omega), nI_clamp (show k < 2 ^ 31 by omega), nI_clamp (show l < 2 ^ 31 by omega)], by simp [m_read, mi_ib, c2, c4, c6, c8, nI_clamp (show j < 2 ^ 31 by omega), nI_clamp (show k < 2 ^ 31 by omega), nI_clamp (show l < 2 ^ 31 by omega)]⟩
def m_wrH (h : ha_H) (n0 c f p : Nat) (v : Int32) : ha_H := hp_sI (hp_sI (hp_sI (hp_sI h 83 (16 * c + 4 * f + p) v) 85 (6 * c + n0) (nI (4 * f + p))) 86 (6 * c + n0) v) 84 c (nI (n0 + 1))
def m_ls (h : ha_H) (c f : Nat) : ha_H := hp_sI h 82 (4 * c + f) (nI 0)
def m_writeA (h : ha_H) (c f p : Nat) (v : Int32) : Int32 × ha_H := if hp_I h 82 (4 * c + f) = 0 then (if (m_vl (m_ls h c f) c f && decide (hp_I (m_ls h c f) 79 (4 * c + f) = nI 2)) = true then (if m_w h c = 6 then (-4, m_ls h c f) else (nI (m_w h c + 1), m_wrH (m_ls h c f) (m_w h c) c f p v)) else (-2, m_ls h c f)) else (-3, m_ls h c f)
def m_write (h : ha_H) (c f p v : Int32) : Int32 × ha_H := if (m_wk h c && (mi_ib f 3 && mi_ib p 3)) = true then m_writeA h c.toNatClampNeg f.toNatClampNeg p.toNatClampNeg v else (-1, h)
theorem cM_write (G : mt_G) (h : ha_H) (hm : mo_ok h) (hb : mo_b h) (hdw : mo_dw h) (c f p v : Int32) : rn_M G xM_write (2, 0, 0) [.inr (some 62), .inl c, .inl f, .inl p, .inl v] h (rn_i (fun r h' => r = (m_write h c f p v).1 ∧ (m_write h c f p v).2 = h')) := by
  refine rn_of (by decide +kernel) (Nat.le_of_ble_eq_true rfl) ?_
  show rn_W G xM_write (2, 0, 0) 0 0 0 [some (.inr (some 62)), some (.inl c), some (.inl f), some (.inl p), some (.inl v)] [] h _
  refine rw_aload_n (pc := 0) dM_write_0 rfl ?_
  refine rw_iload_n (pc := 1) dM_write_1 rfl ?_
  refine rw_vi (pc := 2) (z' := (1, 0, 0)) (rc' := 0) (rs' := 0) (av := [.inl c]) (st := []) (ci := 10) mlM_215 miM_works rfl mvM_works_M dM_write_2 (mo_o62 hm) (mo_S62 hm) (cM_works G _ hm _) rfl rfl (Nat.le_of_ble_eq_true rfl) (by decide) rfl rfl (fun r1 h1 q1 => ?_)
  obtain ⟨rfl, rfl⟩ := q1
  refine rw_ifeq (pc := 5) dM_write_5 (tgt := 26) rfl (fun c2 => ?_) (fun c2 => ?_)
  · skip
    replace c2 := (m_bi0 _).mp c2
    refine rw_iconst (pc := 26) (x := (-1)) dM_write_26 (by decide) ?_
    exact rw_iret (pc := 27) dM_write_27 rfl ⟨_, rfl, by simp [m_write, mi_ib, c2], by simp [m_write, mi_ib, c2]⟩
  · skip
    replace c2 := m_bi1 c2
    obtain ⟨j, hj, rfl, hdn⟩ := m_wkT c2
    obtain ⟨hw, hw6⟩ := m_wE hdw hj
    refine rw_iload_n (pc := 8) dM_write_8 rfl ?_
    refine rw_iconst (pc := 9) (x := nI 0) dM_write_9 (by decide) ?_
    refine rw_iconst (pc := 10) (x := nI 3) dM_write_10 (by decide) ?_
    refine rw_si (pc := 11) (z' := (0, 0, 0)) (rc' := 0) (rs' := 0) (av := [.inl f, .inl (nI 0), .inl (nI 3)]) (st := []) mlM_138 msM_in dM_write_11 (cM_in G _ _ _ _) rfl rfl (Nat.le_of_ble_eq_true rfl) (by decide) rfl rfl (fun r3 h3 q3 => ?_)
    obtain ⟨rfl, rfl⟩ := q3
    refine rw_ifeq (pc := 14) dM_write_14 (tgt := 26) rfl (fun c4 => ?_) (fun c4 => ?_)
    · skip
      refine rw_iconst (pc := 26) (x := (-1)) dM_write_26 (by decide) ?_
      exact rw_iret (pc := 27) dM_write_27 rfl ⟨_, rfl, by simp [m_write, mi_ib, c2, c4, nI_clamp (show j < 2 ^ 31 by omega)], by simp [m_write, mi_ib, c2, c4, nI_clamp (show j < 2 ^ 31 by omega)]⟩
    · skip
      obtain ⟨k, hk, rfl⟩ := mi_rng (by decide) c4
      refine rw_iload_n (pc := 17) dM_write_17 rfl ?_
      refine rw_iconst (pc := 18) (x := nI 0) dM_write_18 (by decide) ?_
      refine rw_iconst (pc := 19) (x := nI 3) dM_write_19 (by decide) ?_
      refine rw_si (pc := 20) (z' := (0, 0, 0)) (rc' := 0) (rs' := 0) (av := [.inl p, .inl (nI 0), .inl (nI 3)]) (st := []) mlM_138 msM_in dM_write_20 (cM_in G _ _ _ _) rfl rfl (Nat.le_of_ble_eq_true rfl) (by decide) rfl rfl (fun r5 h5 q5 => ?_)
      obtain ⟨rfl, rfl⟩ := q5
      refine rw_ifne (pc := 23) dM_write_23 (tgt := 28) rfl (fun c6 => ?_) (fun c6 => ?_)
      · skip
        obtain ⟨l, hl, rfl⟩ := mi_rng (by decide) c6
        refine rw_aload_n (pc := 28) dM_write_28 rfl ?_
        refine rw_iload_n (pc := 29) dM_write_29 rfl ?_
        refine rw_iload_n (pc := 30) dM_write_30 rfl ?_
        refine rw_vi (pc := 31) (z' := (0, 0, 0)) (rc' := 0) (rs' := 0) (av := [.inl (nI j), .inl (nI k)]) (st := []) (ci := 10) mlM_218 miM_lost rfl mvM_lost_M dM_write_31 (mo_o62 hm) (mo_S62 hm) (cM_lost G _ hm hb (by omega) (by omega)) rfl rfl (Nat.le_of_ble_eq_true rfl) (by decide) rfl rfl (fun r7 h7 q7 => ?_)
        obtain ⟨rfl, rfl⟩ := q7
        replace hm := mo_sI (a := 82) (k := 4 * j + k) (v := nI 0) hm
        replace hw := hI_sI (a := 82) (k := 4 * j + k) (v := nI 0) (by decide) hw
        refine rw_ifeq (pc := 34) dM_write_34 (tgt := 40) rfl (fun c8 => ?_) (fun c8 => ?_)
        · skip
          refine rw_aload_n (pc := 40) dM_write_40 rfl ?_
          refine rw_iload_n (pc := 41) dM_write_41 rfl ?_
          refine rw_iload_n (pc := 42) dM_write_42 rfl ?_
          refine rw_vi (pc := 43) (z' := (0, 0, 0)) (rc' := 0) (rs' := 0) (av := [.inl (nI j), .inl (nI k)]) (st := []) (ci := 10) mlM_221 miM_valid rfl mvM_valid_M dM_write_43 (mo_o62 hm) (mo_S62 hm) (cM_valid G _ hm (by omega) (by omega)) rfl rfl (Nat.le_of_ble_eq_true rfl) (by decide) rfl rfl (fun r9 h9 q9 => ?_)
          obtain ⟨rfl, rfl⟩ := q9
          refine rw_ifeq (pc := 46) dM_write_46 (tgt := 63) rfl (fun c10 => ?_) (fun c10 => ?_)
          · skip
            replace c10 := (m_bi0 _).mp c10
            refine rw_bipush (pc := 63) (x := (-2)) dM_write_63 (by decide) ?_
            have e9 : m_write h (nI j) (nI k) (nI l) v = m_writeA h j k l v := by simp [m_write, mi_ib, c2, c4, c6, nI_clamp (show j < 2 ^ 31 by omega), nI_clamp (show k < 2 ^ 31 by omega), nI_clamp (show l < 2 ^ 31 by omega)]
            refine rw_iret (pc := 65) dM_write_65 rfl ⟨_, rfl, ?_, ?_⟩ <;> rw [e9] <;> simp [m_writeA, m_ls, m_wrH, hI_set, c8, c10]
          · skip
            replace c10 := m_bi1 c10
            refine rw_aload_n (pc := 49) dM_write_49 rfl ?_
            refine rw_getR (pc := 50) (x := some 79) flM_59_M dM_write_50 (mo_o62 hm) (mo_S62 hm) (mo_R79 hm) ?_
            refine rw_iconst (pc := 53) (x := nI 4) dM_write_53 (by decide) ?_
            refine rw_iload_n (pc := 54) dM_write_54 rfl ?_
            refine rw_imul (pc := 55) (v := nI (4 * j)) dM_write_55 (pk_mul _ _) ?_
            refine rw_iload_n (pc := 56) dM_write_56 rfl ?_
            refine rw_iadd (pc := 57) (v := nI (4 * j + k)) dM_write_57 (nI_add _ _) ?_
            refine rw_iald (pc := 58) (v := hp_I (hp_sI h 82 (4 * j + k) (nI 0)) 79 (4 * j + k)) (i := (4 * j + k)) dM_write_58 (mo_o79 hm) (mo_S79 hm) (ix_nI (by omega) (by decide)) rfl ?_
            refine rw_iconst (pc := 59) (x := nI 2) dM_write_59 (by decide) ?_
            refine rw_icmpeq (pc := 60) dM_write_60 (tgt := 66) rfl (fun c11 => ?_) (fun c11 => ?_)
            · skip
              refine rw_aload_n (pc := 66) dM_write_66 rfl ?_
              refine rw_getR (pc := 67) (x := some 84) flM_74_M dM_write_67 (mo_o62 hm) (mo_S62 hm) (mo_R84 hm) ?_
              refine rw_iload_n (pc := 70) dM_write_70 rfl ?_
              refine rw_iald (pc := 71) (v := nI (m_w h j)) (i := j) dM_write_71 (mo_o84 hm) (mo_S84 hm) (ix_nI (by omega) (by decide)) hw ?_
              refine rw_bipush (pc := 72) (x := nI 6) dM_write_72 (by decide) ?_
              refine rw_icmpne (pc := 74) dM_write_74 (tgt := 80) rfl (fun c12 => ?_) (fun c12 => ?_)
              · skip
                replace c12 : ¬ ((m_w h j) = 6) := fun qz => c12 ((nI_eq (a := (m_w h j)) (b := 6) (by omega) (by omega)).mpr qz)
                refine rw_aload_n (pc := 80) dM_write_80 rfl ?_
                refine rw_getR (pc := 81) (x := some 83) flM_71_M dM_write_81 (mo_o62 hm) (mo_S62 hm) (mo_R83 hm) ?_
                refine rw_bipush (pc := 84) (x := nI 16) dM_write_84 (by decide) ?_
                refine rw_iload_n (pc := 86) dM_write_86 rfl ?_
                refine rw_imul (pc := 87) (v := nI (16 * j)) dM_write_87 (pk_mul _ _) ?_
                refine rw_iconst (pc := 88) (x := nI 4) dM_write_88 (by decide) ?_
                refine rw_iload_n (pc := 89) dM_write_89 rfl ?_
                refine rw_imul (pc := 90) (v := nI (4 * k)) dM_write_90 (pk_mul _ _) ?_
                refine rw_iadd (pc := 91) (v := nI (16 * j + (4 * k))) dM_write_91 (nI_add _ _) ?_
                refine rw_iload_n (pc := 92) dM_write_92 rfl ?_
                refine rw_iadd (pc := 93) (v := nI (16 * j + (4 * k) + l)) dM_write_93 (nI_add _ _) ?_
                refine rw_iload (pc := 94) dM_write_94 rfl ?_
                refine rw_iast (pc := 96) (i := (16 * j + (4 * k) + l)) dM_write_96 (mo_o83 hm) (mo_S83 hm) (ix_nI (by omega) (by decide)) ?_
                replace hm := mo_sI (a := 83) (k := (16 * j + (4 * k) + l)) (v := v) hm
                replace hw := hI_sI (a := 83) (k := (16 * j + (4 * k) + l)) (v := v) (by decide) hw
                refine rw_aload_n (pc := 97) dM_write_97 rfl ?_
                refine rw_getR (pc := 98) (x := some 85) flM_77_M dM_write_98 (mo_o62 hm) (mo_S62 hm) (mo_R85 hm) ?_
                refine rw_bipush (pc := 101) (x := nI 6) dM_write_101 (by decide) ?_
                refine rw_iload_n (pc := 103) dM_write_103 rfl ?_
                refine rw_imul (pc := 104) (v := nI (6 * j)) dM_write_104 (pk_mul _ _) ?_
                refine rw_aload_n (pc := 105) dM_write_105 rfl ?_
                refine rw_getR (pc := 106) (x := some 84) flM_74_M dM_write_106 (mo_o62 hm) (mo_S62 hm) (mo_R84 hm) ?_
                refine rw_iload_n (pc := 109) dM_write_109 rfl ?_
                refine rw_iald (pc := 110) (v := nI (m_w h j)) (i := j) dM_write_110 (mo_o84 hm) (mo_S84 hm) (ix_nI (by omega) (by decide)) hw ?_
                refine rw_iadd (pc := 111) (v := nI (6 * j + (m_w h j))) dM_write_111 (nI_add _ _) ?_
                refine rw_iconst (pc := 112) (x := nI 4) dM_write_112 (by decide) ?_
                refine rw_iload_n (pc := 113) dM_write_113 rfl ?_
                refine rw_imul (pc := 114) (v := nI (4 * k)) dM_write_114 (pk_mul _ _) ?_
                refine rw_iload_n (pc := 115) dM_write_115 rfl ?_
                refine rw_iadd (pc := 116) (v := nI (4 * k + l)) dM_write_116 (nI_add _ _) ?_
                refine rw_iast (pc := 117) (i := (6 * j + (m_w h j))) dM_write_117 (mo_o85 hm) (mo_S85 hm) (ix_nI (by omega) (by decide)) ?_
                replace hm := mo_sI (a := 85) (k := (6 * j + (m_w h j))) (v := nI (4 * k + l)) hm
                replace hw := hI_sI (a := 85) (k := (6 * j + (m_w h j))) (v := nI (4 * k + l)) (by decide) hw
                refine rw_aload_n (pc := 118) dM_write_118 rfl ?_
                refine rw_getR (pc := 119) (x := some 86) flM_80_M dM_write_119 (mo_o62 hm) (mo_S62 hm) (mo_R86 hm) ?_
                refine rw_bipush (pc := 122) (x := nI 6) dM_write_122 (by decide) ?_
                refine rw_iload_n (pc := 124) dM_write_124 rfl ?_
                refine rw_imul (pc := 125) (v := nI (6 * j)) dM_write_125 (pk_mul _ _) ?_
                refine rw_aload_n (pc := 126) dM_write_126 rfl ?_
                refine rw_getR (pc := 127) (x := some 84) flM_74_M dM_write_127 (mo_o62 hm) (mo_S62 hm) (mo_R84 hm) ?_
                refine rw_iload_n (pc := 130) dM_write_130 rfl ?_
                refine rw_iald (pc := 131) (v := nI (m_w h j)) (i := j) dM_write_131 (mo_o84 hm) (mo_S84 hm) (ix_nI (by omega) (by decide)) hw ?_
                refine rw_iadd (pc := 132) (v := nI (6 * j + (m_w h j))) dM_write_132 (nI_add _ _) ?_
                refine rw_iload (pc := 133) dM_write_133 rfl ?_
                refine rw_iast (pc := 135) (i := (6 * j + (m_w h j))) dM_write_135 (mo_o86 hm) (mo_S86 hm) (ix_nI (by omega) (by decide)) ?_
                replace hm := mo_sI (a := 86) (k := (6 * j + (m_w h j))) (v := v) hm
                replace hw := hI_sI (a := 86) (k := (6 * j + (m_w h j))) (v := v) (by decide) hw
                refine rw_aload_n (pc := 136) dM_write_136 rfl ?_
                refine rw_getR (pc := 137) (x := some 84) flM_74_M dM_write_137 (mo_o62 hm) (mo_S62 hm) (mo_R84 hm) ?_
                refine rw_iload_n (pc := 140) dM_write_140 rfl ?_
                refine rw_dup2 (pc := 141) dM_write_141 ?_
                refine rw_iald (pc := 142) (v := nI (m_w h j)) (i := j) dM_write_142 (mo_o84 hm) (mo_S84 hm) (ix_nI (by omega) (by decide)) hw ?_
                refine rw_iconst (pc := 143) (x := nI 1) dM_write_143 (by decide) ?_
                refine rw_iadd (pc := 144) (v := nI (m_w h j + 1)) dM_write_144 (nI_add _ _) ?_
                refine rw_iast (pc := 145) (i := j) dM_write_145 (mo_o84 hm) (mo_S84 hm) (ix_nI (by omega) (by decide)) ?_
                replace hm := mo_sI (a := 84) (k := j) (v := nI (m_w h j + 1)) hm
                refine rw_aload_n (pc := 146) dM_write_146 rfl ?_
                refine rw_getR (pc := 147) (x := some 84) flM_74_M dM_write_147 (mo_o62 hm) (mo_S62 hm) (mo_R84 hm) ?_
                refine rw_iload_n (pc := 150) dM_write_150 rfl ?_
                refine rw_iald (pc := 151) (v := hp_I (hp_sI (hp_sI (hp_sI (hp_sI (hp_sI h 82 (4 * j + k) (nI 0)) 83 (16 * j + (4 * k) + l) v) 85 (6 * j + (m_w h j)) (nI (4 * k + l))) 86 (6 * j + (m_w h j)) v) 84 j (nI (m_w h j + 1))) 84 j) (i := j) dM_write_151 (mo_o84 hm) (mo_S84 hm) (ix_nI (by omega) (by decide)) rfl ?_
                have e9 : m_write h (nI j) (nI k) (nI l) v = m_writeA h j k l v := by simp [m_write, mi_ib, c2, c4, c6, nI_clamp (show j < 2 ^ 31 by omega), nI_clamp (show k < 2 ^ 31 by omega), nI_clamp (show l < 2 ^ 31 by omega)]
                refine rw_iret (pc := 152) dM_write_152 rfl ⟨_, rfl, ?_, ?_⟩ <;> rw [e9] <;> simp [m_writeA, m_ls, m_wrH, hI_set, c8, c10, c11, c12]
              · skip
                replace c12 : (m_w h j) = 6 := (nI_eq (a := (m_w h j)) (b := 6) (by omega) (by omega)).mp c12
                refine rw_bipush (pc := 77) (x := (-4)) dM_write_77 (by decide) ?_
                have e9 : m_write h (nI j) (nI k) (nI l) v = m_writeA h j k l v := by simp [m_write, mi_ib, c2, c4, c6, nI_clamp (show j < 2 ^ 31 by omega), nI_clamp (show k < 2 ^ 31 by omega), nI_clamp (show l < 2 ^ 31 by omega)]
                refine rw_iret (pc := 79) dM_write_79 rfl ⟨_, rfl, ?_, ?_⟩ <;> rw [e9] <;> simp [m_writeA, m_ls, m_wrH, hI_set, c8, c10, c11, c12]
            · skip
              refine rw_bipush (pc := 63) (x := (-2)) dM_write_63 (by decide) ?_
              have e9 : m_write h (nI j) (nI k) (nI l) v = m_writeA h j k l v := by simp [m_write, mi_ib, c2, c4, c6, nI_clamp (show j < 2 ^ 31 by omega), nI_clamp (show k < 2 ^ 31 by omega), nI_clamp (show l < 2 ^ 31 by omega)]
              refine rw_iret (pc := 65) dM_write_65 rfl ⟨_, rfl, ?_, ?_⟩ <;> rw [e9] <;> simp [m_writeA, m_ls, m_wrH, hI_set, c8, c10, c11]
        · skip
          refine rw_bipush (pc := 37) (x := (-3)) dM_write_37 (by decide) ?_
          have e9 : m_write h (nI j) (nI k) (nI l) v = m_writeA h j k l v := by simp [m_write, mi_ib, c2, c4, c6, nI_clamp (show j < 2 ^ 31 by omega), nI_clamp (show k < 2 ^ 31 by omega), nI_clamp (show l < 2 ^ 31 by omega)]
          refine rw_iret (pc := 39) dM_write_39 rfl ⟨_, rfl, ?_, ?_⟩ <;> rw [e9] <;> simp [m_writeA, m_ls, m_wrH, hI_set, c8]
      · skip
        refine rw_iconst (pc := 26) (x := (-1)) dM_write_26 (by decide) ?_
        exact rw_iret (pc := 27) dM_write_27 rfl ⟨_, rfl, by simp [m_write, mi_ib, c2, c4, c6, nI_clamp (show j < 2 ^ 31 by omega), nI_clamp (show k < 2 ^ 31 by omega)], by simp [m_write, mi_ib, c2, c4, c6, nI_clamp (show j < 2 ^ 31 by omega), nI_clamp (show k < 2 ^ 31 by omega)]⟩
def m_flA (h : ha_H) (c q : Nat) : Int32 × ha_H := if (m_vl h c (q / 4) && decide (hp_I h 79 (4 * c + q / 4) = nI 2)) = true then m_open (hp_mv (hp_sI h 91 c (nI (q % 4))) 86 (6 * c) 92 c) c (nI 2) (nI (q / 4)) (nI 0) false else (-2, h)
def m_flush (h : ha_H) (c : Int32) : Int32 × ha_H := if (m_wk h c && (!decide (0 < hp_I h 87 c.toNatClampNeg) && !decide (m_w h c.toNatClampNeg = 0))) = true then m_flA h c.toNatClampNeg (hp_I h 85 (6 * c.toNatClampNeg)).toNatClampNeg else (-1, h)
theorem cM_flush (G : mt_G) (h : ha_H) (hi : mo_I h) (hp : mo_dp h) (hdw : mo_dw h) (c : Int32) : rn_M G xM_flush (3, 0, 0) [.inr (some 62), .inl c] h (rn_i (fun r h' => r = (m_flush h c).1 ∧ (m_flush h c).2 = h')) := by
  have hm := hi.1
  refine rn_of (by decide +kernel) (Nat.le_of_ble_eq_true rfl) ?_
  show rn_W G xM_flush (3, 0, 0) 0 0 0 [some (.inr (some 62)), some (.inl c), none] [] h _
  refine rw_aload_n (pc := 0) dM_flush_0 rfl ?_
  refine rw_iload_n (pc := 1) dM_flush_1 rfl ?_
  refine rw_vi (pc := 2) (z' := (1, 0, 0)) (rc' := 0) (rs' := 0) (av := [.inl c]) (st := []) (ci := 10) mlM_215 miM_works rfl mvM_works_M dM_flush_2 (mo_o62 hm) (mo_S62 hm) (cM_works G _ hm _) rfl rfl (Nat.le_of_ble_eq_true rfl) (by decide) rfl rfl (fun r1 h1 q1 => ?_)
  obtain ⟨rfl, rfl⟩ := q1
  refine rw_ifeq (pc := 5) dM_flush_5 (tgt := 26) rfl (fun c2 => ?_) (fun c2 => ?_)
  · skip
    replace c2 := (m_bi0 _).mp c2
    refine rw_iconst (pc := 26) (x := (-1)) dM_flush_26 (by decide) ?_
    exact rw_iret (pc := 27) dM_flush_27 rfl ⟨_, rfl, by simp [m_flush, mi_ib, c2], by simp [m_flush, mi_ib, c2]⟩
  · skip
    replace c2 := m_bi1 c2
    obtain ⟨j, hj, rfl, hdn⟩ := m_wkT c2
    obtain ⟨hw, hw6⟩ := m_wE hdw hj
    obtain ⟨q, hq, hpq0⟩ := hp (6 * j) (by omega)
    have hpq := hpq0
    have eq : (hp_I h 85 (6 * j)).toNatClampNeg = q := by rw [hpq0]; exact nI_clamp (by omega)
    refine rw_aload_n (pc := 8) dM_flush_8 rfl ?_
    refine rw_getR (pc := 9) (x := some 87) flM_83_M dM_flush_9 (mo_o62 hm) (mo_S62 hm) (mo_R87 hm) ?_
    refine rw_iload_n (pc := 12) dM_flush_12 rfl ?_
    refine rw_iald (pc := 13) (v := hp_I h 87 j) (i := j) dM_flush_13 (mo_o87 hm) (mo_S87 hm) (ix_nI (by omega) (by decide)) rfl ?_
    refine rw_ifgt (pc := 14) dM_flush_14 (tgt := 26) rfl (fun c3 => ?_) (fun c3 => ?_)
    · skip
      refine rw_iconst (pc := 26) (x := (-1)) dM_flush_26 (by decide) ?_
      exact rw_iret (pc := 27) dM_flush_27 rfl ⟨_, rfl, by simp [m_flush, mi_ib, c2, c3, nI_clamp (show j < 2 ^ 31 by omega)], by simp [m_flush, mi_ib, c2, c3, nI_clamp (show j < 2 ^ 31 by omega)]⟩
    · skip
      refine rw_aload_n (pc := 17) dM_flush_17 rfl ?_
      refine rw_getR (pc := 18) (x := some 84) flM_74_M dM_flush_18 (mo_o62 hm) (mo_S62 hm) (mo_R84 hm) ?_
      refine rw_iload_n (pc := 21) dM_flush_21 rfl ?_
      refine rw_iald (pc := 22) (v := nI (m_w h j)) (i := j) dM_flush_22 (mo_o84 hm) (mo_S84 hm) (ix_nI (by omega) (by decide)) hw ?_
      refine rw_ifne (pc := 23) dM_flush_23 (tgt := 28) rfl (fun c4 => ?_) (fun c4 => ?_)
      · skip
        replace c4 : ¬ ((m_w h j) = 0) := fun qz => c4 ((nI_eq (a := (m_w h j)) (b := 0) (by omega) (by omega)).mpr qz)
        refine rw_aload_n (pc := 28) dM_flush_28 rfl ?_
        refine rw_getR (pc := 29) (x := some 85) flM_77_M dM_flush_29 (mo_o62 hm) (mo_S62 hm) (mo_R85 hm) ?_
        refine rw_bipush (pc := 32) (x := nI 6) dM_flush_32 (by decide) ?_
        refine rw_iload_n (pc := 34) dM_flush_34 rfl ?_
        refine rw_imul (pc := 35) (v := nI (6 * j)) dM_flush_35 (pk_mul _ _) ?_
        refine rw_iald (pc := 36) (v := nI q) (i := (6 * j)) dM_flush_36 (mo_o85 hm) (mo_S85 hm) (ix_nI (by omega) (by decide)) hpq ?_
        refine rw_iconst (pc := 37) (x := nI 4) dM_flush_37 (by decide) ?_
        refine rw_idiv (pc := 38) (v := nI (q / 4)) dM_flush_38 (by decide) (pk_div (by omega) (by decide) (by decide)) ?_
        refine rw_istore_n (pc := 39) (L' := [some (.inr (some 62)), some (.inl (nI j)), some (.inl (nI (q / 4)))]) dM_flush_39 (by decide) rfl ?_
        refine rw_aload_n (pc := 40) dM_flush_40 rfl ?_
        refine rw_iload_n (pc := 41) dM_flush_41 rfl ?_
        refine rw_iload_n (pc := 42) dM_flush_42 rfl ?_
        refine rw_vi (pc := 43) (z' := (0, 0, 0)) (rc' := 0) (rs' := 0) (av := [.inl (nI j), .inl (nI (q / 4))]) (st := []) (ci := 10) mlM_221 miM_valid rfl mvM_valid_M dM_flush_43 (mo_o62 hm) (mo_S62 hm) (cM_valid G _ hm (by omega) (by omega)) rfl rfl (Nat.le_of_ble_eq_true rfl) (by decide) rfl rfl (fun r5 h5 q5 => ?_)
        obtain ⟨rfl, rfl⟩ := q5
        refine rw_ifeq (pc := 46) dM_flush_46 (tgt := 63) rfl (fun c6 => ?_) (fun c6 => ?_)
        · skip
          replace c6 := (m_bi0 _).mp c6
          refine rw_bipush (pc := 63) (x := (-2)) dM_flush_63 (by decide) ?_
          have e9 : m_flush h (nI j) = m_flA h j q := by simp [m_flush, nI_clamp (show j < 2 ^ 31 by omega), eq, c2, c3, c4]
          refine rw_iret (pc := 65) dM_flush_65 rfl ⟨_, rfl, ?_, ?_⟩ <;> rw [e9] <;> simp [m_flA, c6]
        · skip
          replace c6 := m_bi1 c6
          refine rw_aload_n (pc := 49) dM_flush_49 rfl ?_
          refine rw_getR (pc := 50) (x := some 79) flM_59_M dM_flush_50 (mo_o62 hm) (mo_S62 hm) (mo_R79 hm) ?_
          refine rw_iconst (pc := 53) (x := nI 4) dM_flush_53 (by decide) ?_
          refine rw_iload_n (pc := 54) dM_flush_54 rfl ?_
          refine rw_imul (pc := 55) (v := nI (4 * j)) dM_flush_55 (pk_mul _ _) ?_
          refine rw_iload_n (pc := 56) dM_flush_56 rfl ?_
          refine rw_iadd (pc := 57) (v := nI (4 * j + (q / 4))) dM_flush_57 (nI_add _ _) ?_
          refine rw_iald (pc := 58) (v := hp_I h 79 (4 * j + (q / 4))) (i := (4 * j + (q / 4))) dM_flush_58 (mo_o79 hm) (mo_S79 hm) (ix_nI (by omega) (by decide)) rfl ?_
          refine rw_iconst (pc := 59) (x := nI 2) dM_flush_59 (by decide) ?_
          refine rw_icmpeq (pc := 60) dM_flush_60 (tgt := 66) rfl (fun c7 => ?_) (fun c7 => ?_)
          · skip
            refine rw_aload_n (pc := 66) dM_flush_66 rfl ?_
            refine rw_getR (pc := 67) (x := some 91) flM_95_M dM_flush_67 (mo_o62 hm) (mo_S62 hm) (mo_R91 hm) ?_
            refine rw_iload_n (pc := 70) dM_flush_70 rfl ?_
            refine rw_aload_n (pc := 71) dM_flush_71 rfl ?_
            refine rw_getR (pc := 72) (x := some 85) flM_77_M dM_flush_72 (mo_o62 hm) (mo_S62 hm) (mo_R85 hm) ?_
            refine rw_bipush (pc := 75) (x := nI 6) dM_flush_75 (by decide) ?_
            refine rw_iload_n (pc := 77) dM_flush_77 rfl ?_
            refine rw_imul (pc := 78) (v := nI (6 * j)) dM_flush_78 (pk_mul _ _) ?_
            refine rw_iald (pc := 79) (v := nI q) (i := (6 * j)) dM_flush_79 (mo_o85 hm) (mo_S85 hm) (ix_nI (by omega) (by decide)) hpq ?_
            refine rw_iconst (pc := 80) (x := nI 4) dM_flush_80 (by decide) ?_
            refine rw_irem (pc := 81) (v := nI (q % 4)) dM_flush_81 (by decide) (pk_rem (by omega) (by decide) (by decide)) ?_
            refine rw_iast (pc := 82) (i := j) dM_flush_82 (mo_o91 hm) (mo_S91 hm) (ix_nI (by omega) (by decide)) ?_
            replace hm := mo_sI (a := 91) (k := j) (v := nI (q % 4)) hm
            replace hw := hI_sI (a := 91) (k := j) (v := nI (q % 4)) (by decide) hw
            replace hpq := hI_sI (a := 91) (k := j) (v := nI (q % 4)) (by decide) hpq
            refine rw_aload_n (pc := 83) dM_flush_83 rfl ?_
            refine rw_getR (pc := 84) (x := some 92) flM_98_M dM_flush_84 (mo_o62 hm) (mo_S62 hm) (mo_R92 hm) ?_
            refine rw_iload_n (pc := 87) dM_flush_87 rfl ?_
            refine rw_aload_n (pc := 88) dM_flush_88 rfl ?_
            refine rw_getR (pc := 89) (x := some 86) flM_80_M dM_flush_89 (mo_o62 hm) (mo_S62 hm) (mo_R86 hm) ?_
            refine rw_bipush (pc := 92) (x := nI 6) dM_flush_92 (by decide) ?_
            refine rw_iload_n (pc := 94) dM_flush_94 rfl ?_
            refine rw_imul (pc := 95) (v := nI (6 * j)) dM_flush_95 (pk_mul _ _) ?_
            refine rw_iald (pc := 96) (v := hp_I (hp_sI h 91 j (nI (q % 4))) 86 (6 * j)) (i := (6 * j)) dM_flush_96 (mo_o86 hm) (mo_S86 hm) (ix_nI (by omega) (by decide)) rfl ?_
            refine rw_iast (pc := 97) (i := j) dM_flush_97 (mo_o92 hm) (mo_S92 hm) (ix_nI (by omega) (by decide)) ?_
            show rn_W G xM_flush (3, 0, 0) 0 0 98 [some (.inr (some 62)), some (.inl (nI j)), some (.inl (nI (q / 4)))] [] (hp_mv (hp_sI h 91 j (nI (q % 4))) 86 (6 * j) 92 j) _
            replace hm := mo_mv (A := 86) (i := (6 * j)) (B := 92) (t := j) hm
            replace hw := hI_mv (A := 86) (i := (6 * j)) (B := 92) (t := j) (by decide) hw
            replace hpq := hI_mv (A := 86) (i := (6 * j)) (B := 92) (t := j) (by decide) hpq
            refine rw_aload_n (pc := 98) dM_flush_98 rfl ?_
            refine rw_iload_n (pc := 99) dM_flush_99 rfl ?_
            refine rw_iconst (pc := 100) (x := nI 2) dM_flush_100 (by decide) ?_
            refine rw_iload_n (pc := 101) dM_flush_101 rfl ?_
            refine rw_iconst (pc := 102) (x := nI 0) dM_flush_102 (by decide) ?_
            refine rw_iconst (pc := 103) (x := nI 0) dM_flush_103 (by decide) ?_
            refine rw_vi (pc := 104) (z' := (2, 0, 0)) (rc' := 0) (rs' := 0) (av := [.inl (nI j), .inl (nI 2), .inl (nI (q / 4)), .inl (nI 0), .inl (nI 0)]) (st := []) (ci := 10) mlM_224 miM_open rfl mvM_open_M dM_flush_104 (mo_o62 hm) (mo_S62 hm) (cM_open G _ (mI_mv (mI_sI hi (by decide) (fun q => absurd q (by decide))).1 (by decide) (by decide) |>.1) (by omega) _ _ _ false) rfl rfl (Nat.le_of_ble_eq_true rfl) (by decide) rfl rfl (fun r8 h8 q8 => ?_)
            obtain ⟨rfl, rfl⟩ := q8
            have e9 : m_flush h (nI j) = m_flA h j q := by simp [m_flush, nI_clamp (show j < 2 ^ 31 by omega), eq, c2, c3, c4]
            refine rw_iret (pc := 107) dM_flush_107 rfl ⟨_, rfl, ?_, ?_⟩ <;> rw [e9] <;> simp [m_flA, c6, c7]
          · skip
            refine rw_bipush (pc := 63) (x := (-2)) dM_flush_63 (by decide) ?_
            have e9 : m_flush h (nI j) = m_flA h j q := by simp [m_flush, nI_clamp (show j < 2 ^ 31 by omega), eq, c2, c3, c4]
            refine rw_iret (pc := 65) dM_flush_65 rfl ⟨_, rfl, ?_, ?_⟩ <;> rw [e9] <;> simp [m_flA, c6, c7]
      · skip
        replace c4 : (m_w h j) = 0 := (nI_eq (a := (m_w h j)) (b := 0) (by omega) (by omega)).mp c4
        refine rw_iconst (pc := 26) (x := (-1)) dM_flush_26 (by decide) ?_
        exact rw_iret (pc := 27) dM_flush_27 rfl ⟨_, rfl, by simp [m_flush, mi_ib, c2, c3, c4, nI_clamp (show j < 2 ^ 31 by omega)], by simp [m_flush, mi_ib, c2, c3, c4, nI_clamp (show j < 2 ^ 31 by omega)]⟩
def m_closeA (h : ha_H) (c f : Nat) : Int32 × ha_H := if hp_I h 82 (4 * c + f) = 0 then (if hp_I (m_ls h c f) 79 (4 * c + f) = 0 then (-2, m_ls h c f) else m_open (hp_sI (hp_sI (m_ls h c f) 79 (4 * c + f) (nI 0)) 81 (4 * c + f) (nI 0)) c (nI 3) (nI f) (nI 0) false) else (-3, m_ls h c f)
def m_close (h : ha_H) (c f : Int32) : Int32 × ha_H := if (m_wk h c && (mi_ib f 3 && (!decide (0 < hp_I h 87 c.toNatClampNeg) && !(m_hdN h c.toNatClampNeg f.toNatClampNeg (m_w h c.toNatClampNeg))))) = true then m_closeA h c.toNatClampNeg f.toNatClampNeg else (-1, h)
theorem cM_close (G : mt_G) (h : ha_H) (hi : mo_I h) (hdw : mo_dw h) (c f : Int32) : rn_M G xM_close (3, 0, 0) [.inr (some 62), .inl c, .inl f] h (rn_i (fun r h' => r = (m_close h c f).1 ∧ (m_close h c f).2 = h')) := by
  have hm := hi.1
  have hb := hi.2.1
  refine rn_of (by decide +kernel) (Nat.le_of_ble_eq_true rfl) ?_
  show rn_W G xM_close (3, 0, 0) 0 0 0 [some (.inr (some 62)), some (.inl c), some (.inl f)] [] h _
  refine rw_aload_n (pc := 0) dM_close_0 rfl ?_
  refine rw_iload_n (pc := 1) dM_close_1 rfl ?_
  refine rw_vi (pc := 2) (z' := (1, 0, 0)) (rc' := 0) (rs' := 0) (av := [.inl c]) (st := []) (ci := 10) mlM_215 miM_works rfl mvM_works_M dM_close_2 (mo_o62 hm) (mo_S62 hm) (cM_works G _ hm _) rfl rfl (Nat.le_of_ble_eq_true rfl) (by decide) rfl rfl (fun r1 h1 q1 => ?_)
  obtain ⟨rfl, rfl⟩ := q1
  refine rw_ifeq (pc := 5) dM_close_5 (tgt := 35) rfl (fun c2 => ?_) (fun c2 => ?_)
  · skip
    replace c2 := (m_bi0 _).mp c2
    refine rw_iconst (pc := 35) (x := (-1)) dM_close_35 (by decide) ?_
    exact rw_iret (pc := 36) dM_close_36 rfl ⟨_, rfl, by simp [m_close, mi_ib, c2], by simp [m_close, mi_ib, c2]⟩
  · skip
    replace c2 := m_bi1 c2
    obtain ⟨j, hj, rfl, hdn⟩ := m_wkT c2
    obtain ⟨hw, hw6⟩ := m_wE hdw hj
    refine rw_iload_n (pc := 8) dM_close_8 rfl ?_
    refine rw_iconst (pc := 9) (x := nI 0) dM_close_9 (by decide) ?_
    refine rw_iconst (pc := 10) (x := nI 3) dM_close_10 (by decide) ?_
    refine rw_si (pc := 11) (z' := (0, 0, 0)) (rc' := 0) (rs' := 0) (av := [.inl f, .inl (nI 0), .inl (nI 3)]) (st := []) mlM_138 msM_in dM_close_11 (cM_in G _ _ _ _) rfl rfl (Nat.le_of_ble_eq_true rfl) (by decide) rfl rfl (fun r3 h3 q3 => ?_)
    obtain ⟨rfl, rfl⟩ := q3
    refine rw_ifeq (pc := 14) dM_close_14 (tgt := 35) rfl (fun c4 => ?_) (fun c4 => ?_)
    · skip
      refine rw_iconst (pc := 35) (x := (-1)) dM_close_35 (by decide) ?_
      exact rw_iret (pc := 36) dM_close_36 rfl ⟨_, rfl, by simp [m_close, mi_ib, c2, c4, nI_clamp (show j < 2 ^ 31 by omega)], by simp [m_close, mi_ib, c2, c4, nI_clamp (show j < 2 ^ 31 by omega)]⟩
    · skip
      obtain ⟨k, hk, rfl⟩ := mi_rng (by decide) c4
      refine rw_aload_n (pc := 17) dM_close_17 rfl ?_
      refine rw_getR (pc := 18) (x := some 87) flM_83_M dM_close_18 (mo_o62 hm) (mo_S62 hm) (mo_R87 hm) ?_
      refine rw_iload_n (pc := 21) dM_close_21 rfl ?_
      refine rw_iald (pc := 22) (v := hp_I h 87 j) (i := j) dM_close_22 (mo_o87 hm) (mo_S87 hm) (ix_nI (by omega) (by decide)) rfl ?_
      refine rw_ifgt (pc := 23) dM_close_23 (tgt := 35) rfl (fun c5 => ?_) (fun c5 => ?_)
      · skip
        refine rw_iconst (pc := 35) (x := (-1)) dM_close_35 (by decide) ?_
        exact rw_iret (pc := 36) dM_close_36 rfl ⟨_, rfl, by simp [m_close, mi_ib, c2, c4, c5, nI_clamp (show j < 2 ^ 31 by omega), nI_clamp (show k < 2 ^ 31 by omega)], by simp [m_close, mi_ib, c2, c4, c5, nI_clamp (show j < 2 ^ 31 by omega), nI_clamp (show k < 2 ^ 31 by omega)]⟩
      · skip
        refine rw_aload_n (pc := 26) dM_close_26 rfl ?_
        refine rw_iload_n (pc := 27) dM_close_27 rfl ?_
        refine rw_iload_n (pc := 28) dM_close_28 rfl ?_
        refine rw_vi (pc := 29) (z' := (0, 0, 0)) (rc' := 0) (rs' := 0) (av := [.inl (nI j), .inl (nI k)]) (st := []) (ci := 10) mlM_206 miM_hasDirty rfl mvM_hasDirty_M dM_close_29 (mo_o62 hm) (mo_S62 hm) (cM_hasDirty G _ hm (by omega) (by omega) hw hw6) rfl rfl (Nat.le_of_ble_eq_true rfl) (by decide) rfl rfl (fun r6 h6 q6 => ?_)
        obtain ⟨rfl, rfl⟩ := q6
        refine rw_ifeq (pc := 32) dM_close_32 (tgt := 37) rfl (fun c7 => ?_) (fun c7 => ?_)
        · skip
          replace c7 := (m_bi0 _).mp c7
          refine rw_aload_n (pc := 37) dM_close_37 rfl ?_
          refine rw_iload_n (pc := 38) dM_close_38 rfl ?_
          refine rw_iload_n (pc := 39) dM_close_39 rfl ?_
          refine rw_vi (pc := 40) (z' := (0, 0, 0)) (rc' := 0) (rs' := 0) (av := [.inl (nI j), .inl (nI k)]) (st := []) (ci := 10) mlM_218 miM_lost rfl mvM_lost_M dM_close_40 (mo_o62 hm) (mo_S62 hm) (cM_lost G _ hm hb (by omega) (by omega)) rfl rfl (Nat.le_of_ble_eq_true rfl) (by decide) rfl rfl (fun r8 h8 q8 => ?_)
          obtain ⟨rfl, rfl⟩ := q8
          replace hm := mo_sI (a := 82) (k := 4 * j + k) (v := nI 0) hm
          replace hw := hI_sI (a := 82) (k := 4 * j + k) (v := nI 0) (by decide) hw
          refine rw_ifeq (pc := 43) dM_close_43 (tgt := 49) rfl (fun c9 => ?_) (fun c9 => ?_)
          · skip
            refine rw_aload_n (pc := 49) dM_close_49 rfl ?_
            refine rw_getR (pc := 50) (x := some 79) flM_59_M dM_close_50 (mo_o62 hm) (mo_S62 hm) (mo_R79 hm) ?_
            refine rw_iconst (pc := 53) (x := nI 4) dM_close_53 (by decide) ?_
            refine rw_iload_n (pc := 54) dM_close_54 rfl ?_
            refine rw_imul (pc := 55) (v := nI (4 * j)) dM_close_55 (pk_mul _ _) ?_
            refine rw_iload_n (pc := 56) dM_close_56 rfl ?_
            refine rw_iadd (pc := 57) (v := nI (4 * j + k)) dM_close_57 (nI_add _ _) ?_
            refine rw_iald (pc := 58) (v := hp_I (hp_sI h 82 (4 * j + k) (nI 0)) 79 (4 * j + k)) (i := (4 * j + k)) dM_close_58 (mo_o79 hm) (mo_S79 hm) (ix_nI (by omega) (by decide)) rfl ?_
            refine rw_ifne (pc := 59) dM_close_59 (tgt := 65) rfl (fun c10 => ?_) (fun c10 => ?_)
            · skip
              refine rw_aload_n (pc := 65) dM_close_65 rfl ?_
              refine rw_getR (pc := 66) (x := some 79) flM_59_M dM_close_66 (mo_o62 hm) (mo_S62 hm) (mo_R79 hm) ?_
              refine rw_iconst (pc := 69) (x := nI 4) dM_close_69 (by decide) ?_
              refine rw_iload_n (pc := 70) dM_close_70 rfl ?_
              refine rw_imul (pc := 71) (v := nI (4 * j)) dM_close_71 (pk_mul _ _) ?_
              refine rw_iload_n (pc := 72) dM_close_72 rfl ?_
              refine rw_iadd (pc := 73) (v := nI (4 * j + k)) dM_close_73 (nI_add _ _) ?_
              refine rw_iconst (pc := 74) (x := nI 0) dM_close_74 (by decide) ?_
              refine rw_iast (pc := 75) (i := (4 * j + k)) dM_close_75 (mo_o79 hm) (mo_S79 hm) (ix_nI (by omega) (by decide)) ?_
              replace hm := mo_sI (a := 79) (k := (4 * j + k)) (v := nI 0) hm
              replace hw := hI_sI (a := 79) (k := (4 * j + k)) (v := nI 0) (by decide) hw
              refine rw_aload_n (pc := 76) dM_close_76 rfl ?_
              refine rw_getR (pc := 77) (x := some 81) flM_65_M dM_close_77 (mo_o62 hm) (mo_S62 hm) (mo_R81 hm) ?_
              refine rw_iconst (pc := 80) (x := nI 4) dM_close_80 (by decide) ?_
              refine rw_iload_n (pc := 81) dM_close_81 rfl ?_
              refine rw_imul (pc := 82) (v := nI (4 * j)) dM_close_82 (pk_mul _ _) ?_
              refine rw_iload_n (pc := 83) dM_close_83 rfl ?_
              refine rw_iadd (pc := 84) (v := nI (4 * j + k)) dM_close_84 (nI_add _ _) ?_
              refine rw_iconst (pc := 85) (x := nI 0) dM_close_85 (by decide) ?_
              refine rw_zast (pc := 86) (i := (4 * j + k)) (Or.inl rfl) dM_close_86 (mo_o81 hm) (mo_S81 hm) (ix_nI (by omega) (by decide)) ?_
              replace hm := mo_sI (a := 81) (k := (4 * j + k)) (v := nI 0) hm
              replace hw := hI_sI (a := 81) (k := (4 * j + k)) (v := nI 0) (by decide) hw
              refine rw_aload_n (pc := 87) dM_close_87 rfl ?_
              refine rw_iload_n (pc := 88) dM_close_88 rfl ?_
              refine rw_iconst (pc := 89) (x := nI 3) dM_close_89 (by decide) ?_
              refine rw_iload_n (pc := 90) dM_close_90 rfl ?_
              refine rw_iconst (pc := 91) (x := nI 0) dM_close_91 (by decide) ?_
              refine rw_iconst (pc := 92) (x := nI 0) dM_close_92 (by decide) ?_
              refine rw_vi (pc := 93) (z' := (2, 0, 0)) (rc' := 0) (rs' := 0) (av := [.inl (nI j), .inl (nI 3), .inl (nI k), .inl (nI 0), .inl (nI 0)]) (st := []) (ci := 10) mlM_224 miM_open rfl mvM_open_M dM_close_93 (mo_o62 hm) (mo_S62 hm) (cM_open G _ ((mI_sI (mI_sI (mI_sI hi (by decide) (fun _ => Or.inl nI_0)).1 (by decide) (fun q => absurd q (by decide))).1 (by decide) (fun _ => Or.inl nI_0)).1) (by omega) _ _ _ false) rfl rfl (Nat.le_of_ble_eq_true rfl) (by decide) rfl rfl (fun r11 h11 q11 => ?_)
              obtain ⟨rfl, rfl⟩ := q11
              have e9 : m_close h (nI j) (nI k) = m_closeA h j k := by simp [m_close, mi_ib, c2, c4, c5, c7, nI_clamp (show j < 2 ^ 31 by omega), nI_clamp (show k < 2 ^ 31 by omega)]
              refine rw_iret (pc := 96) dM_close_96 rfl ⟨_, rfl, ?_, ?_⟩ <;> rw [e9] <;> simp [m_closeA, m_ls, c9, c10]
            · skip
              refine rw_bipush (pc := 62) (x := (-2)) dM_close_62 (by decide) ?_
              have e9 : m_close h (nI j) (nI k) = m_closeA h j k := by simp [m_close, mi_ib, c2, c4, c5, c7, nI_clamp (show j < 2 ^ 31 by omega), nI_clamp (show k < 2 ^ 31 by omega)]
              refine rw_iret (pc := 64) dM_close_64 rfl ⟨_, rfl, ?_, ?_⟩ <;> rw [e9] <;> simp [m_closeA, m_ls, c9, c10]
          · skip
            refine rw_bipush (pc := 46) (x := (-3)) dM_close_46 (by decide) ?_
            have e9 : m_close h (nI j) (nI k) = m_closeA h j k := by simp [m_close, mi_ib, c2, c4, c5, c7, nI_clamp (show j < 2 ^ 31 by omega), nI_clamp (show k < 2 ^ 31 by omega)]
            refine rw_iret (pc := 48) dM_close_48 rfl ⟨_, rfl, ?_, ?_⟩ <;> rw [e9] <;> simp [m_closeA, m_ls, c9]
        · skip
          replace c7 := m_bi1 c7
          refine rw_iconst (pc := 35) (x := (-1)) dM_close_35 (by decide) ?_
          exact rw_iret (pc := 36) dM_close_36 rfl ⟨_, rfl, by simp [m_close, mi_ib, c2, c4, c5, c7, nI_clamp (show j < 2 ^ 31 by omega), nI_clamp (show k < 2 ^ 31 by omega)], by simp [m_close, mi_ib, c2, c4, c5, c7, nI_clamp (show j < 2 ^ 31 by omega), nI_clamp (show k < 2 ^ 31 by omega)]⟩
def mi_12 (m : Int32) : Bool := !decide (mi_in m (nI 1) (nI 2) = 0)
def m_acM (h : ha_H) (c f : Nat) (mo : Int32) (n0 : Nat) : Int32 := if (m_vl h c f && decide (hp_I h 79 (4 * c + f) = nI 2)) = true then nI 2 else if m_hdN h c f n0 = true then nI 2 else mo
def m_acC (h : ha_H) (c f : Nat) (mm : Int32) : Bool := m_vl h c f && !decide (hp_I h 79 (4 * c + f) < mm)
def m_acqA (h : ha_H) (c f : Nat) (mo : Int32) : Int32 × ha_H := if hp_I h 82 (4 * c + f) = 0 then m_open (m_ls h c f) c (nI 1) (nI f) (m_acM (m_ls h c f) c f mo (m_w h c)) (m_acC (m_ls h c f) c f (m_acM (m_ls h c f) c f mo (m_w h c))) else (-3, m_ls h c f)
def m_acquire (h : ha_H) (c f mo : Int32) : Int32 × ha_H := if (m_wk h c && (mi_ib f 3 && (mi_12 mo && decide (hp_I h 87 c.toNatClampNeg ≤ 0)))) = true then m_acqA h c.toNatClampNeg f.toNatClampNeg mo else (-1, h)
theorem cM_acquire (G : mt_G) (h : ha_H) (hi : mo_I h) (hdw : mo_dw h) (c f mo : Int32) : rn_M G xM_acquire (3, 0, 0) [.inr (some 62), .inl c, .inl f, .inl mo] h (rn_i (fun r h' => r = (m_acquire h c f mo).1 ∧ (m_acquire h c f mo).2 = h')) := by
  have hm := hi.1
  have hb := hi.2.1
  refine rn_of (by decide +kernel) (Nat.le_of_ble_eq_true rfl) ?_
  show rn_W G xM_acquire (3, 0, 0) 0 0 0 [some (.inr (some 62)), some (.inl c), some (.inl f), some (.inl mo), none, none] [] h _
  refine rw_aload_n (pc := 0) dM_acquire_0 rfl ?_
  refine rw_iload_n (pc := 1) dM_acquire_1 rfl ?_
  refine rw_vi (pc := 2) (z' := (1, 0, 0)) (rc' := 0) (rs' := 0) (av := [.inl c]) (st := []) (ci := 10) mlM_215 miM_works rfl mvM_works_M dM_acquire_2 (mo_o62 hm) (mo_S62 hm) (cM_works G _ hm _) rfl rfl (Nat.le_of_ble_eq_true rfl) (by decide) rfl rfl (fun r1 h1 q1 => ?_)
  obtain ⟨rfl, rfl⟩ := q1
  refine rw_ifeq (pc := 5) dM_acquire_5 (tgt := 35) rfl (fun c2 => ?_) (fun c2 => ?_)
  · skip
    replace c2 := (m_bi0 _).mp c2
    refine rw_iconst (pc := 35) (x := (-1)) dM_acquire_35 (by decide) ?_
    exact rw_iret (pc := 36) dM_acquire_36 rfl ⟨_, rfl, by simp [m_acquire, mi_12, mi_ib, c2], by simp [m_acquire, mi_12, mi_ib, c2]⟩
  · skip
    replace c2 := m_bi1 c2
    obtain ⟨j, hj, rfl, hdn⟩ := m_wkT c2
    obtain ⟨hw, hw6⟩ := m_wE hdw hj
    refine rw_iload_n (pc := 8) dM_acquire_8 rfl ?_
    refine rw_iconst (pc := 9) (x := nI 0) dM_acquire_9 (by decide) ?_
    refine rw_iconst (pc := 10) (x := nI 3) dM_acquire_10 (by decide) ?_
    refine rw_si (pc := 11) (z' := (0, 0, 0)) (rc' := 0) (rs' := 0) (av := [.inl f, .inl (nI 0), .inl (nI 3)]) (st := []) mlM_138 msM_in dM_acquire_11 (cM_in G _ _ _ _) rfl rfl (Nat.le_of_ble_eq_true rfl) (by decide) rfl rfl (fun r3 h3 q3 => ?_)
    obtain ⟨rfl, rfl⟩ := q3
    refine rw_ifeq (pc := 14) dM_acquire_14 (tgt := 35) rfl (fun c4 => ?_) (fun c4 => ?_)
    · skip
      refine rw_iconst (pc := 35) (x := (-1)) dM_acquire_35 (by decide) ?_
      exact rw_iret (pc := 36) dM_acquire_36 rfl ⟨_, rfl, by simp [m_acquire, mi_12, mi_ib, c2, c4, nI_clamp (show j < 2 ^ 31 by omega)], by simp [m_acquire, mi_12, mi_ib, c2, c4, nI_clamp (show j < 2 ^ 31 by omega)]⟩
    · skip
      obtain ⟨k, hk, rfl⟩ := mi_rng (by decide) c4
      refine rw_iload_n (pc := 17) dM_acquire_17 rfl ?_
      refine rw_iconst (pc := 18) (x := nI 1) dM_acquire_18 (by decide) ?_
      refine rw_iconst (pc := 19) (x := nI 2) dM_acquire_19 (by decide) ?_
      refine rw_si (pc := 20) (z' := (0, 0, 0)) (rc' := 0) (rs' := 0) (av := [.inl mo, .inl (nI 1), .inl (nI 2)]) (st := []) mlM_138 msM_in dM_acquire_20 (cM_in G _ _ _ _) rfl rfl (Nat.le_of_ble_eq_true rfl) (by decide) rfl rfl (fun r5 h5 q5 => ?_)
      obtain ⟨rfl, rfl⟩ := q5
      refine rw_ifeq (pc := 23) dM_acquire_23 (tgt := 35) rfl (fun c6 => ?_) (fun c6 => ?_)
      · skip
        refine rw_iconst (pc := 35) (x := (-1)) dM_acquire_35 (by decide) ?_
        exact rw_iret (pc := 36) dM_acquire_36 rfl ⟨_, rfl, by simp [m_acquire, mi_12, mi_ib, c2, c4, c6, nI_clamp (show j < 2 ^ 31 by omega), nI_clamp (show k < 2 ^ 31 by omega)], by simp [m_acquire, mi_12, mi_ib, c2, c4, c6, nI_clamp (show j < 2 ^ 31 by omega), nI_clamp (show k < 2 ^ 31 by omega)]⟩
      · skip
        refine rw_aload_n (pc := 26) dM_acquire_26 rfl ?_
        refine rw_getR (pc := 27) (x := some 87) flM_83_M dM_acquire_27 (mo_o62 hm) (mo_S62 hm) (mo_R87 hm) ?_
        refine rw_iload_n (pc := 30) dM_acquire_30 rfl ?_
        refine rw_iald (pc := 31) (v := hp_I h 87 j) (i := j) dM_acquire_31 (mo_o87 hm) (mo_S87 hm) (ix_nI (by omega) (by decide)) rfl ?_
        refine rw_ifle (pc := 32) dM_acquire_32 (tgt := 37) rfl (fun c7 => ?_) (fun c7 => ?_)
        · skip
          refine rw_aload_n (pc := 37) dM_acquire_37 rfl ?_
          refine rw_iload_n (pc := 38) dM_acquire_38 rfl ?_
          refine rw_iload_n (pc := 39) dM_acquire_39 rfl ?_
          refine rw_vi (pc := 40) (z' := (0, 0, 0)) (rc' := 0) (rs' := 0) (av := [.inl (nI j), .inl (nI k)]) (st := []) (ci := 10) mlM_218 miM_lost rfl mvM_lost_M dM_acquire_40 (mo_o62 hm) (mo_S62 hm) (cM_lost G _ hm hb (by omega) (by omega)) rfl rfl (Nat.le_of_ble_eq_true rfl) (by decide) rfl rfl (fun r8 h8 q8 => ?_)
          obtain ⟨rfl, rfl⟩ := q8
          replace hm := mo_sI (a := 82) (k := 4 * j + k) (v := nI 0) hm
          replace hw := hI_sI (a := 82) (k := 4 * j + k) (v := nI 0) (by decide) hw
          refine rw_ifeq (pc := 43) dM_acquire_43 (tgt := 49) rfl (fun c9 => ?_) (fun c9 => ?_)
          · skip
            have e9 : m_acquire h (nI j) (nI k) mo = m_acqA h j k mo := by simp [m_acquire, mi_ib, mi_12, c2, c4, c6, c7, nI_clamp (show j < 2 ^ 31 by omega), nI_clamp (show k < 2 ^ 31 by omega)]
            have e8 : m_acqA h j k mo = m_open (hp_sI h 82 (4 * j + k) (nI 0)) j (nI 1) (nI k) (m_acM (hp_sI h 82 (4 * j + k) (nI 0)) j k mo (m_w h j)) (m_acC (hp_sI h 82 (4 * j + k) (nI 0)) j k (m_acM (hp_sI h 82 (4 * j + k) (nI 0)) j k mo (m_w h j))) := by unfold m_acqA m_ls; rw [if_pos c9]
            have join : ∀ mm : Int32, mm = m_acM (hp_sI h 82 (4 * j + k) (nI 0)) j k mo (m_w h j) → rn_W G xM_acquire (3, 0, 0) 0 0 90 [some (.inr (some 62)), some (.inl (nI j)), some (.inl (nI k)), some (.inl mo), some (.inl (m_bi (m_vl (hp_sI h 82 (4 * j + k) (nI 0)) j k))), none] [.inl mm] (hp_sI h 82 (4 * j + k) (nI 0)) (rn_i (fun r h' => r = (m_acquire h (nI j) (nI k) mo).1 ∧ (m_acquire h (nI j) (nI k) mo).2 = h')) := by
              intro mm hmm
              refine rw_istore (pc := 90) (L' := [some (.inr (some 62)), some (.inl (nI j)), some (.inl (nI k)), some (.inl mo), some (.inl (m_bi (m_vl (hp_sI h 82 (4 * j + k) (nI 0)) j k))), some (.inl mm)]) dM_acquire_90 (by decide) rfl ?_
              refine rw_aload_n (pc := 92) dM_acquire_92 rfl ?_
              refine rw_iload_n (pc := 93) dM_acquire_93 rfl ?_
              refine rw_iconst (pc := 94) (x := nI 1) dM_acquire_94 (by decide) ?_
              refine rw_iload_n (pc := 95) dM_acquire_95 rfl ?_
              refine rw_iload (pc := 96) dM_acquire_96 rfl ?_
              refine rw_iload (pc := 98) dM_acquire_98 rfl ?_
              refine rw_ifeq (pc := 100) dM_acquire_100 (tgt := 122) rfl (fun c10 => ?_) (fun c10 => ?_)
              · skip
                replace c10 := (m_bi0 _).mp c10
                refine rw_iconst (pc := 122) (x := nI 0) dM_acquire_122 (by decide) ?_
                refine rw_vi (pc := 123) (z' := (2, 0, 0)) (rc' := 0) (rs' := 0) (av := [.inl (nI j), .inl (nI 1), .inl (nI k), .inl mm, .inl (nI 0)]) (st := []) (ci := 10) mlM_224 miM_open rfl mvM_open_M dM_acquire_123 (mo_o62 hm) (mo_S62 hm) (cM_open G _ ((mI_sI hi (by decide) (fun _ => Or.inl nI_0)).1) (by omega) _ _ _ false) rfl rfl (Nat.le_of_ble_eq_true rfl) (by decide) rfl rfl (fun r11 h11 q11 => ?_)
                obtain ⟨rfl, rfl⟩ := q11
                have e7 : m_acC (hp_sI h 82 (4 * j + k) (nI 0)) j k mm = false := by simp [m_acC, c10]
                refine rw_iret (pc := 126) dM_acquire_126 rfl ⟨_, rfl, ?_, ?_⟩ <;> rw [e9, e8, ← hmm, e7]
              · skip
                replace c10 := m_bi1 c10
                refine rw_aload_n (pc := 103) dM_acquire_103 rfl ?_
                refine rw_getR (pc := 104) (x := some 79) flM_59_M dM_acquire_104 (mo_o62 hm) (mo_S62 hm) (mo_R79 hm) ?_
                refine rw_iconst (pc := 107) (x := nI 4) dM_acquire_107 (by decide) ?_
                refine rw_iload_n (pc := 108) dM_acquire_108 rfl ?_
                refine rw_imul (pc := 109) (v := nI (4 * j)) dM_acquire_109 (pk_mul _ _) ?_
                refine rw_iload_n (pc := 110) dM_acquire_110 rfl ?_
                refine rw_iadd (pc := 111) (v := nI (4 * j + k)) dM_acquire_111 (nI_add _ _) ?_
                refine rw_iald (pc := 112) (v := hp_I (hp_sI h 82 (4 * j + k) (nI 0)) 79 (4 * j + k)) (i := (4 * j + k)) dM_acquire_112 (mo_o79 hm) (mo_S79 hm) (ix_nI (by omega) (by decide)) rfl ?_
                refine rw_iload (pc := 113) dM_acquire_113 rfl ?_
                refine rw_icmplt (pc := 115) dM_acquire_115 (tgt := 122) rfl (fun c12 => ?_) (fun c12 => ?_)
                · skip
                  refine rw_iconst (pc := 122) (x := nI 0) dM_acquire_122 (by decide) ?_
                  refine rw_vi (pc := 123) (z' := (2, 0, 0)) (rc' := 0) (rs' := 0) (av := [.inl (nI j), .inl (nI 1), .inl (nI k), .inl mm, .inl (nI 0)]) (st := []) (ci := 10) mlM_224 miM_open rfl mvM_open_M dM_acquire_123 (mo_o62 hm) (mo_S62 hm) (cM_open G _ ((mI_sI hi (by decide) (fun _ => Or.inl nI_0)).1) (by omega) _ _ _ false) rfl rfl (Nat.le_of_ble_eq_true rfl) (by decide) rfl rfl (fun r13 h13 q13 => ?_)
                  obtain ⟨rfl, rfl⟩ := q13
                  have e7 : m_acC (hp_sI h 82 (4 * j + k) (nI 0)) j k mm = false := by simp [m_acC, c10, c12]
                  refine rw_iret (pc := 126) dM_acquire_126 rfl ⟨_, rfl, ?_, ?_⟩ <;> rw [e9, e8, ← hmm, e7]
                · skip
                  refine rw_iconst (pc := 118) (x := nI 1) dM_acquire_118 (by decide) ?_
                  refine rw_goto (pc := 119) dM_acquire_119 (tgt := 123) rfl ?_
                  refine rw_vi (pc := 123) (z' := (2, 0, 0)) (rc' := 0) (rs' := 0) (av := [.inl (nI j), .inl (nI 1), .inl (nI k), .inl mm, .inl (nI 1)]) (st := []) (ci := 10) mlM_224 miM_open rfl mvM_open_M dM_acquire_123 (mo_o62 hm) (mo_S62 hm) (cM_open G _ ((mI_sI hi (by decide) (fun _ => Or.inl nI_0)).1) (by omega) _ _ _ true) rfl rfl (Nat.le_of_ble_eq_true rfl) (by decide) rfl rfl (fun r14 h14 q14 => ?_)
                  obtain ⟨rfl, rfl⟩ := q14
                  have e7 : m_acC (hp_sI h 82 (4 * j + k) (nI 0)) j k mm = true := by simp [m_acC, c10, c12]
                  refine rw_iret (pc := 126) dM_acquire_126 rfl ⟨_, rfl, ?_, ?_⟩ <;> rw [e9, e8, ← hmm, e7]
            refine rw_aload_n (pc := 49) dM_acquire_49 rfl ?_
            refine rw_iload_n (pc := 50) dM_acquire_50 rfl ?_
            refine rw_iload_n (pc := 51) dM_acquire_51 rfl ?_
            refine rw_vi (pc := 52) (z' := (0, 0, 0)) (rc' := 0) (rs' := 0) (av := [.inl (nI j), .inl (nI k)]) (st := []) (ci := 10) mlM_221 miM_valid rfl mvM_valid_M dM_acquire_52 (mo_o62 hm) (mo_S62 hm) (cM_valid G _ hm (by omega) (by omega)) rfl rfl (Nat.le_of_ble_eq_true rfl) (by decide) rfl rfl (fun r15 h15 q15 => ?_)
            obtain ⟨rfl, rfl⟩ := q15
            refine rw_istore (pc := 55) (L' := [some (.inr (some 62)), some (.inl (nI j)), some (.inl (nI k)), some (.inl mo), some (.inl (m_bi (m_vl (hp_sI h 82 (4 * j + k) (nI 0)) j k))), none]) dM_acquire_55 (by decide) rfl ?_
            refine rw_iload (pc := 57) dM_acquire_57 rfl ?_
            refine rw_ifeq (pc := 59) dM_acquire_59 (tgt := 76) rfl (fun c16 => ?_) (fun c16 => ?_)
            · skip
              replace c16 := (m_bi0 _).mp c16
              refine rw_aload_n (pc := 76) dM_acquire_76 rfl ?_
              refine rw_iload_n (pc := 77) dM_acquire_77 rfl ?_
              refine rw_iload_n (pc := 78) dM_acquire_78 rfl ?_
              refine rw_vi (pc := 79) (z' := (0, 0, 0)) (rc' := 0) (rs' := 0) (av := [.inl (nI j), .inl (nI k)]) (st := []) (ci := 10) mlM_206 miM_hasDirty rfl mvM_hasDirty_M dM_acquire_79 (mo_o62 hm) (mo_S62 hm) (cM_hasDirty G _ hm (by omega) (by omega) hw hw6) rfl rfl (Nat.le_of_ble_eq_true rfl) (by decide) rfl rfl (fun r17 h17 q17 => ?_)
              obtain ⟨rfl, rfl⟩ := q17
              refine rw_ifeq (pc := 82) dM_acquire_82 (tgt := 89) rfl (fun c18 => ?_) (fun c18 => ?_)
              · skip
                replace c18 := (m_bi0 _).mp c18
                refine rw_iload_n (pc := 89) dM_acquire_89 rfl ?_
                exact join _ (by simp [m_acM, c16, c18])
              · skip
                replace c18 := m_bi1 c18
                refine rw_iconst (pc := 85) (x := nI 2) dM_acquire_85 (by decide) ?_
                refine rw_goto (pc := 86) dM_acquire_86 (tgt := 90) rfl ?_
                exact join _ (by simp [m_acM, c16, c18])
            · skip
              replace c16 := m_bi1 c16
              refine rw_aload_n (pc := 62) dM_acquire_62 rfl ?_
              refine rw_getR (pc := 63) (x := some 79) flM_59_M dM_acquire_63 (mo_o62 hm) (mo_S62 hm) (mo_R79 hm) ?_
              refine rw_iconst (pc := 66) (x := nI 4) dM_acquire_66 (by decide) ?_
              refine rw_iload_n (pc := 67) dM_acquire_67 rfl ?_
              refine rw_imul (pc := 68) (v := nI (4 * j)) dM_acquire_68 (pk_mul _ _) ?_
              refine rw_iload_n (pc := 69) dM_acquire_69 rfl ?_
              refine rw_iadd (pc := 70) (v := nI (4 * j + k)) dM_acquire_70 (nI_add _ _) ?_
              refine rw_iald (pc := 71) (v := hp_I (hp_sI h 82 (4 * j + k) (nI 0)) 79 (4 * j + k)) (i := (4 * j + k)) dM_acquire_71 (mo_o79 hm) (mo_S79 hm) (ix_nI (by omega) (by decide)) rfl ?_
              refine rw_iconst (pc := 72) (x := nI 2) dM_acquire_72 (by decide) ?_
              refine rw_icmpeq (pc := 73) dM_acquire_73 (tgt := 85) rfl (fun c19 => ?_) (fun c19 => ?_)
              · skip
                refine rw_iconst (pc := 85) (x := nI 2) dM_acquire_85 (by decide) ?_
                refine rw_goto (pc := 86) dM_acquire_86 (tgt := 90) rfl ?_
                exact join _ (by simp [m_acM, c16, c19])
              · skip
                refine rw_aload_n (pc := 76) dM_acquire_76 rfl ?_
                refine rw_iload_n (pc := 77) dM_acquire_77 rfl ?_
                refine rw_iload_n (pc := 78) dM_acquire_78 rfl ?_
                refine rw_vi (pc := 79) (z' := (0, 0, 0)) (rc' := 0) (rs' := 0) (av := [.inl (nI j), .inl (nI k)]) (st := []) (ci := 10) mlM_206 miM_hasDirty rfl mvM_hasDirty_M dM_acquire_79 (mo_o62 hm) (mo_S62 hm) (cM_hasDirty G _ hm (by omega) (by omega) hw hw6) rfl rfl (Nat.le_of_ble_eq_true rfl) (by decide) rfl rfl (fun r20 h20 q20 => ?_)
                obtain ⟨rfl, rfl⟩ := q20
                refine rw_ifeq (pc := 82) dM_acquire_82 (tgt := 89) rfl (fun c21 => ?_) (fun c21 => ?_)
                · skip
                  replace c21 := (m_bi0 _).mp c21
                  refine rw_iload_n (pc := 89) dM_acquire_89 rfl ?_
                  exact join _ (by simp [m_acM, c16, c19, c21])
                · skip
                  replace c21 := m_bi1 c21
                  refine rw_iconst (pc := 85) (x := nI 2) dM_acquire_85 (by decide) ?_
                  refine rw_goto (pc := 86) dM_acquire_86 (tgt := 90) rfl ?_
                  exact join _ (by simp [m_acM, c16, c19, c21])
          · skip
            refine rw_bipush (pc := 46) (x := (-3)) dM_acquire_46 (by decide) ?_
            have e9 : m_acquire h (nI j) (nI k) mo = m_acqA h j k mo := by simp [m_acquire, mi_ib, mi_12, c2, c4, c6, c7, nI_clamp (show j < 2 ^ 31 by omega), nI_clamp (show k < 2 ^ 31 by omega)]
            refine rw_iret (pc := 48) dM_acquire_48 rfl ⟨_, rfl, ?_, ?_⟩ <;> rw [e9] <;> simp [m_acqA, m_ls, c9]
        · skip
          refine rw_iconst (pc := 35) (x := (-1)) dM_acquire_35 (by decide) ?_
          exact rw_iret (pc := 36) dM_acquire_36 rfl ⟨_, rfl, by simp [m_acquire, mi_12, mi_ib, c2, c4, c6, c7, nI_clamp (show j < 2 ^ 31 by omega), nI_clamp (show k < 2 ^ 31 by omega)], by simp [m_acquire, mi_12, mi_ib, c2, c4, c6, c7, nI_clamp (show j < 2 ^ 31 by omega), nI_clamp (show k < 2 ^ 31 by omega)]⟩
