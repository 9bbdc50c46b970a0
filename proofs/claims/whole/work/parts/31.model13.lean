def m_rsA (h : ha_H) (x : Nat) : ha_H := hp_sI (hp_sI h 63 x (nI 0)) 62 6 (if x = 3 then hp_I h 64 3 + hp_I h 62 0 else hp_I h 62 6)
def m_upN (h : ha_H) (x : Int32) (d : Bool) : Bool := mi_ib x 3 && (if d = true then !decide (hp_I h 63 x.toNatClampNeg = 0) else decide (hp_I h 63 x.toNatClampNeg = 0))
def m_restart (h : ha_H) (x : Int32) : Int32 × ha_H := if m_upN h x true = true then (nI 1, m_rsA h x.toNatClampNeg) else (nI 0, h)
theorem cM_restart (G : mt_G) (h : ha_H) (hm : mo_ok h) (x : Int32) : rn_M G xM_restart (1, 0, 0) [.inr (some 62), .inl x] h (rn_i (fun r h' => r = (m_restart h x).1 ∧ (m_restart h x).2 = h')) := by
  refine rn_of (by decide +kernel) (Nat.le_of_ble_eq_true rfl) ?_
  show rn_W G xM_restart (1, 0, 0) 0 0 0 [some (.inr (some 62)), some (.inl x)] [] h _
  refine rw_iload_n (pc := 0) dM_restart_0 rfl ?_
  refine rw_iconst (pc := 1) (x := nI 0) dM_restart_1 (by decide) ?_
  refine rw_iconst (pc := 2) (x := nI 3) dM_restart_2 (by decide) ?_
  refine rw_si (pc := 3) (z' := (0, 0, 0)) (rc' := 0) (rs' := 0) (av := [.inl x, .inl (nI 0), .inl (nI 3)]) (st := []) mlM_138 msM_in dM_restart_3 (cM_in G _ _ _ _) rfl rfl (Nat.le_of_ble_eq_true rfl) (by decide) rfl rfl (fun r1 h1 q1 => ?_)
  obtain ⟨rfl, rfl⟩ := q1
  refine rw_ifeq (pc := 6) dM_restart_6 (tgt := 18) rfl (fun c2 => ?_) (fun c2 => ?_)
  · skip
    refine rw_iconst (pc := 18) (x := nI 0) dM_restart_18 (by decide) ?_
    exact rw_zret (pc := 19) dM_restart_19 rfl (Or.inl rfl) ⟨_, rfl, by simp [m_restart, m_upN, mi_ib, c2], by simp [m_restart, m_upN, mi_ib, c2]⟩
  · skip
    obtain ⟨j, hj, rfl⟩ := mi_rng (by decide) c2
    obtain ⟨t3, ht0⟩ : ∃ t, hp_I h 64 3 = t := ⟨_, rfl⟩
    obtain ⟨du, hd0⟩ : ∃ t, hp_I h 62 0 = t := ⟨_, rfl⟩
    obtain ⟨gr, hg0⟩ : ∃ t, hp_I h 62 6 = t := ⟨_, rfl⟩
    have ht := ht0
    have hd := hd0
    have hg := hg0
    refine rw_aload_n (pc := 9) dM_restart_9 rfl ?_
    refine rw_getR (pc := 10) (x := some 63) flM_7_M dM_restart_10 (mo_o62 hm) (mo_S62 hm) (mo_R63 hm) ?_
    refine rw_iload_n (pc := 13) dM_restart_13 rfl ?_
    refine rw_zald (pc := 14) (v := hp_I h 63 j) (i := j) dM_restart_14 (mo_o63 hm) (mo_S63 hm) (ix_nI (by omega) (by decide)) rfl ?_
    refine rw_ifne (pc := 15) dM_restart_15 (tgt := 20) rfl (fun c3 => ?_) (fun c3 => ?_)
    · skip
      refine rw_aload_n (pc := 20) dM_restart_20 rfl ?_
      refine rw_getR (pc := 21) (x := some 63) flM_7_M dM_restart_21 (mo_o62 hm) (mo_S62 hm) (mo_R63 hm) ?_
      refine rw_iload_n (pc := 24) dM_restart_24 rfl ?_
      refine rw_iconst (pc := 25) (x := nI 0) dM_restart_25 (by decide) ?_
      refine rw_zast (pc := 26) (i := j) (Or.inl rfl) dM_restart_26 (mo_o63 hm) (mo_S63 hm) (ix_nI (by omega) (by decide)) ?_
      replace hm := mo_sI (a := 63) (k := j) (v := nI 0) hm
      replace ht := hI_sI (a := 63) (k := j) (v := nI 0) (by decide) ht
      replace hd := hI_sI (a := 63) (k := j) (v := nI 0) (by decide) hd
      replace hg := hI_sI (a := 63) (k := j) (v := nI 0) (by decide) hg
      refine rw_aload_n (pc := 27) dM_restart_27 rfl ?_
      refine rw_iload_n (pc := 28) dM_restart_28 rfl ?_
      refine rw_iconst (pc := 29) (x := nI 3) dM_restart_29 (by decide) ?_
      refine rw_icmpne (pc := 30) dM_restart_30 (tgt := 47) rfl (fun c4 => ?_) (fun c4 => ?_)
      · skip
        replace c4 : ¬ (j = 3) := fun qz => c4 ((nI_eq (a := j) (b := 3) (by omega) (by omega)).mpr qz)
        refine rw_aload_n (pc := 47) dM_restart_47 rfl ?_
        refine rw_getI (pc := 48) (x := gr) flM_190_M dM_restart_48 (mo_o62 hm) (mo_S62 hm) hg ?_
        refine rw_putI (pc := 51) pfM_190_M dM_restart_51 (mo_o62 hm) (mo_S62 hm) ?_
        replace hm := mo_sI (a := 62) (k := 6) (v := gr) hm
        replace ht := hI_sI (a := 62) (k := 6) (v := gr) (by decide) ht
        replace hd := hI_sI2 (a := 62) (k := 6) (v := gr) (by decide) hd
        have e5 : hp_I (hp_sI (hp_sI h 63 j (nI 0)) 62 6 gr) 62 6 = gr := hI_set
        refine rw_iconst (pc := 54) (x := nI 1) dM_restart_54 (by decide) ?_
        refine rw_zret (pc := 55) dM_restart_55 rfl (Or.inr rfl) ⟨_, rfl, ?_, ?_⟩ <;> simp [m_restart, m_upN, m_rsA, mi_ib, ht0, hd0, hg0, c2, c3, c4, nI_clamp (show j < 2 ^ 31 by omega)]
      · skip
        replace c4 : j = 3 := (nI_eq (a := j) (b := 3) (by omega) (by omega)).mp c4
        subst c4
        refine rw_aload_n (pc := 33) dM_restart_33 rfl ?_
        refine rw_getR (pc := 34) (x := some 64) flM_13_M dM_restart_34 (mo_o62 hm) (mo_S62 hm) (mo_R64 hm) ?_
        refine rw_iconst (pc := 37) (x := nI 3) dM_restart_37 (by decide) ?_
        refine rw_iald (pc := 38) (v := t3) (i := 3) dM_restart_38 (mo_o64 hm) (mo_S64 hm) (ix_nI (by omega) (by decide)) ht ?_
        refine rw_aload_n (pc := 39) dM_restart_39 rfl ?_
        refine rw_getI (pc := 40) (x := du) flM_131_M dM_restart_40 (mo_o62 hm) (mo_S62 hm) hd ?_
        refine rw_iadd (pc := 43) (v := t3 + du) dM_restart_43 rfl ?_
        refine rw_goto (pc := 44) dM_restart_44 (tgt := 51) rfl ?_
        refine rw_putI (pc := 51) pfM_190_M dM_restart_51 (mo_o62 hm) (mo_S62 hm) ?_
        replace hm := mo_sI (a := 62) (k := 6) (v := t3 + du) hm
        replace ht := hI_sI (a := 62) (k := 6) (v := t3 + du) (by decide) ht
        replace hd := hI_sI2 (a := 62) (k := 6) (v := t3 + du) (by decide) hd
        have e6 : hp_I (hp_sI (hp_sI h 63 3 (nI 0)) 62 6 (t3 + du)) 62 6 = t3 + du := hI_set
        refine rw_iconst (pc := 54) (x := nI 1) dM_restart_54 (by decide) ?_
        refine rw_zret (pc := 55) dM_restart_55 rfl (Or.inr rfl) ⟨_, rfl, ?_, ?_⟩ <;> simp [m_restart, m_upN, m_rsA, mi_ib, ht0, hd0, hg0, c2, c3, nI_clamp (show (3 : Nat) < 2 ^ 31 by omega)]
    · skip
      refine rw_iconst (pc := 18) (x := nI 0) dM_restart_18 (by decide) ?_
      exact rw_zret (pc := 19) dM_restart_19 rfl (Or.inl rfl) ⟨_, rfl, by simp [m_restart, m_upN, mi_ib, c2, c3, nI_clamp (show j < 2 ^ 31 by omega)], by simp [m_restart, m_upN, mi_ib, c2, c3, nI_clamp (show j < 2 ^ 31 by omega)]⟩
def m_crS (h : ha_H) : ha_H := hp_sI (hp_sI (hp_sI (hp_sI (hp_sI (hp_sI (hp_sI (hp_sI (hp_sI (hp_sI (hp_sI (hp_sI (hp_sI (hp_sI (hp_sI (hp_sI h 63 3 (nI 1)) 66 0 (nI 0)) 66 1 (nI 0)) 66 2 (nI 0)) 66 3 (nI 0)) 66 4 (nI 0)) 66 5 (nI 0)) 66 6 (nI 0)) 66 7 (nI 0)) 66 8 (nI 0)) 66 9 (nI 0)) 66 10 (nI 0)) 66 11 (nI 0)) 74 0 (-1)) 74 1 (-1)) 74 2 (-1)
def m_crC (h : ha_H) (c : Nat) : ha_H := hp_sI (hp_sI (hp_sI (hp_sI (hp_sI (hp_sI (hp_sI (hp_sI (hp_sI (hp_sI (hp_sI (hp_sI (hp_sI (hp_sI (hp_sI h 63 c (nI 1)) 87 c (nI 0)) 84 c (nI 0)) 79 (4 * c + 0) (nI 0)) 81 (4 * c + 0) (nI 0)) 82 (4 * c + 0) (nI 0)) 79 (4 * c + 1) (nI 0)) 81 (4 * c + 1) (nI 0)) 82 (4 * c + 1) (nI 0)) 79 (4 * c + 2) (nI 0)) 81 (4 * c + 2) (nI 0)) 82 (4 * c + 2) (nI 0)) 79 (4 * c + 3) (nI 0)) 81 (4 * c + 3) (nI 0)) 82 (4 * c + 3) (nI 0)
def m_crash (h : ha_H) (x : Int32) : Int32 × ha_H := if m_upN h x false = true then (nI 1, if x.toNatClampNeg = 3 then m_crS h else m_crC h x.toNatClampNeg) else (nI 0, h)
theorem cM_crash (G : mt_G) (h : ha_H) (hm : mo_ok h) (x : Int32) : rn_M G xM_crash (1, 0, 0) [.inr (some 62), .inl x] h (rn_i (fun r h' => r = (m_crash h x).1 ∧ (m_crash h x).2 = h')) := by
  refine rn_of (by decide +kernel) (Nat.le_of_ble_eq_true rfl) ?_
  show rn_W G xM_crash (1, 0, 0) 0 0 0 [some (.inr (some 62)), some (.inl x), none] [] h _
  refine rw_iload_n (pc := 0) dM_crash_0 rfl ?_
  refine rw_iconst (pc := 1) (x := nI 0) dM_crash_1 (by decide) ?_
  refine rw_iconst (pc := 2) (x := nI 3) dM_crash_2 (by decide) ?_
  refine rw_si (pc := 3) (z' := (0, 0, 0)) (rc' := 0) (rs' := 0) (av := [.inl x, .inl (nI 0), .inl (nI 3)]) (st := []) mlM_138 msM_in dM_crash_3 (cM_in G _ _ _ _) rfl rfl (Nat.le_of_ble_eq_true rfl) (by decide) rfl rfl (fun r1 h1 q1 => ?_)
  obtain ⟨rfl, rfl⟩ := q1
  refine rw_ifeq (pc := 6) dM_crash_6 (tgt := 18) rfl (fun c2 => ?_) (fun c2 => ?_)
  · skip
    refine rw_iconst (pc := 18) (x := nI 0) dM_crash_18 (by decide) ?_
    exact rw_zret (pc := 19) dM_crash_19 rfl (Or.inl rfl) ⟨_, rfl, by simp [m_crash, m_upN, mi_ib, c2], by simp [m_crash, m_upN, mi_ib, c2]⟩
  · skip
    obtain ⟨j, hj, rfl⟩ := mi_rng (by decide) c2
    refine rw_aload_n (pc := 9) dM_crash_9 rfl ?_
    refine rw_getR (pc := 10) (x := some 63) flM_7_M dM_crash_10 (mo_o62 hm) (mo_S62 hm) (mo_R63 hm) ?_
    refine rw_iload_n (pc := 13) dM_crash_13 rfl ?_
    refine rw_zald (pc := 14) (v := hp_I h 63 j) (i := j) dM_crash_14 (mo_o63 hm) (mo_S63 hm) (ix_nI (by omega) (by decide)) rfl ?_
    refine rw_ifeq (pc := 15) dM_crash_15 (tgt := 20) rfl (fun c3 => ?_) (fun c3 => ?_)
    · skip
      refine rw_aload_n (pc := 20) dM_crash_20 rfl ?_
      refine rw_getR (pc := 21) (x := some 63) flM_7_M dM_crash_21 (mo_o62 hm) (mo_S62 hm) (mo_R63 hm) ?_
      refine rw_iload_n (pc := 24) dM_crash_24 rfl ?_
      refine rw_iconst (pc := 25) (x := nI 1) dM_crash_25 (by decide) ?_
      refine rw_zast (pc := 26) (i := j) (Or.inr rfl) dM_crash_26 (mo_o63 hm) (mo_S63 hm) (ix_nI (by omega) (by decide)) ?_
      replace hm := mo_sI (a := 63) (k := j) (v := nI 1) hm
      refine rw_iload_n (pc := 27) dM_crash_27 rfl ?_
      refine rw_iconst (pc := 28) (x := nI 3) dM_crash_28 (by decide) ?_
      refine rw_icmpne (pc := 29) dM_crash_29 (tgt := 75) rfl (fun c4 => ?_) (fun c4 => ?_)
      · skip
        replace c4 : ¬ (j = 3) := fun qz => c4 ((nI_eq (a := j) (b := 3) (by omega) (by omega)).mpr qz)
        refine rw_aload_n (pc := 75) dM_crash_75 rfl ?_
        refine rw_getR (pc := 76) (x := some 87) flM_83_M dM_crash_76 (mo_o62 hm) (mo_S62 hm) (mo_R87 hm) ?_
        refine rw_iload_n (pc := 79) dM_crash_79 rfl ?_
        refine rw_iconst (pc := 80) (x := nI 0) dM_crash_80 (by decide) ?_
        refine rw_iast (pc := 81) (i := j) dM_crash_81 (mo_o87 hm) (mo_S87 hm) (ix_nI (by omega) (by decide)) ?_
        replace hm := mo_sI (a := 87) (k := j) (v := nI 0) hm
        refine rw_aload_n (pc := 82) dM_crash_82 rfl ?_
        refine rw_getR (pc := 83) (x := some 84) flM_74_M dM_crash_83 (mo_o62 hm) (mo_S62 hm) (mo_R84 hm) ?_
        refine rw_iload_n (pc := 86) dM_crash_86 rfl ?_
        refine rw_iconst (pc := 87) (x := nI 0) dM_crash_87 (by decide) ?_
        refine rw_iast (pc := 88) (i := j) dM_crash_88 (mo_o84 hm) (mo_S84 hm) (ix_nI (by omega) (by decide)) ?_
        replace hm := mo_sI (a := 84) (k := j) (v := nI 0) hm
        refine rw_iconst (pc := 89) (x := nI 0) dM_crash_89 (by decide) ?_
        refine rw_istore_n (pc := 90) (L' := [some (.inr (some 62)), some (.inl (nI j)), some (.inl (nI 0))]) dM_crash_90 (by decide) rfl ?_
        refine rw_iload_n (pc := 91) dM_crash_91 rfl ?_
        refine rw_iconst (pc := 92) (x := nI 4) dM_crash_92 (by decide) ?_
        refine rw_icmpge (pc := 93) dM_crash_93 (tgt := 135) rfl (fun c5 => ?_) (fun c5 => ?_)
        · skip
          replace c5 : 4 ≤ 0 := (nI_leI (a := 4) (b := 0) (by omega) (by omega)).mp c5
          exact absurd c5 (by decide)
        · skip
          replace c5 : ¬ (4 ≤ 0) := fun qz => c5 ((nI_leI (a := 4) (b := 0) (by omega) (by omega)).mpr qz)
          refine rw_aload_n (pc := 96) dM_crash_96 rfl ?_
          refine rw_getR (pc := 97) (x := some 79) flM_59_M dM_crash_97 (mo_o62 hm) (mo_S62 hm) (mo_R79 hm) ?_
          refine rw_iconst (pc := 100) (x := nI 4) dM_crash_100 (by decide) ?_
          refine rw_iload_n (pc := 101) dM_crash_101 rfl ?_
          refine rw_imul (pc := 102) (v := nI (4 * j)) dM_crash_102 (pk_mul _ _) ?_
          refine rw_iload_n (pc := 103) dM_crash_103 rfl ?_
          refine rw_iadd (pc := 104) (v := nI (4 * j + 0)) dM_crash_104 (nI_add _ _) ?_
          refine rw_iconst (pc := 105) (x := nI 0) dM_crash_105 (by decide) ?_
          refine rw_iast (pc := 106) (i := (4 * j + 0)) dM_crash_106 (mo_o79 hm) (mo_S79 hm) (ix_nI (by omega) (by decide)) ?_
          replace hm := mo_sI (a := 79) (k := (4 * j + 0)) (v := nI 0) hm
          refine rw_aload_n (pc := 107) dM_crash_107 rfl ?_
          refine rw_getR (pc := 108) (x := some 81) flM_65_M dM_crash_108 (mo_o62 hm) (mo_S62 hm) (mo_R81 hm) ?_
          refine rw_iconst (pc := 111) (x := nI 4) dM_crash_111 (by decide) ?_
          refine rw_iload_n (pc := 112) dM_crash_112 rfl ?_
          refine rw_imul (pc := 113) (v := nI (4 * j)) dM_crash_113 (pk_mul _ _) ?_
          refine rw_iload_n (pc := 114) dM_crash_114 rfl ?_
          refine rw_iadd (pc := 115) (v := nI (4 * j + 0)) dM_crash_115 (nI_add _ _) ?_
          refine rw_iconst (pc := 116) (x := nI 0) dM_crash_116 (by decide) ?_
          refine rw_zast (pc := 117) (i := (4 * j + 0)) (Or.inl rfl) dM_crash_117 (mo_o81 hm) (mo_S81 hm) (ix_nI (by omega) (by decide)) ?_
          replace hm := mo_sI (a := 81) (k := (4 * j + 0)) (v := nI 0) hm
          refine rw_aload_n (pc := 118) dM_crash_118 rfl ?_
          refine rw_getR (pc := 119) (x := some 82) flM_68_M dM_crash_119 (mo_o62 hm) (mo_S62 hm) (mo_R82 hm) ?_
          refine rw_iconst (pc := 122) (x := nI 4) dM_crash_122 (by decide) ?_
          refine rw_iload_n (pc := 123) dM_crash_123 rfl ?_
          refine rw_imul (pc := 124) (v := nI (4 * j)) dM_crash_124 (pk_mul _ _) ?_
          refine rw_iload_n (pc := 125) dM_crash_125 rfl ?_
          refine rw_iadd (pc := 126) (v := nI (4 * j + 0)) dM_crash_126 (nI_add _ _) ?_
          refine rw_iconst (pc := 127) (x := nI 0) dM_crash_127 (by decide) ?_
          refine rw_zast (pc := 128) (i := (4 * j + 0)) (Or.inl rfl) dM_crash_128 (mo_o82 hm) (mo_S82 hm) (ix_nI (by omega) (by decide)) ?_
          replace hm := mo_sI (a := 82) (k := (4 * j + 0)) (v := nI 0) hm
          refine rw_iinc (pc := 129) (x := nI 0) (y := nI 1) (L' := [some (.inr (some 62)), some (.inl (nI j)), some (.inl (nI 1))]) dM_crash_129 (by decide) rfl (by decide) rfl ?_
          refine rw_goto (pc := 132) dM_crash_132 (tgt := 91) rfl ?_
          refine rw_iload_n (pc := 91) dM_crash_91 rfl ?_
          refine rw_iconst (pc := 92) (x := nI 4) dM_crash_92 (by decide) ?_
          refine rw_icmpge (pc := 93) dM_crash_93 (tgt := 135) rfl (fun c6 => ?_) (fun c6 => ?_)
          · skip
            replace c6 : 4 ≤ 1 := (nI_leI (a := 4) (b := 1) (by omega) (by omega)).mp c6
            exact absurd c6 (by decide)
          · skip
            replace c6 : ¬ (4 ≤ 1) := fun qz => c6 ((nI_leI (a := 4) (b := 1) (by omega) (by omega)).mpr qz)
            refine rw_aload_n (pc := 96) dM_crash_96 rfl ?_
            refine rw_getR (pc := 97) (x := some 79) flM_59_M dM_crash_97 (mo_o62 hm) (mo_S62 hm) (mo_R79 hm) ?_
            refine rw_iconst (pc := 100) (x := nI 4) dM_crash_100 (by decide) ?_
            refine rw_iload_n (pc := 101) dM_crash_101 rfl ?_
            refine rw_imul (pc := 102) (v := nI (4 * j)) dM_crash_102 (pk_mul _ _) ?_
            refine rw_iload_n (pc := 103) dM_crash_103 rfl ?_
            refine rw_iadd (pc := 104) (v := nI (4 * j + 1)) dM_crash_104 (nI_add _ _) ?_
            refine rw_iconst (pc := 105) (x := nI 0) dM_crash_105 (by decide) ?_
            refine rw_iast (pc := 106) (i := (4 * j + 1)) dM_crash_106 (mo_o79 hm) (mo_S79 hm) (ix_nI (by omega) (by decide)) ?_
            replace hm := mo_sI (a := 79) (k := (4 * j + 1)) (v := nI 0) hm
            refine rw_aload_n (pc := 107) dM_crash_107 rfl ?_
            refine rw_getR (pc := 108) (x := some 81) flM_65_M dM_crash_108 (mo_o62 hm) (mo_S62 hm) (mo_R81 hm) ?_
            refine rw_iconst (pc := 111) (x := nI 4) dM_crash_111 (by decide) ?_
            refine rw_iload_n (pc := 112) dM_crash_112 rfl ?_
            refine rw_imul (pc := 113) (v := nI (4 * j)) dM_crash_113 (pk_mul _ _) ?_
            refine rw_iload_n (pc := 114) dM_crash_114 rfl ?_
            refine rw_iadd (pc := 115) (v := nI (4 * j + 1)) dM_crash_115 (nI_add _ _) ?_
            refine rw_iconst (pc := 116) (x := nI 0) dM_crash_116 (by decide) ?_
            refine rw_zast (pc := 117) (i := (4 * j + 1)) (Or.inl rfl) dM_crash_117 (mo_o81 hm) (mo_S81 hm) (ix_nI (by omega) (by decide)) ?_
            replace hm := mo_sI (a := 81) (k := (4 * j + 1)) (v := nI 0) hm
            refine rw_aload_n (pc := 118) dM_crash_118 rfl ?_
            refine rw_getR (pc := 119) (x := some 82) flM_68_M dM_crash_119 (mo_o62 hm) (mo_S62 hm) (mo_R82 hm) ?_
            refine rw_iconst (pc := 122) (x := nI 4) dM_crash_122 (by decide) ?_
            refine rw_iload_n (pc := 123) dM_crash_123 rfl ?_
            refine rw_imul (pc := 124) (v := nI (4 * j)) dM_crash_124 (pk_mul _ _) ?_
            refine rw_iload_n (pc := 125) dM_crash_125 rfl ?_
            refine rw_iadd (pc := 126) (v := nI (4 * j + 1)) dM_crash_126 (nI_add _ _) ?_
            refine rw_iconst (pc := 127) (x := nI 0) dM_crash_127 (by decide) ?_
            refine rw_zast (pc := 128) (i := (4 * j + 1)) (Or.inl rfl) dM_crash_128 (mo_o82 hm) (mo_S82 hm) (ix_nI (by omega) (by decide)) ?_
            replace hm := mo_sI (a := 82) (k := (4 * j + 1)) (v := nI 0) hm
            refine rw_iinc (pc := 129) (x := nI 1) (y := nI 2) (L' := [some (.inr (some 62)), some (.inl (nI j)), some (.inl (nI 2))]) dM_crash_129 (by decide) rfl (by decide) rfl ?_
            refine rw_goto (pc := 132) dM_crash_132 (tgt := 91) rfl ?_
            refine rw_iload_n (pc := 91) dM_crash_91 rfl ?_
            refine rw_iconst (pc := 92) (x := nI 4) dM_crash_92 (by decide) ?_
            refine rw_icmpge (pc := 93) dM_crash_93 (tgt := 135) rfl (fun c7 => ?_) (fun c7 => ?_)
            · skip
              replace c7 : 4 ≤ 2 := (nI_leI (a := 4) (b := 2) (by omega) (by omega)).mp c7
              exact absurd c7 (by decide)
            · skip
              replace c7 : ¬ (4 ≤ 2) := fun qz => c7 ((nI_leI (a := 4) (b := 2) (by omega) (by omega)).mpr qz)
              refine rw_aload_n (pc := 96) dM_crash_96 rfl ?_
              refine rw_getR (pc := 97) (x := some 79) flM_59_M dM_crash_97 (mo_o62 hm) (mo_S62 hm) (mo_R79 hm) ?_
              refine rw_iconst (pc := 100) (x := nI 4) dM_crash_100 (by decide) ?_
              refine rw_iload_n (pc := 101) dM_crash_101 rfl ?_
              refine rw_imul (pc := 102) (v := nI (4 * j)) dM_crash_102 (pk_mul _ _) ?_
              refine rw_iload_n (pc := 103) dM_crash_103 rfl ?_
              refine rw_iadd (pc := 104) (v := nI (4 * j + 2)) dM_crash_104 (nI_add _ _) ?_
              refine rw_iconst (pc := 105) (x := nI 0) dM_crash_105 (by decide) ?_
              refine rw_iast (pc := 106) (i := (4 * j + 2)) dM_crash_106 (mo_o79 hm) (mo_S79 hm) (ix_nI (by omega) (by decide)) ?_
              replace hm := mo_sI (a := 79) (k := (4 * j + 2)) (v := nI 0) hm
              refine rw_aload_n (pc := 107) dM_crash_107 rfl ?_
              refine rw_getR (pc := 108) (x := some 81) flM_65_M dM_crash_108 (mo_o62 hm) (mo_S62 hm) (mo_R81 hm) ?_
              refine rw_iconst (pc := 111) (x := nI 4) dM_crash_111 (by decide) ?_
              refine rw_iload_n (pc := 112) dM_crash_112 rfl ?_
              refine rw_imul (pc := 113) (v := nI (4 * j)) dM_crash_113 (pk_mul _ _) ?_
              refine rw_iload_n (pc := 114) dM_crash_114 rfl ?_
              refine rw_iadd (pc := 115) (v := nI (4 * j + 2)) dM_crash_115 (nI_add _ _) ?_
              refine rw_iconst (pc := 116) (x := nI 0) dM_crash_116 (by decide) ?_
              refine rw_zast (pc := 117) (i := (4 * j + 2)) (Or.inl rfl) dM_crash_117 (mo_o81 hm) (mo_S81 hm) (ix_nI (by omega) (by decide)) ?_
              replace hm := mo_sI (a := 81) (k := (4 * j + 2)) (v := nI 0) hm
              refine rw_aload_n (pc := 118) dM_crash_118 rfl ?_
              refine rw_getR (pc := 119) (x := some 82) flM_68_M dM_crash_119 (mo_o62 hm) (mo_S62 hm) (mo_R82 hm) ?_
              refine rw_iconst (pc := 122) (x := nI 4) dM_crash_122 (by decide) ?_
              refine rw_iload_n (pc := 123) dM_crash_123 rfl ?_
              refine rw_imul (pc := 124) (v := nI (4 * j)) dM_crash_124 (pk_mul _ _) ?_
              refine rw_iload_n (pc := 125) dM_crash_125 rfl ?_
              refine rw_iadd (pc := 126) (v := nI (4 * j + 2)) dM_crash_126 (nI_add _ _) ?_
              refine rw_iconst (pc := 127) (x := nI 0) dM_crash_127 (by decide) ?_
              refine rw_zast (pc := 128) (i := (4 * j + 2)) (Or.inl rfl) dM_crash_128 (mo_o82 hm) (mo_S82 hm) (ix_nI (by omega) (by decide)) ?_
              replace hm := mo_sI (a := 82) (k := (4 * j + 2)) (v := nI 0) hm
              refine rw_iinc (pc := 129) (x := nI 2) (y := nI 3) (L' := [some (.inr (some 62)), some (.inl (nI j)), some (.inl (nI 3))]) dM_crash_129 (by decide) rfl (by decide) rfl ?_
              refine rw_goto (pc := 132) dM_crash_132 (tgt := 91) rfl ?_
              refine rw_iload_n (pc := 91) dM_crash_91 rfl ?_
              refine rw_iconst (pc := 92) (x := nI 4) dM_crash_92 (by decide) ?_
              refine rw_icmpge (pc := 93) dM_crash_93 (tgt := 135) rfl (fun c8 => ?_) (fun c8 => ?_)
              · skip
                replace c8 : 4 ≤ 3 := (nI_leI (a := 4) (b := 3) (by omega) (by omega)).mp c8
                exact absurd c8 (by decide)
              · skip
                replace c8 : ¬ (4 ≤ 3) := fun qz => c8 ((nI_leI (a := 4) (b := 3) (by omega) (by omega)).mpr qz)
                refine rw_aload_n (pc := 96) dM_crash_96 rfl ?_
                refine rw_getR (pc := 97) (x := some 79) flM_59_M dM_crash_97 (mo_o62 hm) (mo_S62 hm) (mo_R79 hm) ?_
                refine rw_iconst (pc := 100) (x := nI 4) dM_crash_100 (by decide) ?_
                refine rw_iload_n (pc := 101) dM_crash_101 rfl ?_
                refine rw_imul (pc := 102) (v := nI (4 * j)) dM_crash_102 (pk_mul _ _) ?_
                refine rw_iload_n (pc := 103) dM_crash_103 rfl ?_
                refine rw_iadd (pc := 104) (v := nI (4 * j + 3)) dM_crash_104 (nI_add _ _) ?_
                refine rw_iconst (pc := 105) (x := nI 0) dM_crash_105 (by decide) ?_
                refine rw_iast (pc := 106) (i := (4 * j + 3)) dM_crash_106 (mo_o79 hm) (mo_S79 hm) (ix_nI (by omega) (by decide)) ?_
                replace hm := mo_sI (a := 79) (k := (4 * j + 3)) (v := nI 0) hm
                refine rw_aload_n (pc := 107) dM_crash_107 rfl ?_
                refine rw_getR (pc := 108) (x := some 81) flM_65_M dM_crash_108 (mo_o62 hm) (mo_S62 hm) (mo_R81 hm) ?_
                refine rw_iconst (pc := 111) (x := nI 4) dM_crash_111 (by decide) ?_
                refine rw_iload_n (pc := 112) dM_crash_112 rfl ?_
                refine rw_imul (pc := 113) (v := nI (4 * j)) dM_crash_113 (pk_mul _ _) ?_
                refine rw_iload_n (pc := 114) dM_crash_114 rfl ?_
                refine rw_iadd (pc := 115) (v := nI (4 * j + 3)) dM_crash_115 (nI_add _ _) ?_
                refine rw_iconst (pc := 116) (x := nI 0) dM_crash_116 (by decide) ?_
                refine rw_zast (pc := 117) (i := (4 * j + 3)) (Or.inl rfl) dM_crash_117 (mo_o81 hm) (mo_S81 hm) (ix_nI (by omega) (by decide)) ?_
                replace hm := mo_sI (a := 81) (k := (4 * j + 3)) (v := nI 0) hm
                refine rw_aload_n (pc := 118) dM_crash_118 rfl ?_
                refine rw_getR (pc := 119) (x := some 82) flM_68_M dM_crash_119 (mo_o62 hm) (mo_S62 hm) (mo_R82 hm) ?_
                refine rw_iconst (pc := 122) (x := nI 4) dM_crash_122 (by decide) ?_
                refine rw_iload_n (pc := 123) dM_crash_123 rfl ?_
                refine rw_imul (pc := 124) (v := nI (4 * j)) dM_crash_124 (pk_mul _ _) ?_
                refine rw_iload_n (pc := 125) dM_crash_125 rfl ?_
                refine rw_iadd (pc := 126) (v := nI (4 * j + 3)) dM_crash_126 (nI_add _ _) ?_
                refine rw_iconst (pc := 127) (x := nI 0) dM_crash_127 (by decide) ?_
                refine rw_zast (pc := 128) (i := (4 * j + 3)) (Or.inl rfl) dM_crash_128 (mo_o82 hm) (mo_S82 hm) (ix_nI (by omega) (by decide)) ?_
                replace hm := mo_sI (a := 82) (k := (4 * j + 3)) (v := nI 0) hm
                refine rw_iinc (pc := 129) (x := nI 3) (y := nI 4) (L' := [some (.inr (some 62)), some (.inl (nI j)), some (.inl (nI 4))]) dM_crash_129 (by decide) rfl (by decide) rfl ?_
                refine rw_goto (pc := 132) dM_crash_132 (tgt := 91) rfl ?_
                refine rw_iload_n (pc := 91) dM_crash_91 rfl ?_
                refine rw_iconst (pc := 92) (x := nI 4) dM_crash_92 (by decide) ?_
                refine rw_icmpge (pc := 93) dM_crash_93 (tgt := 135) rfl (fun c9 => ?_) (fun c9 => ?_)
                · skip
                  replace c9 : 4 ≤ 4 := (nI_leI (a := 4) (b := 4) (by omega) (by omega)).mp c9
                  refine rw_iconst (pc := 135) (x := nI 1) dM_crash_135 (by decide) ?_
                  refine rw_zret (pc := 136) dM_crash_136 rfl (Or.inr rfl) ⟨_, rfl, ?_, ?_⟩
                  · simp [m_crash, m_upN, mi_ib, c2, c3, c4, nI_clamp (show j < 2 ^ 31 by omega)]
                  · have e9 : (m_crash h (nI j)).2 = m_crC h j := by simp [m_crash, m_upN, mi_ib, c2, c3, c4, nI_clamp (show j < 2 ^ 31 by omega)]
                    rw [e9]
                    rfl
                · skip
                  replace c9 : ¬ (4 ≤ 4) := fun qz => c9 ((nI_leI (a := 4) (b := 4) (by omega) (by omega)).mpr qz)
                  exact absurd (by decide) c9
      · skip
        replace c4 : j = 3 := (nI_eq (a := j) (b := 3) (by omega) (by omega)).mp c4
        subst c4
        refine rw_iconst (pc := 32) (x := nI 0) dM_crash_32 (by decide) ?_
        refine rw_istore_n (pc := 33) (L' := [some (.inr (some 62)), some (.inl (nI 3)), some (.inl (nI 0))]) dM_crash_33 (by decide) rfl ?_
        refine rw_iload_n (pc := 34) dM_crash_34 rfl ?_
        refine rw_bipush (pc := 35) (x := nI 12) dM_crash_35 (by decide) ?_
        refine rw_icmpge (pc := 37) dM_crash_37 (tgt := 53) rfl (fun c10 => ?_) (fun c10 => ?_)
        · skip
          replace c10 : 12 ≤ 0 := (nI_leI (a := 12) (b := 0) (by omega) (by omega)).mp c10
          exact absurd c10 (by decide)
        · skip
          replace c10 : ¬ (12 ≤ 0) := fun qz => c10 ((nI_leI (a := 12) (b := 0) (by omega) (by omega)).mpr qz)
          refine rw_aload_n (pc := 40) dM_crash_40 rfl ?_
          refine rw_getR (pc := 41) (x := some 66) flM_20_M dM_crash_41 (mo_o62 hm) (mo_S62 hm) (mo_R66 hm) ?_
          refine rw_iload_n (pc := 44) dM_crash_44 rfl ?_
          refine rw_iconst (pc := 45) (x := nI 0) dM_crash_45 (by decide) ?_
          refine rw_iast (pc := 46) (i := 0) dM_crash_46 (mo_o66 hm) (mo_S66 hm) (ix_nI (by omega) (by decide)) ?_
          replace hm := mo_sI (a := 66) (k := 0) (v := nI 0) hm
          refine rw_iinc (pc := 47) (x := nI 0) (y := nI 1) (L' := [some (.inr (some 62)), some (.inl (nI 3)), some (.inl (nI 1))]) dM_crash_47 (by decide) rfl (by decide) rfl ?_
          refine rw_goto (pc := 50) dM_crash_50 (tgt := 34) rfl ?_
          refine rw_iload_n (pc := 34) dM_crash_34 rfl ?_
          refine rw_bipush (pc := 35) (x := nI 12) dM_crash_35 (by decide) ?_
          refine rw_icmpge (pc := 37) dM_crash_37 (tgt := 53) rfl (fun c11 => ?_) (fun c11 => ?_)
          · skip
            replace c11 : 12 ≤ 1 := (nI_leI (a := 12) (b := 1) (by omega) (by omega)).mp c11
            exact absurd c11 (by decide)
          · skip
            replace c11 : ¬ (12 ≤ 1) := fun qz => c11 ((nI_leI (a := 12) (b := 1) (by omega) (by omega)).mpr qz)
            refine rw_aload_n (pc := 40) dM_crash_40 rfl ?_
            refine rw_getR (pc := 41) (x := some 66) flM_20_M dM_crash_41 (mo_o62 hm) (mo_S62 hm) (mo_R66 hm) ?_
            refine rw_iload_n (pc := 44) dM_crash_44 rfl ?_
            refine rw_iconst (pc := 45) (x := nI 0) dM_crash_45 (by decide) ?_
            refine rw_iast (pc := 46) (i := 1) dM_crash_46 (mo_o66 hm) (mo_S66 hm) (ix_nI (by omega) (by decide)) ?_
            replace hm := mo_sI (a := 66) (k := 1) (v := nI 0) hm
            refine rw_iinc (pc := 47) (x := nI 1) (y := nI 2) (L' := [some (.inr (some 62)), some (.inl (nI 3)), some (.inl (nI 2))]) dM_crash_47 (by decide) rfl (by decide) rfl ?_
            refine rw_goto (pc := 50) dM_crash_50 (tgt := 34) rfl ?_
            refine rw_iload_n (pc := 34) dM_crash_34 rfl ?_
            refine rw_bipush (pc := 35) (x := nI 12) dM_crash_35 (by decide) ?_
            refine rw_icmpge (pc := 37) dM_crash_37 (tgt := 53) rfl (fun c12 => ?_) (fun c12 => ?_)
            · skip
              replace c12 : 12 ≤ 2 := (nI_leI (a := 12) (b := 2) (by omega) (by omega)).mp c12
              exact absurd c12 (by decide)
            · skip
              replace c12 : ¬ (12 ≤ 2) := fun qz => c12 ((nI_leI (a := 12) (b := 2) (by omega) (by omega)).mpr qz)
              refine rw_aload_n (pc := 40) dM_crash_40 rfl ?_
              refine rw_getR (pc := 41) (x := some 66) flM_20_M dM_crash_41 (mo_o62 hm) (mo_S62 hm) (mo_R66 hm) ?_
              refine rw_iload_n (pc := 44) dM_crash_44 rfl ?_
              refine rw_iconst (pc := 45) (x := nI 0) dM_crash_45 (by decide) ?_
              refine rw_iast (pc := 46) (i := 2) dM_crash_46 (mo_o66 hm) (mo_S66 hm) (ix_nI (by omega) (by decide)) ?_
              replace hm := mo_sI (a := 66) (k := 2) (v := nI 0) hm
              refine rw_iinc (pc := 47) (x := nI 2) (y := nI 3) (L' := [some (.inr (some 62)), some (.inl (nI 3)), some (.inl (nI 3))]) dM_crash_47 (by decide) rfl (by decide) rfl ?_
              refine rw_goto (pc := 50) dM_crash_50 (tgt := 34) rfl ?_
              refine rw_iload_n (pc := 34) dM_crash_34 rfl ?_
              refine rw_bipush (pc := 35) (x := nI 12) dM_crash_35 (by decide) ?_
              refine rw_icmpge (pc := 37) dM_crash_37 (tgt := 53) rfl (fun c13 => ?_) (fun c13 => ?_)
              · skip
                replace c13 : 12 ≤ 3 := (nI_leI (a := 12) (b := 3) (by omega) (by omega)).mp c13
                exact absurd c13 (by decide)
              · skip
                replace c13 : ¬ (12 ≤ 3) := fun qz => c13 ((nI_leI (a := 12) (b := 3) (by omega) (by omega)).mpr qz)
                refine rw_aload_n (pc := 40) dM_crash_40 rfl ?_
                refine rw_getR (pc := 41) (x := some 66) flM_20_M dM_crash_41 (mo_o62 hm) (mo_S62 hm) (mo_R66 hm) ?_
                refine rw_iload_n (pc := 44) dM_crash_44 rfl ?_
                refine rw_iconst (pc := 45) (x := nI 0) dM_crash_45 (by decide) ?_
                refine rw_iast (pc := 46) (i := 3) dM_crash_46 (mo_o66 hm) (mo_S66 hm) (ix_nI (by omega) (by decide)) ?_
                replace hm := mo_sI (a := 66) (k := 3) (v := nI 0) hm
                refine rw_iinc (pc := 47) (x := nI 3) (y := nI 4) (L' := [some (.inr (some 62)), some (.inl (nI 3)), some (.inl (nI 4))]) dM_crash_47 (by decide) rfl (by decide) rfl ?_
                refine rw_goto (pc := 50) dM_crash_50 (tgt := 34) rfl ?_
                refine rw_iload_n (pc := 34) dM_crash_34 rfl ?_
                refine rw_bipush (pc := 35) (x := nI 12) dM_crash_35 (by decide) ?_
                refine rw_icmpge (pc := 37) dM_crash_37 (tgt := 53) rfl (fun c14 => ?_) (fun c14 => ?_)
                · skip
                  replace c14 : 12 ≤ 4 := (nI_leI (a := 12) (b := 4) (by omega) (by omega)).mp c14
                  exact absurd c14 (by decide)
                · skip
                  replace c14 : ¬ (12 ≤ 4) := fun qz => c14 ((nI_leI (a := 12) (b := 4) (by omega) (by omega)).mpr qz)
                  refine rw_aload_n (pc := 40) dM_crash_40 rfl ?_
                  refine rw_getR (pc := 41) (x := some 66) flM_20_M dM_crash_41 (mo_o62 hm) (mo_S62 hm) (mo_R66 hm) ?_
                  refine rw_iload_n (pc := 44) dM_crash_44 rfl ?_
                  refine rw_iconst (pc := 45) (x := nI 0) dM_crash_45 (by decide) ?_
                  refine rw_iast (pc := 46) (i := 4) dM_crash_46 (mo_o66 hm) (mo_S66 hm) (ix_nI (by omega) (by decide)) ?_
                  replace hm := mo_sI (a := 66) (k := 4) (v := nI 0) hm
                  refine rw_iinc (pc := 47) (x := nI 4) (y := nI 5) (L' := [some (.inr (some 62)), some (.inl (nI 3)), some (.inl (nI 5))]) dM_crash_47 (by decide) rfl (by decide) rfl ?_
                  refine rw_goto (pc := 50) dM_crash_50 (tgt := 34) rfl ?_
                  refine rw_iload_n (pc := 34) dM_crash_34 rfl ?_
                  refine rw_bipush (pc := 35) (x := nI 12) dM_crash_35 (by decide) ?_
                  refine rw_icmpge (pc := 37) dM_crash_37 (tgt := 53) rfl (fun c15 => ?_) (fun c15 => ?_)
                  · skip
                    replace c15 : 12 ≤ 5 := (nI_leI (a := 12) (b := 5) (by omega) (by omega)).mp c15
                    exact absurd c15 (by decide)
                  · skip
                    replace c15 : ¬ (12 ≤ 5) := fun qz => c15 ((nI_leI (a := 12) (b := 5) (by omega) (by omega)).mpr qz)
                    refine rw_aload_n (pc := 40) dM_crash_40 rfl ?_
                    refine rw_getR (pc := 41) (x := some 66) flM_20_M dM_crash_41 (mo_o62 hm) (mo_S62 hm) (mo_R66 hm) ?_
                    refine rw_iload_n (pc := 44) dM_crash_44 rfl ?_
                    refine rw_iconst (pc := 45) (x := nI 0) dM_crash_45 (by decide) ?_
                    refine rw_iast (pc := 46) (i := 5) dM_crash_46 (mo_o66 hm) (mo_S66 hm) (ix_nI (by omega) (by decide)) ?_
                    replace hm := mo_sI (a := 66) (k := 5) (v := nI 0) hm
                    refine rw_iinc (pc := 47) (x := nI 5) (y := nI 6) (L' := [some (.inr (some 62)), some (.inl (nI 3)), some (.inl (nI 6))]) dM_crash_47 (by decide) rfl (by decide) rfl ?_
                    refine rw_goto (pc := 50) dM_crash_50 (tgt := 34) rfl ?_
                    refine rw_iload_n (pc := 34) dM_crash_34 rfl ?_
                    refine rw_bipush (pc := 35) (x := nI 12) dM_crash_35 (by decide) ?_
                    refine rw_icmpge (pc := 37) dM_crash_37 (tgt := 53) rfl (fun c16 => ?_) (fun c16 => ?_)
                    · skip
                      replace c16 : 12 ≤ 6 := (nI_leI (a := 12) (b := 6) (by omega) (by omega)).mp c16
                      exact absurd c16 (by decide)
                    · skip
                      replace c16 : ¬ (12 ≤ 6) := fun qz => c16 ((nI_leI (a := 12) (b := 6) (by omega) (by omega)).mpr qz)
                      refine rw_aload_n (pc := 40) dM_crash_40 rfl ?_
                      refine rw_getR (pc := 41) (x := some 66) flM_20_M dM_crash_41 (mo_o62 hm) (mo_S62 hm) (mo_R66 hm) ?_
                      refine rw_iload_n (pc := 44) dM_crash_44 rfl ?_
                      refine rw_iconst (pc := 45) (x := nI 0) dM_crash_45 (by decide) ?_
                      refine rw_iast (pc := 46) (i := 6) dM_crash_46 (mo_o66 hm) (mo_S66 hm) (ix_nI (by omega) (by decide)) ?_
                      replace hm := mo_sI (a := 66) (k := 6) (v := nI 0) hm
                      refine rw_iinc (pc := 47) (x := nI 6) (y := nI 7) (L' := [some (.inr (some 62)), some (.inl (nI 3)), some (.inl (nI 7))]) dM_crash_47 (by decide) rfl (by decide) rfl ?_
                      refine rw_goto (pc := 50) dM_crash_50 (tgt := 34) rfl ?_
                      refine rw_iload_n (pc := 34) dM_crash_34 rfl ?_
                      refine rw_bipush (pc := 35) (x := nI 12) dM_crash_35 (by decide) ?_
                      refine rw_icmpge (pc := 37) dM_crash_37 (tgt := 53) rfl (fun c17 => ?_) (fun c17 => ?_)
                      · skip
                        replace c17 : 12 ≤ 7 := (nI_leI (a := 12) (b := 7) (by omega) (by omega)).mp c17
                        exact absurd c17 (by decide)
                      · skip
                        replace c17 : ¬ (12 ≤ 7) := fun qz => c17 ((nI_leI (a := 12) (b := 7) (by omega) (by omega)).mpr qz)
                        refine rw_aload_n (pc := 40) dM_crash_40 rfl ?_
                        refine rw_getR (pc := 41) (x := some 66) flM_20_M dM_crash_41 (mo_o62 hm) (mo_S62 hm) (mo_R66 hm) ?_
                        refine rw_iload_n (pc := 44) dM_crash_44 rfl ?_
                        refine rw_iconst (pc := 45) (x := nI 0) dM_crash_45 (by decide) ?_
                        refine rw_iast (pc := 46) (i := 7) dM_crash_46 (mo_o66 hm) (mo_S66 hm) (ix_nI (by omega) (by decide)) ?_
                        replace hm := mo_sI (a := 66) (k := 7) (v := nI 0) hm
                        refine rw_iinc (pc := 47) (x := nI 7) (y := nI 8) (L' := [some (.inr (some 62)), some (.inl (nI 3)), some (.inl (nI 8))]) dM_crash_47 (by decide) rfl (by decide) rfl ?_
                        refine rw_goto (pc := 50) dM_crash_50 (tgt := 34) rfl ?_
                        refine rw_iload_n (pc := 34) dM_crash_34 rfl ?_
                        refine rw_bipush (pc := 35) (x := nI 12) dM_crash_35 (by decide) ?_
                        refine rw_icmpge (pc := 37) dM_crash_37 (tgt := 53) rfl (fun c18 => ?_) (fun c18 => ?_)
                        · skip
                          replace c18 : 12 ≤ 8 := (nI_leI (a := 12) (b := 8) (by omega) (by omega)).mp c18
                          exact absurd c18 (by decide)
                        · skip
                          replace c18 : ¬ (12 ≤ 8) := fun qz => c18 ((nI_leI (a := 12) (b := 8) (by omega) (by omega)).mpr qz)
                          refine rw_aload_n (pc := 40) dM_crash_40 rfl ?_
                          refine rw_getR (pc := 41) (x := some 66) flM_20_M dM_crash_41 (mo_o62 hm) (mo_S62 hm) (mo_R66 hm) ?_
                          refine rw_iload_n (pc := 44) dM_crash_44 rfl ?_
                          refine rw_iconst (pc := 45) (x := nI 0) dM_crash_45 (by decide) ?_
                          refine rw_iast (pc := 46) (i := 8) dM_crash_46 (mo_o66 hm) (mo_S66 hm) (ix_nI (by omega) (by decide)) ?_
                          replace hm := mo_sI (a := 66) (k := 8) (v := nI 0) hm
                          refine rw_iinc (pc := 47) (x := nI 8) (y := nI 9) (L' := [some (.inr (some 62)), some (.inl (nI 3)), some (.inl (nI 9))]) dM_crash_47 (by decide) rfl (by decide) rfl ?_
                          refine rw_goto (pc := 50) dM_crash_50 (tgt := 34) rfl ?_
                          refine rw_iload_n (pc := 34) dM_crash_34 rfl ?_
                          refine rw_bipush (pc := 35) (x := nI 12) dM_crash_35 (by decide) ?_
                          refine rw_icmpge (pc := 37) dM_crash_37 (tgt := 53) rfl (fun c19 => ?_) (fun c19 => ?_)
                          · skip
                            replace c19 : 12 ≤ 9 := (nI_leI (a := 12) (b := 9) (by omega) (by omega)).mp c19
                            exact absurd c19 (by decide)
                          · skip
                            replace c19 : ¬ (12 ≤ 9) := fun qz => c19 ((nI_leI (a := 12) (b := 9) (by omega) (by omega)).mpr qz)
                            refine rw_aload_n (pc := 40) dM_crash_40 rfl ?_
                            refine rw_getR (pc := 41) (x := some 66) flM_20_M dM_crash_41 (mo_o62 hm) (mo_S62 hm) (mo_R66 hm) ?_
                            refine rw_iload_n (pc := 44) dM_crash_44 rfl ?_
                            refine rw_iconst (pc := 45) (x := nI 0) dM_crash_45 (by decide) ?_
                            refine rw_iast (pc := 46) (i := 9) dM_crash_46 (mo_o66 hm) (mo_S66 hm) (ix_nI (by omega) (by decide)) ?_
                            replace hm := mo_sI (a := 66) (k := 9) (v := nI 0) hm
                            refine rw_iinc (pc := 47) (x := nI 9) (y := nI 10) (L' := [some (.inr (some 62)), some (.inl (nI 3)), some (.inl (nI 10))]) dM_crash_47 (by decide) rfl (by decide) rfl ?_
                            refine rw_goto (pc := 50) dM_crash_50 (tgt := 34) rfl ?_
                            refine rw_iload_n (pc := 34) dM_crash_34 rfl ?_
                            refine rw_bipush (pc := 35) (x := nI 12) dM_crash_35 (by decide) ?_
                            refine rw_icmpge (pc := 37) dM_crash_37 (tgt := 53) rfl (fun c20 => ?_) (fun c20 => ?_)
                            · skip
                              replace c20 : 12 ≤ 10 := (nI_leI (a := 12) (b := 10) (by omega) (by omega)).mp c20
                              exact absurd c20 (by decide)
                            · skip
                              replace c20 : ¬ (12 ≤ 10) := fun qz => c20 ((nI_leI (a := 12) (b := 10) (by omega) (by omega)).mpr qz)
                              refine rw_aload_n (pc := 40) dM_crash_40 rfl ?_
                              refine rw_getR (pc := 41) (x := some 66) flM_20_M dM_crash_41 (mo_o62 hm) (mo_S62 hm) (mo_R66 hm) ?_
                              refine rw_iload_n (pc := 44) dM_crash_44 rfl ?_
                              refine rw_iconst (pc := 45) (x := nI 0) dM_crash_45 (by decide) ?_
                              refine rw_iast (pc := 46) (i := 10) dM_crash_46 (mo_o66 hm) (mo_S66 hm) (ix_nI (by omega) (by decide)) ?_
                              replace hm := mo_sI (a := 66) (k := 10) (v := nI 0) hm
                              refine rw_iinc (pc := 47) (x := nI 10) (y := nI 11) (L' := [some (.inr (some 62)), some (.inl (nI 3)), some (.inl (nI 11))]) dM_crash_47 (by decide) rfl (by decide) rfl ?_
                              refine rw_goto (pc := 50) dM_crash_50 (tgt := 34) rfl ?_
                              refine rw_iload_n (pc := 34) dM_crash_34 rfl ?_
                              refine rw_bipush (pc := 35) (x := nI 12) dM_crash_35 (by decide) ?_
                              refine rw_icmpge (pc := 37) dM_crash_37 (tgt := 53) rfl (fun c21 => ?_) (fun c21 => ?_)
                              · skip
                                replace c21 : 12 ≤ 11 := (nI_leI (a := 12) (b := 11) (by omega) (by omega)).mp c21
                                exact absurd c21 (by decide)
                              · skip
                                replace c21 : ¬ (12 ≤ 11) := fun qz => c21 ((nI_leI (a := 12) (b := 11) (by omega) (by omega)).mpr qz)
                                refine rw_aload_n (pc := 40) dM_crash_40 rfl ?_
                                refine rw_getR (pc := 41) (x := some 66) flM_20_M dM_crash_41 (mo_o62 hm) (mo_S62 hm) (mo_R66 hm) ?_
                                refine rw_iload_n (pc := 44) dM_crash_44 rfl ?_
                                refine rw_iconst (pc := 45) (x := nI 0) dM_crash_45 (by decide) ?_
                                refine rw_iast (pc := 46) (i := 11) dM_crash_46 (mo_o66 hm) (mo_S66 hm) (ix_nI (by omega) (by decide)) ?_
                                replace hm := mo_sI (a := 66) (k := 11) (v := nI 0) hm
                                refine rw_iinc (pc := 47) (x := nI 11) (y := nI 12) (L' := [some (.inr (some 62)), some (.inl (nI 3)), some (.inl (nI 12))]) dM_crash_47 (by decide) rfl (by decide) rfl ?_
                                refine rw_goto (pc := 50) dM_crash_50 (tgt := 34) rfl ?_
                                refine rw_iload_n (pc := 34) dM_crash_34 rfl ?_
                                refine rw_bipush (pc := 35) (x := nI 12) dM_crash_35 (by decide) ?_
                                refine rw_icmpge (pc := 37) dM_crash_37 (tgt := 53) rfl (fun c22 => ?_) (fun c22 => ?_)
                                · skip
                                  replace c22 : 12 ≤ 12 := (nI_leI (a := 12) (b := 12) (by omega) (by omega)).mp c22
                                  refine rw_iconst (pc := 53) (x := nI 0) dM_crash_53 (by decide) ?_
                                  refine rw_istore_n (pc := 54) (L' := [some (.inr (some 62)), some (.inl (nI 3)), some (.inl (nI 0))]) dM_crash_54 (by decide) rfl ?_
                                  refine rw_iload_n (pc := 55) dM_crash_55 rfl ?_
                                  refine rw_iconst (pc := 56) (x := nI 3) dM_crash_56 (by decide) ?_
                                  refine rw_icmpge (pc := 57) dM_crash_57 (tgt := 73) rfl (fun c23 => ?_) (fun c23 => ?_)
                                  · skip
                                    replace c23 : 3 ≤ 0 := (nI_leI (a := 3) (b := 0) (by omega) (by omega)).mp c23
                                    exact absurd c23 (by decide)
                                  · skip
                                    replace c23 : ¬ (3 ≤ 0) := fun qz => c23 ((nI_leI (a := 3) (b := 0) (by omega) (by omega)).mpr qz)
                                    refine rw_aload_n (pc := 60) dM_crash_60 rfl ?_
                                    refine rw_getR (pc := 61) (x := some 74) flM_44_M dM_crash_61 (mo_o62 hm) (mo_S62 hm) (mo_R74 hm) ?_
                                    refine rw_iload_n (pc := 64) dM_crash_64 rfl ?_
                                    refine rw_iconst (pc := 65) (x := (-1)) dM_crash_65 (by decide) ?_
                                    refine rw_iast (pc := 66) (i := 0) dM_crash_66 (mo_o74 hm) (mo_S74 hm) (ix_nI (by omega) (by decide)) ?_
                                    replace hm := mo_sI (a := 74) (k := 0) (v := (-1)) hm
                                    refine rw_iinc (pc := 67) (x := nI 0) (y := nI 1) (L' := [some (.inr (some 62)), some (.inl (nI 3)), some (.inl (nI 1))]) dM_crash_67 (by decide) rfl (by decide) rfl ?_
                                    refine rw_goto (pc := 70) dM_crash_70 (tgt := 55) rfl ?_
                                    refine rw_iload_n (pc := 55) dM_crash_55 rfl ?_
                                    refine rw_iconst (pc := 56) (x := nI 3) dM_crash_56 (by decide) ?_
                                    refine rw_icmpge (pc := 57) dM_crash_57 (tgt := 73) rfl (fun c24 => ?_) (fun c24 => ?_)
                                    · skip
                                      replace c24 : 3 ≤ 1 := (nI_leI (a := 3) (b := 1) (by omega) (by omega)).mp c24
                                      exact absurd c24 (by decide)
                                    · skip
                                      replace c24 : ¬ (3 ≤ 1) := fun qz => c24 ((nI_leI (a := 3) (b := 1) (by omega) (by omega)).mpr qz)
                                      refine rw_aload_n (pc := 60) dM_crash_60 rfl ?_
                                      refine rw_getR (pc := 61) (x := some 74) flM_44_M dM_crash_61 (mo_o62 hm) (mo_S62 hm) (mo_R74 hm) ?_
                                      refine rw_iload_n (pc := 64) dM_crash_64 rfl ?_
                                      refine rw_iconst (pc := 65) (x := (-1)) dM_crash_65 (by decide) ?_
                                      refine rw_iast (pc := 66) (i := 1) dM_crash_66 (mo_o74 hm) (mo_S74 hm) (ix_nI (by omega) (by decide)) ?_
                                      replace hm := mo_sI (a := 74) (k := 1) (v := (-1)) hm
                                      refine rw_iinc (pc := 67) (x := nI 1) (y := nI 2) (L' := [some (.inr (some 62)), some (.inl (nI 3)), some (.inl (nI 2))]) dM_crash_67 (by decide) rfl (by decide) rfl ?_
                                      refine rw_goto (pc := 70) dM_crash_70 (tgt := 55) rfl ?_
                                      refine rw_iload_n (pc := 55) dM_crash_55 rfl ?_
                                      refine rw_iconst (pc := 56) (x := nI 3) dM_crash_56 (by decide) ?_
                                      refine rw_icmpge (pc := 57) dM_crash_57 (tgt := 73) rfl (fun c25 => ?_) (fun c25 => ?_)
                                      · skip
                                        replace c25 : 3 ≤ 2 := (nI_leI (a := 3) (b := 2) (by omega) (by omega)).mp c25
                                        exact absurd c25 (by decide)
                                      · skip
                                        replace c25 : ¬ (3 ≤ 2) := fun qz => c25 ((nI_leI (a := 3) (b := 2) (by omega) (by omega)).mpr qz)
                                        refine rw_aload_n (pc := 60) dM_crash_60 rfl ?_
                                        refine rw_getR (pc := 61) (x := some 74) flM_44_M dM_crash_61 (mo_o62 hm) (mo_S62 hm) (mo_R74 hm) ?_
                                        refine rw_iload_n (pc := 64) dM_crash_64 rfl ?_
                                        refine rw_iconst (pc := 65) (x := (-1)) dM_crash_65 (by decide) ?_
                                        refine rw_iast (pc := 66) (i := 2) dM_crash_66 (mo_o74 hm) (mo_S74 hm) (ix_nI (by omega) (by decide)) ?_
                                        replace hm := mo_sI (a := 74) (k := 2) (v := (-1)) hm
                                        refine rw_iinc (pc := 67) (x := nI 2) (y := nI 3) (L' := [some (.inr (some 62)), some (.inl (nI 3)), some (.inl (nI 3))]) dM_crash_67 (by decide) rfl (by decide) rfl ?_
                                        refine rw_goto (pc := 70) dM_crash_70 (tgt := 55) rfl ?_
                                        refine rw_iload_n (pc := 55) dM_crash_55 rfl ?_
                                        refine rw_iconst (pc := 56) (x := nI 3) dM_crash_56 (by decide) ?_
                                        refine rw_icmpge (pc := 57) dM_crash_57 (tgt := 73) rfl (fun c26 => ?_) (fun c26 => ?_)
                                        · skip
                                          replace c26 : 3 ≤ 3 := (nI_leI (a := 3) (b := 3) (by omega) (by omega)).mp c26
                                          refine rw_iconst (pc := 73) (x := nI 1) dM_crash_73 (by decide) ?_
                                          refine rw_zret (pc := 74) dM_crash_74 rfl (Or.inr rfl) ⟨_, rfl, ?_, ?_⟩
                                          · simp [m_crash, m_upN, mi_ib, nI_clamp (show (3 : Nat) < 2 ^ 31 by omega), c2, c3]
                                          · have e9 : (m_crash h (nI 3)).2 = m_crS h := by simp [m_crash, m_upN, mi_ib, nI_clamp (show (3 : Nat) < 2 ^ 31 by omega), c2, c3]
                                            rw [e9]
                                            rfl
                                        · skip
                                          replace c26 : ¬ (3 ≤ 3) := fun qz => c26 ((nI_leI (a := 3) (b := 3) (by omega) (by omega)).mpr qz)
                                          exact absurd (by decide) c26
                                · skip
                                  replace c22 : ¬ (12 ≤ 12) := fun qz => c22 ((nI_leI (a := 12) (b := 12) (by omega) (by omega)).mpr qz)
                                  exact absurd (by decide) c22
    · skip
      refine rw_iconst (pc := 18) (x := nI 0) dM_crash_18 (by decide) ?_
      exact rw_zret (pc := 19) dM_crash_19 rfl (Or.inl rfl) ⟨_, rfl, by simp [m_crash, m_upN, mi_ib, c2, c3, nI_clamp (show j < 2 ^ 31 by omega)], by simp [m_crash, m_upN, mi_ib, c2, c3, nI_clamp (show j < 2 ^ 31 by omega)]⟩
def m_el : Nat → ha_H → Nat → ha_H
  | 0, h, _ => h
  | n + 1, h, l => m_el n (if hp_I h 64 3 < hp_I h 67 l then hp_mv h 66 l 66 l else hp_sI h 66 l (nI 0)) (l + 1)
def m_tkG (h : ha_H) : ha_H := hp_sI h 62 6 (if hp_I h 64 3 < hp_I h 62 6 then hp_I h 62 6 else nI 0)
def m_tk1 (h : ha_H) (x : Nat) : ha_H := if x = 3 then m_serve (m_tkG (m_el 12 (hp_sI h 64 3 (hp_I h 64 3 + nI 1)) 0)) else hp_sI h 64 x (hp_I h 64 x + nI 1)
def m_tkN : Nat → ha_H → Nat → ha_H
  | 0, h, _ => h
  | n + 1, h, x => m_tkN n (m_tk1 h x) x
def mi_1h (n : Int32) : Bool := !decide (mi_in n (nI 1) (nI 100) = 0)
theorem mi_1hT {n : Int32} (c : ¬ mi_in n (nI 1) (nI 100) = 0) : ∃ k, 1 ≤ k ∧ k ≤ 100 ∧ n = nI k := by
  unfold mi_in at c
  by_cases c1 : n < nI 1
  · rw [if_pos c1] at c
    exact absurd rfl c
  · rw [if_neg c1] at c
    by_cases c2 : nI 100 < n
    · rw [if_pos c2] at c
      exact absurd rfl c
    · have c3 : ¬ n < 0 := fun q => c1 (Int32.lt_trans q (by decide))
      obtain ⟨k, hk, rfl⟩ := nI_of (x := n) c3
      rw [nI_ltI (by omega) hk] at c2
      rw [nI_ltI hk (by omega)] at c1
      exact ⟨k, by omega, by omega, rfl⟩
def m_tick (h : ha_H) (x n : Int32) : Int32 × ha_H := if (m_upN h x false && mi_1h n) = true then (nI 1, m_tkN n.toNatClampNeg h x.toNatClampNeg) else (nI 0, h)
theorem mI_el : ∀ (n : Nat) {h : ha_H} (_ : mo_I h) {l : Nat}, mo_I (m_el n h l)
  | 0, h, hi, l => hi
  | n + 1, h, hi, l => by
    unfold m_el
    apply mI_el
    split
    · exact (mI_mv hi (by decide) (by decide)).1
    · exact (mI_sI hi (by decide) (fun q => absurd q (by decide))).1
theorem mI_tk1 {h : ha_H} (hi : mo_I h) {x : Nat} : mo_I (m_tk1 h x) := by
  unfold m_tk1
  split
  · unfold m_serve m_tkG
    exact mI_svN 4 (mI_sF (mI_el 12 (mI_sI hi (by decide) (fun q => absurd q (by decide))).1) (by decide)).1
  · exact (mI_sI hi (by decide) (fun q => absurd q (by decide))).1
theorem mI_tkN : ∀ (n : Nat) {h : ha_H} (_ : mo_I h) {x : Nat}, mo_I (m_tkN n h x)
  | 0, h, hi, x => hi
  | n + 1, h, hi, x => mI_tkN n (mI_tk1 hi)
theorem cM_tick (G : mt_G) (h : ha_H) (hi : mo_I h) (x n : Int32) : rn_M G xM_tick (5, 0, 0) [.inr (some 62), .inl x, .inl n] h (rn_i (fun r h' => r = (m_tick h x n).1 ∧ (m_tick h x n).2 = h')) := by
  have hm := hi.1
  refine rn_of (by decide +kernel) (Nat.le_of_ble_eq_true rfl) ?_
  show rn_W G xM_tick (5, 0, 0) 0 0 0 [some (.inr (some 62)), some (.inl x), some (.inl n), none, none] [] h _
  refine rw_iload_n (pc := 0) dM_tick_0 rfl ?_
  refine rw_iconst (pc := 1) (x := nI 0) dM_tick_1 (by decide) ?_
  refine rw_iconst (pc := 2) (x := nI 3) dM_tick_2 (by decide) ?_
  refine rw_si (pc := 3) (z' := (0, 0, 0)) (rc' := 0) (rs' := 0) (av := [.inl x, .inl (nI 0), .inl (nI 3)]) (st := []) mlM_138 msM_in dM_tick_3 (cM_in G _ _ _ _) rfl rfl (Nat.le_of_ble_eq_true rfl) (by decide) rfl rfl (fun r1 h1 q1 => ?_)
  obtain ⟨rfl, rfl⟩ := q1
  refine rw_ifeq (pc := 6) dM_tick_6 (tgt := 28) rfl (fun c2 => ?_) (fun c2 => ?_)
  · skip
    refine rw_iconst (pc := 28) (x := nI 0) dM_tick_28 (by decide) ?_
    exact rw_zret (pc := 29) dM_tick_29 rfl (Or.inl rfl) ⟨_, rfl, by simp [m_tick, m_upN, mi_1h, mi_ib, c2], by simp [m_tick, m_upN, mi_1h, mi_ib, c2]⟩
  · skip
    obtain ⟨j, hj, rfl⟩ := mi_rng (by decide) c2
    refine rw_aload_n (pc := 9) dM_tick_9 rfl ?_
    refine rw_getR (pc := 10) (x := some 63) flM_7_M dM_tick_10 (mo_o62 hm) (mo_S62 hm) (mo_R63 hm) ?_
    refine rw_iload_n (pc := 13) dM_tick_13 rfl ?_
    refine rw_zald (pc := 14) (v := hp_I h 63 j) (i := j) dM_tick_14 (mo_o63 hm) (mo_S63 hm) (ix_nI (by omega) (by decide)) rfl ?_
    refine rw_ifne (pc := 15) dM_tick_15 (tgt := 28) rfl (fun c3 => ?_) (fun c3 => ?_)
    · skip
      refine rw_iconst (pc := 28) (x := nI 0) dM_tick_28 (by decide) ?_
      exact rw_zret (pc := 29) dM_tick_29 rfl (Or.inl rfl) ⟨_, rfl, by simp [m_tick, m_upN, mi_1h, mi_ib, c2, c3, nI_clamp (show j < 2 ^ 31 by omega)], by simp [m_tick, m_upN, mi_1h, mi_ib, c2, c3, nI_clamp (show j < 2 ^ 31 by omega)]⟩
    · skip
      refine rw_iload_n (pc := 18) dM_tick_18 rfl ?_
      refine rw_iconst (pc := 19) (x := nI 1) dM_tick_19 (by decide) ?_
      refine rw_bipush (pc := 20) (x := nI 100) dM_tick_20 (by decide) ?_
      refine rw_si (pc := 22) (z' := (0, 0, 0)) (rc' := 0) (rs' := 0) (av := [.inl n, .inl (nI 1), .inl (nI 100)]) (st := []) mlM_138 msM_in dM_tick_22 (cM_in G _ _ _ _) rfl rfl (Nat.le_of_ble_eq_true rfl) (by decide) rfl rfl (fun r4 h4 q4 => ?_)
      obtain ⟨rfl, rfl⟩ := q4
      refine rw_ifne (pc := 25) dM_tick_25 (tgt := 30) rfl (fun c5 => ?_) (fun c5 => ?_)
      · skip
        obtain ⟨k, hk1, hk, rfl⟩ := mi_1hT c5
        refine rw_iconst (pc := 30) (x := nI 0) dM_tick_30 (by decide) ?_
        refine rw_istore_n (pc := 31) (L' := [some (.inr (some 62)), some (.inl (nI j)), some (.inl (nI k)), some (.inl (nI 0)), none]) dM_tick_31 (by decide) rfl ?_
        have e9 : m_tick h (nI j) (nI k) = (nI 1, m_tkN k h j) := by simp [m_tick, m_upN, mi_ib, mi_1h, c2, c3, c5, nI_clamp (show j < 2 ^ 31 by omega), nI_clamp (show k < 2 ^ 31 by omega)]
        have loop : ∀ (n d : Nat) (g : ha_H) (l4 : Option ha_V), d + n = k → mo_I g → m_tkN n g j = m_tkN k h j → rn_W G xM_tick (5, 0, 0) 0 0 32 [some (.inr (some 62)), some (.inl (nI j)), some (.inl (nI k)), some (.inl (nI d)), l4] [] g (rn_i (fun r h' => r = (m_tick h (nI j) (nI k)).1 ∧ (m_tick h (nI j) (nI k)).2 = h')) := by
          intro n
          induction n with
          | zero =>
            intro d g l4 hd hi he
            have hm := hi.1
            refine rw_iload_n (pc := 32) dM_tick_32 rfl ?_
            refine rw_iload_n (pc := 33) dM_tick_33 rfl ?_
            refine rw_icmpge (pc := 34) dM_tick_34 (tgt := 137) rfl (fun c6 => ?_) (fun c6 => ?_)
            · skip
              replace c6 : k ≤ d := (nI_leI (a := k) (b := d) (by omega) (by omega)).mp c6
              refine rw_iconst (pc := 137) (x := nI 1) dM_tick_137 (by decide) ?_
              exact rw_zret (pc := 138) dM_tick_138 rfl (Or.inr rfl) ⟨_, rfl, by rw [e9], by rw [e9]; exact he.symm⟩
            · skip
              replace c6 : ¬ (k ≤ d) := fun qz => c6 ((nI_leI (a := k) (b := d) (by omega) (by omega)).mpr qz)
              omega
          | succ n ih =>
            intro d g l4 hd hi he
            have hm := hi.1
            obtain ⟨tx, ht0⟩ : ∃ t, hp_I g 64 j = t := ⟨_, rfl⟩
            have ht := ht0
            have hi0 := hi
            refine rw_iload_n (pc := 32) dM_tick_32 rfl ?_
            refine rw_iload_n (pc := 33) dM_tick_33 rfl ?_
            refine rw_icmpge (pc := 34) dM_tick_34 (tgt := 137) rfl (fun c7 => ?_) (fun c7 => ?_)
            · skip
              replace c7 : k ≤ d := (nI_leI (a := k) (b := d) (by omega) (by omega)).mp c7
              omega
            · skip
              replace c7 : ¬ (k ≤ d) := fun qz => c7 ((nI_leI (a := k) (b := d) (by omega) (by omega)).mpr qz)
              refine rw_aload_n (pc := 37) dM_tick_37 rfl ?_
              refine rw_getR (pc := 38) (x := some 64) flM_13_M dM_tick_38 (mo_o62 hm) (mo_S62 hm) (mo_R64 hm) ?_
              refine rw_iload_n (pc := 41) dM_tick_41 rfl ?_
              refine rw_dup2 (pc := 42) dM_tick_42 ?_
              refine rw_iald (pc := 43) (v := tx) (i := j) dM_tick_43 (mo_o64 hm) (mo_S64 hm) (ix_nI (by omega) (by decide)) ht ?_
              refine rw_iconst (pc := 44) (x := nI 1) dM_tick_44 (by decide) ?_
              refine rw_iadd (pc := 45) (v := tx + (nI 1)) dM_tick_45 rfl ?_
              refine rw_iast (pc := 46) (i := j) dM_tick_46 (mo_o64 hm) (mo_S64 hm) (ix_nI (by omega) (by decide)) ?_
              replace hm := mo_sI (a := 64) (k := j) (v := tx + (nI 1)) hm
              refine rw_iload_n (pc := 47) dM_tick_47 rfl ?_
              refine rw_iconst (pc := 48) (x := nI 3) dM_tick_48 (by decide) ?_
              refine rw_icmpne (pc := 49) dM_tick_49 (tgt := 131) rfl (fun c8 => ?_) (fun c8 => ?_)
              · skip
                replace c8 : ¬ (j = 3) := fun qz => c8 ((nI_eq (a := j) (b := 3) (by omega) (by omega)).mpr qz)
                refine rw_iinc (pc := 131) (x := nI d) (y := nI (d + 1)) (L' := [some (.inr (some 62)), some (.inl (nI j)), some (.inl (nI k)), some (.inl (nI (d + 1))), l4]) dM_tick_131 (by decide) rfl (nI_add _ 1) rfl ?_
                refine rw_goto (pc := 134) dM_tick_134 (tgt := 32) rfl ?_
                have e1 : m_tk1 g j = hp_sI g 64 j (tx + (nI 1)) := by unfold m_tk1; rw [if_neg c8, ht0]
                refine ih (d + 1) _ _ (by omega) ?_ ?_
                · rw [← e1]
                  exact mI_tk1 hi0
                · rw [← e1]
                  exact he
              · skip
                replace c8 : j = 3 := (nI_eq (a := j) (b := 3) (by omega) (by omega)).mp c8
                subst c8
                have e1 : m_tk1 g 3 = m_serve (m_tkG (m_el 12 (hp_sI g 64 3 (tx + nI 1)) 0)) := by unfold m_tk1; rw [if_pos rfl, ht0]
                have inner : ∀ (m l : Nat) (e : ha_H), l + m = 12 → mo_I e → m_el m e l = m_el 12 (hp_sI g 64 3 (tx + nI 1)) 0 → rn_W G xM_tick (5, 0, 0) 0 0 55 [some (.inr (some 62)), some (.inl (nI 3)), some (.inl (nI k)), some (.inl (nI d)), some (.inl (nI l))] [] e (rn_i (fun r h' => r = (m_tick h (nI 3) (nI k)).1 ∧ (m_tick h (nI 3) (nI k)).2 = h')) := by
                  intro m
                  induction m with
                  | zero =>
                    intro l e hl hi he1
                    have hm := hi.1
                    obtain ⟨t3, hq0⟩ : ∃ t, hp_I e 64 3 = t := ⟨_, rfl⟩
                    obtain ⟨gr, hg0⟩ : ∃ t, hp_I e 62 6 = t := ⟨_, rfl⟩
                    have hq := hq0
                    have hg := hg0
                    refine rw_iload (pc := 55) dM_tick_55 rfl ?_
                    refine rw_bipush (pc := 57) (x := nI 12) dM_tick_57 (by decide) ?_
                    refine rw_icmpge (pc := 59) dM_tick_59 (tgt := 102) rfl (fun c9 => ?_) (fun c9 => ?_)
                    · skip
                      replace c9 : 12 ≤ l := (nI_leI (a := 12) (b := l) (by omega) (by omega)).mp c9
                      refine rw_aload_n (pc := 102) dM_tick_102 rfl ?_
                      refine rw_aload_n (pc := 103) dM_tick_103 rfl ?_
                      refine rw_getI (pc := 104) (x := gr) flM_190_M dM_tick_104 (mo_o62 hm) (mo_S62 hm) hg ?_
                      refine rw_aload_n (pc := 107) dM_tick_107 rfl ?_
                      refine rw_getR (pc := 108) (x := some 64) flM_13_M dM_tick_108 (mo_o62 hm) (mo_S62 hm) (mo_R64 hm) ?_
                      refine rw_iconst (pc := 111) (x := nI 3) dM_tick_111 (by decide) ?_
                      refine rw_iald (pc := 112) (v := t3) (i := 3) dM_tick_112 (mo_o64 hm) (mo_S64 hm) (ix_nI (by omega) (by decide)) hq ?_
                      refine rw_icmpgt (pc := 113) dM_tick_113 (tgt := 120) rfl (fun c10 => ?_) (fun c10 => ?_)
                      · skip
                        refine rw_aload_n (pc := 120) dM_tick_120 rfl ?_
                        refine rw_getI (pc := 121) (x := gr) flM_190_M dM_tick_121 (mo_o62 hm) (mo_S62 hm) hg ?_
                        refine rw_putI (pc := 124) pfM_190_M dM_tick_124 (mo_o62 hm) (mo_S62 hm) ?_
                        replace hm := mo_sI (a := 62) (k := 6) (v := gr) hm
                        replace hq := hI_sI (a := 62) (k := 6) (v := gr) (by decide) hq
                        have e11 : hp_I (hp_sI e 62 6 gr) 62 6 = gr := hI_set
                        refine rw_aload_n (pc := 127) dM_tick_127 rfl ?_
                        refine rw_vv (pc := 128) (z' := (4, 0, 0)) (rc' := 0) (rs' := 0) (av := []) (st := []) (ci := 10) mlM_164 miM_serveLines rfl mvM_serveLines_M dM_tick_128 (mo_o62 hm) (mo_S62 hm) (cM_serveLines G _ (mI_sF hi (by decide)).1) rfl rfl (Nat.le_of_ble_eq_true rfl) (by decide) rfl rfl (fun h12 q12 => ?_)
                        obtain rfl := q12
                        refine rw_iinc (pc := 131) (x := nI d) (y := nI (d + 1)) (L' := [some (.inr (some 62)), some (.inl (nI 3)), some (.inl (nI k)), some (.inl (nI (d + 1))), some (.inl (nI l))]) dM_tick_131 (by decide) rfl (nI_add _ 1) rfl ?_
                        refine rw_goto (pc := 134) dM_tick_134 (tgt := 32) rfl ?_
                        have e2 : m_tk1 g 3 = m_serve (hp_sI e 62 6 gr) := by
                          rw [e1, ← he1]
                          show m_serve (m_tkG e) = _
                          unfold m_tkG
                          rw [hq0, hg0, if_pos c10]
                        refine ih (d + 1) _ _ (by omega) ?_ ?_
                        · rw [← e2]
                          exact mI_tk1 hi0
                        · rw [← e2]
                          exact he
                      · skip
                        refine rw_iconst (pc := 116) (x := nI 0) dM_tick_116 (by decide) ?_
                        refine rw_goto (pc := 117) dM_tick_117 (tgt := 124) rfl ?_
                        refine rw_putI (pc := 124) pfM_190_M dM_tick_124 (mo_o62 hm) (mo_S62 hm) ?_
                        replace hm := mo_sI (a := 62) (k := 6) (v := nI 0) hm
                        replace hq := hI_sI (a := 62) (k := 6) (v := nI 0) (by decide) hq
                        have e13 : hp_I (hp_sI e 62 6 (nI 0)) 62 6 = nI 0 := hI_set
                        refine rw_aload_n (pc := 127) dM_tick_127 rfl ?_
                        refine rw_vv (pc := 128) (z' := (4, 0, 0)) (rc' := 0) (rs' := 0) (av := []) (st := []) (ci := 10) mlM_164 miM_serveLines rfl mvM_serveLines_M dM_tick_128 (mo_o62 hm) (mo_S62 hm) (cM_serveLines G _ (mI_sF hi (by decide)).1) rfl rfl (Nat.le_of_ble_eq_true rfl) (by decide) rfl rfl (fun h14 q14 => ?_)
                        obtain rfl := q14
                        refine rw_iinc (pc := 131) (x := nI d) (y := nI (d + 1)) (L' := [some (.inr (some 62)), some (.inl (nI 3)), some (.inl (nI k)), some (.inl (nI (d + 1))), some (.inl (nI l))]) dM_tick_131 (by decide) rfl (nI_add _ 1) rfl ?_
                        refine rw_goto (pc := 134) dM_tick_134 (tgt := 32) rfl ?_
                        have e2 : m_tk1 g 3 = m_serve (hp_sI e 62 6 (nI 0)) := by
                          rw [e1, ← he1]
                          show m_serve (m_tkG e) = _
                          unfold m_tkG
                          rw [hq0, hg0, if_neg c10]
                        refine ih (d + 1) _ _ (by omega) ?_ ?_
                        · rw [← e2]
                          exact mI_tk1 hi0
                        · rw [← e2]
                          exact he
                    · skip
                      replace c9 : ¬ (12 ≤ l) := fun qz => c9 ((nI_leI (a := 12) (b := l) (by omega) (by omega)).mpr qz)
                      omega
                  | succ m ih2 =>
                    intro l e hl hi he1
                    have hm := hi.1
                    refine rw_iload (pc := 55) dM_tick_55 rfl ?_
                    refine rw_bipush (pc := 57) (x := nI 12) dM_tick_57 (by decide) ?_
                    refine rw_icmpge (pc := 59) dM_tick_59 (tgt := 102) rfl (fun c15 => ?_) (fun c15 => ?_)
                    · skip
                      replace c15 : 12 ≤ l := (nI_leI (a := 12) (b := l) (by omega) (by omega)).mp c15
                      omega
                    · skip
                      replace c15 : ¬ (12 ≤ l) := fun qz => c15 ((nI_leI (a := 12) (b := l) (by omega) (by omega)).mpr qz)
                      refine rw_aload_n (pc := 62) dM_tick_62 rfl ?_
                      refine rw_getR (pc := 63) (x := some 66) flM_20_M dM_tick_63 (mo_o62 hm) (mo_S62 hm) (mo_R66 hm) ?_
                      refine rw_iload (pc := 66) dM_tick_66 rfl ?_
                      refine rw_aload_n (pc := 68) dM_tick_68 rfl ?_
                      refine rw_getR (pc := 69) (x := some 67) flM_23_M dM_tick_69 (mo_o62 hm) (mo_S62 hm) (mo_R67 hm) ?_
                      refine rw_iload (pc := 72) dM_tick_72 rfl ?_
                      refine rw_iald (pc := 74) (v := hp_I e 67 l) (i := l) dM_tick_74 (mo_o67 hm) (mo_S67 hm) (ix_nI (by omega) (by decide)) rfl ?_
                      refine rw_aload_n (pc := 75) dM_tick_75 rfl ?_
                      refine rw_getR (pc := 76) (x := some 64) flM_13_M dM_tick_76 (mo_o62 hm) (mo_S62 hm) (mo_R64 hm) ?_
                      refine rw_iconst (pc := 79) (x := nI 3) dM_tick_79 (by decide) ?_
                      refine rw_iald (pc := 80) (v := hp_I e 64 3) (i := 3) dM_tick_80 (mo_o64 hm) (mo_S64 hm) (ix_nI (by omega) (by decide)) rfl ?_
                      refine rw_icmpgt (pc := 81) dM_tick_81 (tgt := 88) rfl (fun c16 => ?_) (fun c16 => ?_)
                      · skip
                        refine rw_aload_n (pc := 88) dM_tick_88 rfl ?_
                        refine rw_getR (pc := 89) (x := some 66) flM_20_M dM_tick_89 (mo_o62 hm) (mo_S62 hm) (mo_R66 hm) ?_
                        refine rw_iload (pc := 92) dM_tick_92 rfl ?_
                        refine rw_iald (pc := 94) (v := hp_I e 66 l) (i := l) dM_tick_94 (mo_o66 hm) (mo_S66 hm) (ix_nI (by omega) (by decide)) rfl ?_
                        refine rw_iast (pc := 95) (i := l) dM_tick_95 (mo_o66 hm) (mo_S66 hm) (ix_nI (by omega) (by decide)) ?_
                        show rn_W G xM_tick (5, 0, 0) 0 0 96 [some (.inr (some 62)), some (.inl (nI 3)), some (.inl (nI k)), some (.inl (nI d)), some (.inl (nI l))] [] (hp_mv e 66 l 66 l) (rn_i (fun r h' => r = (m_tick h (nI 3) (nI k)).1 ∧ (m_tick h (nI 3) (nI k)).2 = h'))
                        replace hm := mo_mv (A := 66) (i := l) (B := 66) (t := l) hm
                        refine rw_iinc (pc := 96) (x := nI l) (y := nI (l + 1)) (L' := [some (.inr (some 62)), some (.inl (nI 3)), some (.inl (nI k)), some (.inl (nI d)), some (.inl (nI (l + 1)))]) dM_tick_96 (by decide) rfl (nI_add _ 1) rfl ?_
                        refine rw_goto (pc := 99) dM_tick_99 (tgt := 55) rfl ?_
                        refine ih2 (l + 1) _ (by omega) (mI_mv hi (by decide) (by decide)).1 ?_
                        rw [← he1]
                        show _ = m_el m (if hp_I e 64 3 < hp_I e 67 l then hp_mv e 66 l 66 l else hp_sI e 66 l (nI 0)) (l + 1)
                        rw [if_pos c16]
                      · skip
                        refine rw_iconst (pc := 84) (x := nI 0) dM_tick_84 (by decide) ?_
                        refine rw_goto (pc := 85) dM_tick_85 (tgt := 95) rfl ?_
                        refine rw_iast (pc := 95) (i := l) dM_tick_95 (mo_o66 hm) (mo_S66 hm) (ix_nI (by omega) (by decide)) ?_
                        replace hm := mo_sI (a := 66) (k := l) (v := nI 0) hm
                        refine rw_iinc (pc := 96) (x := nI l) (y := nI (l + 1)) (L' := [some (.inr (some 62)), some (.inl (nI 3)), some (.inl (nI k)), some (.inl (nI d)), some (.inl (nI (l + 1)))]) dM_tick_96 (by decide) rfl (nI_add _ 1) rfl ?_
                        refine rw_goto (pc := 99) dM_tick_99 (tgt := 55) rfl ?_
                        refine ih2 (l + 1) _ (by omega) (mI_sI hi (by decide) (fun q => absurd q (by decide))).1 ?_
                        rw [← he1]
                        show _ = m_el m (if hp_I e 64 3 < hp_I e 67 l then hp_mv e 66 l 66 l else hp_sI e 66 l (nI 0)) (l + 1)
                        rw [if_neg c16]
                refine rw_iconst (pc := 52) (x := nI 0) dM_tick_52 (by decide) ?_
                refine rw_istore (pc := 53) (L' := [some (.inr (some 62)), some (.inl (nI 3)), some (.inl (nI k)), some (.inl (nI d)), some (.inl (nI 0))]) dM_tick_53 (by decide) rfl ?_
                exact inner 12 0 _ rfl (mI_sI hi (by decide) (fun q => absurd q (by decide))).1 rfl
        exact loop k 0 h none (Nat.zero_add _) hi rfl
      · skip
        refine rw_iconst (pc := 28) (x := nI 0) dM_tick_28 (by decide) ?_
        exact rw_zret (pc := 29) dM_tick_29 rfl (Or.inl rfl) ⟨_, rfl, by simp [m_tick, m_upN, mi_1h, mi_ib, c2, c3, c5, nI_clamp (show j < 2 ^ 31 by omega)], by simp [m_tick, m_upN, mi_1h, mi_ib, c2, c3, c5, nI_clamp (show j < 2 ^ 31 by omega)]⟩
