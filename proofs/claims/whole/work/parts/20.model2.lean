def m_move (h : ha_H) (i t : Nat) : ha_H := hp_mv (hp_mv (hp_mv (hp_mv (hp_mv (hp_mv (hp_mv (hp_mv (hp_mv (hp_mv (hp_mv (hp_mv h 94 i 94 t) 95 i 95 t) 96 i 96 t) 97 i 97 t) 98 i 98 t) 99 i 99 t) 100 i 100 t) 101 i 101 t) 102 (4 * i + 0) 102 (4 * t + 0)) 102 (4 * i + 1) 102 (4 * t + 1)) 102 (4 * i + 2) 102 (4 * t + 2)) 102 (4 * i + 3) 102 (4 * t + 3)
theorem cM_move (G : mt_G) (h : ha_H) (hm : mo_ok h) (hb : mo_b h) {i t : Nat} (hi : i < 60) (ht : t < 60) : rn_M G xM_move (0, 0, 0) [.inr (some 62), .inl (nI i), .inl (nI t)] h (rn_v (fun h' => m_move h i t = h')) := by
  refine rn_of (by decide +kernel) (Nat.le_of_ble_eq_true rfl) ?_
  show rn_W G xM_move (0, 0, 0) 0 0 0 [some (.inr (some 62)), some (.inl (nI i)), some (.inl (nI t)), none] [] h _
  refine rw_aload_n (pc := 0) dM_move_0 rfl ?_
  refine rw_getR (pc := 1) (x := some 94) flM_104_M dM_move_1 (mo_o62 hm) (mo_S62 hm) (mo_R94 hm) ?_
  refine rw_iload_n (pc := 4) dM_move_4 rfl ?_
  refine rw_aload_n (pc := 5) dM_move_5 rfl ?_
  refine rw_getR (pc := 6) (x := some 94) flM_104_M dM_move_6 (mo_o62 hm) (mo_S62 hm) (mo_R94 hm) ?_
  refine rw_iload_n (pc := 9) dM_move_9 rfl ?_
  refine rw_iald (pc := 10) (v := hp_I h 94 i) (i := i) dM_move_10 (mo_o94 hm) (mo_S94 hm) (ix_nI (by omega) (by decide)) rfl ?_
  refine rw_iast (pc := 11) (i := t) dM_move_11 (mo_o94 hm) (mo_S94 hm) (ix_nI (by omega) (by decide)) ?_
  show rn_W G xM_move (0, 0, 0) 0 0 12 [some (.inr (some 62)), some (.inl (nI i)), some (.inl (nI t)), none] [] (hp_mv h 94 i 94 t) _
  replace hm := mo_mv (A := 94) (i := i) (B := 94) (t := t) hm
  refine rw_aload_n (pc := 12) dM_move_12 rfl ?_
  refine rw_getR (pc := 13) (x := some 95) flM_107_M dM_move_13 (mo_o62 hm) (mo_S62 hm) (mo_R95 hm) ?_
  refine rw_iload_n (pc := 16) dM_move_16 rfl ?_
  refine rw_aload_n (pc := 17) dM_move_17 rfl ?_
  refine rw_getR (pc := 18) (x := some 95) flM_107_M dM_move_18 (mo_o62 hm) (mo_S62 hm) (mo_R95 hm) ?_
  refine rw_iload_n (pc := 21) dM_move_21 rfl ?_
  refine rw_iald (pc := 22) (v := hp_I (hp_mv h 94 i 94 t) 95 i) (i := i) dM_move_22 (mo_o95 hm) (mo_S95 hm) (ix_nI (by omega) (by decide)) rfl ?_
  refine rw_iast (pc := 23) (i := t) dM_move_23 (mo_o95 hm) (mo_S95 hm) (ix_nI (by omega) (by decide)) ?_
  show rn_W G xM_move (0, 0, 0) 0 0 24 [some (.inr (some 62)), some (.inl (nI i)), some (.inl (nI t)), none] [] (hp_mv (hp_mv h 94 i 94 t) 95 i 95 t) _
  replace hm := mo_mv (A := 95) (i := i) (B := 95) (t := t) hm
  refine rw_aload_n (pc := 24) dM_move_24 rfl ?_
  refine rw_getR (pc := 25) (x := some 96) flM_110_M dM_move_25 (mo_o62 hm) (mo_S62 hm) (mo_R96 hm) ?_
  refine rw_iload_n (pc := 28) dM_move_28 rfl ?_
  refine rw_aload_n (pc := 29) dM_move_29 rfl ?_
  refine rw_getR (pc := 30) (x := some 96) flM_110_M dM_move_30 (mo_o62 hm) (mo_S62 hm) (mo_R96 hm) ?_
  refine rw_iload_n (pc := 33) dM_move_33 rfl ?_
  refine rw_iald (pc := 34) (v := hp_I (hp_mv (hp_mv h 94 i 94 t) 95 i 95 t) 96 i) (i := i) dM_move_34 (mo_o96 hm) (mo_S96 hm) (ix_nI (by omega) (by decide)) rfl ?_
  refine rw_iast (pc := 35) (i := t) dM_move_35 (mo_o96 hm) (mo_S96 hm) (ix_nI (by omega) (by decide)) ?_
  show rn_W G xM_move (0, 0, 0) 0 0 36 [some (.inr (some 62)), some (.inl (nI i)), some (.inl (nI t)), none] [] (hp_mv (hp_mv (hp_mv h 94 i 94 t) 95 i 95 t) 96 i 96 t) _
  replace hm := mo_mv (A := 96) (i := i) (B := 96) (t := t) hm
  refine rw_aload_n (pc := 36) dM_move_36 rfl ?_
  refine rw_getR (pc := 37) (x := some 97) flM_113_M dM_move_37 (mo_o62 hm) (mo_S62 hm) (mo_R97 hm) ?_
  refine rw_iload_n (pc := 40) dM_move_40 rfl ?_
  refine rw_aload_n (pc := 41) dM_move_41 rfl ?_
  refine rw_getR (pc := 42) (x := some 97) flM_113_M dM_move_42 (mo_o62 hm) (mo_S62 hm) (mo_R97 hm) ?_
  refine rw_iload_n (pc := 45) dM_move_45 rfl ?_
  refine rw_iald (pc := 46) (v := hp_I (hp_mv (hp_mv (hp_mv h 94 i 94 t) 95 i 95 t) 96 i 96 t) 97 i) (i := i) dM_move_46 (mo_o97 hm) (mo_S97 hm) (ix_nI (by omega) (by decide)) rfl ?_
  refine rw_iast (pc := 47) (i := t) dM_move_47 (mo_o97 hm) (mo_S97 hm) (ix_nI (by omega) (by decide)) ?_
  show rn_W G xM_move (0, 0, 0) 0 0 48 [some (.inr (some 62)), some (.inl (nI i)), some (.inl (nI t)), none] [] (hp_mv (hp_mv (hp_mv (hp_mv h 94 i 94 t) 95 i 95 t) 96 i 96 t) 97 i 97 t) _
  replace hm := mo_mv (A := 97) (i := i) (B := 97) (t := t) hm
  refine rw_aload_n (pc := 48) dM_move_48 rfl ?_
  refine rw_getR (pc := 49) (x := some 98) flM_116_M dM_move_49 (mo_o62 hm) (mo_S62 hm) (mo_R98 hm) ?_
  refine rw_iload_n (pc := 52) dM_move_52 rfl ?_
  refine rw_aload_n (pc := 53) dM_move_53 rfl ?_
  refine rw_getR (pc := 54) (x := some 98) flM_116_M dM_move_54 (mo_o62 hm) (mo_S62 hm) (mo_R98 hm) ?_
  refine rw_iload_n (pc := 57) dM_move_57 rfl ?_
  refine rw_iald (pc := 58) (v := hp_I (hp_mv (hp_mv (hp_mv (hp_mv h 94 i 94 t) 95 i 95 t) 96 i 96 t) 97 i 97 t) 98 i) (i := i) dM_move_58 (mo_o98 hm) (mo_S98 hm) (ix_nI (by omega) (by decide)) rfl ?_
  refine rw_iast (pc := 59) (i := t) dM_move_59 (mo_o98 hm) (mo_S98 hm) (ix_nI (by omega) (by decide)) ?_
  show rn_W G xM_move (0, 0, 0) 0 0 60 [some (.inr (some 62)), some (.inl (nI i)), some (.inl (nI t)), none] [] (hp_mv (hp_mv (hp_mv (hp_mv (hp_mv h 94 i 94 t) 95 i 95 t) 96 i 96 t) 97 i 97 t) 98 i 98 t) _
  replace hm := mo_mv (A := 98) (i := i) (B := 98) (t := t) hm
  refine rw_aload_n (pc := 60) dM_move_60 rfl ?_
  refine rw_getR (pc := 61) (x := some 99) flM_119_M dM_move_61 (mo_o62 hm) (mo_S62 hm) (mo_R99 hm) ?_
  refine rw_iload_n (pc := 64) dM_move_64 rfl ?_
  refine rw_aload_n (pc := 65) dM_move_65 rfl ?_
  refine rw_getR (pc := 66) (x := some 99) flM_119_M dM_move_66 (mo_o62 hm) (mo_S62 hm) (mo_R99 hm) ?_
  refine rw_iload_n (pc := 69) dM_move_69 rfl ?_
  refine rw_zald (pc := 70) (v := hp_I (hp_mv (hp_mv (hp_mv (hp_mv (hp_mv h 94 i 94 t) 95 i 95 t) 96 i 96 t) 97 i 97 t) 98 i 98 t) 99 i) (i := i) dM_move_70 (mo_o99 hm) (mo_S99 hm) (ix_nI (by omega) (by decide)) rfl ?_
  refine rw_zast (pc := 71) (i := t) (hb 99 (by decide) _) dM_move_71 (mo_o99 hm) (mo_S99 hm) (ix_nI (by omega) (by decide)) ?_
  show rn_W G xM_move (0, 0, 0) 0 0 72 [some (.inr (some 62)), some (.inl (nI i)), some (.inl (nI t)), none] [] (hp_mv (hp_mv (hp_mv (hp_mv (hp_mv (hp_mv h 94 i 94 t) 95 i 95 t) 96 i 96 t) 97 i 97 t) 98 i 98 t) 99 i 99 t) _
  replace hm := mo_mv (A := 99) (i := i) (B := 99) (t := t) hm
  refine rw_aload_n (pc := 72) dM_move_72 rfl ?_
  refine rw_getR (pc := 73) (x := some 100) flM_122_M dM_move_73 (mo_o62 hm) (mo_S62 hm) (mo_R100 hm) ?_
  refine rw_iload_n (pc := 76) dM_move_76 rfl ?_
  refine rw_aload_n (pc := 77) dM_move_77 rfl ?_
  refine rw_getR (pc := 78) (x := some 100) flM_122_M dM_move_78 (mo_o62 hm) (mo_S62 hm) (mo_R100 hm) ?_
  refine rw_iload_n (pc := 81) dM_move_81 rfl ?_
  refine rw_iald (pc := 82) (v := hp_I (hp_mv (hp_mv (hp_mv (hp_mv (hp_mv (hp_mv h 94 i 94 t) 95 i 95 t) 96 i 96 t) 97 i 97 t) 98 i 98 t) 99 i 99 t) 100 i) (i := i) dM_move_82 (mo_o100 hm) (mo_S100 hm) (ix_nI (by omega) (by decide)) rfl ?_
  refine rw_iast (pc := 83) (i := t) dM_move_83 (mo_o100 hm) (mo_S100 hm) (ix_nI (by omega) (by decide)) ?_
  show rn_W G xM_move (0, 0, 0) 0 0 84 [some (.inr (some 62)), some (.inl (nI i)), some (.inl (nI t)), none] [] (hp_mv (hp_mv (hp_mv (hp_mv (hp_mv (hp_mv (hp_mv h 94 i 94 t) 95 i 95 t) 96 i 96 t) 97 i 97 t) 98 i 98 t) 99 i 99 t) 100 i 100 t) _
  replace hm := mo_mv (A := 100) (i := i) (B := 100) (t := t) hm
  refine rw_aload_n (pc := 84) dM_move_84 rfl ?_
  refine rw_getR (pc := 85) (x := some 101) flM_125_M dM_move_85 (mo_o62 hm) (mo_S62 hm) (mo_R101 hm) ?_
  refine rw_iload_n (pc := 88) dM_move_88 rfl ?_
  refine rw_aload_n (pc := 89) dM_move_89 rfl ?_
  refine rw_getR (pc := 90) (x := some 101) flM_125_M dM_move_90 (mo_o62 hm) (mo_S62 hm) (mo_R101 hm) ?_
  refine rw_iload_n (pc := 93) dM_move_93 rfl ?_
  refine rw_iald (pc := 94) (v := hp_I (hp_mv (hp_mv (hp_mv (hp_mv (hp_mv (hp_mv (hp_mv h 94 i 94 t) 95 i 95 t) 96 i 96 t) 97 i 97 t) 98 i 98 t) 99 i 99 t) 100 i 100 t) 101 i) (i := i) dM_move_94 (mo_o101 hm) (mo_S101 hm) (ix_nI (by omega) (by decide)) rfl ?_
  refine rw_iast (pc := 95) (i := t) dM_move_95 (mo_o101 hm) (mo_S101 hm) (ix_nI (by omega) (by decide)) ?_
  show rn_W G xM_move (0, 0, 0) 0 0 96 [some (.inr (some 62)), some (.inl (nI i)), some (.inl (nI t)), none] [] (hp_mv (hp_mv (hp_mv (hp_mv (hp_mv (hp_mv (hp_mv (hp_mv h 94 i 94 t) 95 i 95 t) 96 i 96 t) 97 i 97 t) 98 i 98 t) 99 i 99 t) 100 i 100 t) 101 i 101 t) _
  replace hm := mo_mv (A := 101) (i := i) (B := 101) (t := t) hm
  refine rw_iconst (pc := 96) (x := nI 0) dM_move_96 (by decide) ?_
  refine rw_istore_n (pc := 97) (L' := [some (.inr (some 62)), some (.inl (nI i)), some (.inl (nI t)), some (.inl (nI 0))]) dM_move_97 (by decide) rfl ?_
  refine rw_iload_n (pc := 98) dM_move_98 rfl ?_
  refine rw_iconst (pc := 99) (x := nI 4) dM_move_99 (by decide) ?_
  refine rw_icmpge (pc := 100) dM_move_100 (tgt := 129) rfl (fun c1 => ?_) (fun c1 => ?_)
  · skip
    replace c1 : 4 ≤ 0 := (nI_leI (a := 4) (b := 0) (by omega) (by omega)).mp c1
    exact absurd c1 (by decide)
  · skip
    replace c1 : ¬ (4 ≤ 0) := fun qz => c1 ((nI_leI (a := 4) (b := 0) (by omega) (by omega)).mpr qz)
    refine rw_aload_n (pc := 103) dM_move_103 rfl ?_
    refine rw_getR (pc := 104) (x := some 102) flM_128_M dM_move_104 (mo_o62 hm) (mo_S62 hm) (mo_R102 hm) ?_
    refine rw_iconst (pc := 107) (x := nI 4) dM_move_107 (by decide) ?_
    refine rw_iload_n (pc := 108) dM_move_108 rfl ?_
    refine rw_imul (pc := 109) (v := nI (4 * t)) dM_move_109 (pk_mul _ _) ?_
    refine rw_iload_n (pc := 110) dM_move_110 rfl ?_
    refine rw_iadd (pc := 111) (v := nI (4 * t + 0)) dM_move_111 (nI_add _ _) ?_
    refine rw_aload_n (pc := 112) dM_move_112 rfl ?_
    refine rw_getR (pc := 113) (x := some 102) flM_128_M dM_move_113 (mo_o62 hm) (mo_S62 hm) (mo_R102 hm) ?_
    refine rw_iconst (pc := 116) (x := nI 4) dM_move_116 (by decide) ?_
    refine rw_iload_n (pc := 117) dM_move_117 rfl ?_
    refine rw_imul (pc := 118) (v := nI (4 * i)) dM_move_118 (pk_mul _ _) ?_
    refine rw_iload_n (pc := 119) dM_move_119 rfl ?_
    refine rw_iadd (pc := 120) (v := nI (4 * i + 0)) dM_move_120 (nI_add _ _) ?_
    refine rw_iald (pc := 121) (v := hp_I (hp_mv (hp_mv (hp_mv (hp_mv (hp_mv (hp_mv (hp_mv (hp_mv h 94 i 94 t) 95 i 95 t) 96 i 96 t) 97 i 97 t) 98 i 98 t) 99 i 99 t) 100 i 100 t) 101 i 101 t) 102 (4 * i + 0)) (i := (4 * i + 0)) dM_move_121 (mo_o102 hm) (mo_S102 hm) (ix_nI (by omega) (by decide)) rfl ?_
    refine rw_iast (pc := 122) (i := (4 * t + 0)) dM_move_122 (mo_o102 hm) (mo_S102 hm) (ix_nI (by omega) (by decide)) ?_
    show rn_W G xM_move (0, 0, 0) 0 0 123 [some (.inr (some 62)), some (.inl (nI i)), some (.inl (nI t)), some (.inl (nI 0))] [] (hp_mv (hp_mv (hp_mv (hp_mv (hp_mv (hp_mv (hp_mv (hp_mv (hp_mv h 94 i 94 t) 95 i 95 t) 96 i 96 t) 97 i 97 t) 98 i 98 t) 99 i 99 t) 100 i 100 t) 101 i 101 t) 102 (4 * i + 0) 102 (4 * t + 0)) _
    replace hm := mo_mv (A := 102) (i := (4 * i + 0)) (B := 102) (t := (4 * t + 0)) hm
    refine rw_iinc (pc := 123) (x := nI 0) (y := nI 1) (L' := [some (.inr (some 62)), some (.inl (nI i)), some (.inl (nI t)), some (.inl (nI 1))]) dM_move_123 (by decide) rfl (by decide) rfl ?_
    refine rw_goto (pc := 126) dM_move_126 (tgt := 98) rfl ?_
    refine rw_iload_n (pc := 98) dM_move_98 rfl ?_
    refine rw_iconst (pc := 99) (x := nI 4) dM_move_99 (by decide) ?_
    refine rw_icmpge (pc := 100) dM_move_100 (tgt := 129) rfl (fun c2 => ?_) (fun c2 => ?_)
    · skip
      replace c2 : 4 ≤ 1 := (nI_leI (a := 4) (b := 1) (by omega) (by omega)).mp c2
      exact absurd c2 (by decide)
    · skip
      replace c2 : ¬ (4 ≤ 1) := fun qz => c2 ((nI_leI (a := 4) (b := 1) (by omega) (by omega)).mpr qz)
      refine rw_aload_n (pc := 103) dM_move_103 rfl ?_
      refine rw_getR (pc := 104) (x := some 102) flM_128_M dM_move_104 (mo_o62 hm) (mo_S62 hm) (mo_R102 hm) ?_
      refine rw_iconst (pc := 107) (x := nI 4) dM_move_107 (by decide) ?_
      refine rw_iload_n (pc := 108) dM_move_108 rfl ?_
      refine rw_imul (pc := 109) (v := nI (4 * t)) dM_move_109 (pk_mul _ _) ?_
      refine rw_iload_n (pc := 110) dM_move_110 rfl ?_
      refine rw_iadd (pc := 111) (v := nI (4 * t + 1)) dM_move_111 (nI_add _ _) ?_
      refine rw_aload_n (pc := 112) dM_move_112 rfl ?_
      refine rw_getR (pc := 113) (x := some 102) flM_128_M dM_move_113 (mo_o62 hm) (mo_S62 hm) (mo_R102 hm) ?_
      refine rw_iconst (pc := 116) (x := nI 4) dM_move_116 (by decide) ?_
      refine rw_iload_n (pc := 117) dM_move_117 rfl ?_
      refine rw_imul (pc := 118) (v := nI (4 * i)) dM_move_118 (pk_mul _ _) ?_
      refine rw_iload_n (pc := 119) dM_move_119 rfl ?_
      refine rw_iadd (pc := 120) (v := nI (4 * i + 1)) dM_move_120 (nI_add _ _) ?_
      refine rw_iald (pc := 121) (v := hp_I (hp_mv (hp_mv (hp_mv (hp_mv (hp_mv (hp_mv (hp_mv (hp_mv (hp_mv h 94 i 94 t) 95 i 95 t) 96 i 96 t) 97 i 97 t) 98 i 98 t) 99 i 99 t) 100 i 100 t) 101 i 101 t) 102 (4 * i + 0) 102 (4 * t + 0)) 102 (4 * i + 1)) (i := (4 * i + 1)) dM_move_121 (mo_o102 hm) (mo_S102 hm) (ix_nI (by omega) (by decide)) rfl ?_
      refine rw_iast (pc := 122) (i := (4 * t + 1)) dM_move_122 (mo_o102 hm) (mo_S102 hm) (ix_nI (by omega) (by decide)) ?_
      show rn_W G xM_move (0, 0, 0) 0 0 123 [some (.inr (some 62)), some (.inl (nI i)), some (.inl (nI t)), some (.inl (nI 1))] [] (hp_mv (hp_mv (hp_mv (hp_mv (hp_mv (hp_mv (hp_mv (hp_mv (hp_mv (hp_mv h 94 i 94 t) 95 i 95 t) 96 i 96 t) 97 i 97 t) 98 i 98 t) 99 i 99 t) 100 i 100 t) 101 i 101 t) 102 (4 * i + 0) 102 (4 * t + 0)) 102 (4 * i + 1) 102 (4 * t + 1)) _
      replace hm := mo_mv (A := 102) (i := (4 * i + 1)) (B := 102) (t := (4 * t + 1)) hm
      refine rw_iinc (pc := 123) (x := nI 1) (y := nI 2) (L' := [some (.inr (some 62)), some (.inl (nI i)), some (.inl (nI t)), some (.inl (nI 2))]) dM_move_123 (by decide) rfl (by decide) rfl ?_
      refine rw_goto (pc := 126) dM_move_126 (tgt := 98) rfl ?_
      refine rw_iload_n (pc := 98) dM_move_98 rfl ?_
      refine rw_iconst (pc := 99) (x := nI 4) dM_move_99 (by decide) ?_
      refine rw_icmpge (pc := 100) dM_move_100 (tgt := 129) rfl (fun c3 => ?_) (fun c3 => ?_)
      · skip
        replace c3 : 4 ≤ 2 := (nI_leI (a := 4) (b := 2) (by omega) (by omega)).mp c3
        exact absurd c3 (by decide)
      · skip
        replace c3 : ¬ (4 ≤ 2) := fun qz => c3 ((nI_leI (a := 4) (b := 2) (by omega) (by omega)).mpr qz)
        refine rw_aload_n (pc := 103) dM_move_103 rfl ?_
        refine rw_getR (pc := 104) (x := some 102) flM_128_M dM_move_104 (mo_o62 hm) (mo_S62 hm) (mo_R102 hm) ?_
        refine rw_iconst (pc := 107) (x := nI 4) dM_move_107 (by decide) ?_
        refine rw_iload_n (pc := 108) dM_move_108 rfl ?_
        refine rw_imul (pc := 109) (v := nI (4 * t)) dM_move_109 (pk_mul _ _) ?_
        refine rw_iload_n (pc := 110) dM_move_110 rfl ?_
        refine rw_iadd (pc := 111) (v := nI (4 * t + 2)) dM_move_111 (nI_add _ _) ?_
        refine rw_aload_n (pc := 112) dM_move_112 rfl ?_
        refine rw_getR (pc := 113) (x := some 102) flM_128_M dM_move_113 (mo_o62 hm) (mo_S62 hm) (mo_R102 hm) ?_
        refine rw_iconst (pc := 116) (x := nI 4) dM_move_116 (by decide) ?_
        refine rw_iload_n (pc := 117) dM_move_117 rfl ?_
        refine rw_imul (pc := 118) (v := nI (4 * i)) dM_move_118 (pk_mul _ _) ?_
        refine rw_iload_n (pc := 119) dM_move_119 rfl ?_
        refine rw_iadd (pc := 120) (v := nI (4 * i + 2)) dM_move_120 (nI_add _ _) ?_
        refine rw_iald (pc := 121) (v := hp_I (hp_mv (hp_mv (hp_mv (hp_mv (hp_mv (hp_mv (hp_mv (hp_mv (hp_mv (hp_mv h 94 i 94 t) 95 i 95 t) 96 i 96 t) 97 i 97 t) 98 i 98 t) 99 i 99 t) 100 i 100 t) 101 i 101 t) 102 (4 * i + 0) 102 (4 * t + 0)) 102 (4 * i + 1) 102 (4 * t + 1)) 102 (4 * i + 2)) (i := (4 * i + 2)) dM_move_121 (mo_o102 hm) (mo_S102 hm) (ix_nI (by omega) (by decide)) rfl ?_
        refine rw_iast (pc := 122) (i := (4 * t + 2)) dM_move_122 (mo_o102 hm) (mo_S102 hm) (ix_nI (by omega) (by decide)) ?_
        show rn_W G xM_move (0, 0, 0) 0 0 123 [some (.inr (some 62)), some (.inl (nI i)), some (.inl (nI t)), some (.inl (nI 2))] [] (hp_mv (hp_mv (hp_mv (hp_mv (hp_mv (hp_mv (hp_mv (hp_mv (hp_mv (hp_mv (hp_mv h 94 i 94 t) 95 i 95 t) 96 i 96 t) 97 i 97 t) 98 i 98 t) 99 i 99 t) 100 i 100 t) 101 i 101 t) 102 (4 * i + 0) 102 (4 * t + 0)) 102 (4 * i + 1) 102 (4 * t + 1)) 102 (4 * i + 2) 102 (4 * t + 2)) _
        replace hm := mo_mv (A := 102) (i := (4 * i + 2)) (B := 102) (t := (4 * t + 2)) hm
        refine rw_iinc (pc := 123) (x := nI 2) (y := nI 3) (L' := [some (.inr (some 62)), some (.inl (nI i)), some (.inl (nI t)), some (.inl (nI 3))]) dM_move_123 (by decide) rfl (by decide) rfl ?_
        refine rw_goto (pc := 126) dM_move_126 (tgt := 98) rfl ?_
        refine rw_iload_n (pc := 98) dM_move_98 rfl ?_
        refine rw_iconst (pc := 99) (x := nI 4) dM_move_99 (by decide) ?_
        refine rw_icmpge (pc := 100) dM_move_100 (tgt := 129) rfl (fun c4 => ?_) (fun c4 => ?_)
        · skip
          replace c4 : 4 ≤ 3 := (nI_leI (a := 4) (b := 3) (by omega) (by omega)).mp c4
          exact absurd c4 (by decide)
        · skip
          replace c4 : ¬ (4 ≤ 3) := fun qz => c4 ((nI_leI (a := 4) (b := 3) (by omega) (by omega)).mpr qz)
          refine rw_aload_n (pc := 103) dM_move_103 rfl ?_
          refine rw_getR (pc := 104) (x := some 102) flM_128_M dM_move_104 (mo_o62 hm) (mo_S62 hm) (mo_R102 hm) ?_
          refine rw_iconst (pc := 107) (x := nI 4) dM_move_107 (by decide) ?_
          refine rw_iload_n (pc := 108) dM_move_108 rfl ?_
          refine rw_imul (pc := 109) (v := nI (4 * t)) dM_move_109 (pk_mul _ _) ?_
          refine rw_iload_n (pc := 110) dM_move_110 rfl ?_
          refine rw_iadd (pc := 111) (v := nI (4 * t + 3)) dM_move_111 (nI_add _ _) ?_
          refine rw_aload_n (pc := 112) dM_move_112 rfl ?_
          refine rw_getR (pc := 113) (x := some 102) flM_128_M dM_move_113 (mo_o62 hm) (mo_S62 hm) (mo_R102 hm) ?_
          refine rw_iconst (pc := 116) (x := nI 4) dM_move_116 (by decide) ?_
          refine rw_iload_n (pc := 117) dM_move_117 rfl ?_
          refine rw_imul (pc := 118) (v := nI (4 * i)) dM_move_118 (pk_mul _ _) ?_
          refine rw_iload_n (pc := 119) dM_move_119 rfl ?_
          refine rw_iadd (pc := 120) (v := nI (4 * i + 3)) dM_move_120 (nI_add _ _) ?_
          refine rw_iald (pc := 121) (v := hp_I (hp_mv (hp_mv (hp_mv (hp_mv (hp_mv (hp_mv (hp_mv (hp_mv (hp_mv (hp_mv (hp_mv h 94 i 94 t) 95 i 95 t) 96 i 96 t) 97 i 97 t) 98 i 98 t) 99 i 99 t) 100 i 100 t) 101 i 101 t) 102 (4 * i + 0) 102 (4 * t + 0)) 102 (4 * i + 1) 102 (4 * t + 1)) 102 (4 * i + 2) 102 (4 * t + 2)) 102 (4 * i + 3)) (i := (4 * i + 3)) dM_move_121 (mo_o102 hm) (mo_S102 hm) (ix_nI (by omega) (by decide)) rfl ?_
          refine rw_iast (pc := 122) (i := (4 * t + 3)) dM_move_122 (mo_o102 hm) (mo_S102 hm) (ix_nI (by omega) (by decide)) ?_
          show rn_W G xM_move (0, 0, 0) 0 0 123 [some (.inr (some 62)), some (.inl (nI i)), some (.inl (nI t)), some (.inl (nI 3))] [] (hp_mv (hp_mv (hp_mv (hp_mv (hp_mv (hp_mv (hp_mv (hp_mv (hp_mv (hp_mv (hp_mv (hp_mv h 94 i 94 t) 95 i 95 t) 96 i 96 t) 97 i 97 t) 98 i 98 t) 99 i 99 t) 100 i 100 t) 101 i 101 t) 102 (4 * i + 0) 102 (4 * t + 0)) 102 (4 * i + 1) 102 (4 * t + 1)) 102 (4 * i + 2) 102 (4 * t + 2)) 102 (4 * i + 3) 102 (4 * t + 3)) _
          replace hm := mo_mv (A := 102) (i := (4 * i + 3)) (B := 102) (t := (4 * t + 3)) hm
          refine rw_iinc (pc := 123) (x := nI 3) (y := nI 4) (L' := [some (.inr (some 62)), some (.inl (nI i)), some (.inl (nI t)), some (.inl (nI 4))]) dM_move_123 (by decide) rfl (by decide) rfl ?_
          refine rw_goto (pc := 126) dM_move_126 (tgt := 98) rfl ?_
          refine rw_iload_n (pc := 98) dM_move_98 rfl ?_
          refine rw_iconst (pc := 99) (x := nI 4) dM_move_99 (by decide) ?_
          refine rw_icmpge (pc := 100) dM_move_100 (tgt := 129) rfl (fun c5 => ?_) (fun c5 => ?_)
          · skip
            replace c5 : 4 ≤ 4 := (nI_leI (a := 4) (b := 4) (by omega) (by omega)).mp c5
            exact rw_vret (pc := 129) dM_move_129 rfl ⟨rfl, rfl⟩
          · skip
            replace c5 : ¬ (4 ≤ 4) := fun qz => c5 ((nI_leI (a := 4) (b := 4) (by omega) (by omega)).mpr qz)
            exact absurd (by decide) c5
theorem mi_idx {u : Nat} (hu : u ≤ 60) {i : Int32} (c : ¬ mi_in i (nI 0) (nI u - nI 1) = 0) : ∃ j, j < u ∧ i = nI j := by
  unfold mi_in at c
  by_cases c1 : i < nI 0
  · rw [if_pos c1] at c
    exact absurd rfl c
  · rw [if_neg c1] at c
    by_cases c2 : nI u - nI 1 < i
    · rw [if_pos c2] at c
      exact absurd rfl c
    · obtain ⟨j, hj, rfl⟩ := nI_of (x := i) c1
      refine ⟨j, ?_, rfl⟩
      cases u with
      | zero =>
        exfalso
        apply c2
        have h1 : nI 0 - nI 1 < 0 := by decide
        exact Int32.lt_of_lt_of_le h1 (nI_pos' hj)
      | succ n =>
        rw [pk_sub (by omega), nI_ltI (by omega) hj] at c2
        omega
def m_code (h : ha_H) (j : Nat) : Int32 := 1000000 * hp_I h 94 j + 100000 * hp_I h 95 j + nI 10000 * hp_I h 96 j + hp_I h 97 j
def m_message (h : ha_H) (u : Nat) (i : Int32) : Int32 := if mi_in i (nI 0) (nI u - nI 1) = 0 then -1 else m_code h i.toNatClampNeg
theorem cM_message (G : mt_G) (h : ha_H) (hm : mo_ok h) {u : Nat} (hu : hp_I h 62 34 = nI u) (h60 : u ≤ 60) (i : Int32) : rn_M G xM_message (1, 0, 0) [.inr (some 62), .inl i] h (rn_i (fun r h' => r = m_message h u i ∧ h = h')) := by
  refine rn_of (by decide +kernel) (Nat.le_of_ble_eq_true rfl) ?_
  show rn_W G xM_message (1, 0, 0) 0 0 0 [some (.inr (some 62)), some (.inl i)] [] h _
  refine rw_iload_n (pc := 0) dM_message_0 rfl ?_
  refine rw_iconst (pc := 1) (x := nI 0) dM_message_1 (by decide) ?_
  refine rw_aload_n (pc := 2) dM_message_2 rfl ?_
  refine rw_getI (pc := 3) (x := nI u) flM_135_M dM_message_3 (mo_o62 hm) (mo_S62 hm) hu ?_
  refine rw_iconst (pc := 6) (x := nI 1) dM_message_6 (by decide) ?_
  refine rw_isub (pc := 7) (v := nI u - nI 1) dM_message_7 rfl ?_
  refine rw_si (pc := 8) (z' := (0, 0, 0)) (rc' := 0) (rs' := 0) (av := [.inl i, .inl (nI 0), .inl (nI u - nI 1)]) (st := []) mlM_138 msM_in dM_message_8 (cM_in G _ _ _ _) rfl rfl (Nat.le_of_ble_eq_true rfl) (by decide) rfl rfl (fun r1 h1 q1 => ?_)
  obtain ⟨rfl, rfl⟩ := q1
  refine rw_ifeq (pc := 11) dM_message_11 (tgt := 54) rfl (fun c2 => ?_) (fun c2 => ?_)
  · skip
    refine rw_iconst (pc := 54) (x := (-1)) dM_message_54 (by decide) ?_
    exact rw_iret (pc := 55) dM_message_55 rfl ⟨_, rfl, by unfold m_message; rw [if_pos c2], rfl⟩
  · skip
    obtain ⟨j, hj, rfl⟩ := mi_idx h60 c2
    refine rw_ldc (pc := 14) (x := 1000000) dM_message_14 bw_801 ?_
    refine rw_aload_n (pc := 16) dM_message_16 rfl ?_
    refine rw_getR (pc := 17) (x := some 94) flM_104_M dM_message_17 (mo_o62 hm) (mo_S62 hm) (mo_R94 hm) ?_
    refine rw_iload_n (pc := 20) dM_message_20 rfl ?_
    refine rw_iald (pc := 21) (v := hp_I h 94 j) (i := j) dM_message_21 (mo_o94 hm) (mo_S94 hm) (ix_nI (by omega) (by decide)) rfl ?_
    refine rw_imul (pc := 22) (v := (1000000) * (hp_I h 94 j)) dM_message_22 rfl ?_
    refine rw_ldc (pc := 23) (x := 100000) dM_message_23 bw_802 ?_
    refine rw_aload_n (pc := 25) dM_message_25 rfl ?_
    refine rw_getR (pc := 26) (x := some 95) flM_107_M dM_message_26 (mo_o62 hm) (mo_S62 hm) (mo_R95 hm) ?_
    refine rw_iload_n (pc := 29) dM_message_29 rfl ?_
    refine rw_iald (pc := 30) (v := hp_I h 95 j) (i := j) dM_message_30 (mo_o95 hm) (mo_S95 hm) (ix_nI (by omega) (by decide)) rfl ?_
    refine rw_imul (pc := 31) (v := (100000) * (hp_I h 95 j)) dM_message_31 rfl ?_
    refine rw_iadd (pc := 32) (v := ((1000000) * (hp_I h 94 j)) + ((100000) * (hp_I h 95 j))) dM_message_32 rfl ?_
    refine rw_sipush (pc := 33) (x := nI 10000) dM_message_33 (by decide) ?_
    refine rw_aload_n (pc := 36) dM_message_36 rfl ?_
    refine rw_getR (pc := 37) (x := some 96) flM_110_M dM_message_37 (mo_o62 hm) (mo_S62 hm) (mo_R96 hm) ?_
    refine rw_iload_n (pc := 40) dM_message_40 rfl ?_
    refine rw_iald (pc := 41) (v := hp_I h 96 j) (i := j) dM_message_41 (mo_o96 hm) (mo_S96 hm) (ix_nI (by omega) (by decide)) rfl ?_
    refine rw_imul (pc := 42) (v := (nI 10000) * (hp_I h 96 j)) dM_message_42 rfl ?_
    refine rw_iadd (pc := 43) (v := (((1000000) * (hp_I h 94 j)) + ((100000) * (hp_I h 95 j))) + ((nI 10000) * (hp_I h 96 j))) dM_message_43 rfl ?_
    refine rw_aload_n (pc := 44) dM_message_44 rfl ?_
    refine rw_getR (pc := 45) (x := some 97) flM_113_M dM_message_45 (mo_o62 hm) (mo_S62 hm) (mo_R97 hm) ?_
    refine rw_iload_n (pc := 48) dM_message_48 rfl ?_
    refine rw_iald (pc := 49) (v := hp_I h 97 j) (i := j) dM_message_49 (mo_o97 hm) (mo_S97 hm) (ix_nI (by omega) (by decide)) rfl ?_
    refine rw_iadd (pc := 50) (v := ((((1000000) * (hp_I h 94 j)) + ((100000) * (hp_I h 95 j))) + ((nI 10000) * (hp_I h 96 j))) + (hp_I h 97 j)) dM_message_50 rfl ?_
    refine rw_goto (pc := 51) dM_message_51 (tgt := 55) rfl ?_
    exact rw_iret (pc := 55) dM_message_55 rfl ⟨_, rfl, by unfold m_message; rw [if_neg c2]; rw [nI_clamp (by omega)]; rfl, rfl⟩
theorem cM_messages (G : mt_G) (h : ha_H) (hm : mo_ok h) : rn_M G xM_messages (0, 0, 0) [.inr (some 62)] h (rn_i (fun r h' => r = hp_I h 62 34 ∧ h = h')) := by
  refine rn_of (by decide +kernel) (Nat.le_of_ble_eq_true rfl) ?_
  show rn_W G xM_messages (0, 0, 0) 0 0 0 [some (.inr (some 62))] [] h _
  refine rw_aload_n (pc := 0) dM_messages_0 rfl ?_
  refine rw_getI (pc := 1) (x := hp_I h 62 34) flM_135_M dM_messages_1 (mo_o62 hm) (mo_S62 hm) rfl ?_
  exact rw_iret (pc := 4) dM_messages_4 rfl ⟨_, rfl, rfl, rfl⟩
