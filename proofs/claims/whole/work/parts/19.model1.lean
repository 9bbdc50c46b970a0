def mi_in (x lo hi : Int32) : Int32 := if x < lo then 0 else if hi < x then 0 else 1
theorem cM_in (G : mt_G) (h : ha_H) (x lo hi : Int32) : rn_M G xM_in (0, 0, 0) [.inl x, .inl lo, .inl hi] h (rn_i (fun r h' => r = mi_in x lo hi ∧ h = h')) := by
  refine rn_of (by decide +kernel) (Nat.le_of_ble_eq_true rfl) ?_
  show rn_W G xM_in (0, 0, 0) 0 0 0 [some (.inl x), some (.inl lo), some (.inl hi)] [] h _
  refine rw_iload_n (pc := 0) dM_in_0 rfl ?_
  refine rw_iload_n (pc := 1) dM_in_1 rfl ?_
  refine rw_icmplt (pc := 2) dM_in_2 (tgt := 14) rfl (fun c1 => ?_) (fun c1 => ?_)
  · skip
    refine rw_iconst (pc := 14) (x := nI 0) dM_in_14 (by decide) ?_
    exact rw_zret (pc := 15) dM_in_15 rfl (Or.inl rfl) ⟨_, rfl, (by unfold mi_in; rw [if_pos c1]; try rfl), rfl⟩
  · skip
    refine rw_iload_n (pc := 5) dM_in_5 rfl ?_
    refine rw_iload_n (pc := 6) dM_in_6 rfl ?_
    refine rw_icmpgt (pc := 7) dM_in_7 (tgt := 14) rfl (fun c2 => ?_) (fun c2 => ?_)
    · skip
      refine rw_iconst (pc := 14) (x := nI 0) dM_in_14 (by decide) ?_
      exact rw_zret (pc := 15) dM_in_15 rfl (Or.inl rfl) ⟨_, rfl, (by unfold mi_in; rw [if_neg c1, if_pos c2]; try rfl), rfl⟩
    · skip
      refine rw_iconst (pc := 10) (x := nI 1) dM_in_10 (by decide) ?_
      refine rw_goto (pc := 11) dM_in_11 (tgt := 15) rfl ?_
      exact rw_zret (pc := 15) dM_in_15 rfl (Or.inr rfl) ⟨_, rfl, (by unfold mi_in; rw [if_neg c1, if_neg c2]; try rfl), rfl⟩
def m_roomH (h : ha_H) (u : Nat) (k c f x : Int32) : ha_H := hp_sI (hp_sI (hp_sI (hp_sI (hp_sI (hp_sI (hp_sI (hp_sI (hp_sI h 94 u k) 95 u c) 96 u f) 97 u x) 98 u (nI 0)) 99 u (nI 0)) 100 u (nI 0)) 101 u (nI 0)) 62 34 (nI (u + 1))
def m_room (h : ha_H) (u : Nat) (k c f x : Int32) : Int32 × ha_H := if u = 60 then (-1, h) else (nI u, m_roomH h u k c f x)
theorem cM_room (G : mt_G) (h : ha_H) (hm : mo_ok h) {u : Nat} (hu : hp_I h 62 34 = nI u) (h60 : u ≤ 60) (k c f x : Int32) : rn_M G xM_room (0, 0, 0) [.inr (some 62), .inl k, .inl c, .inl f, .inl x] h (rn_i (fun r h' => r = (m_room h u k c f x).1 ∧ (m_room h u k c f x).2 = h')) := by
  refine rn_of (by decide +kernel) (Nat.le_of_ble_eq_true rfl) ?_
  show rn_W G xM_room (0, 0, 0) 0 0 0 [some (.inr (some 62)), some (.inl k), some (.inl c), some (.inl f), some (.inl x)] [] h _
  refine rw_aload_n (pc := 0) dM_room_0 rfl ?_
  refine rw_getI (pc := 1) (x := nI u) flM_135_M dM_room_1 (mo_o62 hm) (mo_S62 hm) hu ?_
  refine rw_bipush (pc := 4) (x := nI 60) dM_room_4 (by decide) ?_
  refine rw_icmpne (pc := 6) dM_room_6 (tgt := 11) rfl (fun c1 => ?_) (fun c1 => ?_)
  · skip
    replace c1 : ¬ (u = 60) := fun qz => c1 ((nI_eq (a := u) (b := 60) (by omega) (by omega)).mpr qz)
    refine rw_aload_n (pc := 11) dM_room_11 rfl ?_
    refine rw_getR (pc := 12) (x := some 94) flM_104_M dM_room_12 (mo_o62 hm) (mo_S62 hm) (mo_R94 hm) ?_
    refine rw_aload_n (pc := 15) dM_room_15 rfl ?_
    refine rw_getI (pc := 16) (x := nI u) flM_135_M dM_room_16 (mo_o62 hm) (mo_S62 hm) hu ?_
    refine rw_iload_n (pc := 19) dM_room_19 rfl ?_
    refine rw_iast (pc := 20) (i := u) dM_room_20 (mo_o94 hm) (mo_S94 hm) (ix_nI (by omega) (by decide)) ?_
    replace hm := mo_sI (a := 94) (k := u) (v := k) hm
    replace hu := hI_sI (a := 94) (k := u) (v := k) (by decide) hu
    refine rw_aload_n (pc := 21) dM_room_21 rfl ?_
    refine rw_getR (pc := 22) (x := some 95) flM_107_M dM_room_22 (mo_o62 hm) (mo_S62 hm) (mo_R95 hm) ?_
    refine rw_aload_n (pc := 25) dM_room_25 rfl ?_
    refine rw_getI (pc := 26) (x := nI u) flM_135_M dM_room_26 (mo_o62 hm) (mo_S62 hm) hu ?_
    refine rw_iload_n (pc := 29) dM_room_29 rfl ?_
    refine rw_iast (pc := 30) (i := u) dM_room_30 (mo_o95 hm) (mo_S95 hm) (ix_nI (by omega) (by decide)) ?_
    replace hm := mo_sI (a := 95) (k := u) (v := c) hm
    replace hu := hI_sI (a := 95) (k := u) (v := c) (by decide) hu
    refine rw_aload_n (pc := 31) dM_room_31 rfl ?_
    refine rw_getR (pc := 32) (x := some 96) flM_110_M dM_room_32 (mo_o62 hm) (mo_S62 hm) (mo_R96 hm) ?_
    refine rw_aload_n (pc := 35) dM_room_35 rfl ?_
    refine rw_getI (pc := 36) (x := nI u) flM_135_M dM_room_36 (mo_o62 hm) (mo_S62 hm) hu ?_
    refine rw_iload_n (pc := 39) dM_room_39 rfl ?_
    refine rw_iast (pc := 40) (i := u) dM_room_40 (mo_o96 hm) (mo_S96 hm) (ix_nI (by omega) (by decide)) ?_
    replace hm := mo_sI (a := 96) (k := u) (v := f) hm
    replace hu := hI_sI (a := 96) (k := u) (v := f) (by decide) hu
    refine rw_aload_n (pc := 41) dM_room_41 rfl ?_
    refine rw_getR (pc := 42) (x := some 97) flM_113_M dM_room_42 (mo_o62 hm) (mo_S62 hm) (mo_R97 hm) ?_
    refine rw_aload_n (pc := 45) dM_room_45 rfl ?_
    refine rw_getI (pc := 46) (x := nI u) flM_135_M dM_room_46 (mo_o62 hm) (mo_S62 hm) hu ?_
    refine rw_iload (pc := 49) dM_room_49 rfl ?_
    refine rw_iast (pc := 51) (i := u) dM_room_51 (mo_o97 hm) (mo_S97 hm) (ix_nI (by omega) (by decide)) ?_
    replace hm := mo_sI (a := 97) (k := u) (v := x) hm
    replace hu := hI_sI (a := 97) (k := u) (v := x) (by decide) hu
    refine rw_aload_n (pc := 52) dM_room_52 rfl ?_
    refine rw_getR (pc := 53) (x := some 98) flM_116_M dM_room_53 (mo_o62 hm) (mo_S62 hm) (mo_R98 hm) ?_
    refine rw_aload_n (pc := 56) dM_room_56 rfl ?_
    refine rw_getI (pc := 57) (x := nI u) flM_135_M dM_room_57 (mo_o62 hm) (mo_S62 hm) hu ?_
    refine rw_iconst (pc := 60) (x := nI 0) dM_room_60 (by decide) ?_
    refine rw_iast (pc := 61) (i := u) dM_room_61 (mo_o98 hm) (mo_S98 hm) (ix_nI (by omega) (by decide)) ?_
    replace hm := mo_sI (a := 98) (k := u) (v := nI 0) hm
    replace hu := hI_sI (a := 98) (k := u) (v := nI 0) (by decide) hu
    refine rw_aload_n (pc := 62) dM_room_62 rfl ?_
    refine rw_getR (pc := 63) (x := some 99) flM_119_M dM_room_63 (mo_o62 hm) (mo_S62 hm) (mo_R99 hm) ?_
    refine rw_aload_n (pc := 66) dM_room_66 rfl ?_
    refine rw_getI (pc := 67) (x := nI u) flM_135_M dM_room_67 (mo_o62 hm) (mo_S62 hm) hu ?_
    refine rw_iconst (pc := 70) (x := nI 0) dM_room_70 (by decide) ?_
    refine rw_zast (pc := 71) (i := u) (Or.inl rfl) dM_room_71 (mo_o99 hm) (mo_S99 hm) (ix_nI (by omega) (by decide)) ?_
    replace hm := mo_sI (a := 99) (k := u) (v := nI 0) hm
    replace hu := hI_sI (a := 99) (k := u) (v := nI 0) (by decide) hu
    refine rw_aload_n (pc := 72) dM_room_72 rfl ?_
    refine rw_getR (pc := 73) (x := some 100) flM_122_M dM_room_73 (mo_o62 hm) (mo_S62 hm) (mo_R100 hm) ?_
    refine rw_aload_n (pc := 76) dM_room_76 rfl ?_
    refine rw_getI (pc := 77) (x := nI u) flM_135_M dM_room_77 (mo_o62 hm) (mo_S62 hm) hu ?_
    refine rw_iconst (pc := 80) (x := nI 0) dM_room_80 (by decide) ?_
    refine rw_iast (pc := 81) (i := u) dM_room_81 (mo_o100 hm) (mo_S100 hm) (ix_nI (by omega) (by decide)) ?_
    replace hm := mo_sI (a := 100) (k := u) (v := nI 0) hm
    replace hu := hI_sI (a := 100) (k := u) (v := nI 0) (by decide) hu
    refine rw_aload_n (pc := 82) dM_room_82 rfl ?_
    refine rw_getR (pc := 83) (x := some 101) flM_125_M dM_room_83 (mo_o62 hm) (mo_S62 hm) (mo_R101 hm) ?_
    refine rw_aload_n (pc := 86) dM_room_86 rfl ?_
    refine rw_getI (pc := 87) (x := nI u) flM_135_M dM_room_87 (mo_o62 hm) (mo_S62 hm) hu ?_
    refine rw_iconst (pc := 90) (x := nI 0) dM_room_90 (by decide) ?_
    refine rw_iast (pc := 91) (i := u) dM_room_91 (mo_o101 hm) (mo_S101 hm) (ix_nI (by omega) (by decide)) ?_
    replace hm := mo_sI (a := 101) (k := u) (v := nI 0) hm
    replace hu := hI_sI (a := 101) (k := u) (v := nI 0) (by decide) hu
    refine rw_aload_n (pc := 92) dM_room_92 rfl ?_
    refine rw_dup (pc := 93) dM_room_93 ?_
    refine rw_getI (pc := 94) (x := nI u) flM_135_M dM_room_94 (mo_o62 hm) (mo_S62 hm) hu ?_
    refine rw_iconst (pc := 97) (x := nI 1) dM_room_97 (by decide) ?_
    refine rw_iadd (pc := 98) (v := nI (u + 1)) dM_room_98 (nI_add _ _) ?_
    refine rw_putI (pc := 99) pfM_135_M dM_room_99 (mo_o62 hm) (mo_S62 hm) ?_
    replace hm := mo_sI (a := 62) (k := 34) (v := nI (u + 1)) hm
    have e2 : hp_I (hp_sI (hp_sI (hp_sI (hp_sI (hp_sI (hp_sI (hp_sI (hp_sI (hp_sI h 94 u k) 95 u c) 96 u f) 97 u x) 98 u (nI 0)) 99 u (nI 0)) 100 u (nI 0)) 101 u (nI 0)) 62 34 (nI (u + 1))) 62 34 = nI (u + 1) := hI_set
    refine rw_aload_n (pc := 102) dM_room_102 rfl ?_
    refine rw_getI (pc := 103) (x := nI (u + 1)) flM_135_M dM_room_103 (mo_o62 hm) (mo_S62 hm) e2 ?_
    refine rw_iconst (pc := 106) (x := nI 1) dM_room_106 (by decide) ?_
    refine rw_isub (pc := 107) (v := nI ((u + 1) - 1)) dM_room_107 (pk_sub (by omega)) ?_
    exact rw_iret (pc := 108) dM_room_108 rfl ⟨_, rfl, (by unfold m_room; rw [if_neg c1]; try rfl), (by unfold m_room; rw [if_neg c1]; try rfl)⟩
  · skip
    replace c1 : u = 60 := (nI_eq (a := u) (b := 60) (by omega) (by omega)).mp c1
    refine rw_iconst (pc := 9) (x := (-1)) dM_room_9 (by decide) ?_
    exact rw_iret (pc := 10) dM_room_10 rfl ⟨_, rfl, (by unfold m_room; rw [if_pos c1]; try rfl), (by unfold m_room; rw [if_pos c1]; try rfl)⟩
