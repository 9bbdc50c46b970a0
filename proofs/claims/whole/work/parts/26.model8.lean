def m_rq2 (h : ha_H) (k : Int32) (c f : Nat) (x m : Int32) (cl : Bool) (t : Nat) (v : Int32) : ha_H := if k = nI 1 then m_al h (m_u h) c f x m cl else if k = nI 2 then (if hp_I h 66 (4 * c + f) = nI 2 then m_fin (hp_sI h 65 t v) (m_u h) c x (nI 6) (nI f) else m_fin (hp_mv h 65 t 65 t) (m_u h) c x (nI 7) (nI f)) else m_fin (hp_sI h 66 (4 * c + f) (nI 0)) (m_u h) c x (nI 6) (nI f)
def m_rq (h : ha_H) (k : Int32) (c f : Nat) (x m : Int32) (cl : Bool) (t : Nat) (v : Int32) : ha_H := if hp_I h 68 c ≤ x then (if x = hp_I h 68 c then m_ans h (m_u h) c else if (!decide (hp_I h 74 c < 0) && decide (hp_I h 75 c = x)) = true then h else m_rq2 (hp_sI h 74 c (-1)) k c f x m cl t v) else h
theorem mI_rq2 {h : ha_H} (hi : mo_I h) {k : Int32} {c f : Nat} {x m : Int32} {cl : Bool} {t : Nat} {v : Int32} : mo_I (m_rq2 h k c f x m cl t v) := by
  unfold m_rq2
  split
  · exact mI_al hi
  · split
    · split
      · have h1 := mI_sI hi (a := 65) (k := t) (v := v) (by decide) (fun q => absurd q (by decide))
        rw [← h1.2]
        exact (mI_fin h1.1).1
      · have h1 := mI_mv hi (A := 65) (i := t) (B := 65) (t := t) (by decide) (by decide)
        rw [← h1.2]
        exact (mI_fin h1.1).1
    · have h1 := mI_sI hi (a := 66) (k := 4 * c + f) (v := nI 0) (by decide) (fun q => absurd q (by decide))
      rw [← h1.2]
      exact (mI_fin h1.1).1
theorem mI_rq {h : ha_H} (hi : mo_I h) {k : Int32} {c f : Nat} {x m : Int32} {cl : Bool} {t : Nat} {v : Int32} : mo_I (m_rq h k c f x m cl t v) := by
  unfold m_rq
  split
  · split
    · exact (mI_ans hi).1
    · split
      · exact hi
      · exact mI_rq2 (mI_sI hi (by decide) (fun q => absurd q (by decide))).1
  · exact hi
theorem cM_request (G : mt_G) (h : ha_H) (hi : mo_I h) (k : Int32) {c f : Nat} (hc : c < 3) (hf : f < 4) (x m : Int32) (cl : Bool) {t : Nat} (ht : t < 16) (v : Int32) : rn_M G xM_request (5, 0, 0) [.inr (some 62), .inl k, .inl (nI c), .inl (nI f), .inl x, .inl m, .inl (m_bi cl), .inl (nI t), .inl v] h (rn_v (fun h' => m_rq h k c f x m cl t v = h')) := by
  have hm := hi.1
  have hb := hi.2.1
  have hu := hi.2.2.1
  have h60 := hi.2.2.2
  refine rn_of (by decide +kernel) (Nat.le_of_ble_eq_true rfl) ?_
  show rn_W G xM_request (5, 0, 0) 0 0 0 [some (.inr (some 62)), some (.inl k), some (.inl (nI c)), some (.inl (nI f)), some (.inl x), some (.inl m), some (.inl (m_bi cl)), some (.inl (nI t)), some (.inl v), none] [] h _
  have step50 : hp_I h 68 c ≤ x → ¬ x = hp_I h 68 c → (!decide (hp_I h 74 c < 0) && decide (hp_I h 75 c = x)) = false → rn_W G xM_request (5, 0, 0) 0 0 50 [some (.inr (some 62)), some (.inl k), some (.inl (nI c)), some (.inl (nI f)), some (.inl x), some (.inl m), some (.inl (m_bi cl)), some (.inl (nI t)), some (.inl v), none] [] h (rn_v (fun h' => m_rq h k c f x m cl t v = h')) := by
    intro e1 e2 e3
    have hi1 := mI_sI hi (a := 74) (k := c) (v := -1) (by decide) (fun q => absurd q (by decide))
    have eq : m_rq h k c f x m cl t v = m_rq2 (hp_sI h 74 c (-1)) k c f x m cl t v := by unfold m_rq; rw [if_pos e1, if_neg e2, e3, if_neg (by decide)]
    rw [eq]
    refine rw_aload_n (pc := 50) dM_request_50 rfl ?_
    refine rw_getR (pc := 51) (x := some 74) flM_44_M dM_request_51 (mo_o62 hm) (mo_S62 hm) (mo_R74 hm) ?_
    refine rw_iload_n (pc := 54) dM_request_54 rfl ?_
    refine rw_iconst (pc := 55) (x := (-1)) dM_request_55 (by decide) ?_
    refine rw_iast (pc := 56) (i := c) dM_request_56 (mo_o74 hm) (mo_S74 hm) (ix_nI (by omega) (by decide)) ?_
    replace hm := mo_sI (a := 74) (k := c) (v := (-1)) hm
    replace hu := hI_sI (a := 74) (k := c) (v := (-1)) (by decide) hu
    replace hb := mb_sI hb (a := 74) (k := c) (v := (-1)) (fun q => absurd q (by decide))
    refine rw_iload_n (pc := 57) dM_request_57 rfl ?_
    refine rw_iconst (pc := 58) (x := nI 1) dM_request_58 (by decide) ?_
    refine rw_icmpne (pc := 59) dM_request_59 (tgt := 77) rfl (fun c1 => ?_) (fun c1 => ?_)
    · skip
      refine rw_iload_n (pc := 77) dM_request_77 rfl ?_
      refine rw_iconst (pc := 78) (x := nI 2) dM_request_78 (by decide) ?_
      refine rw_icmpne (pc := 79) dM_request_79 (tgt := 150) rfl (fun c2 => ?_) (fun c2 => ?_)
      · skip
        refine rw_aload_n (pc := 150) dM_request_150 rfl ?_
        refine rw_getR (pc := 151) (x := some 66) flM_20_M dM_request_151 (mo_o62 hm) (mo_S62 hm) (mo_R66 hm) ?_
        refine rw_iconst (pc := 154) (x := nI 4) dM_request_154 (by decide) ?_
        refine rw_iload_n (pc := 155) dM_request_155 rfl ?_
        refine rw_imul (pc := 156) (v := nI (4 * c)) dM_request_156 (pk_mul _ _) ?_
        refine rw_iload_n (pc := 157) dM_request_157 rfl ?_
        refine rw_iadd (pc := 158) (v := nI (4 * c + f)) dM_request_158 (nI_add _ _) ?_
        refine rw_iconst (pc := 159) (x := nI 0) dM_request_159 (by decide) ?_
        refine rw_iast (pc := 160) (i := (4 * c + f)) dM_request_160 (mo_o66 hm) (mo_S66 hm) (ix_nI (by omega) (by decide)) ?_
        replace hm := mo_sI (a := 66) (k := (4 * c + f)) (v := nI 0) hm
        replace hu := hI_sI (a := 66) (k := (4 * c + f)) (v := nI 0) (by decide) hu
        replace hb := mb_sI hb (a := 66) (k := (4 * c + f)) (v := nI 0) (fun q => absurd q (by decide))
        refine rw_aload_n (pc := 161) dM_request_161 rfl ?_
        refine rw_iload_n (pc := 162) dM_request_162 rfl ?_
        refine rw_iload (pc := 163) dM_request_163 rfl ?_
        refine rw_bipush (pc := 165) (x := nI 6) dM_request_165 (by decide) ?_
        refine rw_iload_n (pc := 167) dM_request_167 rfl ?_
        refine rw_vv (pc := 168) (z' := (2, 0, 0)) (rc' := 0) (rs' := 0) (av := [.inl (nI c), .inl x, .inl (nI 6), .inl (nI f)]) (st := []) (ci := 10) mlM_179 miM_finish rfl mvM_finish_M dM_request_168 (mo_o62 hm) (mo_S62 hm) (cM_finish G _ hm hb hu h60 hc _ _ _) rfl rfl (Nat.le_of_ble_eq_true rfl) (by decide) rfl rfl (fun h3 q3 => ?_)
        obtain rfl := q3
        exact rw_vret (pc := 171) dM_request_171 rfl ⟨rfl, by unfold m_rq2; rw [hi1.2, if_neg c1, if_neg c2]⟩
      · skip
        refine rw_aload_n (pc := 82) dM_request_82 rfl ?_
        refine rw_getR (pc := 83) (x := some 66) flM_20_M dM_request_83 (mo_o62 hm) (mo_S62 hm) (mo_R66 hm) ?_
        refine rw_iconst (pc := 86) (x := nI 4) dM_request_86 (by decide) ?_
        refine rw_iload_n (pc := 87) dM_request_87 rfl ?_
        refine rw_imul (pc := 88) (v := nI (4 * c)) dM_request_88 (pk_mul _ _) ?_
        refine rw_iload_n (pc := 89) dM_request_89 rfl ?_
        refine rw_iadd (pc := 90) (v := nI (4 * c + f)) dM_request_90 (nI_add _ _) ?_
        refine rw_iald (pc := 91) (v := hp_I (hp_sI h 74 c (-1)) 66 (4 * c + f)) (i := (4 * c + f)) dM_request_91 (mo_o66 hm) (mo_S66 hm) (ix_nI (by omega) (by decide)) rfl ?_
        refine rw_iconst (pc := 92) (x := nI 2) dM_request_92 (by decide) ?_
        refine rw_icmpne (pc := 93) dM_request_93 (tgt := 100) rfl (fun c4 => ?_) (fun c4 => ?_)
        · skip
          refine rw_iconst (pc := 100) (x := nI 0) dM_request_100 (by decide) ?_
          refine rw_istore (pc := 101) (L' := [some (.inr (some 62)), some (.inl k), some (.inl (nI c)), some (.inl (nI f)), some (.inl x), some (.inl m), some (.inl (m_bi cl)), some (.inl (nI t)), some (.inl v), some (.inl (nI 0))]) dM_request_101 (by decide) rfl ?_
          refine rw_aload_n (pc := 103) dM_request_103 rfl ?_
          refine rw_getR (pc := 104) (x := some 65) flM_17_M dM_request_104 (mo_o62 hm) (mo_S62 hm) (mo_R65 hm) ?_
          refine rw_iload (pc := 107) dM_request_107 rfl ?_
          refine rw_iload (pc := 109) dM_request_109 rfl ?_
          refine rw_ifeq (pc := 111) dM_request_111 (tgt := 119) rfl (fun c5 => ?_) (fun c5 => ?_)
          · skip
            replace c5 : 0 = 0 := (nI_eq (a := 0) (b := 0) (by omega) (by omega)).mp c5
            refine rw_aload_n (pc := 119) dM_request_119 rfl ?_
            refine rw_getR (pc := 120) (x := some 65) flM_17_M dM_request_120 (mo_o62 hm) (mo_S62 hm) (mo_R65 hm) ?_
            refine rw_iload (pc := 123) dM_request_123 rfl ?_
            refine rw_iald (pc := 125) (v := hp_I (hp_sI h 74 c (-1)) 65 t) (i := t) dM_request_125 (mo_o65 hm) (mo_S65 hm) (ix_nI (by omega) (by decide)) rfl ?_
            refine rw_iast (pc := 126) (i := t) dM_request_126 (mo_o65 hm) (mo_S65 hm) (ix_nI (by omega) (by decide)) ?_
            show rn_W G xM_request (5, 0, 0) 0 0 127 [some (.inr (some 62)), some (.inl k), some (.inl (nI c)), some (.inl (nI f)), some (.inl x), some (.inl m), some (.inl (m_bi cl)), some (.inl (nI t)), some (.inl v), some (.inl (nI 0))] [] (hp_mv (hp_sI h 74 c (-1)) 65 t 65 t) (rn_v (fun h' => m_rq2 (hp_sI h 74 c (-1)) k c f x m cl t v = h'))
            replace hm := mo_mv (A := 65) (i := t) (B := 65) (t := t) hm
            replace hu := hI_mv (A := 65) (i := t) (B := 65) (t := t) (by decide) hu
            replace hb := mb_mv hb (A := 65) (i := t) (B := 65) (t := t) (by decide)
            refine rw_aload_n (pc := 127) dM_request_127 rfl ?_
            refine rw_iload_n (pc := 128) dM_request_128 rfl ?_
            refine rw_iload (pc := 129) dM_request_129 rfl ?_
            refine rw_iload (pc := 131) dM_request_131 rfl ?_
            refine rw_ifeq (pc := 133) dM_request_133 (tgt := 141) rfl (fun c6 => ?_) (fun c6 => ?_)
            · skip
              replace c6 : 0 = 0 := (nI_eq (a := 0) (b := 0) (by omega) (by omega)).mp c6
              refine rw_bipush (pc := 141) (x := nI 7) dM_request_141 (by decide) ?_
              refine rw_iload_n (pc := 143) dM_request_143 rfl ?_
              refine rw_vv (pc := 144) (z' := (2, 0, 0)) (rc' := 0) (rs' := 0) (av := [.inl (nI c), .inl x, .inl (nI 7), .inl (nI f)]) (st := []) (ci := 10) mlM_179 miM_finish rfl mvM_finish_M dM_request_144 (mo_o62 hm) (mo_S62 hm) (cM_finish G _ hm hb hu h60 hc _ _ _) rfl rfl (Nat.le_of_ble_eq_true rfl) (by decide) rfl rfl (fun h7 q7 => ?_)
              obtain rfl := q7
              refine rw_goto (pc := 147) dM_request_147 (tgt := 171) rfl ?_
              exact rw_vret (pc := 171) dM_request_171 rfl ⟨rfl, by unfold m_rq2; rw [hi1.2, if_neg c1, if_pos c2, if_neg c4]⟩
            · skip
              replace c6 : ¬ (0 = 0) := fun qz => c6 ((nI_eq (a := 0) (b := 0) (by omega) (by omega)).mpr qz)
              exact absurd (by decide) c6
          · skip
            replace c5 : ¬ (0 = 0) := fun qz => c5 ((nI_eq (a := 0) (b := 0) (by omega) (by omega)).mpr qz)
            exact absurd (by decide) c5
        · skip
          refine rw_iconst (pc := 96) (x := nI 1) dM_request_96 (by decide) ?_
          refine rw_goto (pc := 97) dM_request_97 (tgt := 101) rfl ?_
          refine rw_istore (pc := 101) (L' := [some (.inr (some 62)), some (.inl k), some (.inl (nI c)), some (.inl (nI f)), some (.inl x), some (.inl m), some (.inl (m_bi cl)), some (.inl (nI t)), some (.inl v), some (.inl (nI 1))]) dM_request_101 (by decide) rfl ?_
          refine rw_aload_n (pc := 103) dM_request_103 rfl ?_
          refine rw_getR (pc := 104) (x := some 65) flM_17_M dM_request_104 (mo_o62 hm) (mo_S62 hm) (mo_R65 hm) ?_
          refine rw_iload (pc := 107) dM_request_107 rfl ?_
          refine rw_iload (pc := 109) dM_request_109 rfl ?_
          refine rw_ifeq (pc := 111) dM_request_111 (tgt := 119) rfl (fun c8 => ?_) (fun c8 => ?_)
          · skip
            replace c8 : 1 = 0 := (nI_eq (a := 1) (b := 0) (by omega) (by omega)).mp c8
            exact absurd c8 (by decide)
          · skip
            replace c8 : ¬ (1 = 0) := fun qz => c8 ((nI_eq (a := 1) (b := 0) (by omega) (by omega)).mpr qz)
            refine rw_iload (pc := 114) dM_request_114 rfl ?_
            refine rw_goto (pc := 116) dM_request_116 (tgt := 126) rfl ?_
            refine rw_iast (pc := 126) (i := t) dM_request_126 (mo_o65 hm) (mo_S65 hm) (ix_nI (by omega) (by decide)) ?_
            replace hm := mo_sI (a := 65) (k := t) (v := v) hm
            replace hu := hI_sI (a := 65) (k := t) (v := v) (by decide) hu
            replace hb := mb_sI hb (a := 65) (k := t) (v := v) (fun q => absurd q (by decide))
            refine rw_aload_n (pc := 127) dM_request_127 rfl ?_
            refine rw_iload_n (pc := 128) dM_request_128 rfl ?_
            refine rw_iload (pc := 129) dM_request_129 rfl ?_
            refine rw_iload (pc := 131) dM_request_131 rfl ?_
            refine rw_ifeq (pc := 133) dM_request_133 (tgt := 141) rfl (fun c9 => ?_) (fun c9 => ?_)
            · skip
              replace c9 : 1 = 0 := (nI_eq (a := 1) (b := 0) (by omega) (by omega)).mp c9
              exact absurd c9 (by decide)
            · skip
              replace c9 : ¬ (1 = 0) := fun qz => c9 ((nI_eq (a := 1) (b := 0) (by omega) (by omega)).mpr qz)
              refine rw_bipush (pc := 136) (x := nI 6) dM_request_136 (by decide) ?_
              refine rw_goto (pc := 138) dM_request_138 (tgt := 143) rfl ?_
              refine rw_iload_n (pc := 143) dM_request_143 rfl ?_
              refine rw_vv (pc := 144) (z' := (2, 0, 0)) (rc' := 0) (rs' := 0) (av := [.inl (nI c), .inl x, .inl (nI 6), .inl (nI f)]) (st := []) (ci := 10) mlM_179 miM_finish rfl mvM_finish_M dM_request_144 (mo_o62 hm) (mo_S62 hm) (cM_finish G _ hm hb hu h60 hc _ _ _) rfl rfl (Nat.le_of_ble_eq_true rfl) (by decide) rfl rfl (fun h10 q10 => ?_)
              obtain rfl := q10
              refine rw_goto (pc := 147) dM_request_147 (tgt := 171) rfl ?_
              exact rw_vret (pc := 171) dM_request_171 rfl ⟨rfl, by unfold m_rq2; rw [hi1.2, if_neg c1, if_pos c2, if_pos c4]⟩
    · skip
      refine rw_aload_n (pc := 62) dM_request_62 rfl ?_
      refine rw_iload_n (pc := 63) dM_request_63 rfl ?_
      refine rw_iload_n (pc := 64) dM_request_64 rfl ?_
      refine rw_iload (pc := 65) dM_request_65 rfl ?_
      refine rw_iload (pc := 67) dM_request_67 rfl ?_
      refine rw_iload (pc := 69) dM_request_69 rfl ?_
      refine rw_vv (pc := 71) (z' := (4, 0, 0)) (rc' := 0) (rs' := 0) (av := [.inl (nI c), .inl (nI f), .inl x, .inl m, .inl (m_bi cl)]) (st := []) (ci := 10) mlM_183 miM_askedLease rfl mvM_askedLease_M dM_request_71 (mo_o62 hm) (mo_S62 hm) (cM_askedLease G _ hi1.1 hc hf _ _ _) rfl rfl (Nat.le_of_ble_eq_true rfl) (by decide) rfl rfl (fun h11 q11 => ?_)
      obtain rfl := q11
      refine rw_goto (pc := 74) dM_request_74 (tgt := 171) rfl ?_
      exact rw_vret (pc := 171) dM_request_171 rfl ⟨rfl, by unfold m_rq2; rw [hi1.2, if_pos c1]⟩
  refine rw_iload (pc := 0) dM_request_0 rfl ?_
  refine rw_aload_n (pc := 2) dM_request_2 rfl ?_
  refine rw_getR (pc := 3) (x := some 68) flM_26_M dM_request_3 (mo_o62 hm) (mo_S62 hm) (mo_R68 hm) ?_
  refine rw_iload_n (pc := 6) dM_request_6 rfl ?_
  refine rw_iald (pc := 7) (v := hp_I h 68 c) (i := c) dM_request_7 (mo_o68 hm) (mo_S68 hm) (ix_nI (by omega) (by decide)) rfl ?_
  refine rw_icmpge (pc := 8) dM_request_8 (tgt := 12) rfl (fun c12 => ?_) (fun c12 => ?_)
  · skip
    refine rw_iload (pc := 12) dM_request_12 rfl ?_
    refine rw_aload_n (pc := 14) dM_request_14 rfl ?_
    refine rw_getR (pc := 15) (x := some 68) flM_26_M dM_request_15 (mo_o62 hm) (mo_S62 hm) (mo_R68 hm) ?_
    refine rw_iload_n (pc := 18) dM_request_18 rfl ?_
    refine rw_iald (pc := 19) (v := hp_I h 68 c) (i := c) dM_request_19 (mo_o68 hm) (mo_S68 hm) (ix_nI (by omega) (by decide)) rfl ?_
    refine rw_icmpne (pc := 20) dM_request_20 (tgt := 29) rfl (fun c13 => ?_) (fun c13 => ?_)
    · skip
      refine rw_aload_n (pc := 29) dM_request_29 rfl ?_
      refine rw_getR (pc := 30) (x := some 74) flM_44_M dM_request_30 (mo_o62 hm) (mo_S62 hm) (mo_R74 hm) ?_
      refine rw_iload_n (pc := 33) dM_request_33 rfl ?_
      refine rw_iald (pc := 34) (v := hp_I h 74 c) (i := c) dM_request_34 (mo_o74 hm) (mo_S74 hm) (ix_nI (by omega) (by decide)) rfl ?_
      refine rw_iflt (pc := 35) dM_request_35 (tgt := 50) rfl (fun c14 => ?_) (fun c14 => ?_)
      · skip
        exact step50 c12 c13 (by simp [c14])
      · skip
        refine rw_aload_n (pc := 38) dM_request_38 rfl ?_
        refine rw_getR (pc := 39) (x := some 75) flM_47_M dM_request_39 (mo_o62 hm) (mo_S62 hm) (mo_R75 hm) ?_
        refine rw_iload_n (pc := 42) dM_request_42 rfl ?_
        refine rw_iald (pc := 43) (v := hp_I h 75 c) (i := c) dM_request_43 (mo_o75 hm) (mo_S75 hm) (ix_nI (by omega) (by decide)) rfl ?_
        refine rw_iload (pc := 44) dM_request_44 rfl ?_
        refine rw_icmpne (pc := 46) dM_request_46 (tgt := 50) rfl (fun c15 => ?_) (fun c15 => ?_)
        · skip
          exact step50 c12 c13 (by simp [c14, c15])
        · skip
          exact rw_vret (pc := 49) dM_request_49 rfl ⟨rfl, by unfold m_rq; rw [if_pos c12, if_neg c13, if_pos (by simp [c14, c15])]⟩
    · skip
      refine rw_aload_n (pc := 23) dM_request_23 rfl ?_
      refine rw_iload_n (pc := 24) dM_request_24 rfl ?_
      refine rw_vv (pc := 25) (z' := (1, 0, 0)) (rc' := 0) (rs' := 0) (av := [.inl (nI c)]) (st := []) (ci := 10) mlM_175 miM_answer rfl mvM_answer_M dM_request_25 (mo_o62 hm) (mo_S62 hm) (cM_answer G _ hm hb hu h60 hc) rfl rfl (Nat.le_of_ble_eq_true rfl) (by decide) rfl rfl (fun h16 q16 => ?_)
      obtain rfl := q16
      exact rw_vret (pc := 28) dM_request_28 rfl ⟨rfl, by unfold m_rq; rw [if_pos c12, if_pos c13]⟩
  · skip
    exact rw_vret (pc := 11) dM_request_11 rfl ⟨rfl, by unfold m_rq; rw [if_neg c12]⟩
def m_vl (h : ha_H) (c f : Nat) : Bool := !decide (hp_I h 79 (4 * c + f) ≤ 0) && !decide (hp_I h 80 (4 * c + f) ≤ hp_I h 64 c)
theorem cM_valid (G : mt_G) (h : ha_H) (hm : mo_ok h) {c f : Nat} (hc : c < 3) (hf : f < 4) : rn_M G xM_valid (0, 0, 0) [.inr (some 62), .inl (nI c), .inl (nI f)] h (rn_i (fun r h' => r = m_bi (m_vl h c f) ∧ h = h')) := by
  refine rn_of (by decide +kernel) (Nat.le_of_ble_eq_true rfl) ?_
  show rn_W G xM_valid (0, 0, 0) 0 0 0 [some (.inr (some 62)), some (.inl (nI c)), some (.inl (nI f))] [] h _
  refine rw_aload_n (pc := 0) dM_valid_0 rfl ?_
  refine rw_getR (pc := 1) (x := some 79) flM_59_M dM_valid_1 (mo_o62 hm) (mo_S62 hm) (mo_R79 hm) ?_
  refine rw_iconst (pc := 4) (x := nI 4) dM_valid_4 (by decide) ?_
  refine rw_iload_n (pc := 5) dM_valid_5 rfl ?_
  refine rw_imul (pc := 6) (v := nI (4 * c)) dM_valid_6 (pk_mul _ _) ?_
  refine rw_iload_n (pc := 7) dM_valid_7 rfl ?_
  refine rw_iadd (pc := 8) (v := nI (4 * c + f)) dM_valid_8 (nI_add _ _) ?_
  refine rw_iald (pc := 9) (v := hp_I h 79 (4 * c + f)) (i := (4 * c + f)) dM_valid_9 (mo_o79 hm) (mo_S79 hm) (ix_nI (by omega) (by decide)) rfl ?_
  refine rw_ifle (pc := 10) dM_valid_10 (tgt := 36) rfl (fun c1 => ?_) (fun c1 => ?_)
  · skip
    refine rw_iconst (pc := 36) (x := nI 0) dM_valid_36 (by decide) ?_
    exact rw_zret (pc := 37) dM_valid_37 rfl (Or.inl rfl) ⟨_, rfl, by unfold m_vl; simp [c1, m_bi], rfl⟩
  · skip
    refine rw_aload_n (pc := 13) dM_valid_13 rfl ?_
    refine rw_getR (pc := 14) (x := some 64) flM_13_M dM_valid_14 (mo_o62 hm) (mo_S62 hm) (mo_R64 hm) ?_
    refine rw_iload_n (pc := 17) dM_valid_17 rfl ?_
    refine rw_iald (pc := 18) (v := hp_I h 64 c) (i := c) dM_valid_18 (mo_o64 hm) (mo_S64 hm) (ix_nI (by omega) (by decide)) rfl ?_
    refine rw_aload_n (pc := 19) dM_valid_19 rfl ?_
    refine rw_getR (pc := 20) (x := some 80) flM_62_M dM_valid_20 (mo_o62 hm) (mo_S62 hm) (mo_R80 hm) ?_
    refine rw_iconst (pc := 23) (x := nI 4) dM_valid_23 (by decide) ?_
    refine rw_iload_n (pc := 24) dM_valid_24 rfl ?_
    refine rw_imul (pc := 25) (v := nI (4 * c)) dM_valid_25 (pk_mul _ _) ?_
    refine rw_iload_n (pc := 26) dM_valid_26 rfl ?_
    refine rw_iadd (pc := 27) (v := nI (4 * c + f)) dM_valid_27 (nI_add _ _) ?_
    refine rw_iald (pc := 28) (v := hp_I h 80 (4 * c + f)) (i := (4 * c + f)) dM_valid_28 (mo_o80 hm) (mo_S80 hm) (ix_nI (by omega) (by decide)) rfl ?_
    refine rw_icmpge (pc := 29) dM_valid_29 (tgt := 36) rfl (fun c2 => ?_) (fun c2 => ?_)
    · skip
      refine rw_iconst (pc := 36) (x := nI 0) dM_valid_36 (by decide) ?_
      exact rw_zret (pc := 37) dM_valid_37 rfl (Or.inl rfl) ⟨_, rfl, by unfold m_vl; simp [c1, c2, m_bi], rfl⟩
    · skip
      refine rw_iconst (pc := 32) (x := nI 1) dM_valid_32 (by decide) ?_
      refine rw_goto (pc := 33) dM_valid_33 (tgt := 37) rfl ?_
      exact rw_zret (pc := 37) dM_valid_37 rfl (Or.inr rfl) ⟨_, rfl, by unfold m_vl; simp [c1, c2, m_bi], rfl⟩
theorem cM_lost (G : mt_G) (h : ha_H) (hm : mo_ok h) (hb : mo_b h) {c f : Nat} (hc : c < 3) (hf : f < 4) : rn_M G xM_lost (0, 0, 0) [.inr (some 62), .inl (nI c), .inl (nI f)] h (rn_i (fun r h' => r = hp_I h 82 (4 * c + f) ∧ hp_sI h 82 (4 * c + f) (nI 0) = h')) := by
  refine rn_of (by decide +kernel) (Nat.le_of_ble_eq_true rfl) ?_
  show rn_W G xM_lost (0, 0, 0) 0 0 0 [some (.inr (some 62)), some (.inl (nI c)), some (.inl (nI f)), none] [] h _
  refine rw_aload_n (pc := 0) dM_lost_0 rfl ?_
  refine rw_getR (pc := 1) (x := some 82) flM_68_M dM_lost_1 (mo_o62 hm) (mo_S62 hm) (mo_R82 hm) ?_
  refine rw_iconst (pc := 4) (x := nI 4) dM_lost_4 (by decide) ?_
  refine rw_iload_n (pc := 5) dM_lost_5 rfl ?_
  refine rw_imul (pc := 6) (v := nI (4 * c)) dM_lost_6 (pk_mul _ _) ?_
  refine rw_iload_n (pc := 7) dM_lost_7 rfl ?_
  refine rw_iadd (pc := 8) (v := nI (4 * c + f)) dM_lost_8 (nI_add _ _) ?_
  refine rw_zald (pc := 9) (v := hp_I h 82 (4 * c + f)) (i := (4 * c + f)) dM_lost_9 (mo_o82 hm) (mo_S82 hm) (ix_nI (by omega) (by decide)) rfl ?_
  refine rw_istore_n (pc := 10) (L' := [some (.inr (some 62)), some (.inl (nI c)), some (.inl (nI f)), some (.inl (hp_I h 82 (4 * c + f)))]) dM_lost_10 (by decide) rfl ?_
  refine rw_aload_n (pc := 11) dM_lost_11 rfl ?_
  refine rw_getR (pc := 12) (x := some 82) flM_68_M dM_lost_12 (mo_o62 hm) (mo_S62 hm) (mo_R82 hm) ?_
  refine rw_iconst (pc := 15) (x := nI 4) dM_lost_15 (by decide) ?_
  refine rw_iload_n (pc := 16) dM_lost_16 rfl ?_
  refine rw_imul (pc := 17) (v := nI (4 * c)) dM_lost_17 (pk_mul _ _) ?_
  refine rw_iload_n (pc := 18) dM_lost_18 rfl ?_
  refine rw_iadd (pc := 19) (v := nI (4 * c + f)) dM_lost_19 (nI_add _ _) ?_
  refine rw_iconst (pc := 20) (x := nI 0) dM_lost_20 (by decide) ?_
  refine rw_zast (pc := 21) (i := (4 * c + f)) (Or.inl rfl) dM_lost_21 (mo_o82 hm) (mo_S82 hm) (ix_nI (by omega) (by decide)) ?_
  replace hm := mo_sI (a := 82) (k := (4 * c + f)) (v := nI 0) hm
  refine rw_iload_n (pc := 22) dM_lost_22 rfl ?_
  exact rw_zret (pc := 23) dM_lost_23 rfl (hb 82 (by decide) _) ⟨_, rfl, rfl, rfl⟩
def m_hdB (h : ha_H) (c f k : Nat) : Bool := decide (hp_I h 85 (6 * c + k) / nI 4 = nI f)
def m_hdN (h : ha_H) (c f : Nat) : Nat → Bool
  | 0 => false
  | d + 1 => m_hdN h c f d || m_hdB h c f d
theorem cM_hasDirty (G : mt_G) (h : ha_H) (hm : mo_ok h) {c f : Nat} (hc : c < 3) (hf : f < 4) {n0 : Nat} (hw : hp_I h 84 c = nI n0) (h6 : n0 ≤ 6) : rn_M G xM_hasDirty (0, 0, 0) [.inr (some 62), .inl (nI c), .inl (nI f)] h (rn_i (fun r h' => r = m_bi (m_hdN h c f n0) ∧ h = h')) := by
  refine rn_of (by decide +kernel) (Nat.le_of_ble_eq_true rfl) ?_
  show rn_W G xM_hasDirty (0, 0, 0) 0 0 0 [some (.inr (some 62)), some (.inl (nI c)), some (.inl (nI f)), none, none] [] h _
  refine rw_iconst (pc := 0) (x := nI 0) dM_hasDirty_0 (by decide) ?_
  refine rw_istore_n (pc := 1) (L' := [some (.inr (some 62)), some (.inl (nI c)), some (.inl (nI f)), some (.inl (nI 0)), none]) dM_hasDirty_1 (by decide) rfl ?_
  refine rw_iconst (pc := 2) (x := nI 0) dM_hasDirty_2 (by decide) ?_
  refine rw_istore (pc := 3) (L' := [some (.inr (some 62)), some (.inl (nI c)), some (.inl (nI f)), some (.inl (nI 0)), some (.inl (nI 0))]) dM_hasDirty_3 (by decide) rfl ?_
  have loop : ∀ (n d : Nat), d + n = n0 → rn_W G xM_hasDirty (0, 0, 0) 0 0 5 [some (.inr (some 62)), some (.inl (nI c)), some (.inl (nI f)), some (.inl (m_bi (m_hdN h c f d))), some (.inl (nI d))] [] h (rn_i (fun r h' => r = m_bi (m_hdN h c f n0) ∧ h = h')) := by
    intro n
    induction n with
    | zero =>
      intro d hd
      refine rw_iload (pc := 5) dM_hasDirty_5 rfl ?_
      refine rw_aload_n (pc := 7) dM_hasDirty_7 rfl ?_
      refine rw_getR (pc := 8) (x := some 84) flM_74_M dM_hasDirty_8 (mo_o62 hm) (mo_S62 hm) (mo_R84 hm) ?_
      refine rw_iload_n (pc := 11) dM_hasDirty_11 rfl ?_
      refine rw_iald (pc := 12) (v := nI n0) (i := c) dM_hasDirty_12 (mo_o84 hm) (mo_S84 hm) (ix_nI (by omega) (by decide)) hw ?_
      refine rw_icmpge (pc := 13) dM_hasDirty_13 (tgt := 50) rfl (fun c1 => ?_) (fun c1 => ?_)
      · skip
        replace c1 : n0 ≤ d := (nI_leI (a := n0) (b := d) (by omega) (by omega)).mp c1
        refine rw_iload_n (pc := 50) dM_hasDirty_50 rfl ?_
        exact rw_zret (pc := 51) dM_hasDirty_51 rfl (m_bi01 _) ⟨_, rfl, by rw [show d = n0 by omega], rfl⟩
      · skip
        replace c1 : ¬ (n0 ≤ d) := fun qz => c1 ((nI_leI (a := n0) (b := d) (by omega) (by omega)).mpr qz)
        omega
    | succ n ih =>
      intro d hd
      have join : ∀ (v : Int32), v = m_bi (m_hdN h c f (d + 1)) → rn_W G xM_hasDirty (0, 0, 0) 0 0 43 [some (.inr (some 62)), some (.inl (nI c)), some (.inl (nI f)), some (.inl (m_bi (m_hdN h c f d))), some (.inl (nI d))] [.inl v] h (rn_i (fun r h' => r = m_bi (m_hdN h c f n0) ∧ h = h')) := by
        intro v hv
        refine rw_istore_n (pc := 43) (L' := [some (.inr (some 62)), some (.inl (nI c)), some (.inl (nI f)), some (.inl v), some (.inl (nI d))]) dM_hasDirty_43 (by decide) rfl ?_
        refine rw_iinc (pc := 44) (x := nI d) (y := nI (d + 1)) (L' := [some (.inr (some 62)), some (.inl (nI c)), some (.inl (nI f)), some (.inl v), some (.inl (nI (d + 1)))]) dM_hasDirty_44 (by decide) rfl (nI_add _ 1) rfl ?_
        refine rw_goto (pc := 47) dM_hasDirty_47 (tgt := 5) rfl ?_
        subst hv
        exact ih (d + 1) (by omega)
      refine rw_iload (pc := 5) dM_hasDirty_5 rfl ?_
      refine rw_aload_n (pc := 7) dM_hasDirty_7 rfl ?_
      refine rw_getR (pc := 8) (x := some 84) flM_74_M dM_hasDirty_8 (mo_o62 hm) (mo_S62 hm) (mo_R84 hm) ?_
      refine rw_iload_n (pc := 11) dM_hasDirty_11 rfl ?_
      refine rw_iald (pc := 12) (v := nI n0) (i := c) dM_hasDirty_12 (mo_o84 hm) (mo_S84 hm) (ix_nI (by omega) (by decide)) hw ?_
      refine rw_icmpge (pc := 13) dM_hasDirty_13 (tgt := 50) rfl (fun c2 => ?_) (fun c2 => ?_)
      · skip
        replace c2 : n0 ≤ d := (nI_leI (a := n0) (b := d) (by omega) (by omega)).mp c2
        omega
      · skip
        replace c2 : ¬ (n0 ≤ d) := fun qz => c2 ((nI_leI (a := n0) (b := d) (by omega) (by omega)).mpr qz)
        refine rw_iload_n (pc := 16) dM_hasDirty_16 rfl ?_
        refine rw_ifne (pc := 17) dM_hasDirty_17 (tgt := 38) rfl (fun c3 => ?_) (fun c3 => ?_)
        · skip
          refine rw_iconst (pc := 38) (x := nI 1) dM_hasDirty_38 (by decide) ?_
          refine rw_goto (pc := 39) dM_hasDirty_39 (tgt := 43) rfl ?_
          exact join _ (by clear join ih; simp_all [m_bi0, m_biT, m_biF, m_hdN, m_hdB])
        · skip
          refine rw_aload_n (pc := 20) dM_hasDirty_20 rfl ?_
          refine rw_getR (pc := 21) (x := some 85) flM_77_M dM_hasDirty_21 (mo_o62 hm) (mo_S62 hm) (mo_R85 hm) ?_
          refine rw_bipush (pc := 24) (x := nI 6) dM_hasDirty_24 (by decide) ?_
          refine rw_iload_n (pc := 26) dM_hasDirty_26 rfl ?_
          refine rw_imul (pc := 27) (v := nI (6 * c)) dM_hasDirty_27 (pk_mul _ _) ?_
          refine rw_iload (pc := 28) dM_hasDirty_28 rfl ?_
          refine rw_iadd (pc := 30) (v := nI (6 * c + d)) dM_hasDirty_30 (nI_add _ _) ?_
          refine rw_iald (pc := 31) (v := hp_I h 85 (6 * c + d)) (i := (6 * c + d)) dM_hasDirty_31 (mo_o85 hm) (mo_S85 hm) (ix_nI (by omega) (by decide)) rfl ?_
          refine rw_iconst (pc := 32) (x := nI 4) dM_hasDirty_32 (by decide) ?_
          refine rw_idiv (pc := 33) (v := (hp_I h 85 (6 * c + d)) / (nI 4)) dM_hasDirty_33 (by decide) rfl ?_
          refine rw_iload_n (pc := 34) dM_hasDirty_34 rfl ?_
          refine rw_icmpne (pc := 35) dM_hasDirty_35 (tgt := 42) rfl (fun c4 => ?_) (fun c4 => ?_)
          · skip
            refine rw_iconst (pc := 42) (x := nI 0) dM_hasDirty_42 (by decide) ?_
            exact join _ (by clear join ih; simp_all [m_bi0, m_biT, m_biF, m_hdN, m_hdB])
          · skip
            refine rw_iconst (pc := 38) (x := nI 1) dM_hasDirty_38 (by decide) ?_
            refine rw_goto (pc := 39) dM_hasDirty_39 (tgt := 43) rfl ?_
            exact join _ (by clear join ih; simp_all [m_bi0, m_biT, m_biF, m_hdN, m_hdB])
  exact loop n0 0 (Nat.zero_add _)
def m_fg (c f mo : Nat) : Nat → ha_H → Nat → Nat → Nat → ha_H
  | 0, h, kept, _, _ => hp_sI h 84 c (nI kept)
  | n + 1, h, kept, gone, k => if (decide (hp_I h 85 (6 * c + k) / nI 4 = nI f) && !decide (mo ≤ gone)) = true then m_fg c f mo n h kept (gone + 1) (k + 1) else m_fg c f mo n (hp_mv (hp_mv h 85 (6 * c + k) 85 (6 * c + kept)) 86 (6 * c + k) 86 (6 * c + kept)) (kept + 1) gone (k + 1)
def m_forget (h : ha_H) (n0 c f mo : Nat) : ha_H := m_fg c f mo n0 h 0 0 0
theorem cM_forget (G : mt_G) (h : ha_H) (hm : mo_ok h) {c f mo : Nat} (hc : c < 3) (hf : f < 4) (ho : mo ≤ 6) {n0 : Nat} (hw : hp_I h 84 c = nI n0) (h6 : n0 ≤ 6) : rn_M G xM_forget (0, 0, 0) [.inr (some 62), .inl (nI c), .inl (nI f), .inl (nI mo)] h (rn_v (fun h' => m_forget h n0 c f mo = h')) := by
  refine rn_of (by decide +kernel) (Nat.le_of_ble_eq_true rfl) ?_
  show rn_W G xM_forget (0, 0, 0) 0 0 0 [some (.inr (some 62)), some (.inl (nI c)), some (.inl (nI f)), some (.inl (nI mo)), none, none, none, none] [] h _
  refine rw_iconst (pc := 0) (x := nI 0) dM_forget_0 (by decide) ?_
  refine rw_istore (pc := 1) (L' := [some (.inr (some 62)), some (.inl (nI c)), some (.inl (nI f)), some (.inl (nI mo)), some (.inl (nI 0)), none, none, none]) dM_forget_1 (by decide) rfl ?_
  refine rw_iconst (pc := 3) (x := nI 0) dM_forget_3 (by decide) ?_
  refine rw_istore (pc := 4) (L' := [some (.inr (some 62)), some (.inl (nI c)), some (.inl (nI f)), some (.inl (nI mo)), some (.inl (nI 0)), some (.inl (nI 0)), none, none]) dM_forget_4 (by decide) rfl ?_
  refine rw_iconst (pc := 6) (x := nI 0) dM_forget_6 (by decide) ?_
  refine rw_istore (pc := 7) (L' := [some (.inr (some 62)), some (.inl (nI c)), some (.inl (nI f)), some (.inl (nI mo)), some (.inl (nI 0)), some (.inl (nI 0)), some (.inl (nI 0)), none]) dM_forget_7 (by decide) rfl ?_
  have loop : ∀ (n kept gone k : Nat) (g : ha_H) (l7 : Option ha_V), k + n = n0 → kept ≤ k → gone ≤ k → mo_ok g → hp_I g 84 c = nI n0 → m_fg c f mo n g kept gone k = m_forget h n0 c f mo → rn_W G xM_forget (0, 0, 0) 0 0 9 [some (.inr (some 62)), some (.inl (nI c)), some (.inl (nI f)), some (.inl (nI mo)), some (.inl (nI kept)), some (.inl (nI gone)), some (.inl (nI k)), l7] [] g (rn_v (fun h' => m_forget h n0 c f mo = h')) := by
    intro n
    induction n with
    | zero =>
      intro kept gone k g l7 hd hk1 hg1 hm hw he
      refine rw_iload (pc := 9) dM_forget_9 rfl ?_
      refine rw_aload_n (pc := 11) dM_forget_11 rfl ?_
      refine rw_getR (pc := 12) (x := some 84) flM_74_M dM_forget_12 (mo_o62 hm) (mo_S62 hm) (mo_R84 hm) ?_
      refine rw_iload_n (pc := 15) dM_forget_15 rfl ?_
      refine rw_iald (pc := 16) (v := nI n0) (i := c) dM_forget_16 (mo_o84 hm) (mo_S84 hm) (ix_nI (by omega) (by decide)) hw ?_
      refine rw_icmpge (pc := 17) dM_forget_17 (tgt := 101) rfl (fun c1 => ?_) (fun c1 => ?_)
      · skip
        replace c1 : n0 ≤ k := (nI_leI (a := n0) (b := k) (by omega) (by omega)).mp c1
        refine rw_aload_n (pc := 101) dM_forget_101 rfl ?_
        refine rw_getR (pc := 102) (x := some 84) flM_74_M dM_forget_102 (mo_o62 hm) (mo_S62 hm) (mo_R84 hm) ?_
        refine rw_iload_n (pc := 105) dM_forget_105 rfl ?_
        refine rw_iload (pc := 106) dM_forget_106 rfl ?_
        refine rw_iast (pc := 108) (i := c) dM_forget_108 (mo_o84 hm) (mo_S84 hm) (ix_nI (by omega) (by decide)) ?_
        replace hm := mo_sI (a := 84) (k := c) (v := nI kept) hm
        exact rw_vret (pc := 109) dM_forget_109 rfl ⟨rfl, he.symm⟩
      · skip
        replace c1 : ¬ (n0 ≤ k) := fun qz => c1 ((nI_leI (a := n0) (b := k) (by omega) (by omega)).mpr qz)
        omega
    | succ n ih =>
      intro kept gone k g l7 hd hk1 hg1 hm hw he
      refine rw_iload (pc := 9) dM_forget_9 rfl ?_
      refine rw_aload_n (pc := 11) dM_forget_11 rfl ?_
      refine rw_getR (pc := 12) (x := some 84) flM_74_M dM_forget_12 (mo_o62 hm) (mo_S62 hm) (mo_R84 hm) ?_
      refine rw_iload_n (pc := 15) dM_forget_15 rfl ?_
      refine rw_iald (pc := 16) (v := nI n0) (i := c) dM_forget_16 (mo_o84 hm) (mo_S84 hm) (ix_nI (by omega) (by decide)) hw ?_
      refine rw_icmpge (pc := 17) dM_forget_17 (tgt := 101) rfl (fun c2 => ?_) (fun c2 => ?_)
      · skip
        replace c2 : n0 ≤ k := (nI_leI (a := n0) (b := k) (by omega) (by omega)).mp c2
        omega
      · skip
        replace c2 : ¬ (n0 ≤ k) := fun qz => c2 ((nI_leI (a := n0) (b := k) (by omega) (by omega)).mpr qz)
        refine rw_bipush (pc := 20) (x := nI 6) dM_forget_20 (by decide) ?_
        refine rw_iload_n (pc := 22) dM_forget_22 rfl ?_
        refine rw_imul (pc := 23) (v := nI (6 * c)) dM_forget_23 (pk_mul _ _) ?_
        refine rw_iload (pc := 24) dM_forget_24 rfl ?_
        refine rw_iadd (pc := 26) (v := nI (6 * c + k)) dM_forget_26 (nI_add _ _) ?_
        refine rw_istore (pc := 27) (L' := [some (.inr (some 62)), some (.inl (nI c)), some (.inl (nI f)), some (.inl (nI mo)), some (.inl (nI kept)), some (.inl (nI gone)), some (.inl (nI k)), some (.inl (nI (6 * c + k)))]) dM_forget_27 (by decide) rfl ?_
        refine rw_aload_n (pc := 29) dM_forget_29 rfl ?_
        refine rw_getR (pc := 30) (x := some 85) flM_77_M dM_forget_30 (mo_o62 hm) (mo_S62 hm) (mo_R85 hm) ?_
        refine rw_iload (pc := 33) dM_forget_33 rfl ?_
        refine rw_iald (pc := 35) (v := hp_I g 85 (6 * c + k)) (i := (6 * c + k)) dM_forget_35 (mo_o85 hm) (mo_S85 hm) (ix_nI (by omega) (by decide)) rfl ?_
        refine rw_iconst (pc := 36) (x := nI 4) dM_forget_36 (by decide) ?_
        refine rw_idiv (pc := 37) (v := (hp_I g 85 (6 * c + k)) / (nI 4)) dM_forget_37 (by decide) rfl ?_
        refine rw_iload_n (pc := 38) dM_forget_38 rfl ?_
        refine rw_icmpne (pc := 39) dM_forget_39 (tgt := 54) rfl (fun c3 => ?_) (fun c3 => ?_)
        · skip
          refine rw_aload_n (pc := 54) dM_forget_54 rfl ?_
          refine rw_getR (pc := 55) (x := some 85) flM_77_M dM_forget_55 (mo_o62 hm) (mo_S62 hm) (mo_R85 hm) ?_
          refine rw_bipush (pc := 58) (x := nI 6) dM_forget_58 (by decide) ?_
          refine rw_iload_n (pc := 60) dM_forget_60 rfl ?_
          refine rw_imul (pc := 61) (v := nI (6 * c)) dM_forget_61 (pk_mul _ _) ?_
          refine rw_iload (pc := 62) dM_forget_62 rfl ?_
          refine rw_iadd (pc := 64) (v := nI (6 * c + kept)) dM_forget_64 (nI_add _ _) ?_
          refine rw_aload_n (pc := 65) dM_forget_65 rfl ?_
          refine rw_getR (pc := 66) (x := some 85) flM_77_M dM_forget_66 (mo_o62 hm) (mo_S62 hm) (mo_R85 hm) ?_
          refine rw_iload (pc := 69) dM_forget_69 rfl ?_
          refine rw_iald (pc := 71) (v := hp_I g 85 (6 * c + k)) (i := (6 * c + k)) dM_forget_71 (mo_o85 hm) (mo_S85 hm) (ix_nI (by omega) (by decide)) rfl ?_
          refine rw_iast (pc := 72) (i := (6 * c + kept)) dM_forget_72 (mo_o85 hm) (mo_S85 hm) (ix_nI (by omega) (by decide)) ?_
          show rn_W G xM_forget (0, 0, 0) 0 0 73 [some (.inr (some 62)), some (.inl (nI c)), some (.inl (nI f)), some (.inl (nI mo)), some (.inl (nI kept)), some (.inl (nI gone)), some (.inl (nI k)), some (.inl (nI (6 * c + k)))] [] (hp_mv g 85 (6 * c + k) 85 (6 * c + kept)) (rn_v (fun h' => m_forget h n0 c f mo = h'))
          replace hm := mo_mv (A := 85) (i := (6 * c + k)) (B := 85) (t := (6 * c + kept)) hm
          replace hw := hI_mv (A := 85) (i := (6 * c + k)) (B := 85) (t := (6 * c + kept)) (by decide) hw
          refine rw_aload_n (pc := 73) dM_forget_73 rfl ?_
          refine rw_getR (pc := 74) (x := some 86) flM_80_M dM_forget_74 (mo_o62 hm) (mo_S62 hm) (mo_R86 hm) ?_
          refine rw_bipush (pc := 77) (x := nI 6) dM_forget_77 (by decide) ?_
          refine rw_iload_n (pc := 79) dM_forget_79 rfl ?_
          refine rw_imul (pc := 80) (v := nI (6 * c)) dM_forget_80 (pk_mul _ _) ?_
          refine rw_iload (pc := 81) dM_forget_81 rfl ?_
          refine rw_iadd (pc := 83) (v := nI (6 * c + kept)) dM_forget_83 (nI_add _ _) ?_
          refine rw_aload_n (pc := 84) dM_forget_84 rfl ?_
          refine rw_getR (pc := 85) (x := some 86) flM_80_M dM_forget_85 (mo_o62 hm) (mo_S62 hm) (mo_R86 hm) ?_
          refine rw_iload (pc := 88) dM_forget_88 rfl ?_
          refine rw_iald (pc := 90) (v := hp_I (hp_mv g 85 (6 * c + k) 85 (6 * c + kept)) 86 (6 * c + k)) (i := (6 * c + k)) dM_forget_90 (mo_o86 hm) (mo_S86 hm) (ix_nI (by omega) (by decide)) rfl ?_
          refine rw_iast (pc := 91) (i := (6 * c + kept)) dM_forget_91 (mo_o86 hm) (mo_S86 hm) (ix_nI (by omega) (by decide)) ?_
          show rn_W G xM_forget (0, 0, 0) 0 0 92 [some (.inr (some 62)), some (.inl (nI c)), some (.inl (nI f)), some (.inl (nI mo)), some (.inl (nI kept)), some (.inl (nI gone)), some (.inl (nI k)), some (.inl (nI (6 * c + k)))] [] (hp_mv (hp_mv g 85 (6 * c + k) 85 (6 * c + kept)) 86 (6 * c + k) 86 (6 * c + kept)) (rn_v (fun h' => m_forget h n0 c f mo = h'))
          replace hm := mo_mv (A := 86) (i := (6 * c + k)) (B := 86) (t := (6 * c + kept)) hm
          replace hw := hI_mv (A := 86) (i := (6 * c + k)) (B := 86) (t := (6 * c + kept)) (by decide) hw
          refine rw_iinc (pc := 92) (x := nI kept) (y := nI (kept + 1)) (L' := [some (.inr (some 62)), some (.inl (nI c)), some (.inl (nI f)), some (.inl (nI mo)), some (.inl (nI (kept + 1))), some (.inl (nI gone)), some (.inl (nI k)), some (.inl (nI (6 * c + k)))]) dM_forget_92 (by decide) rfl (nI_add _ 1) rfl ?_
          refine rw_iinc (pc := 95) (x := nI k) (y := nI (k + 1)) (L' := [some (.inr (some 62)), some (.inl (nI c)), some (.inl (nI f)), some (.inl (nI mo)), some (.inl (nI (kept + 1))), some (.inl (nI gone)), some (.inl (nI (k + 1))), some (.inl (nI (6 * c + k)))]) dM_forget_95 (by decide) rfl (nI_add _ 1) rfl ?_
          refine rw_goto (pc := 98) dM_forget_98 (tgt := 9) rfl ?_
          refine ih _ _ _ _ _ (by omega) (by omega) (by omega) hm hw ?_
          rw [← he]
          simp [m_fg, c3]
        · skip
          refine rw_iload (pc := 42) dM_forget_42 rfl ?_
          refine rw_iload_n (pc := 44) dM_forget_44 rfl ?_
          refine rw_icmpge (pc := 45) dM_forget_45 (tgt := 54) rfl (fun c4 => ?_) (fun c4 => ?_)
          · skip
            replace c4 : mo ≤ gone := (nI_leI (a := mo) (b := gone) (by omega) (by omega)).mp c4
            refine rw_aload_n (pc := 54) dM_forget_54 rfl ?_
            refine rw_getR (pc := 55) (x := some 85) flM_77_M dM_forget_55 (mo_o62 hm) (mo_S62 hm) (mo_R85 hm) ?_
            refine rw_bipush (pc := 58) (x := nI 6) dM_forget_58 (by decide) ?_
            refine rw_iload_n (pc := 60) dM_forget_60 rfl ?_
            refine rw_imul (pc := 61) (v := nI (6 * c)) dM_forget_61 (pk_mul _ _) ?_
            refine rw_iload (pc := 62) dM_forget_62 rfl ?_
            refine rw_iadd (pc := 64) (v := nI (6 * c + kept)) dM_forget_64 (nI_add _ _) ?_
            refine rw_aload_n (pc := 65) dM_forget_65 rfl ?_
            refine rw_getR (pc := 66) (x := some 85) flM_77_M dM_forget_66 (mo_o62 hm) (mo_S62 hm) (mo_R85 hm) ?_
            refine rw_iload (pc := 69) dM_forget_69 rfl ?_
            refine rw_iald (pc := 71) (v := hp_I g 85 (6 * c + k)) (i := (6 * c + k)) dM_forget_71 (mo_o85 hm) (mo_S85 hm) (ix_nI (by omega) (by decide)) rfl ?_
            refine rw_iast (pc := 72) (i := (6 * c + kept)) dM_forget_72 (mo_o85 hm) (mo_S85 hm) (ix_nI (by omega) (by decide)) ?_
            show rn_W G xM_forget (0, 0, 0) 0 0 73 [some (.inr (some 62)), some (.inl (nI c)), some (.inl (nI f)), some (.inl (nI mo)), some (.inl (nI kept)), some (.inl (nI gone)), some (.inl (nI k)), some (.inl (nI (6 * c + k)))] [] (hp_mv g 85 (6 * c + k) 85 (6 * c + kept)) (rn_v (fun h' => m_forget h n0 c f mo = h'))
            replace hm := mo_mv (A := 85) (i := (6 * c + k)) (B := 85) (t := (6 * c + kept)) hm
            replace hw := hI_mv (A := 85) (i := (6 * c + k)) (B := 85) (t := (6 * c + kept)) (by decide) hw
            refine rw_aload_n (pc := 73) dM_forget_73 rfl ?_
            refine rw_getR (pc := 74) (x := some 86) flM_80_M dM_forget_74 (mo_o62 hm) (mo_S62 hm) (mo_R86 hm) ?_
            refine rw_bipush (pc := 77) (x := nI 6) dM_forget_77 (by decide) ?_
            refine rw_iload_n (pc := 79) dM_forget_79 rfl ?_
            refine rw_imul (pc := 80) (v := nI (6 * c)) dM_forget_80 (pk_mul _ _) ?_
            refine rw_iload (pc := 81) dM_forget_81 rfl ?_
            refine rw_iadd (pc := 83) (v := nI (6 * c + kept)) dM_forget_83 (nI_add _ _) ?_
            refine rw_aload_n (pc := 84) dM_forget_84 rfl ?_
            refine rw_getR (pc := 85) (x := some 86) flM_80_M dM_forget_85 (mo_o62 hm) (mo_S62 hm) (mo_R86 hm) ?_
            refine rw_iload (pc := 88) dM_forget_88 rfl ?_
            refine rw_iald (pc := 90) (v := hp_I (hp_mv g 85 (6 * c + k) 85 (6 * c + kept)) 86 (6 * c + k)) (i := (6 * c + k)) dM_forget_90 (mo_o86 hm) (mo_S86 hm) (ix_nI (by omega) (by decide)) rfl ?_
            refine rw_iast (pc := 91) (i := (6 * c + kept)) dM_forget_91 (mo_o86 hm) (mo_S86 hm) (ix_nI (by omega) (by decide)) ?_
            show rn_W G xM_forget (0, 0, 0) 0 0 92 [some (.inr (some 62)), some (.inl (nI c)), some (.inl (nI f)), some (.inl (nI mo)), some (.inl (nI kept)), some (.inl (nI gone)), some (.inl (nI k)), some (.inl (nI (6 * c + k)))] [] (hp_mv (hp_mv g 85 (6 * c + k) 85 (6 * c + kept)) 86 (6 * c + k) 86 (6 * c + kept)) (rn_v (fun h' => m_forget h n0 c f mo = h'))
            replace hm := mo_mv (A := 86) (i := (6 * c + k)) (B := 86) (t := (6 * c + kept)) hm
            replace hw := hI_mv (A := 86) (i := (6 * c + k)) (B := 86) (t := (6 * c + kept)) (by decide) hw
            refine rw_iinc (pc := 92) (x := nI kept) (y := nI (kept + 1)) (L' := [some (.inr (some 62)), some (.inl (nI c)), some (.inl (nI f)), some (.inl (nI mo)), some (.inl (nI (kept + 1))), some (.inl (nI gone)), some (.inl (nI k)), some (.inl (nI (6 * c + k)))]) dM_forget_92 (by decide) rfl (nI_add _ 1) rfl ?_
            refine rw_iinc (pc := 95) (x := nI k) (y := nI (k + 1)) (L' := [some (.inr (some 62)), some (.inl (nI c)), some (.inl (nI f)), some (.inl (nI mo)), some (.inl (nI (kept + 1))), some (.inl (nI gone)), some (.inl (nI (k + 1))), some (.inl (nI (6 * c + k)))]) dM_forget_95 (by decide) rfl (nI_add _ 1) rfl ?_
            refine rw_goto (pc := 98) dM_forget_98 (tgt := 9) rfl ?_
            refine ih _ _ _ _ _ (by omega) (by omega) (by omega) hm hw ?_
            rw [← he]
            simp [m_fg, c3, c4]
          · skip
            replace c4 : ¬ (mo ≤ gone) := fun qz => c4 ((nI_leI (a := mo) (b := gone) (by omega) (by omega)).mpr qz)
            refine rw_iinc (pc := 48) (x := nI gone) (y := nI (gone + 1)) (L' := [some (.inr (some 62)), some (.inl (nI c)), some (.inl (nI f)), some (.inl (nI mo)), some (.inl (nI kept)), some (.inl (nI (gone + 1))), some (.inl (nI k)), some (.inl (nI (6 * c + k)))]) dM_forget_48 (by decide) rfl (nI_add _ 1) rfl ?_
            refine rw_goto (pc := 51) dM_forget_51 (tgt := 95) rfl ?_
            refine rw_iinc (pc := 95) (x := nI k) (y := nI (k + 1)) (L' := [some (.inr (some 62)), some (.inl (nI c)), some (.inl (nI f)), some (.inl (nI mo)), some (.inl (nI kept)), some (.inl (nI (gone + 1))), some (.inl (nI (k + 1))), some (.inl (nI (6 * c + k)))]) dM_forget_95 (by decide) rfl (nI_add _ 1) rfl ?_
            refine rw_goto (pc := 98) dM_forget_98 (tgt := 9) rfl ?_
            refine ih _ _ _ _ _ (by omega) (by omega) (by omega) hm hw ?_
            rw [← he]
            simp [m_fg, c3, c4]
  exact loop n0 0 0 0 h none (Nat.zero_add _) (Nat.le_refl _) (Nat.le_refl _) hm hw rfl
