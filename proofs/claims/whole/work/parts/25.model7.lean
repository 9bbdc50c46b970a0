theorem mI_sF {h : ha_H} (hi : mo_I h) {k : Nat} {v : Int32} (hk : ¬ 34 = k) : mo_I (hp_sI h 62 k v) ∧ m_u (hp_sI h 62 k v) = m_u h :=
  have e := hI_sI2 (a := 62) (v := v) hk hi.2.2.1
  ⟨mI_of (mo_sI hi.1) (mb_sI hi.2.1 (fun q => absurd q (by decide))) e hi.2.2.2, mI_u e hi.2.2.2⟩
theorem mI_room2 {h : ha_H} (hi : mo_I h) {k c f x : Int32} : mo_I (m_room h (m_u h) k c f x).2 ∧ m_u (m_room h (m_u h) k c f x).2 = m_inc (m_u h) := by
  unfold m_room m_inc
  have h60 := hi.2.2.2
  by_cases e : m_u h = 60
  · rw [if_pos e, if_pos e]
    exact ⟨hi, e⟩
  · rw [if_neg e, if_neg e]
    exact mI_room hi (by omega)
def m_rc (c f : Nat) (m : Int32) : Nat → ha_H → Nat → ha_H
  | 0, h, _ => h
  | n + 1, h, d => m_rc c f m n (if m_cfB h c f m d = true then (m_room h (m_u h) (nI 8) (nI d) (nI f) (nI 0)).2 else h) (d + 1)
theorem mI_rc (c f : Nat) (m : Int32) : ∀ (n : Nat) {h : ha_H} (_ : mo_I h) {d : Nat}, mo_I (m_rc c f m n h d)
  | 0, h, hi, d => hi
  | n + 1, h, hi, d => by
    unfold m_rc
    apply mI_rc
    split
    · exact (mI_room2 hi).1
    · exact hi
def m_wtH (h : ha_H) (c f : Nat) (x m : Int32) : ha_H := hp_sI (hp_sI (hp_sI (hp_sI (hp_sI h 74 c (nI f)) 75 c x) 76 c m) 77 c (hp_I h 62 17)) 62 17 (hp_I h 62 17 + nI 1)
theorem mI_wtH {h : ha_H} (hi : mo_I h) {c f : Nat} {x m : Int32} : mo_I (m_wtH h c f x m) ∧ m_u (m_wtH h c f x m) = m_u h := by
  have h1 := mI_sI hi (a := 74) (k := c) (v := nI f) (by decide) (fun q => absurd q (by decide))
  have h2 := mI_sI h1.1 (a := 75) (k := c) (v := x) (by decide) (fun q => absurd q (by decide))
  have h3 := mI_sI h2.1 (a := 76) (k := c) (v := m) (by decide) (fun q => absurd q (by decide))
  have h4 := mI_sI h3.1 (a := 77) (k := c) (v := hp_I h 62 17) (by decide) (fun q => absurd q (by decide))
  have h5 := mI_sF h4.1 (k := 17) (v := hp_I h 62 17 + nI 1) (by decide)
  exact ⟨h5.1, by rw [show m_u (m_wtH h c f x m) = _ from h5.2, h4.2, h3.2, h2.2, h1.2]⟩
def m_alT (h : ha_H) (c f : Nat) (cl : Bool) : Bool := if hp_I h 62 6 ≤ 0 then (m_hs h c f || !(m_otN h c (nI f) 3)) else cl
def m_al (h : ha_H) (u c f : Nat) (x m : Int32) (cl : Bool) : ha_H := if (m_hs h c f && m_otN h c (nI f) 3) = true then m_fin h u c x (nI 5) (nI f) else if (!(m_cfN h c f m 3) && m_alT h c f cl) = true then m_gr h u c f x m (!decide (hp_I h 62 6 ≤ 0)) else m_rc c f m 3 (m_wtH h c f x m) 0
theorem mI_al {h : ha_H} (hi : mo_I h) {c f : Nat} {x m : Int32} {cl : Bool} : mo_I (m_al h (m_u h) c f x m cl) := by
  unfold m_al
  split
  · exact (mI_fin hi).1
  · split
    · exact (mI_gr hi).1
    · exact mI_rc c f m 3 (mI_wtH hi).1
theorem cM_askedLease (G : mt_G) (h : ha_H) (hi : mo_I h) {c f : Nat} (hc : c < 3) (hf : f < 4) (x m : Int32) (cl : Bool) : rn_M G xM_askedLease (4, 0, 0) [.inr (some 62), .inl (nI c), .inl (nI f), .inl x, .inl m, .inl (m_bi cl)] h (rn_v (fun h' => m_al h (m_u h) c f x m cl = h')) := by
  have hm := hi.1
  have hb := hi.2.1
  have hu := hi.2.2.1
  have h60 := hi.2.2.2
  refine rn_of (by decide +kernel) (Nat.le_of_ble_eq_true rfl) ?_
  show rn_W G xM_askedLease (4, 0, 0) 0 0 0 [some (.inr (some 62)), some (.inl (nI c)), some (.inl (nI f)), some (.inl x), some (.inl m), some (.inl (m_bi cl)), none, none] [] h _
  have loop : ∀ (n d : Nat) (g : ha_H), d + n = 3 → mo_I g → m_rc c f m n g d = m_al h (m_u h) c f x m cl → rn_W G xM_askedLease (4, 0, 0) 0 0 147 [some (.inr (some 62)), some (.inl (nI c)), some (.inl (nI f)), some (.inl x), some (.inl m), some (.inl (m_bi cl)), some (.inl (m_bi (m_alT h c f cl))), some (.inl (nI d))] [] g (rn_v (fun h' => m_al h (m_u h) c f x m cl = h')) := by
    intro n
    induction n with
    | zero =>
      intro d g hd hi he
      have hm := hi.1
      refine rw_iload (pc := 147) dM_askedLease_147 rfl ?_
      refine rw_iconst (pc := 149) (x := nI 3) dM_askedLease_149 (by decide) ?_
      refine rw_icmpge (pc := 150) dM_askedLease_150 (tgt := 207) rfl (fun c1 => ?_) (fun c1 => ?_)
      · skip
        replace c1 : 3 ≤ d := (nI_leI (a := 3) (b := d) (by omega) (by omega)).mp c1
        exact rw_vret (pc := 207) dM_askedLease_207 rfl ⟨rfl, he.symm⟩
      · skip
        replace c1 : ¬ (3 ≤ d) := fun qz => c1 ((nI_leI (a := 3) (b := d) (by omega) (by omega)).mpr qz)
        omega
    | succ n ih =>
      intro d g hd hi he
      have hm := hi.1
      have hu := hi.2.2.1
      have h60 := hi.2.2.2
      refine rw_iload (pc := 147) dM_askedLease_147 rfl ?_
      refine rw_iconst (pc := 149) (x := nI 3) dM_askedLease_149 (by decide) ?_
      refine rw_icmpge (pc := 150) dM_askedLease_150 (tgt := 207) rfl (fun c2 => ?_) (fun c2 => ?_)
      · skip
        replace c2 : 3 ≤ d := (nI_leI (a := 3) (b := d) (by omega) (by omega)).mp c2
        omega
      · skip
        replace c2 : ¬ (3 ≤ d) := fun qz => c2 ((nI_leI (a := 3) (b := d) (by omega) (by omega)).mpr qz)
        refine rw_iload (pc := 153) dM_askedLease_153 rfl ?_
        refine rw_iload_n (pc := 155) dM_askedLease_155 rfl ?_
        refine rw_icmpeq (pc := 156) dM_askedLease_156 (tgt := 201) rfl (fun c3 => ?_) (fun c3 => ?_)
        · skip
          replace c3 : d = c := (nI_eq (a := d) (b := c) (by omega) (by omega)).mp c3
          refine rw_iinc (pc := 201) (x := nI d) (y := nI (d + 1)) (L' := [some (.inr (some 62)), some (.inl (nI c)), some (.inl (nI f)), some (.inl x), some (.inl m), some (.inl (m_bi cl)), some (.inl (m_bi (m_alT h c f cl))), some (.inl (nI (d + 1)))]) dM_askedLease_201 (by decide) rfl (nI_add _ 1) rfl ?_
          refine rw_goto (pc := 204) dM_askedLease_204 (tgt := 147) rfl ?_
          have eB : m_cfB g c f m d = false := by simp [m_cfB, c3]
          refine ih (d + 1) _ (by omega) hi ?_
          rw [← he]
          simp [m_rc, eB]
        · skip
          replace c3 : ¬ (d = c) := fun qz => c3 ((nI_eq (a := d) (b := c) (by omega) (by omega)).mpr qz)
          refine rw_aload_n (pc := 159) dM_askedLease_159 rfl ?_
          refine rw_iload (pc := 160) dM_askedLease_160 rfl ?_
          refine rw_iload_n (pc := 162) dM_askedLease_162 rfl ?_
          refine rw_vi (pc := 163) (z' := (0, 0, 0)) (rc' := 0) (rs' := 0) (av := [.inl (nI d), .inl (nI f)]) (st := []) (ci := 10) mlM_171 miM_has rfl mvM_has_M dM_askedLease_163 (mo_o62 hm) (mo_S62 hm) (cM_has G _ hm (by omega) (by omega)) rfl rfl (Nat.le_of_ble_eq_true rfl) (by decide) rfl rfl (fun r4 h4 q4 => ?_)
          obtain ⟨rfl, rfl⟩ := q4
          refine rw_ifeq (pc := 166) dM_askedLease_166 (tgt := 201) rfl (fun c5 => ?_) (fun c5 => ?_)
          · skip
            refine rw_iinc (pc := 201) (x := nI d) (y := nI (d + 1)) (L' := [some (.inr (some 62)), some (.inl (nI c)), some (.inl (nI f)), some (.inl x), some (.inl m), some (.inl (m_bi cl)), some (.inl (m_bi (m_alT h c f cl))), some (.inl (nI (d + 1)))]) dM_askedLease_201 (by decide) rfl (nI_add _ 1) rfl ?_
            refine rw_goto (pc := 204) dM_askedLease_204 (tgt := 147) rfl ?_
            replace c5 := (m_bi0 _).mp c5
            have eB : m_cfB g c f m d = false := by simp [m_cfB, c3, c5]
            refine ih (d + 1) _ (by omega) hi ?_
            rw [← he]
            simp [m_rc, eB]
          · skip
            refine rw_iload (pc := 169) dM_askedLease_169 rfl ?_
            refine rw_iconst (pc := 171) (x := nI 2) dM_askedLease_171 (by decide) ?_
            refine rw_icmpeq (pc := 172) dM_askedLease_172 (tgt := 190) rfl (fun c6 => ?_) (fun c6 => ?_)
            · skip
              refine rw_aload_n (pc := 190) dM_askedLease_190 rfl ?_
              refine rw_bipush (pc := 191) (x := nI 8) dM_askedLease_191 (by decide) ?_
              refine rw_iload (pc := 193) dM_askedLease_193 rfl ?_
              refine rw_iload_n (pc := 195) dM_askedLease_195 rfl ?_
              refine rw_iconst (pc := 196) (x := nI 0) dM_askedLease_196 (by decide) ?_
              refine rw_vi (pc := 197) (z' := (0, 0, 0)) (rc' := 0) (rs' := 0) (av := [.inl (nI 8), .inl (nI d), .inl (nI f), .inl (nI 0)]) (st := []) (ci := 10) mlM_148 miM_room rfl mvM_room_M dM_askedLease_197 (mo_o62 hm) (mo_S62 hm) (cM_room G _ hm hu h60 _ _ _ _) rfl rfl (Nat.le_of_ble_eq_true rfl) (by decide) rfl rfl (fun r7 h7 q7 => ?_)
              obtain ⟨rfl, rfl⟩ := q7
              refine rw_pop (pc := 200) dM_askedLease_200 ?_
              refine rw_iinc (pc := 201) (x := nI d) (y := nI (d + 1)) (L' := [some (.inr (some 62)), some (.inl (nI c)), some (.inl (nI f)), some (.inl x), some (.inl m), some (.inl (m_bi cl)), some (.inl (m_bi (m_alT h c f cl))), some (.inl (nI (d + 1)))]) dM_askedLease_201 (by decide) rfl (nI_add _ 1) rfl ?_
              refine rw_goto (pc := 204) dM_askedLease_204 (tgt := 147) rfl ?_
              replace c5 := m_bi1 c5
              have eB : m_cfB g c f m d = true := by simp [m_cfB, c3, c5, c6]
              refine ih (d + 1) _ (by omega) (mI_room2 hi).1 ?_
              rw [← he]
              simp [m_rc, eB]
            · skip
              refine rw_aload_n (pc := 175) dM_askedLease_175 rfl ?_
              refine rw_getR (pc := 176) (x := some 66) flM_20_M dM_askedLease_176 (mo_o62 hm) (mo_S62 hm) (mo_R66 hm) ?_
              refine rw_iconst (pc := 179) (x := nI 4) dM_askedLease_179 (by decide) ?_
              refine rw_iload (pc := 180) dM_askedLease_180 rfl ?_
              refine rw_imul (pc := 182) (v := nI (4 * d)) dM_askedLease_182 (pk_mul _ _) ?_
              refine rw_iload_n (pc := 183) dM_askedLease_183 rfl ?_
              refine rw_iadd (pc := 184) (v := nI (4 * d + f)) dM_askedLease_184 (nI_add _ _) ?_
              refine rw_iald (pc := 185) (v := hp_I g 66 (4 * d + f)) (i := (4 * d + f)) dM_askedLease_185 (mo_o66 hm) (mo_S66 hm) (ix_nI (by omega) (by decide)) rfl ?_
              refine rw_iconst (pc := 186) (x := nI 2) dM_askedLease_186 (by decide) ?_
              refine rw_icmpne (pc := 187) dM_askedLease_187 (tgt := 201) rfl (fun c8 => ?_) (fun c8 => ?_)
              · skip
                refine rw_iinc (pc := 201) (x := nI d) (y := nI (d + 1)) (L' := [some (.inr (some 62)), some (.inl (nI c)), some (.inl (nI f)), some (.inl x), some (.inl m), some (.inl (m_bi cl)), some (.inl (m_bi (m_alT h c f cl))), some (.inl (nI (d + 1)))]) dM_askedLease_201 (by decide) rfl (nI_add _ 1) rfl ?_
                refine rw_goto (pc := 204) dM_askedLease_204 (tgt := 147) rfl ?_
                replace c5 := m_bi1 c5
                have eB : m_cfB g c f m d = false := by simp [m_cfB, c3, c5, c6, c8]
                refine ih (d + 1) _ (by omega) hi ?_
                rw [← he]
                simp [m_rc, eB]
              · skip
                refine rw_aload_n (pc := 190) dM_askedLease_190 rfl ?_
                refine rw_bipush (pc := 191) (x := nI 8) dM_askedLease_191 (by decide) ?_
                refine rw_iload (pc := 193) dM_askedLease_193 rfl ?_
                refine rw_iload_n (pc := 195) dM_askedLease_195 rfl ?_
                refine rw_iconst (pc := 196) (x := nI 0) dM_askedLease_196 (by decide) ?_
                refine rw_vi (pc := 197) (z' := (0, 0, 0)) (rc' := 0) (rs' := 0) (av := [.inl (nI 8), .inl (nI d), .inl (nI f), .inl (nI 0)]) (st := []) (ci := 10) mlM_148 miM_room rfl mvM_room_M dM_askedLease_197 (mo_o62 hm) (mo_S62 hm) (cM_room G _ hm hu h60 _ _ _ _) rfl rfl (Nat.le_of_ble_eq_true rfl) (by decide) rfl rfl (fun r9 h9 q9 => ?_)
                obtain ⟨rfl, rfl⟩ := q9
                refine rw_pop (pc := 200) dM_askedLease_200 ?_
                refine rw_iinc (pc := 201) (x := nI d) (y := nI (d + 1)) (L' := [some (.inr (some 62)), some (.inl (nI c)), some (.inl (nI f)), some (.inl x), some (.inl m), some (.inl (m_bi cl)), some (.inl (m_bi (m_alT h c f cl))), some (.inl (nI (d + 1)))]) dM_askedLease_201 (by decide) rfl (nI_add _ 1) rfl ?_
                refine rw_goto (pc := 204) dM_askedLease_204 (tgt := 147) rfl ?_
                replace c5 := m_bi1 c5
                have eB : m_cfB g c f m d = true := by simp [m_cfB, c3, c5, c6, c8]
                refine ih (d + 1) _ (by omega) (mI_room2 hi).1 ?_
                rw [← he]
                simp [m_rc, eB]
  have wait : (m_hs h c f && m_otN h c (nI f) 3) = false → (!(m_cfN h c f m 3) && m_alT h c f cl) = false → rn_W G xM_askedLease (4, 0, 0) 0 0 102 [some (.inr (some 62)), some (.inl (nI c)), some (.inl (nI f)), some (.inl x), some (.inl m), some (.inl (m_bi cl)), some (.inl (m_bi (m_alT h c f cl))), none] [] h (rn_v (fun h' => m_al h (m_u h) c f x m cl = h')) := by
    intro e1 e2
    obtain ⟨ar, ha0⟩ : ∃ t, hp_I h 62 17 = t := ⟨_, rfl⟩
    have ha := ha0
    refine rw_aload_n (pc := 102) dM_askedLease_102 rfl ?_
    refine rw_getR (pc := 103) (x := some 74) flM_44_M dM_askedLease_103 (mo_o62 hm) (mo_S62 hm) (mo_R74 hm) ?_
    refine rw_iload_n (pc := 106) dM_askedLease_106 rfl ?_
    refine rw_iload_n (pc := 107) dM_askedLease_107 rfl ?_
    refine rw_iast (pc := 108) (i := c) dM_askedLease_108 (mo_o74 hm) (mo_S74 hm) (ix_nI (by omega) (by decide)) ?_
    replace hm := mo_sI (a := 74) (k := c) (v := nI f) hm
    replace hu := hI_sI (a := 74) (k := c) (v := nI f) (by decide) hu
    replace ha := hI_sI (a := 74) (k := c) (v := nI f) (by decide) ha
    refine rw_aload_n (pc := 109) dM_askedLease_109 rfl ?_
    refine rw_getR (pc := 110) (x := some 75) flM_47_M dM_askedLease_110 (mo_o62 hm) (mo_S62 hm) (mo_R75 hm) ?_
    refine rw_iload_n (pc := 113) dM_askedLease_113 rfl ?_
    refine rw_iload_n (pc := 114) dM_askedLease_114 rfl ?_
    refine rw_iast (pc := 115) (i := c) dM_askedLease_115 (mo_o75 hm) (mo_S75 hm) (ix_nI (by omega) (by decide)) ?_
    replace hm := mo_sI (a := 75) (k := c) (v := x) hm
    replace hu := hI_sI (a := 75) (k := c) (v := x) (by decide) hu
    replace ha := hI_sI (a := 75) (k := c) (v := x) (by decide) ha
    refine rw_aload_n (pc := 116) dM_askedLease_116 rfl ?_
    refine rw_getR (pc := 117) (x := some 76) flM_50_M dM_askedLease_117 (mo_o62 hm) (mo_S62 hm) (mo_R76 hm) ?_
    refine rw_iload_n (pc := 120) dM_askedLease_120 rfl ?_
    refine rw_iload (pc := 121) dM_askedLease_121 rfl ?_
    refine rw_iast (pc := 123) (i := c) dM_askedLease_123 (mo_o76 hm) (mo_S76 hm) (ix_nI (by omega) (by decide)) ?_
    replace hm := mo_sI (a := 76) (k := c) (v := m) hm
    replace hu := hI_sI (a := 76) (k := c) (v := m) (by decide) hu
    replace ha := hI_sI (a := 76) (k := c) (v := m) (by decide) ha
    refine rw_aload_n (pc := 124) dM_askedLease_124 rfl ?_
    refine rw_getR (pc := 125) (x := some 77) flM_53_M dM_askedLease_125 (mo_o62 hm) (mo_S62 hm) (mo_R77 hm) ?_
    refine rw_iload_n (pc := 128) dM_askedLease_128 rfl ?_
    refine rw_aload_n (pc := 129) dM_askedLease_129 rfl ?_
    refine rw_getI (pc := 130) (x := ar) flM_199_M dM_askedLease_130 (mo_o62 hm) (mo_S62 hm) ha ?_
    refine rw_iast (pc := 133) (i := c) dM_askedLease_133 (mo_o77 hm) (mo_S77 hm) (ix_nI (by omega) (by decide)) ?_
    replace hm := mo_sI (a := 77) (k := c) (v := ar) hm
    replace hu := hI_sI (a := 77) (k := c) (v := ar) (by decide) hu
    replace ha := hI_sI (a := 77) (k := c) (v := ar) (by decide) ha
    refine rw_aload_n (pc := 134) dM_askedLease_134 rfl ?_
    refine rw_dup (pc := 135) dM_askedLease_135 ?_
    refine rw_getI (pc := 136) (x := ar) flM_199_M dM_askedLease_136 (mo_o62 hm) (mo_S62 hm) ha ?_
    refine rw_iconst (pc := 139) (x := nI 1) dM_askedLease_139 (by decide) ?_
    refine rw_iadd (pc := 140) (v := ar + (nI 1)) dM_askedLease_140 rfl ?_
    refine rw_putI (pc := 141) pfM_199_M dM_askedLease_141 (mo_o62 hm) (mo_S62 hm) ?_
    replace hm := mo_sI (a := 62) (k := 17) (v := ar + (nI 1)) hm
    replace hu := hI_sI2 (a := 62) (k := 17) (v := ar + (nI 1)) (by decide) hu
    have e10 : hp_I (hp_sI (hp_sI (hp_sI (hp_sI (hp_sI h 74 c (nI f)) 75 c x) 76 c m) 77 c ar) 62 17 (ar + (nI 1))) 62 17 = ar + (nI 1) := hI_set
    refine rw_iconst (pc := 144) (x := nI 0) dM_askedLease_144 (by decide) ?_
    refine rw_istore (pc := 145) (L' := [some (.inr (some 62)), some (.inl (nI c)), some (.inl (nI f)), some (.inl x), some (.inl m), some (.inl (m_bi cl)), some (.inl (m_bi (m_alT h c f cl))), some (.inl (nI 0))]) dM_askedLease_145 (by decide) rfl ?_
    refine loop 3 0 _ rfl ?_ ?_
    · have hz := (mI_wtH hi (c := c) (f := f) (x := x) (m := m)).1
      unfold m_wtH at hz
      rw [ha0] at hz
      exact hz
    · unfold m_al m_wtH
      rw [e1, e2, ha0]
      simp
  have turn : (m_hs h c f && m_otN h c (nI f) 3) = false → ∀ v : Int32, v = m_bi (m_alT h c f cl) → rn_W G xM_askedLease (4, 0, 0) 0 0 62 [some (.inr (some 62)), some (.inl (nI c)), some (.inl (nI f)), some (.inl x), some (.inl m), some (.inl (m_bi cl)), none, none] [.inl v] h (rn_v (fun h' => m_al h (m_u h) c f x m cl = h')) := by
    intro e1 v hv
    subst hv
    refine rw_istore (pc := 62) (L' := [some (.inr (some 62)), some (.inl (nI c)), some (.inl (nI f)), some (.inl x), some (.inl m), some (.inl (m_bi cl)), some (.inl (m_bi (m_alT h c f cl))), none]) dM_askedLease_62 (by decide) rfl ?_
    refine rw_aload_n (pc := 64) dM_askedLease_64 rfl ?_
    refine rw_iload_n (pc := 65) dM_askedLease_65 rfl ?_
    refine rw_iload_n (pc := 66) dM_askedLease_66 rfl ?_
    refine rw_iload (pc := 67) dM_askedLease_67 rfl ?_
    refine rw_vi (pc := 69) (z' := (1, 0, 0)) (rc' := 0) (rs' := 0) (av := [.inl (nI c), .inl (nI f), .inl m]) (st := []) (ci := 10) mlM_193 miM_conflicts rfl mvM_conflicts_M dM_askedLease_69 (mo_o62 hm) (mo_S62 hm) (cM_conflicts G _ hm (by omega) (by omega) _) rfl rfl (Nat.le_of_ble_eq_true rfl) (by decide) rfl rfl (fun r11 h11 q11 => ?_)
    obtain ⟨rfl, rfl⟩ := q11
    refine rw_ifne (pc := 72) dM_askedLease_72 (tgt := 102) rfl (fun c12 => ?_) (fun c12 => ?_)
    · skip
      replace c12 := m_bi1 c12
      exact wait e1 (by simp [c12])
    · skip
      refine rw_iload (pc := 75) dM_askedLease_75 rfl ?_
      refine rw_ifeq (pc := 77) dM_askedLease_77 (tgt := 102) rfl (fun c13 => ?_) (fun c13 => ?_)
      · skip
        replace c12 := (m_bi0 _).mp c12
        replace c13 := (m_bi0 _).mp c13
        exact wait e1 (by simp [c12, c13])
      · skip
        refine rw_aload_n (pc := 80) dM_askedLease_80 rfl ?_
        refine rw_iload_n (pc := 81) dM_askedLease_81 rfl ?_
        refine rw_iload_n (pc := 82) dM_askedLease_82 rfl ?_
        refine rw_iload_n (pc := 83) dM_askedLease_83 rfl ?_
        refine rw_iload (pc := 84) dM_askedLease_84 rfl ?_
        refine rw_aload_n (pc := 86) dM_askedLease_86 rfl ?_
        refine rw_getI (pc := 87) (x := hp_I h 62 6) flM_190_M dM_askedLease_87 (mo_o62 hm) (mo_S62 hm) rfl ?_
        refine rw_ifle (pc := 90) dM_askedLease_90 (tgt := 97) rfl (fun c14 => ?_) (fun c14 => ?_)
        · skip
          refine rw_iconst (pc := 97) (x := nI 0) dM_askedLease_97 (by decide) ?_
          refine rw_vv (pc := 98) (z' := (3, 0, 0)) (rc' := 0) (rs' := 0) (av := [.inl (nI c), .inl (nI f), .inl x, .inl m, .inl (nI 0)]) (st := []) (ci := 10) mlM_196 miM_grant rfl mvM_grant_M dM_askedLease_98 (mo_o62 hm) (mo_S62 hm) (cM_grant G _ hm hb hu h60 hc hf _ _ false) rfl rfl (Nat.le_of_ble_eq_true rfl) (by decide) rfl rfl (fun h15 q15 => ?_)
          obtain rfl := q15
          replace c12 := (m_bi0 _).mp c12
          replace c13 := m_bi1 c13
          refine rw_vret (pc := 101) dM_askedLease_101 rfl ⟨rfl, ?_⟩
          unfold m_al
          simp [e1, c12, c13, c14, m_bi]
        · skip
          refine rw_iconst (pc := 93) (x := nI 1) dM_askedLease_93 (by decide) ?_
          refine rw_goto (pc := 94) dM_askedLease_94 (tgt := 98) rfl ?_
          refine rw_vv (pc := 98) (z' := (3, 0, 0)) (rc' := 0) (rs' := 0) (av := [.inl (nI c), .inl (nI f), .inl x, .inl m, .inl (nI 1)]) (st := []) (ci := 10) mlM_196 miM_grant rfl mvM_grant_M dM_askedLease_98 (mo_o62 hm) (mo_S62 hm) (cM_grant G _ hm hb hu h60 hc hf _ _ true) rfl rfl (Nat.le_of_ble_eq_true rfl) (by decide) rfl rfl (fun h16 q16 => ?_)
          obtain rfl := q16
          replace c12 := (m_bi0 _).mp c12
          replace c13 := m_bi1 c13
          refine rw_vret (pc := 101) dM_askedLease_101 rfl ⟨rfl, ?_⟩
          unfold m_al
          simp [e1, c12, c13, c14, m_bi]
  have step27 : (m_hs h c f && m_otN h c (nI f) 3) = false → rn_W G xM_askedLease (4, 0, 0) 0 0 27 [some (.inr (some 62)), some (.inl (nI c)), some (.inl (nI f)), some (.inl x), some (.inl m), some (.inl (m_bi cl)), none, none] [] h (rn_v (fun h' => m_al h (m_u h) c f x m cl = h')) := by
    intro e1
    refine rw_aload_n (pc := 27) dM_askedLease_27 rfl ?_
    refine rw_getI (pc := 28) (x := hp_I h 62 6) flM_190_M dM_askedLease_28 (mo_o62 hm) (mo_S62 hm) rfl ?_
    refine rw_ifle (pc := 31) dM_askedLease_31 (tgt := 39) rfl (fun c17 => ?_) (fun c17 => ?_)
    · skip
      refine rw_aload_n (pc := 39) dM_askedLease_39 rfl ?_
      refine rw_iload_n (pc := 40) dM_askedLease_40 rfl ?_
      refine rw_iload_n (pc := 41) dM_askedLease_41 rfl ?_
      refine rw_vi (pc := 42) (z' := (0, 0, 0)) (rc' := 0) (rs' := 0) (av := [.inl (nI c), .inl (nI f)]) (st := []) (ci := 10) mlM_171 miM_has rfl mvM_has_M dM_askedLease_42 (mo_o62 hm) (mo_S62 hm) (cM_has G _ hm (by omega) (by omega)) rfl rfl (Nat.le_of_ble_eq_true rfl) (by decide) rfl rfl (fun r18 h18 q18 => ?_)
      obtain ⟨rfl, rfl⟩ := q18
      refine rw_ifne (pc := 45) dM_askedLease_45 (tgt := 57) rfl (fun c19 => ?_) (fun c19 => ?_)
      · skip
        refine rw_iconst (pc := 57) (x := nI 1) dM_askedLease_57 (by decide) ?_
        refine rw_goto (pc := 58) dM_askedLease_58 (tgt := 62) rfl ?_
        replace c19 := m_bi1 c19
        exact turn e1 _ (by simp [m_alT, c17, c19, m_bi])
      · skip
        refine rw_aload_n (pc := 48) dM_askedLease_48 rfl ?_
        refine rw_iload_n (pc := 49) dM_askedLease_49 rfl ?_
        refine rw_iload_n (pc := 50) dM_askedLease_50 rfl ?_
        refine rw_vi (pc := 51) (z' := (0, 0, 0)) (rc' := 0) (rs' := 0) (av := [.inl (nI c), .inl (nI f)]) (st := []) (ci := 10) mlM_187 miM_others rfl mvM_others_M dM_askedLease_51 (mo_o62 hm) (mo_S62 hm) (cM_others G _ hm (by omega) (by omega)) rfl rfl (Nat.le_of_ble_eq_true rfl) (by decide) rfl rfl (fun r20 h20 q20 => ?_)
        obtain ⟨rfl, rfl⟩ := q20
        refine rw_ifne (pc := 54) dM_askedLease_54 (tgt := 61) rfl (fun c21 => ?_) (fun c21 => ?_)
        · skip
          refine rw_iconst (pc := 61) (x := nI 0) dM_askedLease_61 (by decide) ?_
          replace c19 := (m_bi0 _).mp c19
          replace c21 := m_bi1 c21
          exact turn e1 _ (by simp [m_alT, c17, c19, c21, m_bi])
        · skip
          refine rw_iconst (pc := 57) (x := nI 1) dM_askedLease_57 (by decide) ?_
          refine rw_goto (pc := 58) dM_askedLease_58 (tgt := 62) rfl ?_
          replace c19 := (m_bi0 _).mp c19
          replace c21 := (m_bi0 _).mp c21
          exact turn e1 _ (by simp [m_alT, c17, c19, c21, m_bi])
    · skip
      refine rw_iload (pc := 34) dM_askedLease_34 rfl ?_
      refine rw_goto (pc := 36) dM_askedLease_36 (tgt := 62) rfl ?_
      exact turn e1 _ (by simp [m_alT, c17, m_bi])
  refine rw_aload_n (pc := 0) dM_askedLease_0 rfl ?_
  refine rw_iload_n (pc := 1) dM_askedLease_1 rfl ?_
  refine rw_iload_n (pc := 2) dM_askedLease_2 rfl ?_
  refine rw_vi (pc := 3) (z' := (0, 0, 0)) (rc' := 0) (rs' := 0) (av := [.inl (nI c), .inl (nI f)]) (st := []) (ci := 10) mlM_171 miM_has rfl mvM_has_M dM_askedLease_3 (mo_o62 hm) (mo_S62 hm) (cM_has G _ hm (by omega) (by omega)) rfl rfl (Nat.le_of_ble_eq_true rfl) (by decide) rfl rfl (fun r22 h22 q22 => ?_)
  obtain ⟨rfl, rfl⟩ := q22
  refine rw_ifeq (pc := 6) dM_askedLease_6 (tgt := 27) rfl (fun c23 => ?_) (fun c23 => ?_)
  · skip
    replace c23 := (m_bi0 _).mp c23
    exact step27 (by simp [c23])
  · skip
    refine rw_aload_n (pc := 9) dM_askedLease_9 rfl ?_
    refine rw_iload_n (pc := 10) dM_askedLease_10 rfl ?_
    refine rw_iload_n (pc := 11) dM_askedLease_11 rfl ?_
    refine rw_vi (pc := 12) (z' := (0, 0, 0)) (rc' := 0) (rs' := 0) (av := [.inl (nI c), .inl (nI f)]) (st := []) (ci := 10) mlM_187 miM_others rfl mvM_others_M dM_askedLease_12 (mo_o62 hm) (mo_S62 hm) (cM_others G _ hm (by omega) (by omega)) rfl rfl (Nat.le_of_ble_eq_true rfl) (by decide) rfl rfl (fun r24 h24 q24 => ?_)
    obtain ⟨rfl, rfl⟩ := q24
    refine rw_ifeq (pc := 15) dM_askedLease_15 (tgt := 27) rfl (fun c25 => ?_) (fun c25 => ?_)
    · skip
      replace c23 := m_bi1 c23
      replace c25 := (m_bi0 _).mp c25
      exact step27 (by simp [c23, c25])
    · skip
      refine rw_aload_n (pc := 18) dM_askedLease_18 rfl ?_
      refine rw_iload_n (pc := 19) dM_askedLease_19 rfl ?_
      refine rw_iload_n (pc := 20) dM_askedLease_20 rfl ?_
      refine rw_iconst (pc := 21) (x := nI 5) dM_askedLease_21 (by decide) ?_
      refine rw_iload_n (pc := 22) dM_askedLease_22 rfl ?_
      refine rw_vv (pc := 23) (z' := (2, 0, 0)) (rc' := 0) (rs' := 0) (av := [.inl (nI c), .inl x, .inl (nI 5), .inl (nI f)]) (st := []) (ci := 10) mlM_179 miM_finish rfl mvM_finish_M dM_askedLease_23 (mo_o62 hm) (mo_S62 hm) (cM_finish G _ hm hb hu h60 hc _ _ _) rfl rfl (Nat.le_of_ble_eq_true rfl) (by decide) rfl rfl (fun h26 q26 => ?_)
      obtain rfl := q26
      replace c23 := m_bi1 c23
      replace c25 := m_bi1 c25
      refine rw_vret (pc := 26) dM_askedLease_26 rfl ⟨rfl, ?_⟩
      unfold m_al
      simp [c23, c25]
