def m_u (h : ha_H) : Nat := (hp_I h 62 34).toNatClampNeg
/-- the reference's cells stand, its booleans are such, its count of messages is one -/
def mo_I (h : ha_H) : Prop := mo_ok h ∧ mo_b h ∧ hp_I h 62 34 = nI (m_u h) ∧ m_u h ≤ 60
theorem mI_of {h : ha_H} {u : Nat} (hm : mo_ok h) (hb : mo_b h) (hu : hp_I h 62 34 = nI u) (h60 : u ≤ 60) : mo_I h := by
  have e : m_u h = u := mo_u hu h60
  exact ⟨hm, hb, by rw [e]; exact hu, by rw [e]; exact h60⟩
theorem mI_u {h : ha_H} {u : Nat} (hu : hp_I h 62 34 = nI u) (h60 : u ≤ 60) : m_u h = u := mo_u hu h60
theorem mI_sI {h : ha_H} (hi : mo_I h) {a k : Nat} {v : Int32} (ha : ¬ 62 = a) (hv : a ∈ [63, 72, 81, 82, 90, 99] → v = 0 ∨ v = 1) : mo_I (hp_sI h a k v) ∧ m_u (hp_sI h a k v) = m_u h :=
  have e := hI_sI (k := k) (v := v) ha hi.2.2.1
  ⟨mI_of (mo_sI hi.1) (mb_sI hi.2.1 hv) e hi.2.2.2, mI_u e hi.2.2.2⟩
theorem mI_mv {h : ha_H} (hi : mo_I h) {A i B t : Nat} (ha : ¬ 62 = B) (hv : B ∈ [63, 72, 81, 82, 90, 99] → A ∈ [63, 72, 81, 82, 90, 99]) : mo_I (hp_mv h A i B t) ∧ m_u (hp_mv h A i B t) = m_u h := mI_sI hi ha (fun q => hi.2.1 A (hv q) i)
theorem mI_room {h : ha_H} (hi : mo_I h) (hu : m_u h < 60) {k c f x : Int32} : mo_I (m_roomH h (m_u h) k c f x) ∧ m_u (m_roomH h (m_u h) k c f x) = m_u h + 1 :=
  ⟨mI_of (mo_roomH hi.1) (mb_roomH hi.2.1) mu_roomH hu, mI_u mu_roomH hu⟩
/-- how many messages there are behind one more -/
def m_inc (u : Nat) : Nat := if u = 60 then 60 else u + 1
theorem m_inc_le {u : Nat} (h : u ≤ 60) : m_inc u ≤ 60 := by unfold m_inc; split <;> omega
theorem mI_ans {h : ha_H} (hi : mo_I h) {c : Nat} : mo_I (m_ans h (m_u h) c) ∧ m_u (m_ans h (m_u h) c) = m_inc (m_u h) := by
  unfold m_ans m_inc
  by_cases e : m_u h = 60
  · rw [if_pos e, if_pos e]
    exact ⟨hi, e⟩
  · rw [if_neg e, if_neg e]
    have h60 := hi.2.2.2
    have h1 := mI_room hi (by omega) (k := hp_I h 69 c) (c := nI c) (f := hp_I h 70 c) (x := hp_I h 68 c)
    unfold m_ansT
    have h2 := mI_mv h1.1 (A := 71) (i := c) (B := 98) (t := m_u h) (by decide) (by decide)
    have h3 := mI_mv h2.1 (A := 72) (i := c) (B := 99) (t := m_u h) (by decide) (by decide)
    have h4 := mI_mv h3.1 (A := 73) (i := 4 * c + 0) (B := 102) (t := 4 * m_u h + 0) (by decide) (by decide)
    have h5 := mI_mv h4.1 (A := 73) (i := 4 * c + 1) (B := 102) (t := 4 * m_u h + 1) (by decide) (by decide)
    have h6 := mI_mv h5.1 (A := 73) (i := 4 * c + 2) (B := 102) (t := 4 * m_u h + 2) (by decide) (by decide)
    have h7 := mI_mv h6.1 (A := 73) (i := 4 * c + 3) (B := 102) (t := 4 * m_u h + 3) (by decide) (by decide)
    exact ⟨h7.1, by rw [h7.2, h6.2, h5.2, h4.2, h3.2, h2.2, h1.2]⟩
theorem mI_ask {h : ha_H} (hi : mo_I h) {c : Nat} : mo_I (m_ask h (m_u h) c) ∧ m_u (m_ask h (m_u h) c) = m_inc (m_u h) := by
  unfold m_ask m_inc
  by_cases e : m_u h = 60
  · rw [if_pos e, if_pos e]
    exact ⟨hi, e⟩
  · rw [if_neg e, if_neg e]
    have h60 := hi.2.2.2
    have h1 := mI_room hi (by omega) (k := hp_I h 87 c) (c := nI c) (f := hp_I h 88 c) (x := hp_I h 78 c)
    unfold m_askT
    have h2 := mI_mv h1.1 (A := 89) (i := c) (B := 98) (t := m_u h) (by decide) (by decide)
    have h3 := mI_mv h2.1 (A := 90) (i := c) (B := 99) (t := m_u h) (by decide) (by decide)
    have h4 := mI_mv h3.1 (A := 91) (i := c) (B := 100) (t := m_u h) (by decide) (by decide)
    have h5 := mI_mv h4.1 (A := 92) (i := c) (B := 101) (t := m_u h) (by decide) (by decide)
    exact ⟨h5.1, by rw [h5.2, h4.2, h3.2, h2.2, h1.2]⟩
theorem mI_fin {h : ha_H} (hi : mo_I h) {c : Nat} {x k f : Int32} : mo_I (m_fin h (m_u h) c x k f) ∧ m_u (m_fin h (m_u h) c x k f) = m_inc (m_u h) := by
  have h1 := mI_sI hi (a := 68) (k := c) (v := x) (by decide) (fun q => absurd q (by decide))
  have h2 := mI_sI h1.1 (a := 69) (k := c) (v := k) (by decide) (fun q => absurd q (by decide))
  have h3 := mI_sI h2.1 (a := 70) (k := c) (v := f) (by decide) (fun q => absurd q (by decide))
  have e : m_u (m_finH h c x k f) = m_u h := by rw [show m_u (m_finH h c x k f) = _ from h3.2, h2.2, h1.2]
  have h4 := mI_ans (h := m_finH h c x k f) h3.1 (c := c)
  rw [e] at h4
  exact h4
def m_grH (h : ha_H) (c f : Nat) (m : Int32) (b : Bool) : ha_H := hp_sI (hp_sI (hp_mv (hp_mv (hp_mv (hp_mv (hp_sI (hp_sI h 72 c (m_bi (m_hs h c f || b))) 71 c m) 65 (4 * f + 0) 73 (4 * c + 0)) 65 (4 * f + 1) 73 (4 * c + 1)) 65 (4 * f + 2) 73 (4 * c + 2)) 65 (4 * f + 3) 73 (4 * c + 3)) 66 (4 * c + f) m) 67 (4 * c + f) (hp_I h 64 3 + hp_I h 62 0)
def m_gr (h : ha_H) (u c f : Nat) (x m : Int32) (b : Bool) : ha_H := m_fin (m_grH h c f m b) u c x (nI 4) (nI f)
theorem cM_grant (G : mt_G) (h : ha_H) (hm : mo_ok h) (hb : mo_b h) {u : Nat} (hu : hp_I h 62 34 = nI u) (h60 : u ≤ 60) {c f : Nat} (hc : c < 3) (hf : f < 4) (x m : Int32) (b : Bool) : rn_M G xM_grant (3, 0, 0) [.inr (some 62), .inl (nI c), .inl (nI f), .inl x, .inl m, .inl (m_bi b)] h (rn_v (fun h' => m_gr h u c f x m b = h')) := by
  refine rn_of (by decide +kernel) (Nat.le_of_ble_eq_true rfl) ?_
  show rn_W G xM_grant (3, 0, 0) 0 0 0 [some (.inr (some 62)), some (.inl (nI c)), some (.inl (nI f)), some (.inl x), some (.inl m), some (.inl (m_bi b)), none] [] h _
  obtain ⟨t3, ht0⟩ : ∃ t, hp_I h 64 3 = t := ⟨_, rfl⟩
  obtain ⟨du, hd0⟩ : ∃ t, hp_I h 62 0 = t := ⟨_, rfl⟩
  have ht := ht0
  have hd := hd0
  have join : ∀ (v : Int32), v = m_bi (m_hs h c f || b) → rn_W G xM_grant (3, 0, 0) 0 0 24 [some (.inr (some 62)), some (.inl (nI c)), some (.inl (nI f)), some (.inl x), some (.inl m), some (.inl (m_bi b)), none] [.inl v, .inl (nI c), .inr (some 72)] h (rn_v (fun h' => m_gr h u c f x m b = h')) := by
    intro v hv
    subst hv
    refine rw_zast (pc := 24) (i := c) (m_bi01 _) dM_grant_24 (mo_o72 hm) (mo_S72 hm) (ix_nI (by omega) (by decide)) ?_
    replace hm := mo_sI (a := 72) (k := c) (v := m_bi (m_hs h c f || b)) hm
    replace hu := hI_sI (a := 72) (k := c) (v := m_bi (m_hs h c f || b)) (by decide) hu
    replace ht := hI_sI (a := 72) (k := c) (v := m_bi (m_hs h c f || b)) (by decide) ht
    replace hd := hI_sI (a := 72) (k := c) (v := m_bi (m_hs h c f || b)) (by decide) hd
    replace hb := mb_sI hb (a := 72) (k := c) (v := m_bi (m_hs h c f || b)) (fun _ => m_bi01 _)
    refine rw_aload_n (pc := 25) dM_grant_25 rfl ?_
    refine rw_getR (pc := 26) (x := some 71) flM_35_M dM_grant_26 (mo_o62 hm) (mo_S62 hm) (mo_R71 hm) ?_
    refine rw_iload_n (pc := 29) dM_grant_29 rfl ?_
    refine rw_iload (pc := 30) dM_grant_30 rfl ?_
    refine rw_iast (pc := 32) (i := c) dM_grant_32 (mo_o71 hm) (mo_S71 hm) (ix_nI (by omega) (by decide)) ?_
    replace hm := mo_sI (a := 71) (k := c) (v := m) hm
    replace hu := hI_sI (a := 71) (k := c) (v := m) (by decide) hu
    replace ht := hI_sI (a := 71) (k := c) (v := m) (by decide) ht
    replace hd := hI_sI (a := 71) (k := c) (v := m) (by decide) hd
    replace hb := mb_sI hb (a := 71) (k := c) (v := m) (fun q => absurd q (by decide))
    refine rw_iconst (pc := 33) (x := nI 0) dM_grant_33 (by decide) ?_
    refine rw_istore (pc := 34) (L' := [some (.inr (some 62)), some (.inl (nI c)), some (.inl (nI f)), some (.inl x), some (.inl m), some (.inl (m_bi b)), some (.inl (nI 0))]) dM_grant_34 (by decide) rfl ?_
    refine rw_iload (pc := 36) dM_grant_36 rfl ?_
    refine rw_iconst (pc := 38) (x := nI 4) dM_grant_38 (by decide) ?_
    refine rw_icmpge (pc := 39) dM_grant_39 (tgt := 70) rfl (fun c1 => ?_) (fun c1 => ?_)
    · skip
      replace c1 : 4 ≤ 0 := (nI_leI (a := 4) (b := 0) (by omega) (by omega)).mp c1
      exact absurd c1 (by decide)
    · skip
      replace c1 : ¬ (4 ≤ 0) := fun qz => c1 ((nI_leI (a := 4) (b := 0) (by omega) (by omega)).mpr qz)
      refine rw_aload_n (pc := 42) dM_grant_42 rfl ?_
      refine rw_getR (pc := 43) (x := some 73) flM_41_M dM_grant_43 (mo_o62 hm) (mo_S62 hm) (mo_R73 hm) ?_
      refine rw_iconst (pc := 46) (x := nI 4) dM_grant_46 (by decide) ?_
      refine rw_iload_n (pc := 47) dM_grant_47 rfl ?_
      refine rw_imul (pc := 48) (v := nI (4 * c)) dM_grant_48 (pk_mul _ _) ?_
      refine rw_iload (pc := 49) dM_grant_49 rfl ?_
      refine rw_iadd (pc := 51) (v := nI (4 * c + 0)) dM_grant_51 (nI_add _ _) ?_
      refine rw_aload_n (pc := 52) dM_grant_52 rfl ?_
      refine rw_getR (pc := 53) (x := some 65) flM_17_M dM_grant_53 (mo_o62 hm) (mo_S62 hm) (mo_R65 hm) ?_
      refine rw_iconst (pc := 56) (x := nI 4) dM_grant_56 (by decide) ?_
      refine rw_iload_n (pc := 57) dM_grant_57 rfl ?_
      refine rw_imul (pc := 58) (v := nI (4 * f)) dM_grant_58 (pk_mul _ _) ?_
      refine rw_iload (pc := 59) dM_grant_59 rfl ?_
      refine rw_iadd (pc := 61) (v := nI (4 * f + 0)) dM_grant_61 (nI_add _ _) ?_
      refine rw_iald (pc := 62) (v := hp_I (hp_sI (hp_sI h 72 c (m_bi (m_hs h c f || b))) 71 c m) 65 (4 * f + 0)) (i := (4 * f + 0)) dM_grant_62 (mo_o65 hm) (mo_S65 hm) (ix_nI (by omega) (by decide)) rfl ?_
      refine rw_iast (pc := 63) (i := (4 * c + 0)) dM_grant_63 (mo_o73 hm) (mo_S73 hm) (ix_nI (by omega) (by decide)) ?_
      show rn_W G xM_grant (3, 0, 0) 0 0 64 [some (.inr (some 62)), some (.inl (nI c)), some (.inl (nI f)), some (.inl x), some (.inl m), some (.inl (m_bi b)), some (.inl (nI 0))] [] (hp_mv (hp_sI (hp_sI h 72 c (m_bi (m_hs h c f || b))) 71 c m) 65 (4 * f + 0) 73 (4 * c + 0)) (rn_v (fun h' => m_gr h u c f x m b = h'))
      replace hm := mo_mv (A := 65) (i := (4 * f + 0)) (B := 73) (t := (4 * c + 0)) hm
      replace hu := hI_mv (A := 65) (i := (4 * f + 0)) (B := 73) (t := (4 * c + 0)) (by decide) hu
      replace ht := hI_mv (A := 65) (i := (4 * f + 0)) (B := 73) (t := (4 * c + 0)) (by decide) ht
      replace hd := hI_mv (A := 65) (i := (4 * f + 0)) (B := 73) (t := (4 * c + 0)) (by decide) hd
      replace hb := mb_mv hb (A := 65) (i := (4 * f + 0)) (B := 73) (t := (4 * c + 0)) (by decide)
      refine rw_iinc (pc := 64) (x := nI 0) (y := nI 1) (L' := [some (.inr (some 62)), some (.inl (nI c)), some (.inl (nI f)), some (.inl x), some (.inl m), some (.inl (m_bi b)), some (.inl (nI 1))]) dM_grant_64 (by decide) rfl (by decide) rfl ?_
      refine rw_goto (pc := 67) dM_grant_67 (tgt := 36) rfl ?_
      refine rw_iload (pc := 36) dM_grant_36 rfl ?_
      refine rw_iconst (pc := 38) (x := nI 4) dM_grant_38 (by decide) ?_
      refine rw_icmpge (pc := 39) dM_grant_39 (tgt := 70) rfl (fun c2 => ?_) (fun c2 => ?_)
      · skip
        replace c2 : 4 ≤ 1 := (nI_leI (a := 4) (b := 1) (by omega) (by omega)).mp c2
        exact absurd c2 (by decide)
      · skip
        replace c2 : ¬ (4 ≤ 1) := fun qz => c2 ((nI_leI (a := 4) (b := 1) (by omega) (by omega)).mpr qz)
        refine rw_aload_n (pc := 42) dM_grant_42 rfl ?_
        refine rw_getR (pc := 43) (x := some 73) flM_41_M dM_grant_43 (mo_o62 hm) (mo_S62 hm) (mo_R73 hm) ?_
        refine rw_iconst (pc := 46) (x := nI 4) dM_grant_46 (by decide) ?_
        refine rw_iload_n (pc := 47) dM_grant_47 rfl ?_
        refine rw_imul (pc := 48) (v := nI (4 * c)) dM_grant_48 (pk_mul _ _) ?_
        refine rw_iload (pc := 49) dM_grant_49 rfl ?_
        refine rw_iadd (pc := 51) (v := nI (4 * c + 1)) dM_grant_51 (nI_add _ _) ?_
        refine rw_aload_n (pc := 52) dM_grant_52 rfl ?_
        refine rw_getR (pc := 53) (x := some 65) flM_17_M dM_grant_53 (mo_o62 hm) (mo_S62 hm) (mo_R65 hm) ?_
        refine rw_iconst (pc := 56) (x := nI 4) dM_grant_56 (by decide) ?_
        refine rw_iload_n (pc := 57) dM_grant_57 rfl ?_
        refine rw_imul (pc := 58) (v := nI (4 * f)) dM_grant_58 (pk_mul _ _) ?_
        refine rw_iload (pc := 59) dM_grant_59 rfl ?_
        refine rw_iadd (pc := 61) (v := nI (4 * f + 1)) dM_grant_61 (nI_add _ _) ?_
        refine rw_iald (pc := 62) (v := hp_I (hp_mv (hp_sI (hp_sI h 72 c (m_bi (m_hs h c f || b))) 71 c m) 65 (4 * f + 0) 73 (4 * c + 0)) 65 (4 * f + 1)) (i := (4 * f + 1)) dM_grant_62 (mo_o65 hm) (mo_S65 hm) (ix_nI (by omega) (by decide)) rfl ?_
        refine rw_iast (pc := 63) (i := (4 * c + 1)) dM_grant_63 (mo_o73 hm) (mo_S73 hm) (ix_nI (by omega) (by decide)) ?_
        show rn_W G xM_grant (3, 0, 0) 0 0 64 [some (.inr (some 62)), some (.inl (nI c)), some (.inl (nI f)), some (.inl x), some (.inl m), some (.inl (m_bi b)), some (.inl (nI 1))] [] (hp_mv (hp_mv (hp_sI (hp_sI h 72 c (m_bi (m_hs h c f || b))) 71 c m) 65 (4 * f + 0) 73 (4 * c + 0)) 65 (4 * f + 1) 73 (4 * c + 1)) (rn_v (fun h' => m_gr h u c f x m b = h'))
        replace hm := mo_mv (A := 65) (i := (4 * f + 1)) (B := 73) (t := (4 * c + 1)) hm
        replace hu := hI_mv (A := 65) (i := (4 * f + 1)) (B := 73) (t := (4 * c + 1)) (by decide) hu
        replace ht := hI_mv (A := 65) (i := (4 * f + 1)) (B := 73) (t := (4 * c + 1)) (by decide) ht
        replace hd := hI_mv (A := 65) (i := (4 * f + 1)) (B := 73) (t := (4 * c + 1)) (by decide) hd
        replace hb := mb_mv hb (A := 65) (i := (4 * f + 1)) (B := 73) (t := (4 * c + 1)) (by decide)
        refine rw_iinc (pc := 64) (x := nI 1) (y := nI 2) (L' := [some (.inr (some 62)), some (.inl (nI c)), some (.inl (nI f)), some (.inl x), some (.inl m), some (.inl (m_bi b)), some (.inl (nI 2))]) dM_grant_64 (by decide) rfl (by decide) rfl ?_
        refine rw_goto (pc := 67) dM_grant_67 (tgt := 36) rfl ?_
        refine rw_iload (pc := 36) dM_grant_36 rfl ?_
        refine rw_iconst (pc := 38) (x := nI 4) dM_grant_38 (by decide) ?_
        refine rw_icmpge (pc := 39) dM_grant_39 (tgt := 70) rfl (fun c3 => ?_) (fun c3 => ?_)
        · skip
          replace c3 : 4 ≤ 2 := (nI_leI (a := 4) (b := 2) (by omega) (by omega)).mp c3
          exact absurd c3 (by decide)
        · skip
          replace c3 : ¬ (4 ≤ 2) := fun qz => c3 ((nI_leI (a := 4) (b := 2) (by omega) (by omega)).mpr qz)
          refine rw_aload_n (pc := 42) dM_grant_42 rfl ?_
          refine rw_getR (pc := 43) (x := some 73) flM_41_M dM_grant_43 (mo_o62 hm) (mo_S62 hm) (mo_R73 hm) ?_
          refine rw_iconst (pc := 46) (x := nI 4) dM_grant_46 (by decide) ?_
          refine rw_iload_n (pc := 47) dM_grant_47 rfl ?_
          refine rw_imul (pc := 48) (v := nI (4 * c)) dM_grant_48 (pk_mul _ _) ?_
          refine rw_iload (pc := 49) dM_grant_49 rfl ?_
          refine rw_iadd (pc := 51) (v := nI (4 * c + 2)) dM_grant_51 (nI_add _ _) ?_
          refine rw_aload_n (pc := 52) dM_grant_52 rfl ?_
          refine rw_getR (pc := 53) (x := some 65) flM_17_M dM_grant_53 (mo_o62 hm) (mo_S62 hm) (mo_R65 hm) ?_
          refine rw_iconst (pc := 56) (x := nI 4) dM_grant_56 (by decide) ?_
          refine rw_iload_n (pc := 57) dM_grant_57 rfl ?_
          refine rw_imul (pc := 58) (v := nI (4 * f)) dM_grant_58 (pk_mul _ _) ?_
          refine rw_iload (pc := 59) dM_grant_59 rfl ?_
          refine rw_iadd (pc := 61) (v := nI (4 * f + 2)) dM_grant_61 (nI_add _ _) ?_
          refine rw_iald (pc := 62) (v := hp_I (hp_mv (hp_mv (hp_sI (hp_sI h 72 c (m_bi (m_hs h c f || b))) 71 c m) 65 (4 * f + 0) 73 (4 * c + 0)) 65 (4 * f + 1) 73 (4 * c + 1)) 65 (4 * f + 2)) (i := (4 * f + 2)) dM_grant_62 (mo_o65 hm) (mo_S65 hm) (ix_nI (by omega) (by decide)) rfl ?_
          refine rw_iast (pc := 63) (i := (4 * c + 2)) dM_grant_63 (mo_o73 hm) (mo_S73 hm) (ix_nI (by omega) (by decide)) ?_
          show rn_W G xM_grant (3, 0, 0) 0 0 64 [some (.inr (some 62)), some (.inl (nI c)), some (.inl (nI f)), some (.inl x), some (.inl m), some (.inl (m_bi b)), some (.inl (nI 2))] [] (hp_mv (hp_mv (hp_mv (hp_sI (hp_sI h 72 c (m_bi (m_hs h c f || b))) 71 c m) 65 (4 * f + 0) 73 (4 * c + 0)) 65 (4 * f + 1) 73 (4 * c + 1)) 65 (4 * f + 2) 73 (4 * c + 2)) (rn_v (fun h' => m_gr h u c f x m b = h'))
          replace hm := mo_mv (A := 65) (i := (4 * f + 2)) (B := 73) (t := (4 * c + 2)) hm
          replace hu := hI_mv (A := 65) (i := (4 * f + 2)) (B := 73) (t := (4 * c + 2)) (by decide) hu
          replace ht := hI_mv (A := 65) (i := (4 * f + 2)) (B := 73) (t := (4 * c + 2)) (by decide) ht
          replace hd := hI_mv (A := 65) (i := (4 * f + 2)) (B := 73) (t := (4 * c + 2)) (by decide) hd
          replace hb := mb_mv hb (A := 65) (i := (4 * f + 2)) (B := 73) (t := (4 * c + 2)) (by decide)
          refine rw_iinc (pc := 64) (x := nI 2) (y := nI 3) (L' := [some (.inr (some 62)), some (.inl (nI c)), some (.inl (nI f)), some (.inl x), some (.inl m), some (.inl (m_bi b)), some (.inl (nI 3))]) dM_grant_64 (by decide) rfl (by decide) rfl ?_
          refine rw_goto (pc := 67) dM_grant_67 (tgt := 36) rfl ?_
          refine rw_iload (pc := 36) dM_grant_36 rfl ?_
          refine rw_iconst (pc := 38) (x := nI 4) dM_grant_38 (by decide) ?_
          refine rw_icmpge (pc := 39) dM_grant_39 (tgt := 70) rfl (fun c4 => ?_) (fun c4 => ?_)
          · skip
            replace c4 : 4 ≤ 3 := (nI_leI (a := 4) (b := 3) (by omega) (by omega)).mp c4
            exact absurd c4 (by decide)
          · skip
            replace c4 : ¬ (4 ≤ 3) := fun qz => c4 ((nI_leI (a := 4) (b := 3) (by omega) (by omega)).mpr qz)
            refine rw_aload_n (pc := 42) dM_grant_42 rfl ?_
            refine rw_getR (pc := 43) (x := some 73) flM_41_M dM_grant_43 (mo_o62 hm) (mo_S62 hm) (mo_R73 hm) ?_
            refine rw_iconst (pc := 46) (x := nI 4) dM_grant_46 (by decide) ?_
            refine rw_iload_n (pc := 47) dM_grant_47 rfl ?_
            refine rw_imul (pc := 48) (v := nI (4 * c)) dM_grant_48 (pk_mul _ _) ?_
            refine rw_iload (pc := 49) dM_grant_49 rfl ?_
            refine rw_iadd (pc := 51) (v := nI (4 * c + 3)) dM_grant_51 (nI_add _ _) ?_
            refine rw_aload_n (pc := 52) dM_grant_52 rfl ?_
            refine rw_getR (pc := 53) (x := some 65) flM_17_M dM_grant_53 (mo_o62 hm) (mo_S62 hm) (mo_R65 hm) ?_
            refine rw_iconst (pc := 56) (x := nI 4) dM_grant_56 (by decide) ?_
            refine rw_iload_n (pc := 57) dM_grant_57 rfl ?_
            refine rw_imul (pc := 58) (v := nI (4 * f)) dM_grant_58 (pk_mul _ _) ?_
            refine rw_iload (pc := 59) dM_grant_59 rfl ?_
            refine rw_iadd (pc := 61) (v := nI (4 * f + 3)) dM_grant_61 (nI_add _ _) ?_
            refine rw_iald (pc := 62) (v := hp_I (hp_mv (hp_mv (hp_mv (hp_sI (hp_sI h 72 c (m_bi (m_hs h c f || b))) 71 c m) 65 (4 * f + 0) 73 (4 * c + 0)) 65 (4 * f + 1) 73 (4 * c + 1)) 65 (4 * f + 2) 73 (4 * c + 2)) 65 (4 * f + 3)) (i := (4 * f + 3)) dM_grant_62 (mo_o65 hm) (mo_S65 hm) (ix_nI (by omega) (by decide)) rfl ?_
            refine rw_iast (pc := 63) (i := (4 * c + 3)) dM_grant_63 (mo_o73 hm) (mo_S73 hm) (ix_nI (by omega) (by decide)) ?_
            show rn_W G xM_grant (3, 0, 0) 0 0 64 [some (.inr (some 62)), some (.inl (nI c)), some (.inl (nI f)), some (.inl x), some (.inl m), some (.inl (m_bi b)), some (.inl (nI 3))] [] (hp_mv (hp_mv (hp_mv (hp_mv (hp_sI (hp_sI h 72 c (m_bi (m_hs h c f || b))) 71 c m) 65 (4 * f + 0) 73 (4 * c + 0)) 65 (4 * f + 1) 73 (4 * c + 1)) 65 (4 * f + 2) 73 (4 * c + 2)) 65 (4 * f + 3) 73 (4 * c + 3)) (rn_v (fun h' => m_gr h u c f x m b = h'))
            replace hm := mo_mv (A := 65) (i := (4 * f + 3)) (B := 73) (t := (4 * c + 3)) hm
            replace hu := hI_mv (A := 65) (i := (4 * f + 3)) (B := 73) (t := (4 * c + 3)) (by decide) hu
            replace ht := hI_mv (A := 65) (i := (4 * f + 3)) (B := 73) (t := (4 * c + 3)) (by decide) ht
            replace hd := hI_mv (A := 65) (i := (4 * f + 3)) (B := 73) (t := (4 * c + 3)) (by decide) hd
            replace hb := mb_mv hb (A := 65) (i := (4 * f + 3)) (B := 73) (t := (4 * c + 3)) (by decide)
            refine rw_iinc (pc := 64) (x := nI 3) (y := nI 4) (L' := [some (.inr (some 62)), some (.inl (nI c)), some (.inl (nI f)), some (.inl x), some (.inl m), some (.inl (m_bi b)), some (.inl (nI 4))]) dM_grant_64 (by decide) rfl (by decide) rfl ?_
            refine rw_goto (pc := 67) dM_grant_67 (tgt := 36) rfl ?_
            refine rw_iload (pc := 36) dM_grant_36 rfl ?_
            refine rw_iconst (pc := 38) (x := nI 4) dM_grant_38 (by decide) ?_
            refine rw_icmpge (pc := 39) dM_grant_39 (tgt := 70) rfl (fun c5 => ?_) (fun c5 => ?_)
            · skip
              replace c5 : 4 ≤ 4 := (nI_leI (a := 4) (b := 4) (by omega) (by omega)).mp c5
              refine rw_aload_n (pc := 70) dM_grant_70 rfl ?_
              refine rw_getR (pc := 71) (x := some 66) flM_20_M dM_grant_71 (mo_o62 hm) (mo_S62 hm) (mo_R66 hm) ?_
              refine rw_iconst (pc := 74) (x := nI 4) dM_grant_74 (by decide) ?_
              refine rw_iload_n (pc := 75) dM_grant_75 rfl ?_
              refine rw_imul (pc := 76) (v := nI (4 * c)) dM_grant_76 (pk_mul _ _) ?_
              refine rw_iload_n (pc := 77) dM_grant_77 rfl ?_
              refine rw_iadd (pc := 78) (v := nI (4 * c + f)) dM_grant_78 (nI_add _ _) ?_
              refine rw_iload (pc := 79) dM_grant_79 rfl ?_
              refine rw_iast (pc := 81) (i := (4 * c + f)) dM_grant_81 (mo_o66 hm) (mo_S66 hm) (ix_nI (by omega) (by decide)) ?_
              replace hm := mo_sI (a := 66) (k := (4 * c + f)) (v := m) hm
              replace hu := hI_sI (a := 66) (k := (4 * c + f)) (v := m) (by decide) hu
              replace ht := hI_sI (a := 66) (k := (4 * c + f)) (v := m) (by decide) ht
              replace hd := hI_sI (a := 66) (k := (4 * c + f)) (v := m) (by decide) hd
              replace hb := mb_sI hb (a := 66) (k := (4 * c + f)) (v := m) (fun q => absurd q (by decide))
              refine rw_aload_n (pc := 82) dM_grant_82 rfl ?_
              refine rw_getR (pc := 83) (x := some 67) flM_23_M dM_grant_83 (mo_o62 hm) (mo_S62 hm) (mo_R67 hm) ?_
              refine rw_iconst (pc := 86) (x := nI 4) dM_grant_86 (by decide) ?_
              refine rw_iload_n (pc := 87) dM_grant_87 rfl ?_
              refine rw_imul (pc := 88) (v := nI (4 * c)) dM_grant_88 (pk_mul _ _) ?_
              refine rw_iload_n (pc := 89) dM_grant_89 rfl ?_
              refine rw_iadd (pc := 90) (v := nI (4 * c + f)) dM_grant_90 (nI_add _ _) ?_
              refine rw_aload_n (pc := 91) dM_grant_91 rfl ?_
              refine rw_getR (pc := 92) (x := some 64) flM_13_M dM_grant_92 (mo_o62 hm) (mo_S62 hm) (mo_R64 hm) ?_
              refine rw_iconst (pc := 95) (x := nI 3) dM_grant_95 (by decide) ?_
              refine rw_iald (pc := 96) (v := t3) (i := 3) dM_grant_96 (mo_o64 hm) (mo_S64 hm) (ix_nI (by omega) (by decide)) ht ?_
              refine rw_aload_n (pc := 97) dM_grant_97 rfl ?_
              refine rw_getI (pc := 98) (x := du) flM_131_M dM_grant_98 (mo_o62 hm) (mo_S62 hm) hd ?_
              refine rw_iadd (pc := 101) (v := t3 + du) dM_grant_101 rfl ?_
              refine rw_iast (pc := 102) (i := (4 * c + f)) dM_grant_102 (mo_o67 hm) (mo_S67 hm) (ix_nI (by omega) (by decide)) ?_
              replace hm := mo_sI (a := 67) (k := (4 * c + f)) (v := t3 + du) hm
              replace hu := hI_sI (a := 67) (k := (4 * c + f)) (v := t3 + du) (by decide) hu
              replace ht := hI_sI (a := 67) (k := (4 * c + f)) (v := t3 + du) (by decide) ht
              replace hd := hI_sI (a := 67) (k := (4 * c + f)) (v := t3 + du) (by decide) hd
              replace hb := mb_sI hb (a := 67) (k := (4 * c + f)) (v := t3 + du) (fun q => absurd q (by decide))
              refine rw_aload_n (pc := 103) dM_grant_103 rfl ?_
              refine rw_iload_n (pc := 104) dM_grant_104 rfl ?_
              refine rw_iload_n (pc := 105) dM_grant_105 rfl ?_
              refine rw_iconst (pc := 106) (x := nI 4) dM_grant_106 (by decide) ?_
              refine rw_iload_n (pc := 107) dM_grant_107 rfl ?_
              refine rw_vv (pc := 108) (z' := (2, 0, 0)) (rc' := 0) (rs' := 0) (av := [.inl (nI c), .inl x, .inl (nI 4), .inl (nI f)]) (st := []) (ci := 10) mlM_179 miM_finish rfl mvM_finish_M dM_grant_108 (mo_o62 hm) (mo_S62 hm) (cM_finish G _ hm hb hu h60 hc _ _ _) rfl rfl (Nat.le_of_ble_eq_true rfl) (by decide) rfl rfl (fun h6 q6 => ?_)
              obtain rfl := q6
              exact rw_vret (pc := 111) dM_grant_111 rfl ⟨rfl, by unfold m_gr m_grH; rw [ht0, hd0]⟩
            · skip
              replace c5 : ¬ (4 ≤ 4) := fun qz => c5 ((nI_leI (a := 4) (b := 4) (by omega) (by omega)).mpr qz)
              exact absurd (by decide) c5
  refine rw_aload_n (pc := 0) dM_grant_0 rfl ?_
  refine rw_getR (pc := 1) (x := some 72) flM_38_M dM_grant_1 (mo_o62 hm) (mo_S62 hm) (mo_R72 hm) ?_
  refine rw_iload_n (pc := 4) dM_grant_4 rfl ?_
  refine rw_aload_n (pc := 5) dM_grant_5 rfl ?_
  refine rw_iload_n (pc := 6) dM_grant_6 rfl ?_
  refine rw_iload_n (pc := 7) dM_grant_7 rfl ?_
  refine rw_vi (pc := 8) (z' := (0, 0, 0)) (rc' := 0) (rs' := 0) (av := [.inl (nI c), .inl (nI f)]) (st := [.inl (nI c), .inr (some 72)]) (ci := 10) mlM_171 miM_has rfl mvM_has_M dM_grant_8 (mo_o62 hm) (mo_S62 hm) (cM_has G _ hm (by omega) (by omega)) rfl rfl (Nat.le_of_ble_eq_true rfl) (by decide) rfl rfl (fun r7 h7 q7 => ?_)
  obtain ⟨rfl, rfl⟩ := q7
  refine rw_ifne (pc := 11) dM_grant_11 (tgt := 19) rfl (fun c8 => ?_) (fun c8 => ?_)
  · skip
    refine rw_iconst (pc := 19) (x := nI 1) dM_grant_19 (by decide) ?_
    refine rw_goto (pc := 20) dM_grant_20 (tgt := 24) rfl ?_
    exact join _ (by simp_all [m_bi0, m_biT, m_biF])
  · skip
    refine rw_iload (pc := 14) dM_grant_14 rfl ?_
    refine rw_ifeq (pc := 16) dM_grant_16 (tgt := 23) rfl (fun c9 => ?_) (fun c9 => ?_)
    · skip
      refine rw_iconst (pc := 23) (x := nI 0) dM_grant_23 (by decide) ?_
      exact join _ (by simp_all [m_bi0, m_biT, m_biF])
    · skip
      refine rw_iconst (pc := 19) (x := nI 1) dM_grant_19 (by decide) ?_
      refine rw_goto (pc := 20) dM_grant_20 (tgt := 24) rfl ?_
      exact join _ (by simp_all [m_bi0, m_biT, m_biF])
