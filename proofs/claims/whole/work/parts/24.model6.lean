theorem m_bi1 {b : Bool} (h : ¬ m_bi b = 0) : b = true := by cases b with
  | true => rfl
  | false => exact absurd rfl h
theorem mI_grH {h : ha_H} (hi : mo_I h) {c f : Nat} {m : Int32} {b : Bool} : mo_I (m_grH h c f m b) ∧ m_u (m_grH h c f m b) = m_u h := by
  have h1 := mI_sI hi (a := 72) (k := c) (v := m_bi (m_hs h c f || b)) (by decide) (fun _ => m_bi01 _)
  have h2 := mI_sI h1.1 (a := 71) (k := c) (v := m) (by decide) (fun q => absurd q (by decide))
  have h3 := mI_mv h2.1 (A := 65) (i := 4 * f + 0) (B := 73) (t := 4 * c + 0) (by decide) (by decide)
  have h4 := mI_mv h3.1 (A := 65) (i := 4 * f + 1) (B := 73) (t := 4 * c + 1) (by decide) (by decide)
  have h5 := mI_mv h4.1 (A := 65) (i := 4 * f + 2) (B := 73) (t := 4 * c + 2) (by decide) (by decide)
  have h6 := mI_mv h5.1 (A := 65) (i := 4 * f + 3) (B := 73) (t := 4 * c + 3) (by decide) (by decide)
  have h7 := mI_sI h6.1 (a := 66) (k := 4 * c + f) (v := m) (by decide) (fun q => absurd q (by decide))
  have h8 := mI_sI h7.1 (a := 67) (k := 4 * c + f) (v := hp_I h 64 3 + hp_I h 62 0) (by decide) (fun q => absurd q (by decide))
  exact ⟨h8.1, by rw [show m_u (m_grH h c f m b) = _ from h8.2, h7.2, h6.2, h5.2, h4.2, h3.2, h2.2, h1.2]⟩
theorem mI_gr {h : ha_H} (hi : mo_I h) {c f : Nat} {x m : Int32} {b : Bool} : mo_I (m_gr h (m_u h) c f x m b) ∧ m_u (m_gr h (m_u h) c f x m b) = m_inc (m_u h) := by
  have h1 := mI_grH hi (c := c) (f := f) (m := m) (b := b)
  have h2 := mI_fin h1.1 (c := c) (x := x) (k := nI 4) (f := nI f)
  rw [h1.2] at h2
  exact h2
def m_oi : Option Nat → Int32
  | none => -1
  | some c => nI c
def m_fs (h : ha_H) (f : Int32) : Nat → Option Nat
  | 0 => none
  | d + 1 => match m_fs h f d with
    | none => if hp_I h 74 d = f then some d else none
    | some b => if hp_I h 74 d = f then (if hp_I h 77 b ≤ hp_I h 77 d then some b else some d) else some b
theorem m_fs_lt {h : ha_H} {f : Int32} : ∀ (d b : Nat), m_fs h f d = some b → b < d ∧ hp_I h 74 b = f
  | 0, b, e => by cases e
  | d + 1, b, e => by
    unfold m_fs at e
    cases ho : m_fs h f d with
    | none =>
      rw [ho] at e
      by_cases c : hp_I h 74 d = f
      · simp [c] at e
        subst e
        exact ⟨by omega, c⟩
      · simp [c] at e
    | some b0 =>
      rw [ho] at e
      have ih := m_fs_lt d b0 ho
      by_cases c : hp_I h 74 d = f
      · by_cases c2 : hp_I h 77 b0 ≤ hp_I h 77 d
        · simp [c, c2] at e
          subst e
          exact ⟨by omega, ih.2⟩
        · simp [c, c2] at e
          subst e
          exact ⟨by omega, c⟩
      · simp [c] at e
        subst e
        exact ⟨by omega, ih.2⟩
theorem cM_first (G : mt_G) (h : ha_H) (hm : mo_ok h) {f : Nat} (hf : f < 4) : rn_M G xM_first (0, 0, 0) [.inr (some 62), .inl (nI f)] h (rn_i (fun r h' => r = m_oi (m_fs h (nI f) 3) ∧ h = h')) := by
  refine rn_of (by decide +kernel) (Nat.le_of_ble_eq_true rfl) ?_
  show rn_W G xM_first (0, 0, 0) 0 0 0 [some (.inr (some 62)), some (.inl (nI f)), none, none] [] h _
  refine rw_iconst (pc := 0) (x := (-1)) dM_first_0 (by decide) ?_
  refine rw_istore_n (pc := 1) (L' := [some (.inr (some 62)), some (.inl (nI f)), some (.inl (-1)), none]) dM_first_1 (by decide) rfl ?_
  refine rw_iconst (pc := 2) (x := nI 0) dM_first_2 (by decide) ?_
  refine rw_istore_n (pc := 3) (L' := [some (.inr (some 62)), some (.inl (nI f)), some (.inl (-1)), some (.inl (nI 0))]) dM_first_3 (by decide) rfl ?_
  have loop : ∀ (n d : Nat), d + n = 3 → rn_W G xM_first (0, 0, 0) 0 0 4 [some (.inr (some 62)), some (.inl (nI f)), some (.inl (m_oi (m_fs h (nI f) d))), some (.inl (nI d))] [] h (rn_i (fun r h' => r = m_oi (m_fs h (nI f) 3) ∧ h = h')) := by
    intro n
    induction n with
    | zero =>
      intro d hd
      refine rw_iload_n (pc := 4) dM_first_4 rfl ?_
      refine rw_iconst (pc := 5) (x := nI 3) dM_first_5 (by decide) ?_
      refine rw_icmpge (pc := 6) dM_first_6 (tgt := 46) rfl (fun c1 => ?_) (fun c1 => ?_)
      · skip
        replace c1 : 3 ≤ d := (nI_leI (a := 3) (b := d) (by omega) (by omega)).mp c1
        refine rw_iload_n (pc := 46) dM_first_46 rfl ?_
        exact rw_iret (pc := 47) dM_first_47 rfl ⟨_, rfl, by rw [show d = 3 by omega], rfl⟩
      · skip
        replace c1 : ¬ (3 ≤ d) := fun qz => c1 ((nI_leI (a := 3) (b := d) (by omega) (by omega)).mpr qz)
        omega
    | succ n ih =>
      intro d hd
      cases ho : m_fs h (nI f) d with
      | none =>
        show rn_W G xM_first (0, 0, 0) 0 0 4 [some (.inr (some 62)), some (.inl (nI f)), some (.inl (-1)), some (.inl (nI d))] [] h (rn_i (fun r h' => r = m_oi (m_fs h (nI f) 3) ∧ h = h'))
        refine rw_iload_n (pc := 4) dM_first_4 rfl ?_
        refine rw_iconst (pc := 5) (x := nI 3) dM_first_5 (by decide) ?_
        refine rw_icmpge (pc := 6) dM_first_6 (tgt := 46) rfl (fun c2 => ?_) (fun c2 => ?_)
        · skip
          replace c2 : 3 ≤ d := (nI_leI (a := 3) (b := d) (by omega) (by omega)).mp c2
          omega
        · skip
          replace c2 : ¬ (3 ≤ d) := fun qz => c2 ((nI_leI (a := 3) (b := d) (by omega) (by omega)).mpr qz)
          refine rw_aload_n (pc := 9) dM_first_9 rfl ?_
          refine rw_getR (pc := 10) (x := some 74) flM_44_M dM_first_10 (mo_o62 hm) (mo_S62 hm) (mo_R74 hm) ?_
          refine rw_iload_n (pc := 13) dM_first_13 rfl ?_
          refine rw_iald (pc := 14) (v := hp_I h 74 d) (i := d) dM_first_14 (mo_o74 hm) (mo_S74 hm) (ix_nI (by omega) (by decide)) rfl ?_
          refine rw_iload_n (pc := 15) dM_first_15 rfl ?_
          refine rw_icmpne (pc := 16) dM_first_16 (tgt := 40) rfl (fun c3 => ?_) (fun c3 => ?_)
          · skip
            refine rw_iinc (pc := 40) (x := nI d) (y := nI (d + 1)) (L' := [some (.inr (some 62)), some (.inl (nI f)), some (.inl (-1)), some (.inl (nI (d + 1)))]) dM_first_40 (by decide) rfl (nI_add _ 1) rfl ?_
            refine rw_goto (pc := 43) dM_first_43 (tgt := 4) rfl ?_
            have e9 : m_fs h (nI f) (d + 1) = none := by simp [m_fs, ho, c3]
            have i9 := ih (d + 1) (by omega)
            rw [e9] at i9
            exact i9
          · skip
            refine rw_iload_n (pc := 19) dM_first_19 rfl ?_
            refine rw_iflt (pc := 20) dM_first_20 (tgt := 38) rfl (fun c4 => ?_) (fun c4 => ?_)
            · skip
              refine rw_iload_n (pc := 38) dM_first_38 rfl ?_
              refine rw_istore_n (pc := 39) (L' := [some (.inr (some 62)), some (.inl (nI f)), some (.inl (nI d)), some (.inl (nI d))]) dM_first_39 (by decide) rfl ?_
              refine rw_iinc (pc := 40) (x := nI d) (y := nI (d + 1)) (L' := [some (.inr (some 62)), some (.inl (nI f)), some (.inl (nI d)), some (.inl (nI (d + 1)))]) dM_first_40 (by decide) rfl (nI_add _ 1) rfl ?_
              refine rw_goto (pc := 43) dM_first_43 (tgt := 4) rfl ?_
              have e9 : m_fs h (nI f) (d + 1) = some d := by simp [m_fs, ho, c3]
              have i9 := ih (d + 1) (by omega)
              rw [e9] at i9
              exact i9
            · skip
              exact absurd (by decide) c4
      | some b =>
        show rn_W G xM_first (0, 0, 0) 0 0 4 [some (.inr (some 62)), some (.inl (nI f)), some (.inl (nI b)), some (.inl (nI d))] [] h (rn_i (fun r h' => r = m_oi (m_fs h (nI f) 3) ∧ h = h'))
        have hb3 := (m_fs_lt d b ho).1
        refine rw_iload_n (pc := 4) dM_first_4 rfl ?_
        refine rw_iconst (pc := 5) (x := nI 3) dM_first_5 (by decide) ?_
        refine rw_icmpge (pc := 6) dM_first_6 (tgt := 46) rfl (fun c5 => ?_) (fun c5 => ?_)
        · skip
          replace c5 : 3 ≤ d := (nI_leI (a := 3) (b := d) (by omega) (by omega)).mp c5
          omega
        · skip
          replace c5 : ¬ (3 ≤ d) := fun qz => c5 ((nI_leI (a := 3) (b := d) (by omega) (by omega)).mpr qz)
          refine rw_aload_n (pc := 9) dM_first_9 rfl ?_
          refine rw_getR (pc := 10) (x := some 74) flM_44_M dM_first_10 (mo_o62 hm) (mo_S62 hm) (mo_R74 hm) ?_
          refine rw_iload_n (pc := 13) dM_first_13 rfl ?_
          refine rw_iald (pc := 14) (v := hp_I h 74 d) (i := d) dM_first_14 (mo_o74 hm) (mo_S74 hm) (ix_nI (by omega) (by decide)) rfl ?_
          refine rw_iload_n (pc := 15) dM_first_15 rfl ?_
          refine rw_icmpne (pc := 16) dM_first_16 (tgt := 40) rfl (fun c6 => ?_) (fun c6 => ?_)
          · skip
            refine rw_iinc (pc := 40) (x := nI d) (y := nI (d + 1)) (L' := [some (.inr (some 62)), some (.inl (nI f)), some (.inl (nI b)), some (.inl (nI (d + 1)))]) dM_first_40 (by decide) rfl (nI_add _ 1) rfl ?_
            refine rw_goto (pc := 43) dM_first_43 (tgt := 4) rfl ?_
            have e9 : m_fs h (nI f) (d + 1) = some b := by simp [m_fs, ho, c6]
            have i9 := ih (d + 1) (by omega)
            rw [e9] at i9
            exact i9
          · skip
            refine rw_iload_n (pc := 19) dM_first_19 rfl ?_
            refine rw_iflt (pc := 20) dM_first_20 (tgt := 38) rfl (fun c7 => ?_) (fun c7 => ?_)
            · skip
              replace c7 : b < 0 := (nI_ltI (a := b) (b := 0) (by omega) (by omega)).mp c7
              omega
            · skip
              replace c7 : ¬ (b < 0) := fun qz => c7 ((nI_ltI (a := b) (b := 0) (by omega) (by omega)).mpr qz)
              refine rw_aload_n (pc := 23) dM_first_23 rfl ?_
              refine rw_getR (pc := 24) (x := some 77) flM_53_M dM_first_24 (mo_o62 hm) (mo_S62 hm) (mo_R77 hm) ?_
              refine rw_iload_n (pc := 27) dM_first_27 rfl ?_
              refine rw_iald (pc := 28) (v := hp_I h 77 d) (i := d) dM_first_28 (mo_o77 hm) (mo_S77 hm) (ix_nI (by omega) (by decide)) rfl ?_
              refine rw_aload_n (pc := 29) dM_first_29 rfl ?_
              refine rw_getR (pc := 30) (x := some 77) flM_53_M dM_first_30 (mo_o62 hm) (mo_S62 hm) (mo_R77 hm) ?_
              refine rw_iload_n (pc := 33) dM_first_33 rfl ?_
              refine rw_iald (pc := 34) (v := hp_I h 77 b) (i := b) dM_first_34 (mo_o77 hm) (mo_S77 hm) (ix_nI (by omega) (by decide)) rfl ?_
              refine rw_icmpge (pc := 35) dM_first_35 (tgt := 40) rfl (fun c8 => ?_) (fun c8 => ?_)
              · skip
                refine rw_iinc (pc := 40) (x := nI d) (y := nI (d + 1)) (L' := [some (.inr (some 62)), some (.inl (nI f)), some (.inl (nI b)), some (.inl (nI (d + 1)))]) dM_first_40 (by decide) rfl (nI_add _ 1) rfl ?_
                refine rw_goto (pc := 43) dM_first_43 (tgt := 4) rfl ?_
                have e9 : m_fs h (nI f) (d + 1) = some b := by simp [m_fs, ho, c6, c8]
                have i9 := ih (d + 1) (by omega)
                rw [e9] at i9
                exact i9
              · skip
                refine rw_iload_n (pc := 38) dM_first_38 rfl ?_
                refine rw_istore_n (pc := 39) (L' := [some (.inr (some 62)), some (.inl (nI f)), some (.inl (nI d)), some (.inl (nI d))]) dM_first_39 (by decide) rfl ?_
                refine rw_iinc (pc := 40) (x := nI d) (y := nI (d + 1)) (L' := [some (.inr (some 62)), some (.inl (nI f)), some (.inl (nI d)), some (.inl (nI (d + 1)))]) dM_first_40 (by decide) rfl (nI_add _ 1) rfl ?_
                refine rw_goto (pc := 43) dM_first_43 (tgt := 4) rfl ?_
                have e9 : m_fs h (nI f) (d + 1) = some d := by simp [m_fs, ho, c6, c8]
                have i9 := ih (d + 1) (by omega)
                rw [e9] at i9
                exact i9
  exact loop 3 0 rfl
def m_gw (h : ha_H) (c f : Nat) : ha_H := m_gr (hp_sI h 74 c (-1)) (m_u h) c f (hp_I (hp_sI h 74 c (-1)) 75 c) (hp_I (hp_sI h 74 c (-1)) 76 c) false
def m_sv : Nat → ha_H → Nat → ha_H
  | 0, h, _ => h
  | n + 1, h, f => match m_fs h (nI f) 3 with
    | none => h
    | some c => if hp_I h 62 6 = 0 then (if m_cfN h c f (hp_I h 76 c) 3 = false then m_sv n (m_gw h c f) f else h) else h
def m_svN : Nat → ha_H → Nat → ha_H
  | 0, h, _ => h
  | n + 1, h, f => m_svN n (m_sv 3 h f) (f + 1)
def m_serve (h : ha_H) : ha_H := m_svN 4 h 0
def m_ct (h : ha_H) (f : Nat) : Nat := (if hp_I h 74 0 = nI f then 1 else 0) + (if hp_I h 74 1 = nI f then 1 else 0) + (if hp_I h 74 2 = nI f then 1 else 0)
theorem m_gr74 {h : ha_H} {u c f j : Nat} {x m : Int32} {b : Bool} : hp_I (m_gr h u c f x m b) 74 j = hp_I h 74 j := by
  unfold m_gr m_fin m_ans
  by_cases e : u = 60
  · rw [if_pos e]
    rfl
  · rw [if_neg e]
    rfl
theorem m_ctF {h : ha_H} {c f : Nat} (hc : c < 3) (hw : hp_I h 74 c = nI f) (hf : f < 4) : m_ct (m_gw h c f) f + 1 ≤ m_ct h f := by
  unfold m_ct m_gw
  rw [m_gr74, m_gr74, m_gr74, hp_I_sI, hp_I_sI, hp_I_sI]
  have hn : ¬ (-1 : Int32) = nI f := by
    intro q
    have h1 := congrArg Int32.toInt q
    rw [nI_toInt (by omega)] at h1
    have h2 : (-1 : Int32).toInt = -1 := by decide
    omega
  rcases (show c = 0 ∨ c = 1 ∨ c = 2 by omega) with rfl | rfl | rfl
  · simp [hw, hn]; omega
  · simp [hw, hn]; omega
  · simp [hw, hn]
theorem m_fs0 {h : ha_H} {f : Nat} (h0 : m_ct h f = 0) : m_fs h (nI f) 3 = none := by
  cases ho : m_fs h (nI f) 3 with
  | none => rfl
  | some c =>
    exfalso
    obtain ⟨h1, h2⟩ := m_fs_lt 3 c ho
    unfold m_ct at h0
    rcases (show c = 0 ∨ c = 1 ∨ c = 2 by omega) with rfl | rfl | rfl <;> simp [h2] at h0
theorem mI_gw {h : ha_H} (hi : mo_I h) {c f : Nat} : mo_I (m_gw h c f) ∧ m_u (m_gw h c f) = m_inc (m_u h) := by
  have h1 := mI_sI hi (a := 74) (k := c) (v := -1) (by decide) (fun q => absurd q (by decide))
  have h2 := mI_gr h1.1 (c := c) (f := f) (x := hp_I (hp_sI h 74 c (-1)) 75 c) (m := hp_I (hp_sI h 74 c (-1)) 76 c) (b := false)
  rw [h1.2] at h2
  exact h2
theorem mI_sv : ∀ (n : Nat) {h : ha_H} (_ : mo_I h) {f : Nat}, mo_I (m_sv n h f)
  | 0, h, hi, f => hi
  | n + 1, h, hi, f => by
    unfold m_sv
    cases m_fs h (nI f) 3 with
    | none => exact hi
    | some c =>
      dsimp only
      by_cases e : hp_I h 62 6 = 0
      · rw [if_pos e]
        by_cases e2 : m_cfN h c f (hp_I h 76 c) 3 = false
        · rw [if_pos e2]
          exact mI_sv n (mI_gw hi).1
        · rw [if_neg e2]
          exact hi
      · rw [if_neg e]
        exact hi
theorem mI_svN : ∀ (n : Nat) {h : ha_H} (_ : mo_I h) {f : Nat}, mo_I (m_svN n h f)
  | 0, h, hi, f => hi
  | n + 1, h, hi, f => mI_svN n (mI_sv 3 hi)
theorem mw_sv (G : mt_G) (post : Option ha_V → ha_H → Prop) {f : Nat} (hf : f < 4) : ∀ (n : Nat) (g : ha_H), mo_I g → m_ct g f ≤ n → (∀ v : Int32, rn_W G xM_serveLines (4, 0, 0) 0 0 74 [some (.inr (some 62)), some (.inl (nI f)), some (.inl v)] [] (m_sv n g f) post) → rn_W G xM_serveLines (4, 0, 0) 0 0 13 [some (.inr (some 62)), some (.inl (nI f)), some (.inl (m_oi (m_fs g (nI f) 3)))] [] g post := by
  intro n
  induction n with
  | zero =>
    intro g hi hc hk
    have hm := hi.1
    have e9 := m_fs0 (h := g) (f := f) (by omega)
    rw [e9]
    show rn_W G xM_serveLines (4, 0, 0) 0 0 13 [some (.inr (some 62)), some (.inl (nI f)), some (.inl (-1))] [] g post
    refine rw_iload_n (pc := 13) dM_serveLines_13 rfl ?_
    refine rw_iflt (pc := 14) dM_serveLines_14 (tgt := 74) rfl (fun c1 => ?_) (fun c1 => ?_)
    · skip
      exact hk _
    · skip
      exact absurd (by decide) c1
  | succ n ih =>
    intro g hi hc hk
    have hm := hi.1
    have hu := hi.2.2.1
    cases ho : m_fs g (nI f) 3 with
    | none =>
      have e8 : m_sv (n + 1) g f = g := by simp [m_sv, ho]
      rw [e8] at hk
      show rn_W G xM_serveLines (4, 0, 0) 0 0 13 [some (.inr (some 62)), some (.inl (nI f)), some (.inl (-1))] [] g post
      refine rw_iload_n (pc := 13) dM_serveLines_13 rfl ?_
      refine rw_iflt (pc := 14) dM_serveLines_14 (tgt := 74) rfl (fun c2 => ?_) (fun c2 => ?_)
      · skip
        exact hk _
      · skip
        exact absurd (by decide) c2
    | some c =>
      obtain ⟨h3, hw⟩ := m_fs_lt 3 c ho
      show rn_W G xM_serveLines (4, 0, 0) 0 0 13 [some (.inr (some 62)), some (.inl (nI f)), some (.inl (nI c))] [] g post
      refine rw_iload_n (pc := 13) dM_serveLines_13 rfl ?_
      refine rw_iflt (pc := 14) dM_serveLines_14 (tgt := 74) rfl (fun c3 => ?_) (fun c3 => ?_)
      · skip
        replace c3 : c < 0 := (nI_ltI (a := c) (b := 0) (by omega) (by omega)).mp c3
        omega
      · skip
        replace c3 : ¬ (c < 0) := fun qz => c3 ((nI_ltI (a := c) (b := 0) (by omega) (by omega)).mpr qz)
        refine rw_aload_n (pc := 17) dM_serveLines_17 rfl ?_
        refine rw_getI (pc := 18) (x := hp_I g 62 6) flM_190_M dM_serveLines_18 (mo_o62 hm) (mo_S62 hm) rfl ?_
        refine rw_ifne (pc := 21) dM_serveLines_21 (tgt := 74) rfl (fun c4 => ?_) (fun c4 => ?_)
        · skip
          have e8 : m_sv (n + 1) g f = g := by simp [m_sv, ho, c4]
          rw [e8] at hk
          exact hk _
        · skip
          refine rw_aload_n (pc := 24) dM_serveLines_24 rfl ?_
          refine rw_iload_n (pc := 25) dM_serveLines_25 rfl ?_
          refine rw_iload_n (pc := 26) dM_serveLines_26 rfl ?_
          refine rw_aload_n (pc := 27) dM_serveLines_27 rfl ?_
          refine rw_getR (pc := 28) (x := some 76) flM_50_M dM_serveLines_28 (mo_o62 hm) (mo_S62 hm) (mo_R76 hm) ?_
          refine rw_iload_n (pc := 31) dM_serveLines_31 rfl ?_
          refine rw_iald (pc := 32) (v := hp_I g 76 c) (i := c) dM_serveLines_32 (mo_o76 hm) (mo_S76 hm) (ix_nI (by omega) (by decide)) rfl ?_
          refine rw_vi (pc := 33) (z' := (1, 0, 0)) (rc' := 0) (rs' := 0) (av := [.inl (nI c), .inl (nI f), .inl (hp_I g 76 c)]) (st := []) (ci := 10) mlM_193 miM_conflicts rfl mvM_conflicts_M dM_serveLines_33 (mo_o62 hm) (mo_S62 hm) (cM_conflicts G _ hm (by omega) (by omega) _) rfl rfl (Nat.le_of_ble_eq_true rfl) (by decide) rfl rfl (fun r5 h5 q5 => ?_)
          obtain ⟨rfl, rfl⟩ := q5
          refine rw_ifne (pc := 36) dM_serveLines_36 (tgt := 74) rfl (fun c6 => ?_) (fun c6 => ?_)
          · skip
            replace c6 := m_bi1 c6
            have e8 : m_sv (n + 1) g f = g := by simp [m_sv, ho, c4, c6]
            rw [e8] at hk
            exact hk _
          · skip
            refine rw_aload_n (pc := 39) dM_serveLines_39 rfl ?_
            refine rw_getR (pc := 40) (x := some 74) flM_44_M dM_serveLines_40 (mo_o62 hm) (mo_S62 hm) (mo_R74 hm) ?_
            refine rw_iload_n (pc := 43) dM_serveLines_43 rfl ?_
            refine rw_iconst (pc := 44) (x := (-1)) dM_serveLines_44 (by decide) ?_
            refine rw_iast (pc := 45) (i := c) dM_serveLines_45 (mo_o74 hm) (mo_S74 hm) (ix_nI (by omega) (by decide)) ?_
            replace hm := mo_sI (a := 74) (k := c) (v := (-1)) hm
            replace hu := hI_sI (a := 74) (k := c) (v := (-1)) (by decide) hu
            refine rw_aload_n (pc := 46) dM_serveLines_46 rfl ?_
            refine rw_iload_n (pc := 47) dM_serveLines_47 rfl ?_
            refine rw_iload_n (pc := 48) dM_serveLines_48 rfl ?_
            refine rw_aload_n (pc := 49) dM_serveLines_49 rfl ?_
            refine rw_getR (pc := 50) (x := some 75) flM_47_M dM_serveLines_50 (mo_o62 hm) (mo_S62 hm) (mo_R75 hm) ?_
            refine rw_iload_n (pc := 53) dM_serveLines_53 rfl ?_
            refine rw_iald (pc := 54) (v := hp_I (hp_sI g 74 c (-1)) 75 c) (i := c) dM_serveLines_54 (mo_o75 hm) (mo_S75 hm) (ix_nI (by omega) (by decide)) rfl ?_
            refine rw_aload_n (pc := 55) dM_serveLines_55 rfl ?_
            refine rw_getR (pc := 56) (x := some 76) flM_50_M dM_serveLines_56 (mo_o62 hm) (mo_S62 hm) (mo_R76 hm) ?_
            refine rw_iload_n (pc := 59) dM_serveLines_59 rfl ?_
            refine rw_iald (pc := 60) (v := hp_I (hp_sI g 74 c (-1)) 76 c) (i := c) dM_serveLines_60 (mo_o76 hm) (mo_S76 hm) (ix_nI (by omega) (by decide)) rfl ?_
            refine rw_iconst (pc := 61) (x := nI 0) dM_serveLines_61 (by decide) ?_
            refine rw_vv (pc := 62) (z' := (3, 0, 0)) (rc' := 0) (rs' := 0) (av := [.inl (nI c), .inl (nI f), .inl (hp_I (hp_sI g 74 c (-1)) 75 c), .inl (hp_I (hp_sI g 74 c (-1)) 76 c), .inl (nI 0)]) (st := []) (ci := 10) mlM_196 miM_grant rfl mvM_grant_M dM_serveLines_62 (mo_o62 hm) (mo_S62 hm) (cM_grant G _ hm (mb_sI hi.2.1 (fun q => absurd q (by decide))) hu hi.2.2.2 (by omega) (by omega) _ _ false) rfl rfl (Nat.le_of_ble_eq_true rfl) (by decide) rfl rfl (fun h7 q7 => ?_)
            obtain rfl := q7
            show rn_W G xM_serveLines (4, 0, 0) 0 0 65 [some (.inr (some 62)), some (.inl (nI f)), some (.inl (nI c))] [] (m_gw g c f) post
            have hi2 := (mI_gw hi (c := c) (f := f)).1
            replace hm := hi2.1
            refine rw_aload_n (pc := 65) dM_serveLines_65 rfl ?_
            refine rw_iload_n (pc := 66) dM_serveLines_66 rfl ?_
            refine rw_vi (pc := 67) (z' := (0, 0, 0)) (rc' := 0) (rs' := 0) (av := [.inl (nI f)]) (st := []) (ci := 10) mlM_202 miM_first rfl mvM_first_M dM_serveLines_67 (mo_o62 hm) (mo_S62 hm) (cM_first G _ hm (by omega)) rfl rfl (Nat.le_of_ble_eq_true rfl) (by decide) rfl rfl (fun r8 h8 q8 => ?_)
            obtain ⟨rfl, rfl⟩ := q8
            refine rw_istore_n (pc := 70) (L' := [some (.inr (some 62)), some (.inl (nI f)), some (.inl (m_oi (m_fs (m_gw g c f) (nI f) 3)))]) dM_serveLines_70 (by decide) rfl ?_
            refine rw_goto (pc := 71) dM_serveLines_71 (tgt := 13) rfl ?_
            replace c6 := (m_bi0 _).mp c6
            have e8 : m_sv (n + 1) g f = m_sv n (m_gw g c f) f := by simp [m_sv, ho, c4, c6]
            rw [e8] at hk
            exact ih _ hi2 (by have := m_ctF h3 hw hf; omega) hk
theorem cM_serveLines (G : mt_G) (h : ha_H) (hi : mo_I h) : rn_M G xM_serveLines (4, 0, 0) [.inr (some 62)] h (rn_v (fun h' => m_serve h = h')) := by
  refine rn_of (by decide +kernel) (Nat.le_of_ble_eq_true rfl) ?_
  show rn_W G xM_serveLines (4, 0, 0) 0 0 0 [some (.inr (some 62)), none, none] [] h _
  refine rw_iconst (pc := 0) (x := nI 0) dM_serveLines_0 (by decide) ?_
  refine rw_istore_n (pc := 1) (L' := [some (.inr (some 62)), some (.inl (nI 0)), none]) dM_serveLines_1 (by decide) rfl ?_
  have loop : ∀ (n f : Nat) (g : ha_H) (l2 : Option ha_V), f + n = 4 → mo_I g → m_svN n g f = m_serve h → rn_W G xM_serveLines (4, 0, 0) 0 0 2 [some (.inr (some 62)), some (.inl (nI f)), l2] [] g (rn_v (fun h' => m_serve h = h')) := by
    intro n
    induction n with
    | zero =>
      intro f g l2 hd hi he
      refine rw_iload_n (pc := 2) dM_serveLines_2 rfl ?_
      refine rw_iconst (pc := 3) (x := nI 4) dM_serveLines_3 (by decide) ?_
      refine rw_icmpge (pc := 4) dM_serveLines_4 (tgt := 80) rfl (fun c1 => ?_) (fun c1 => ?_)
      · exact rw_vret (pc := 80) dM_serveLines_80 rfl ⟨rfl, he.symm⟩
      · exact absurd ((nI_leI (a := 4) (b := f) (by omega) (by omega)).mpr (by omega)) c1
    | succ n ih =>
      intro f g l2 hd hi he
      have hm := hi.1
      refine rw_iload_n (pc := 2) dM_serveLines_2 rfl ?_
      refine rw_iconst (pc := 3) (x := nI 4) dM_serveLines_3 (by decide) ?_
      refine rw_icmpge (pc := 4) dM_serveLines_4 (tgt := 80) rfl (fun c1 => ?_) (fun c1 => ?_)
      · exact absurd ((nI_leI (a := 4) (b := f) (by omega) (by omega)).mp c1) (by omega)
      · skip
        refine rw_aload_n (pc := 7) dM_serveLines_7 rfl ?_
        refine rw_iload_n (pc := 8) dM_serveLines_8 rfl ?_
        refine rw_vi (pc := 9) (z' := (0, 0, 0)) (rc' := 0) (rs' := 0) (av := [.inl (nI f)]) (st := []) (ci := 10) mlM_202 miM_first rfl mvM_first_M dM_serveLines_9 (mo_o62 hm) (mo_S62 hm) (cM_first G _ hm (by omega)) rfl rfl (Nat.le_of_ble_eq_true rfl) (by decide) rfl rfl (fun r2 h2 q2 => ?_)
        obtain ⟨rfl, rfl⟩ := q2
        refine rw_istore_n (pc := 12) (L' := [some (.inr (some 62)), some (.inl (nI f)), some (.inl (m_oi (m_fs g (nI f) 3)))]) dM_serveLines_12 (by decide) rfl ?_
        refine mw_sv G _ (by omega) 3 g hi (by unfold m_ct; split <;> split <;> split <;> omega) (fun v => ?_)
        refine rw_iinc (pc := 74) (x := nI f) (y := nI (f + 1)) (L' := [some (.inr (some 62)), some (.inl (nI (f + 1))), some (.inl v)]) dM_serveLines_74 (by decide) rfl (nI_add _ 1) rfl ?_
        refine rw_goto (pc := 77) dM_serveLines_77 (tgt := 2) rfl ?_
        exact ih (f + 1) _ _ (by omega) (mI_sv 3 hi) he
  exact loop 4 0 h none rfl hi rfl
