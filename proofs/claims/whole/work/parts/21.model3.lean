theorem mb_sI {h : ha_H} (hb : mo_b h) {a k : Nat} {v : Int32} (hv : a ∈ [63, 72, 81, 82, 90, 99] → v = 0 ∨ v = 1) : mo_b (hp_sI h a k v) := by
  intro x hx j
  rw [hp_I_sI]
  by_cases e : x = a ∧ j = k
  · rw [if_pos e]
    exact hv (e.1 ▸ hx)
  · rw [if_neg e]
    exact hb x hx j
theorem mb_mv {h : ha_H} (hb : mo_b h) {A i B t : Nat} (hv : B ∈ [63, 72, 81, 82, 90, 99] → A ∈ [63, 72, 81, 82, 90, 99]) : mo_b (hp_mv h A i B t) := mb_sI hb (fun q => hb A (hv q) i)
theorem mo_roomH {h : ha_H} {u : Nat} {k c f x : Int32} (hm : mo_ok h) : mo_ok (m_roomH h u k c f x) := hm
theorem mu_roomH {h : ha_H} {u : Nat} {k c f x : Int32} : hp_I (m_roomH h u k c f x) 62 34 = nI (u + 1) := hI_set
theorem mb_roomH {h : ha_H} (hb : mo_b h) {u : Nat} {k c f x : Int32} : mo_b (m_roomH h u k c f x) := mb_sI (mb_sI (mb_sI (mb_sI (mb_sI (mb_sI (mb_sI (mb_sI (mb_sI hb (fun q => absurd q (by decide))) (fun q => absurd q (by decide))) (fun q => absurd q (by decide))) (fun q => absurd q (by decide))) (fun q => absurd q (by decide))) (fun _ => Or.inl rfl)) (fun q => absurd q (by decide))) (fun q => absurd q (by decide))) (fun q => absurd q (by decide))
theorem mo_move {h : ha_H} (hm : mo_ok h) {i t : Nat} : mo_ok (m_move h i t) := hm
theorem mb_move {h : ha_H} (hb : mo_b h) {i t : Nat} : mo_b (m_move h i t) := mb_mv (mb_mv (mb_mv (mb_mv (mb_mv (mb_mv (mb_mv (mb_mv (mb_mv (mb_mv (mb_mv (mb_mv hb (by decide)) (by decide)) (by decide)) (by decide)) (by decide)) (by decide)) (by decide)) (by decide)) (by decide)) (by decide)) (by decide)) (by decide)
theorem mu_move {h : ha_H} {i t : Nat} : hp_I (m_move h i t) 62 34 = hp_I h 62 34 := rfl
def m_shift : Nat → ha_H → Nat → ha_H
  | 0, h, _ => h
  | n + 1, h, k => m_shift n (m_move h (k + 1) k) (k + 1)
def m_drop (h : ha_H) (u j : Nat) : ha_H := m_shift (u - 1 - j) (hp_sI h 62 34 (nI (u - 1))) j
def m_dropR (u : Nat) (i : Int32) : Int32 := if mi_in i (nI 0) (nI u - nI 1) = 0 then nI 0 else nI 1
def m_dropH (h : ha_H) (u : Nat) (i : Int32) : ha_H := if mi_in i (nI 0) (nI u - nI 1) = 0 then h else m_drop h u i.toNatClampNeg
theorem cM_drop (G : mt_G) (h : ha_H) (hm : mo_ok h) (hb : mo_b h) {u : Nat} (hu : hp_I h 62 34 = nI u) (h60 : u ≤ 60) (i : Int32) : rn_M G xM_drop (1, 0, 0) [.inr (some 62), .inl i] h (rn_i (fun r h' => r = m_dropR u i ∧ m_dropH h u i = h')) := by
  refine rn_of (by decide +kernel) (Nat.le_of_ble_eq_true rfl) ?_
  show rn_W G xM_drop (1, 0, 0) 0 0 0 [some (.inr (some 62)), some (.inl i), none] [] h _
  refine rw_iload_n (pc := 0) dM_drop_0 rfl ?_
  refine rw_iconst (pc := 1) (x := nI 0) dM_drop_1 (by decide) ?_
  refine rw_aload_n (pc := 2) dM_drop_2 rfl ?_
  refine rw_getI (pc := 3) (x := nI u) flM_135_M dM_drop_3 (mo_o62 hm) (mo_S62 hm) hu ?_
  refine rw_iconst (pc := 6) (x := nI 1) dM_drop_6 (by decide) ?_
  refine rw_isub (pc := 7) (v := nI u - nI 1) dM_drop_7 rfl ?_
  refine rw_si (pc := 8) (z' := (0, 0, 0)) (rc' := 0) (rs' := 0) (av := [.inl i, .inl (nI 0), .inl (nI u - nI 1)]) (st := []) mlM_138 msM_in dM_drop_8 (cM_in G _ _ _ _) rfl rfl (Nat.le_of_ble_eq_true rfl) (by decide) rfl rfl (fun r1 h1 q1 => ?_)
  obtain ⟨rfl, rfl⟩ := q1
  refine rw_ifne (pc := 11) dM_drop_11 (tgt := 16) rfl (fun c2 => ?_) (fun c2 => ?_)
  · skip
    obtain ⟨j, hj, rfl⟩ := mi_idx h60 c2
    have hR : m_dropR u (nI j) = nI 1 := by unfold m_dropR; rw [if_neg c2]
    have hH : m_dropH h u (nI j) = m_drop h u j := by unfold m_dropH; rw [if_neg c2, nI_clamp (by omega)]
    have loop : ∀ (n k : Nat) (g : ha_H), mo_ok g → mo_b g → hp_I g 62 34 = nI (u - 1) → k + n = u - 1 → m_shift n g k = m_dropH h u (nI j) → rn_W G xM_drop (1, 0, 0) 0 0 28 [some (.inr (some 62)), some (.inl (nI j)), some (.inl (nI k))] [] g (rn_i (fun r h' => r = m_dropR u (nI j) ∧ m_dropH h u (nI j) = h')) := by
      intro n
      induction n with
      | zero =>
        intro k g hm hb hu hk hs
        refine rw_iload_n (pc := 28) dM_drop_28 rfl ?_
        refine rw_aload_n (pc := 29) dM_drop_29 rfl ?_
        refine rw_getI (pc := 30) (x := nI (u - 1)) flM_135_M dM_drop_30 (mo_o62 hm) (mo_S62 hm) hu ?_
        refine rw_icmpge (pc := 33) dM_drop_33 (tgt := 50) rfl (fun c3 => ?_) (fun c3 => ?_)
        · skip
          replace c3 : (u - 1) ≤ k := (nI_leI (a := (u - 1)) (b := k) (by omega) (by omega)).mp c3
          refine rw_iconst (pc := 50) (x := nI 1) dM_drop_50 (by decide) ?_
          exact rw_zret (pc := 51) dM_drop_51 rfl (Or.inr rfl) ⟨_, rfl, hR.symm, hs.symm⟩
        · skip
          replace c3 : ¬ ((u - 1) ≤ k) := fun qz => c3 ((nI_leI (a := (u - 1)) (b := k) (by omega) (by omega)).mpr qz)
          omega
      | succ n ih =>
        intro k g hm hb hu hk hs
        refine rw_iload_n (pc := 28) dM_drop_28 rfl ?_
        refine rw_aload_n (pc := 29) dM_drop_29 rfl ?_
        refine rw_getI (pc := 30) (x := nI (u - 1)) flM_135_M dM_drop_30 (mo_o62 hm) (mo_S62 hm) hu ?_
        refine rw_icmpge (pc := 33) dM_drop_33 (tgt := 50) rfl (fun c4 => ?_) (fun c4 => ?_)
        · skip
          replace c4 : (u - 1) ≤ k := (nI_leI (a := (u - 1)) (b := k) (by omega) (by omega)).mp c4
          omega
        · skip
          replace c4 : ¬ ((u - 1) ≤ k) := fun qz => c4 ((nI_leI (a := (u - 1)) (b := k) (by omega) (by omega)).mpr qz)
          refine rw_aload_n (pc := 36) dM_drop_36 rfl ?_
          refine rw_iload_n (pc := 37) dM_drop_37 rfl ?_
          refine rw_iconst (pc := 38) (x := nI 1) dM_drop_38 (by decide) ?_
          refine rw_iadd (pc := 39) (v := nI (k + 1)) dM_drop_39 (nI_add _ _) ?_
          refine rw_iload_n (pc := 40) dM_drop_40 rfl ?_
          refine rw_vv (pc := 41) (z' := (0, 0, 0)) (rc' := 0) (rs' := 0) (av := [.inl (nI (k + 1)), .inl (nI k)]) (st := []) (ci := 10) mlM_144 miM_move rfl mvM_move_M dM_drop_41 (mo_o62 hm) (mo_S62 hm) (cM_move G _ hm hb (by omega) (by omega)) rfl rfl (Nat.le_of_ble_eq_true rfl) (by decide) rfl rfl (fun h5 q5 => ?_)
          obtain rfl := q5
          replace hu := (mu_move (i := k + 1) (t := k)).trans hu
          replace hm := mo_move (i := k + 1) (t := k) hm
          replace hb := mb_move (i := k + 1) (t := k) hb
          refine rw_iinc (pc := 44) (x := nI k) (y := nI (k + 1)) (L' := [some (.inr (some 62)), some (.inl (nI j)), some (.inl (nI (k + 1)))]) dM_drop_44 (by decide) rfl (nI_add _ 1) rfl ?_
          refine rw_goto (pc := 47) dM_drop_47 (tgt := 28) rfl ?_
          exact ih (k + 1) _ hm hb hu (by omega) hs
    refine rw_aload_n (pc := 16) dM_drop_16 rfl ?_
    refine rw_dup (pc := 17) dM_drop_17 ?_
    refine rw_getI (pc := 18) (x := nI u) flM_135_M dM_drop_18 (mo_o62 hm) (mo_S62 hm) hu ?_
    refine rw_iconst (pc := 21) (x := nI 1) dM_drop_21 (by decide) ?_
    refine rw_isub (pc := 22) (v := nI (u - 1)) dM_drop_22 (pk_sub (by omega)) ?_
    refine rw_putI (pc := 23) pfM_135_M dM_drop_23 (mo_o62 hm) (mo_S62 hm) ?_
    replace hm := mo_sI (a := 62) (k := 34) (v := nI (u - 1)) hm
    have e6 : hp_I (hp_sI h 62 34 (nI (u - 1))) 62 34 = nI (u - 1) := hI_set
    refine rw_iload_n (pc := 26) dM_drop_26 rfl ?_
    refine rw_istore_n (pc := 27) (L' := [some (.inr (some 62)), some (.inl (nI j)), some (.inl (nI j))]) dM_drop_27 (by decide) rfl ?_
    exact loop (u - 1 - j) j _ hm (mb_sI hb (fun q => absurd q (by decide))) rfl (by omega) hH.symm
  · skip
    refine rw_iconst (pc := 14) (x := nI 0) dM_drop_14 (by decide) ?_
    exact rw_zret (pc := 15) dM_drop_15 rfl (Or.inl rfl) ⟨_, rfl, by unfold m_dropR; rw [if_pos c2], by unfold m_dropH; rw [if_pos c2]⟩
def m_dupR (u : Nat) (i : Int32) : Int32 := if mi_in i (nI 0) (nI u - nI 1) = 0 then nI 0 else if u = 60 then nI 0 else nI 1
def m_dup (h : ha_H) (u j : Nat) : ha_H := hp_sI (m_move h j u) 62 34 (nI (u + 1))
def m_dupH (h : ha_H) (u : Nat) (i : Int32) : ha_H := if mi_in i (nI 0) (nI u - nI 1) = 0 then h else if u = 60 then h else m_dup h u i.toNatClampNeg
theorem cM_duplicate (G : mt_G) (h : ha_H) (hm : mo_ok h) (hb : mo_b h) {u : Nat} (hu : hp_I h 62 34 = nI u) (h60 : u ≤ 60) (i : Int32) : rn_M G xM_duplicate (1, 0, 0) [.inr (some 62), .inl i] h (rn_i (fun r h' => r = m_dupR u i ∧ m_dupH h u i = h')) := by
  refine rn_of (by decide +kernel) (Nat.le_of_ble_eq_true rfl) ?_
  show rn_W G xM_duplicate (1, 0, 0) 0 0 0 [some (.inr (some 62)), some (.inl i)] [] h _
  refine rw_iload_n (pc := 0) dM_duplicate_0 rfl ?_
  refine rw_iconst (pc := 1) (x := nI 0) dM_duplicate_1 (by decide) ?_
  refine rw_aload_n (pc := 2) dM_duplicate_2 rfl ?_
  refine rw_getI (pc := 3) (x := nI u) flM_135_M dM_duplicate_3 (mo_o62 hm) (mo_S62 hm) hu ?_
  refine rw_iconst (pc := 6) (x := nI 1) dM_duplicate_6 (by decide) ?_
  refine rw_isub (pc := 7) (v := nI u - nI 1) dM_duplicate_7 rfl ?_
  refine rw_si (pc := 8) (z' := (0, 0, 0)) (rc' := 0) (rs' := 0) (av := [.inl i, .inl (nI 0), .inl (nI u - nI 1)]) (st := []) mlM_138 msM_in dM_duplicate_8 (cM_in G _ _ _ _) rfl rfl (Nat.le_of_ble_eq_true rfl) (by decide) rfl rfl (fun r1 h1 q1 => ?_)
  obtain ⟨rfl, rfl⟩ := q1
  refine rw_ifeq (pc := 11) dM_duplicate_11 (tgt := 23) rfl (fun c2 => ?_) (fun c2 => ?_)
  · skip
    refine rw_iconst (pc := 23) (x := nI 0) dM_duplicate_23 (by decide) ?_
    exact rw_zret (pc := 24) dM_duplicate_24 rfl (Or.inl rfl) ⟨_, rfl, by unfold m_dupR; rw [if_pos c2], by unfold m_dupH; rw [if_pos c2]⟩
  · skip
    obtain ⟨j, hj, rfl⟩ := mi_idx h60 c2
    refine rw_aload_n (pc := 14) dM_duplicate_14 rfl ?_
    refine rw_getI (pc := 15) (x := nI u) flM_135_M dM_duplicate_15 (mo_o62 hm) (mo_S62 hm) hu ?_
    refine rw_bipush (pc := 18) (x := nI 60) dM_duplicate_18 (by decide) ?_
    refine rw_icmpne (pc := 20) dM_duplicate_20 (tgt := 25) rfl (fun c3 => ?_) (fun c3 => ?_)
    · skip
      replace c3 : ¬ (u = 60) := fun qz => c3 ((nI_eq (a := u) (b := 60) (by omega) (by omega)).mpr qz)
      refine rw_aload_n (pc := 25) dM_duplicate_25 rfl ?_
      refine rw_iload_n (pc := 26) dM_duplicate_26 rfl ?_
      refine rw_aload_n (pc := 27) dM_duplicate_27 rfl ?_
      refine rw_getI (pc := 28) (x := nI u) flM_135_M dM_duplicate_28 (mo_o62 hm) (mo_S62 hm) hu ?_
      refine rw_vv (pc := 31) (z' := (0, 0, 0)) (rc' := 0) (rs' := 0) (av := [.inl (nI j), .inl (nI u)]) (st := []) (ci := 10) mlM_144 miM_move rfl mvM_move_M dM_duplicate_31 (mo_o62 hm) (mo_S62 hm) (cM_move G _ hm hb (by omega) (by omega)) rfl rfl (Nat.le_of_ble_eq_true rfl) (by decide) rfl rfl (fun h4 q4 => ?_)
      obtain rfl := q4
      replace hu := (mu_move (i := j) (t := u)).trans hu
      replace hm := mo_move (i := j) (t := u) hm
      replace hb := mb_move (i := j) (t := u) hb
      refine rw_aload_n (pc := 34) dM_duplicate_34 rfl ?_
      refine rw_dup (pc := 35) dM_duplicate_35 ?_
      refine rw_getI (pc := 36) (x := nI u) flM_135_M dM_duplicate_36 (mo_o62 hm) (mo_S62 hm) hu ?_
      refine rw_iconst (pc := 39) (x := nI 1) dM_duplicate_39 (by decide) ?_
      refine rw_iadd (pc := 40) (v := nI (u + 1)) dM_duplicate_40 (nI_add _ _) ?_
      refine rw_putI (pc := 41) pfM_135_M dM_duplicate_41 (mo_o62 hm) (mo_S62 hm) ?_
      replace hm := mo_sI (a := 62) (k := 34) (v := nI (u + 1)) hm
      have e5 : hp_I (hp_sI (m_move h j u) 62 34 (nI (u + 1))) 62 34 = nI (u + 1) := hI_set
      refine rw_iconst (pc := 44) (x := nI 1) dM_duplicate_44 (by decide) ?_
      exact rw_zret (pc := 45) dM_duplicate_45 rfl (Or.inr rfl) ⟨_, rfl, by unfold m_dupR; rw [if_neg c2, if_neg c3], by unfold m_dupH; rw [if_neg c2, if_neg c3]; rw [nI_clamp (by omega)]; rfl⟩
    · skip
      replace c3 : u = 60 := (nI_eq (a := u) (b := 60) (by omega) (by omega)).mp c3
      refine rw_iconst (pc := 23) (x := nI 0) dM_duplicate_23 (by decide) ?_
      exact rw_zret (pc := 24) dM_duplicate_24 rfl (Or.inl rfl) ⟨_, rfl, by unfold m_dupR; rw [if_neg c2, if_pos c3], by unfold m_dupH; rw [if_neg c2, if_pos c3]⟩
theorem cM_ask60 (G : mt_G) (h : ha_H) (hm : mo_ok h) (hb : mo_b h) (hu : hp_I h 62 34 = nI 60) {c : Nat} (hc : c < 3) : rn_M G xM_ask (1, 0, 0) [.inr (some 62), .inl (nI c)] h (rn_v (fun h' => h = h')) := by
  refine rn_of (by decide +kernel) (Nat.le_of_ble_eq_true rfl) ?_
  show rn_W G xM_ask (1, 0, 0) 0 0 0 [some (.inr (some 62)), some (.inl (nI c)), none] [] h _
  refine rw_aload_n (pc := 0) dM_ask_0 rfl ?_
  refine rw_aload_n (pc := 1) dM_ask_1 rfl ?_
  refine rw_getR (pc := 2) (x := some 87) flM_83_M dM_ask_2 (mo_o62 hm) (mo_S62 hm) (mo_R87 hm) ?_
  refine rw_iload_n (pc := 5) dM_ask_5 rfl ?_
  refine rw_iald (pc := 6) (v := hp_I h 87 c) (i := c) dM_ask_6 (mo_o87 hm) (mo_S87 hm) (ix_nI (by omega) (by decide)) rfl ?_
  refine rw_iload_n (pc := 7) dM_ask_7 rfl ?_
  refine rw_aload_n (pc := 8) dM_ask_8 rfl ?_
  refine rw_getR (pc := 9) (x := some 88) flM_86_M dM_ask_9 (mo_o62 hm) (mo_S62 hm) (mo_R88 hm) ?_
  refine rw_iload_n (pc := 12) dM_ask_12 rfl ?_
  refine rw_iald (pc := 13) (v := hp_I h 88 c) (i := c) dM_ask_13 (mo_o88 hm) (mo_S88 hm) (ix_nI (by omega) (by decide)) rfl ?_
  refine rw_aload_n (pc := 14) dM_ask_14 rfl ?_
  refine rw_getR (pc := 15) (x := some 78) flM_56_M dM_ask_15 (mo_o62 hm) (mo_S62 hm) (mo_R78 hm) ?_
  refine rw_iload_n (pc := 18) dM_ask_18 rfl ?_
  refine rw_iald (pc := 19) (v := hp_I h 78 c) (i := c) dM_ask_19 (mo_o78 hm) (mo_S78 hm) (ix_nI (by omega) (by decide)) rfl ?_
  refine rw_vi (pc := 20) (z' := (0, 0, 0)) (rc' := 0) (rs' := 0) (av := [.inl (hp_I h 87 c), .inl (nI c), .inl (hp_I h 88 c), .inl (hp_I h 78 c)]) (st := []) (ci := 10) mlM_148 miM_room rfl mvM_room_M dM_ask_20 (mo_o62 hm) (mo_S62 hm) (cM_room G _ hm hu (by omega) _ _ _ _) rfl rfl (Nat.le_of_ble_eq_true rfl) (by decide) rfl rfl (fun r1 h1 q1 => ?_)
  obtain ⟨rfl, rfl⟩ := q1
  rw [show (m_room h 60 (hp_I h 87 c) (nI c) (hp_I h 88 c) (hp_I h 78 c)).1 = -1 from rfl, show (m_room h 60 (hp_I h 87 c) (nI c) (hp_I h 88 c) (hp_I h 78 c)).2 = h from rfl]
  refine rw_istore_n (pc := 23) (L' := [some (.inr (some 62)), some (.inl (nI c)), some (.inl (-1))]) dM_ask_23 (by decide) rfl ?_
  refine rw_iload_n (pc := 24) dM_ask_24 rfl ?_
  refine rw_ifge (pc := 25) dM_ask_25 (tgt := 29) rfl (fun c2 => ?_) (fun c2 => ?_)
  · skip
    exact absurd c2 (by decide)
  · skip
    exact rw_vret (pc := 28) dM_ask_28 rfl ⟨rfl, rfl⟩
def m_askT (h : ha_H) (u c : Nat) : ha_H := hp_mv (hp_mv (hp_mv (hp_mv (m_roomH h u (hp_I h 87 c) (nI c) (hp_I h 88 c) (hp_I h 78 c)) 89 c 98 u) 90 c 99 u) 91 c 100 u) 92 c 101 u
theorem cM_askT (G : mt_G) (h : ha_H) (hm : mo_ok h) (hb : mo_b h) {u : Nat} (hu : hp_I h 62 34 = nI u) (h60 : u < 60) {c : Nat} (hc : c < 3) : rn_M G xM_ask (1, 0, 0) [.inr (some 62), .inl (nI c)] h (rn_v (fun h' => m_askT h u c = h')) := by
  refine rn_of (by decide +kernel) (Nat.le_of_ble_eq_true rfl) ?_
  show rn_W G xM_ask (1, 0, 0) 0 0 0 [some (.inr (some 62)), some (.inl (nI c)), none] [] h _
  refine rw_aload_n (pc := 0) dM_ask_0 rfl ?_
  refine rw_aload_n (pc := 1) dM_ask_1 rfl ?_
  refine rw_getR (pc := 2) (x := some 87) flM_83_M dM_ask_2 (mo_o62 hm) (mo_S62 hm) (mo_R87 hm) ?_
  refine rw_iload_n (pc := 5) dM_ask_5 rfl ?_
  refine rw_iald (pc := 6) (v := hp_I h 87 c) (i := c) dM_ask_6 (mo_o87 hm) (mo_S87 hm) (ix_nI (by omega) (by decide)) rfl ?_
  refine rw_iload_n (pc := 7) dM_ask_7 rfl ?_
  refine rw_aload_n (pc := 8) dM_ask_8 rfl ?_
  refine rw_getR (pc := 9) (x := some 88) flM_86_M dM_ask_9 (mo_o62 hm) (mo_S62 hm) (mo_R88 hm) ?_
  refine rw_iload_n (pc := 12) dM_ask_12 rfl ?_
  refine rw_iald (pc := 13) (v := hp_I h 88 c) (i := c) dM_ask_13 (mo_o88 hm) (mo_S88 hm) (ix_nI (by omega) (by decide)) rfl ?_
  refine rw_aload_n (pc := 14) dM_ask_14 rfl ?_
  refine rw_getR (pc := 15) (x := some 78) flM_56_M dM_ask_15 (mo_o62 hm) (mo_S62 hm) (mo_R78 hm) ?_
  refine rw_iload_n (pc := 18) dM_ask_18 rfl ?_
  refine rw_iald (pc := 19) (v := hp_I h 78 c) (i := c) dM_ask_19 (mo_o78 hm) (mo_S78 hm) (ix_nI (by omega) (by decide)) rfl ?_
  refine rw_vi (pc := 20) (z' := (0, 0, 0)) (rc' := 0) (rs' := 0) (av := [.inl (hp_I h 87 c), .inl (nI c), .inl (hp_I h 88 c), .inl (hp_I h 78 c)]) (st := []) (ci := 10) mlM_148 miM_room rfl mvM_room_M dM_ask_20 (mo_o62 hm) (mo_S62 hm) (cM_room G _ hm hu (by omega) _ _ _ _) rfl rfl (Nat.le_of_ble_eq_true rfl) (by decide) rfl rfl (fun r1 h1 q1 => ?_)
  obtain ⟨rfl, rfl⟩ := q1
  rw [show m_room h u (hp_I h 87 c) (nI c) (hp_I h 88 c) (hp_I h 78 c) = (nI u, m_roomH h u (hp_I h 87 c) (nI c) (hp_I h 88 c) (hp_I h 78 c)) from if_neg (by omega)]
  show rn_W G xM_ask (1, 0, 0) 0 0 23 [some (.inr (some 62)), some (.inl (nI c)), none] [.inl (nI u)] (m_roomH h u (hp_I h 87 c) (nI c) (hp_I h 88 c) (hp_I h 78 c)) _
  replace hm := mo_roomH (u := u) (k := hp_I h 87 c) (c := nI c) (f := hp_I h 88 c) (x := hp_I h 78 c) hm
  replace hb := mb_roomH hb (u := u) (k := hp_I h 87 c) (c := nI c) (f := hp_I h 88 c) (x := hp_I h 78 c)
  refine rw_istore_n (pc := 23) (L' := [some (.inr (some 62)), some (.inl (nI c)), some (.inl (nI u))]) dM_ask_23 (by decide) rfl ?_
  refine rw_iload_n (pc := 24) dM_ask_24 rfl ?_
  refine rw_ifge (pc := 25) dM_ask_25 (tgt := 29) rfl (fun c2 => ?_) (fun c2 => ?_)
  · skip
    replace c2 : 0 ≤ u := (nI_leI (a := 0) (b := u) (by omega) (by omega)).mp c2
    refine rw_aload_n (pc := 29) dM_ask_29 rfl ?_
    refine rw_getR (pc := 30) (x := some 98) flM_116_M dM_ask_30 (mo_o62 hm) (mo_S62 hm) (mo_R98 hm) ?_
    refine rw_iload_n (pc := 33) dM_ask_33 rfl ?_
    refine rw_aload_n (pc := 34) dM_ask_34 rfl ?_
    refine rw_getR (pc := 35) (x := some 89) flM_89_M dM_ask_35 (mo_o62 hm) (mo_S62 hm) (mo_R89 hm) ?_
    refine rw_iload_n (pc := 38) dM_ask_38 rfl ?_
    refine rw_iald (pc := 39) (v := hp_I (m_roomH h u (hp_I h 87 c) (nI c) (hp_I h 88 c) (hp_I h 78 c)) 89 c) (i := c) dM_ask_39 (mo_o89 hm) (mo_S89 hm) (ix_nI (by omega) (by decide)) rfl ?_
    refine rw_iast (pc := 40) (i := u) dM_ask_40 (mo_o98 hm) (mo_S98 hm) (ix_nI (by omega) (by decide)) ?_
    show rn_W G xM_ask (1, 0, 0) 0 0 41 [some (.inr (some 62)), some (.inl (nI c)), some (.inl (nI u))] [] (hp_mv (m_roomH h u (hp_I h 87 c) (nI c) (hp_I h 88 c) (hp_I h 78 c)) 89 c 98 u) _
    replace hm := mo_mv (A := 89) (i := c) (B := 98) (t := u) hm
    refine rw_aload_n (pc := 41) dM_ask_41 rfl ?_
    refine rw_getR (pc := 42) (x := some 99) flM_119_M dM_ask_42 (mo_o62 hm) (mo_S62 hm) (mo_R99 hm) ?_
    refine rw_iload_n (pc := 45) dM_ask_45 rfl ?_
    refine rw_aload_n (pc := 46) dM_ask_46 rfl ?_
    refine rw_getR (pc := 47) (x := some 90) flM_92_M dM_ask_47 (mo_o62 hm) (mo_S62 hm) (mo_R90 hm) ?_
    refine rw_iload_n (pc := 50) dM_ask_50 rfl ?_
    refine rw_zald (pc := 51) (v := hp_I (hp_mv (m_roomH h u (hp_I h 87 c) (nI c) (hp_I h 88 c) (hp_I h 78 c)) 89 c 98 u) 90 c) (i := c) dM_ask_51 (mo_o90 hm) (mo_S90 hm) (ix_nI (by omega) (by decide)) rfl ?_
    refine rw_zast (pc := 52) (i := u) (hb 90 (by decide) _) dM_ask_52 (mo_o99 hm) (mo_S99 hm) (ix_nI (by omega) (by decide)) ?_
    show rn_W G xM_ask (1, 0, 0) 0 0 53 [some (.inr (some 62)), some (.inl (nI c)), some (.inl (nI u))] [] (hp_mv (hp_mv (m_roomH h u (hp_I h 87 c) (nI c) (hp_I h 88 c) (hp_I h 78 c)) 89 c 98 u) 90 c 99 u) _
    replace hm := mo_mv (A := 90) (i := c) (B := 99) (t := u) hm
    refine rw_aload_n (pc := 53) dM_ask_53 rfl ?_
    refine rw_getR (pc := 54) (x := some 100) flM_122_M dM_ask_54 (mo_o62 hm) (mo_S62 hm) (mo_R100 hm) ?_
    refine rw_iload_n (pc := 57) dM_ask_57 rfl ?_
    refine rw_aload_n (pc := 58) dM_ask_58 rfl ?_
    refine rw_getR (pc := 59) (x := some 91) flM_95_M dM_ask_59 (mo_o62 hm) (mo_S62 hm) (mo_R91 hm) ?_
    refine rw_iload_n (pc := 62) dM_ask_62 rfl ?_
    refine rw_iald (pc := 63) (v := hp_I (hp_mv (hp_mv (m_roomH h u (hp_I h 87 c) (nI c) (hp_I h 88 c) (hp_I h 78 c)) 89 c 98 u) 90 c 99 u) 91 c) (i := c) dM_ask_63 (mo_o91 hm) (mo_S91 hm) (ix_nI (by omega) (by decide)) rfl ?_
    refine rw_iast (pc := 64) (i := u) dM_ask_64 (mo_o100 hm) (mo_S100 hm) (ix_nI (by omega) (by decide)) ?_
    show rn_W G xM_ask (1, 0, 0) 0 0 65 [some (.inr (some 62)), some (.inl (nI c)), some (.inl (nI u))] [] (hp_mv (hp_mv (hp_mv (m_roomH h u (hp_I h 87 c) (nI c) (hp_I h 88 c) (hp_I h 78 c)) 89 c 98 u) 90 c 99 u) 91 c 100 u) _
    replace hm := mo_mv (A := 91) (i := c) (B := 100) (t := u) hm
    refine rw_aload_n (pc := 65) dM_ask_65 rfl ?_
    refine rw_getR (pc := 66) (x := some 101) flM_125_M dM_ask_66 (mo_o62 hm) (mo_S62 hm) (mo_R101 hm) ?_
    refine rw_iload_n (pc := 69) dM_ask_69 rfl ?_
    refine rw_aload_n (pc := 70) dM_ask_70 rfl ?_
    refine rw_getR (pc := 71) (x := some 92) flM_98_M dM_ask_71 (mo_o62 hm) (mo_S62 hm) (mo_R92 hm) ?_
    refine rw_iload_n (pc := 74) dM_ask_74 rfl ?_
    refine rw_iald (pc := 75) (v := hp_I (hp_mv (hp_mv (hp_mv (m_roomH h u (hp_I h 87 c) (nI c) (hp_I h 88 c) (hp_I h 78 c)) 89 c 98 u) 90 c 99 u) 91 c 100 u) 92 c) (i := c) dM_ask_75 (mo_o92 hm) (mo_S92 hm) (ix_nI (by omega) (by decide)) rfl ?_
    refine rw_iast (pc := 76) (i := u) dM_ask_76 (mo_o101 hm) (mo_S101 hm) (ix_nI (by omega) (by decide)) ?_
    show rn_W G xM_ask (1, 0, 0) 0 0 77 [some (.inr (some 62)), some (.inl (nI c)), some (.inl (nI u))] [] (hp_mv (hp_mv (hp_mv (hp_mv (m_roomH h u (hp_I h 87 c) (nI c) (hp_I h 88 c) (hp_I h 78 c)) 89 c 98 u) 90 c 99 u) 91 c 100 u) 92 c 101 u) _
    replace hm := mo_mv (A := 92) (i := c) (B := 101) (t := u) hm
    exact rw_vret (pc := 77) dM_ask_77 rfl ⟨rfl, rfl⟩
  · skip
    replace c2 : ¬ (0 ≤ u) := fun qz => c2 ((nI_leI (a := 0) (b := u) (by omega) (by omega)).mpr qz)
    omega
def m_ask (h : ha_H) (u c : Nat) : ha_H := if u = 60 then h else m_askT h u c
theorem cM_ask (G : mt_G) (h : ha_H) (hm : mo_ok h) (hb : mo_b h) {u : Nat} (hu : hp_I h 62 34 = nI u) (h60 : u ≤ 60) {c : Nat} (hc : c < 3) : rn_M G xM_ask (1, 0, 0) [.inr (some 62), .inl (nI c)] h (rn_v (fun h' => m_ask h u c = h')) := by
  unfold m_ask
  by_cases e : u = 60
  · rw [if_pos e]
    subst e
    exact cM_ask60 G h hm hb hu hc
  · rw [if_neg e]
    exact cM_askT G h hm hb hu (by omega) hc
theorem cM_answer60 (G : mt_G) (h : ha_H) (hm : mo_ok h) (hb : mo_b h) (hu : hp_I h 62 34 = nI 60) {c : Nat} (hc : c < 3) : rn_M G xM_answer (1, 0, 0) [.inr (some 62), .inl (nI c)] h (rn_v (fun h' => h = h')) := by
  refine rn_of (by decide +kernel) (Nat.le_of_ble_eq_true rfl) ?_
  show rn_W G xM_answer (1, 0, 0) 0 0 0 [some (.inr (some 62)), some (.inl (nI c)), none, none] [] h _
  refine rw_aload_n (pc := 0) dM_answer_0 rfl ?_
  refine rw_aload_n (pc := 1) dM_answer_1 rfl ?_
  refine rw_getR (pc := 2) (x := some 69) flM_29_M dM_answer_2 (mo_o62 hm) (mo_S62 hm) (mo_R69 hm) ?_
  refine rw_iload_n (pc := 5) dM_answer_5 rfl ?_
  refine rw_iald (pc := 6) (v := hp_I h 69 c) (i := c) dM_answer_6 (mo_o69 hm) (mo_S69 hm) (ix_nI (by omega) (by decide)) rfl ?_
  refine rw_iload_n (pc := 7) dM_answer_7 rfl ?_
  refine rw_aload_n (pc := 8) dM_answer_8 rfl ?_
  refine rw_getR (pc := 9) (x := some 70) flM_32_M dM_answer_9 (mo_o62 hm) (mo_S62 hm) (mo_R70 hm) ?_
  refine rw_iload_n (pc := 12) dM_answer_12 rfl ?_
  refine rw_iald (pc := 13) (v := hp_I h 70 c) (i := c) dM_answer_13 (mo_o70 hm) (mo_S70 hm) (ix_nI (by omega) (by decide)) rfl ?_
  refine rw_aload_n (pc := 14) dM_answer_14 rfl ?_
  refine rw_getR (pc := 15) (x := some 68) flM_26_M dM_answer_15 (mo_o62 hm) (mo_S62 hm) (mo_R68 hm) ?_
  refine rw_iload_n (pc := 18) dM_answer_18 rfl ?_
  refine rw_iald (pc := 19) (v := hp_I h 68 c) (i := c) dM_answer_19 (mo_o68 hm) (mo_S68 hm) (ix_nI (by omega) (by decide)) rfl ?_
  refine rw_vi (pc := 20) (z' := (0, 0, 0)) (rc' := 0) (rs' := 0) (av := [.inl (hp_I h 69 c), .inl (nI c), .inl (hp_I h 70 c), .inl (hp_I h 68 c)]) (st := []) (ci := 10) mlM_148 miM_room rfl mvM_room_M dM_answer_20 (mo_o62 hm) (mo_S62 hm) (cM_room G _ hm hu (by omega) _ _ _ _) rfl rfl (Nat.le_of_ble_eq_true rfl) (by decide) rfl rfl (fun r1 h1 q1 => ?_)
  obtain ⟨rfl, rfl⟩ := q1
  rw [show (m_room h 60 (hp_I h 69 c) (nI c) (hp_I h 70 c) (hp_I h 68 c)).1 = -1 from rfl, show (m_room h 60 (hp_I h 69 c) (nI c) (hp_I h 70 c) (hp_I h 68 c)).2 = h from rfl]
  refine rw_istore_n (pc := 23) (L' := [some (.inr (some 62)), some (.inl (nI c)), some (.inl (-1)), none]) dM_answer_23 (by decide) rfl ?_
  refine rw_iload_n (pc := 24) dM_answer_24 rfl ?_
  refine rw_ifge (pc := 25) dM_answer_25 (tgt := 29) rfl (fun c2 => ?_) (fun c2 => ?_)
  · skip
    exact absurd c2 (by decide)
  · skip
    exact rw_vret (pc := 28) dM_answer_28 rfl ⟨rfl, rfl⟩
def m_ansT (h : ha_H) (u c : Nat) : ha_H := hp_mv (hp_mv (hp_mv (hp_mv (hp_mv (hp_mv (m_roomH h u (hp_I h 69 c) (nI c) (hp_I h 70 c) (hp_I h 68 c)) 71 c 98 u) 72 c 99 u) 73 (4 * c + 0) 102 (4 * u + 0)) 73 (4 * c + 1) 102 (4 * u + 1)) 73 (4 * c + 2) 102 (4 * u + 2)) 73 (4 * c + 3) 102 (4 * u + 3)
theorem cM_answerT (G : mt_G) (h : ha_H) (hm : mo_ok h) (hb : mo_b h) {u : Nat} (hu : hp_I h 62 34 = nI u) (h60 : u < 60) {c : Nat} (hc : c < 3) : rn_M G xM_answer (1, 0, 0) [.inr (some 62), .inl (nI c)] h (rn_v (fun h' => m_ansT h u c = h')) := by
  refine rn_of (by decide +kernel) (Nat.le_of_ble_eq_true rfl) ?_
  show rn_W G xM_answer (1, 0, 0) 0 0 0 [some (.inr (some 62)), some (.inl (nI c)), none, none] [] h _
  refine rw_aload_n (pc := 0) dM_answer_0 rfl ?_
  refine rw_aload_n (pc := 1) dM_answer_1 rfl ?_
  refine rw_getR (pc := 2) (x := some 69) flM_29_M dM_answer_2 (mo_o62 hm) (mo_S62 hm) (mo_R69 hm) ?_
  refine rw_iload_n (pc := 5) dM_answer_5 rfl ?_
  refine rw_iald (pc := 6) (v := hp_I h 69 c) (i := c) dM_answer_6 (mo_o69 hm) (mo_S69 hm) (ix_nI (by omega) (by decide)) rfl ?_
  refine rw_iload_n (pc := 7) dM_answer_7 rfl ?_
  refine rw_aload_n (pc := 8) dM_answer_8 rfl ?_
  refine rw_getR (pc := 9) (x := some 70) flM_32_M dM_answer_9 (mo_o62 hm) (mo_S62 hm) (mo_R70 hm) ?_
  refine rw_iload_n (pc := 12) dM_answer_12 rfl ?_
  refine rw_iald (pc := 13) (v := hp_I h 70 c) (i := c) dM_answer_13 (mo_o70 hm) (mo_S70 hm) (ix_nI (by omega) (by decide)) rfl ?_
  refine rw_aload_n (pc := 14) dM_answer_14 rfl ?_
  refine rw_getR (pc := 15) (x := some 68) flM_26_M dM_answer_15 (mo_o62 hm) (mo_S62 hm) (mo_R68 hm) ?_
  refine rw_iload_n (pc := 18) dM_answer_18 rfl ?_
  refine rw_iald (pc := 19) (v := hp_I h 68 c) (i := c) dM_answer_19 (mo_o68 hm) (mo_S68 hm) (ix_nI (by omega) (by decide)) rfl ?_
  refine rw_vi (pc := 20) (z' := (0, 0, 0)) (rc' := 0) (rs' := 0) (av := [.inl (hp_I h 69 c), .inl (nI c), .inl (hp_I h 70 c), .inl (hp_I h 68 c)]) (st := []) (ci := 10) mlM_148 miM_room rfl mvM_room_M dM_answer_20 (mo_o62 hm) (mo_S62 hm) (cM_room G _ hm hu (by omega) _ _ _ _) rfl rfl (Nat.le_of_ble_eq_true rfl) (by decide) rfl rfl (fun r1 h1 q1 => ?_)
  obtain ⟨rfl, rfl⟩ := q1
  rw [show m_room h u (hp_I h 69 c) (nI c) (hp_I h 70 c) (hp_I h 68 c) = (nI u, m_roomH h u (hp_I h 69 c) (nI c) (hp_I h 70 c) (hp_I h 68 c)) from if_neg (by omega)]
  show rn_W G xM_answer (1, 0, 0) 0 0 23 [some (.inr (some 62)), some (.inl (nI c)), none, none] [.inl (nI u)] (m_roomH h u (hp_I h 69 c) (nI c) (hp_I h 70 c) (hp_I h 68 c)) _
  replace hm := mo_roomH (u := u) (k := hp_I h 69 c) (c := nI c) (f := hp_I h 70 c) (x := hp_I h 68 c) hm
  replace hb := mb_roomH hb (u := u) (k := hp_I h 69 c) (c := nI c) (f := hp_I h 70 c) (x := hp_I h 68 c)
  refine rw_istore_n (pc := 23) (L' := [some (.inr (some 62)), some (.inl (nI c)), some (.inl (nI u)), none]) dM_answer_23 (by decide) rfl ?_
  refine rw_iload_n (pc := 24) dM_answer_24 rfl ?_
  refine rw_ifge (pc := 25) dM_answer_25 (tgt := 29) rfl (fun c2 => ?_) (fun c2 => ?_)
  · skip
    replace c2 : 0 ≤ u := (nI_leI (a := 0) (b := u) (by omega) (by omega)).mp c2
    refine rw_aload_n (pc := 29) dM_answer_29 rfl ?_
    refine rw_getR (pc := 30) (x := some 98) flM_116_M dM_answer_30 (mo_o62 hm) (mo_S62 hm) (mo_R98 hm) ?_
    refine rw_iload_n (pc := 33) dM_answer_33 rfl ?_
    refine rw_aload_n (pc := 34) dM_answer_34 rfl ?_
    refine rw_getR (pc := 35) (x := some 71) flM_35_M dM_answer_35 (mo_o62 hm) (mo_S62 hm) (mo_R71 hm) ?_
    refine rw_iload_n (pc := 38) dM_answer_38 rfl ?_
    refine rw_iald (pc := 39) (v := hp_I (m_roomH h u (hp_I h 69 c) (nI c) (hp_I h 70 c) (hp_I h 68 c)) 71 c) (i := c) dM_answer_39 (mo_o71 hm) (mo_S71 hm) (ix_nI (by omega) (by decide)) rfl ?_
    refine rw_iast (pc := 40) (i := u) dM_answer_40 (mo_o98 hm) (mo_S98 hm) (ix_nI (by omega) (by decide)) ?_
    show rn_W G xM_answer (1, 0, 0) 0 0 41 [some (.inr (some 62)), some (.inl (nI c)), some (.inl (nI u)), none] [] (hp_mv (m_roomH h u (hp_I h 69 c) (nI c) (hp_I h 70 c) (hp_I h 68 c)) 71 c 98 u) _
    replace hm := mo_mv (A := 71) (i := c) (B := 98) (t := u) hm
    refine rw_aload_n (pc := 41) dM_answer_41 rfl ?_
    refine rw_getR (pc := 42) (x := some 99) flM_119_M dM_answer_42 (mo_o62 hm) (mo_S62 hm) (mo_R99 hm) ?_
    refine rw_iload_n (pc := 45) dM_answer_45 rfl ?_
    refine rw_aload_n (pc := 46) dM_answer_46 rfl ?_
    refine rw_getR (pc := 47) (x := some 72) flM_38_M dM_answer_47 (mo_o62 hm) (mo_S62 hm) (mo_R72 hm) ?_
    refine rw_iload_n (pc := 50) dM_answer_50 rfl ?_
    refine rw_zald (pc := 51) (v := hp_I (hp_mv (m_roomH h u (hp_I h 69 c) (nI c) (hp_I h 70 c) (hp_I h 68 c)) 71 c 98 u) 72 c) (i := c) dM_answer_51 (mo_o72 hm) (mo_S72 hm) (ix_nI (by omega) (by decide)) rfl ?_
    refine rw_zast (pc := 52) (i := u) (hb 72 (by decide) _) dM_answer_52 (mo_o99 hm) (mo_S99 hm) (ix_nI (by omega) (by decide)) ?_
    show rn_W G xM_answer (1, 0, 0) 0 0 53 [some (.inr (some 62)), some (.inl (nI c)), some (.inl (nI u)), none] [] (hp_mv (hp_mv (m_roomH h u (hp_I h 69 c) (nI c) (hp_I h 70 c) (hp_I h 68 c)) 71 c 98 u) 72 c 99 u) _
    replace hm := mo_mv (A := 72) (i := c) (B := 99) (t := u) hm
    refine rw_iconst (pc := 53) (x := nI 0) dM_answer_53 (by decide) ?_
    refine rw_istore_n (pc := 54) (L' := [some (.inr (some 62)), some (.inl (nI c)), some (.inl (nI u)), some (.inl (nI 0))]) dM_answer_54 (by decide) rfl ?_
    refine rw_iload_n (pc := 55) dM_answer_55 rfl ?_
    refine rw_iconst (pc := 56) (x := nI 4) dM_answer_56 (by decide) ?_
    refine rw_icmpge (pc := 57) dM_answer_57 (tgt := 86) rfl (fun c3 => ?_) (fun c3 => ?_)
    · skip
      replace c3 : 4 ≤ 0 := (nI_leI (a := 4) (b := 0) (by omega) (by omega)).mp c3
      exact absurd c3 (by decide)
    · skip
      replace c3 : ¬ (4 ≤ 0) := fun qz => c3 ((nI_leI (a := 4) (b := 0) (by omega) (by omega)).mpr qz)
      refine rw_aload_n (pc := 60) dM_answer_60 rfl ?_
      refine rw_getR (pc := 61) (x := some 102) flM_128_M dM_answer_61 (mo_o62 hm) (mo_S62 hm) (mo_R102 hm) ?_
      refine rw_iconst (pc := 64) (x := nI 4) dM_answer_64 (by decide) ?_
      refine rw_iload_n (pc := 65) dM_answer_65 rfl ?_
      refine rw_imul (pc := 66) (v := nI (4 * u)) dM_answer_66 (pk_mul _ _) ?_
      refine rw_iload_n (pc := 67) dM_answer_67 rfl ?_
      refine rw_iadd (pc := 68) (v := nI (4 * u + 0)) dM_answer_68 (nI_add _ _) ?_
      refine rw_aload_n (pc := 69) dM_answer_69 rfl ?_
      refine rw_getR (pc := 70) (x := some 73) flM_41_M dM_answer_70 (mo_o62 hm) (mo_S62 hm) (mo_R73 hm) ?_
      refine rw_iconst (pc := 73) (x := nI 4) dM_answer_73 (by decide) ?_
      refine rw_iload_n (pc := 74) dM_answer_74 rfl ?_
      refine rw_imul (pc := 75) (v := nI (4 * c)) dM_answer_75 (pk_mul _ _) ?_
      refine rw_iload_n (pc := 76) dM_answer_76 rfl ?_
      refine rw_iadd (pc := 77) (v := nI (4 * c + 0)) dM_answer_77 (nI_add _ _) ?_
      refine rw_iald (pc := 78) (v := hp_I (hp_mv (hp_mv (m_roomH h u (hp_I h 69 c) (nI c) (hp_I h 70 c) (hp_I h 68 c)) 71 c 98 u) 72 c 99 u) 73 (4 * c + 0)) (i := (4 * c + 0)) dM_answer_78 (mo_o73 hm) (mo_S73 hm) (ix_nI (by omega) (by decide)) rfl ?_
      refine rw_iast (pc := 79) (i := (4 * u + 0)) dM_answer_79 (mo_o102 hm) (mo_S102 hm) (ix_nI (by omega) (by decide)) ?_
      show rn_W G xM_answer (1, 0, 0) 0 0 80 [some (.inr (some 62)), some (.inl (nI c)), some (.inl (nI u)), some (.inl (nI 0))] [] (hp_mv (hp_mv (hp_mv (m_roomH h u (hp_I h 69 c) (nI c) (hp_I h 70 c) (hp_I h 68 c)) 71 c 98 u) 72 c 99 u) 73 (4 * c + 0) 102 (4 * u + 0)) _
      replace hm := mo_mv (A := 73) (i := (4 * c + 0)) (B := 102) (t := (4 * u + 0)) hm
      refine rw_iinc (pc := 80) (x := nI 0) (y := nI 1) (L' := [some (.inr (some 62)), some (.inl (nI c)), some (.inl (nI u)), some (.inl (nI 1))]) dM_answer_80 (by decide) rfl (by decide) rfl ?_
      refine rw_goto (pc := 83) dM_answer_83 (tgt := 55) rfl ?_
      refine rw_iload_n (pc := 55) dM_answer_55 rfl ?_
      refine rw_iconst (pc := 56) (x := nI 4) dM_answer_56 (by decide) ?_
      refine rw_icmpge (pc := 57) dM_answer_57 (tgt := 86) rfl (fun c4 => ?_) (fun c4 => ?_)
      · skip
        replace c4 : 4 ≤ 1 := (nI_leI (a := 4) (b := 1) (by omega) (by omega)).mp c4
        exact absurd c4 (by decide)
      · skip
        replace c4 : ¬ (4 ≤ 1) := fun qz => c4 ((nI_leI (a := 4) (b := 1) (by omega) (by omega)).mpr qz)
        refine rw_aload_n (pc := 60) dM_answer_60 rfl ?_
        refine rw_getR (pc := 61) (x := some 102) flM_128_M dM_answer_61 (mo_o62 hm) (mo_S62 hm) (mo_R102 hm) ?_
        refine rw_iconst (pc := 64) (x := nI 4) dM_answer_64 (by decide) ?_
        refine rw_iload_n (pc := 65) dM_answer_65 rfl ?_
        refine rw_imul (pc := 66) (v := nI (4 * u)) dM_answer_66 (pk_mul _ _) ?_
        refine rw_iload_n (pc := 67) dM_answer_67 rfl ?_
        refine rw_iadd (pc := 68) (v := nI (4 * u + 1)) dM_answer_68 (nI_add _ _) ?_
        refine rw_aload_n (pc := 69) dM_answer_69 rfl ?_
        refine rw_getR (pc := 70) (x := some 73) flM_41_M dM_answer_70 (mo_o62 hm) (mo_S62 hm) (mo_R73 hm) ?_
        refine rw_iconst (pc := 73) (x := nI 4) dM_answer_73 (by decide) ?_
        refine rw_iload_n (pc := 74) dM_answer_74 rfl ?_
        refine rw_imul (pc := 75) (v := nI (4 * c)) dM_answer_75 (pk_mul _ _) ?_
        refine rw_iload_n (pc := 76) dM_answer_76 rfl ?_
        refine rw_iadd (pc := 77) (v := nI (4 * c + 1)) dM_answer_77 (nI_add _ _) ?_
        refine rw_iald (pc := 78) (v := hp_I (hp_mv (hp_mv (hp_mv (m_roomH h u (hp_I h 69 c) (nI c) (hp_I h 70 c) (hp_I h 68 c)) 71 c 98 u) 72 c 99 u) 73 (4 * c + 0) 102 (4 * u + 0)) 73 (4 * c + 1)) (i := (4 * c + 1)) dM_answer_78 (mo_o73 hm) (mo_S73 hm) (ix_nI (by omega) (by decide)) rfl ?_
        refine rw_iast (pc := 79) (i := (4 * u + 1)) dM_answer_79 (mo_o102 hm) (mo_S102 hm) (ix_nI (by omega) (by decide)) ?_
        show rn_W G xM_answer (1, 0, 0) 0 0 80 [some (.inr (some 62)), some (.inl (nI c)), some (.inl (nI u)), some (.inl (nI 1))] [] (hp_mv (hp_mv (hp_mv (hp_mv (m_roomH h u (hp_I h 69 c) (nI c) (hp_I h 70 c) (hp_I h 68 c)) 71 c 98 u) 72 c 99 u) 73 (4 * c + 0) 102 (4 * u + 0)) 73 (4 * c + 1) 102 (4 * u + 1)) _
        replace hm := mo_mv (A := 73) (i := (4 * c + 1)) (B := 102) (t := (4 * u + 1)) hm
        refine rw_iinc (pc := 80) (x := nI 1) (y := nI 2) (L' := [some (.inr (some 62)), some (.inl (nI c)), some (.inl (nI u)), some (.inl (nI 2))]) dM_answer_80 (by decide) rfl (by decide) rfl ?_
        refine rw_goto (pc := 83) dM_answer_83 (tgt := 55) rfl ?_
        refine rw_iload_n (pc := 55) dM_answer_55 rfl ?_
        refine rw_iconst (pc := 56) (x := nI 4) dM_answer_56 (by decide) ?_
        refine rw_icmpge (pc := 57) dM_answer_57 (tgt := 86) rfl (fun c5 => ?_) (fun c5 => ?_)
        · skip
          replace c5 : 4 ≤ 2 := (nI_leI (a := 4) (b := 2) (by omega) (by omega)).mp c5
          exact absurd c5 (by decide)
        · skip
          replace c5 : ¬ (4 ≤ 2) := fun qz => c5 ((nI_leI (a := 4) (b := 2) (by omega) (by omega)).mpr qz)
          refine rw_aload_n (pc := 60) dM_answer_60 rfl ?_
          refine rw_getR (pc := 61) (x := some 102) flM_128_M dM_answer_61 (mo_o62 hm) (mo_S62 hm) (mo_R102 hm) ?_
          refine rw_iconst (pc := 64) (x := nI 4) dM_answer_64 (by decide) ?_
          refine rw_iload_n (pc := 65) dM_answer_65 rfl ?_
          refine rw_imul (pc := 66) (v := nI (4 * u)) dM_answer_66 (pk_mul _ _) ?_
          refine rw_iload_n (pc := 67) dM_answer_67 rfl ?_
          refine rw_iadd (pc := 68) (v := nI (4 * u + 2)) dM_answer_68 (nI_add _ _) ?_
          refine rw_aload_n (pc := 69) dM_answer_69 rfl ?_
          refine rw_getR (pc := 70) (x := some 73) flM_41_M dM_answer_70 (mo_o62 hm) (mo_S62 hm) (mo_R73 hm) ?_
          refine rw_iconst (pc := 73) (x := nI 4) dM_answer_73 (by decide) ?_
          refine rw_iload_n (pc := 74) dM_answer_74 rfl ?_
          refine rw_imul (pc := 75) (v := nI (4 * c)) dM_answer_75 (pk_mul _ _) ?_
          refine rw_iload_n (pc := 76) dM_answer_76 rfl ?_
          refine rw_iadd (pc := 77) (v := nI (4 * c + 2)) dM_answer_77 (nI_add _ _) ?_
          refine rw_iald (pc := 78) (v := hp_I (hp_mv (hp_mv (hp_mv (hp_mv (m_roomH h u (hp_I h 69 c) (nI c) (hp_I h 70 c) (hp_I h 68 c)) 71 c 98 u) 72 c 99 u) 73 (4 * c + 0) 102 (4 * u + 0)) 73 (4 * c + 1) 102 (4 * u + 1)) 73 (4 * c + 2)) (i := (4 * c + 2)) dM_answer_78 (mo_o73 hm) (mo_S73 hm) (ix_nI (by omega) (by decide)) rfl ?_
          refine rw_iast (pc := 79) (i := (4 * u + 2)) dM_answer_79 (mo_o102 hm) (mo_S102 hm) (ix_nI (by omega) (by decide)) ?_
          show rn_W G xM_answer (1, 0, 0) 0 0 80 [some (.inr (some 62)), some (.inl (nI c)), some (.inl (nI u)), some (.inl (nI 2))] [] (hp_mv (hp_mv (hp_mv (hp_mv (hp_mv (m_roomH h u (hp_I h 69 c) (nI c) (hp_I h 70 c) (hp_I h 68 c)) 71 c 98 u) 72 c 99 u) 73 (4 * c + 0) 102 (4 * u + 0)) 73 (4 * c + 1) 102 (4 * u + 1)) 73 (4 * c + 2) 102 (4 * u + 2)) _
          replace hm := mo_mv (A := 73) (i := (4 * c + 2)) (B := 102) (t := (4 * u + 2)) hm
          refine rw_iinc (pc := 80) (x := nI 2) (y := nI 3) (L' := [some (.inr (some 62)), some (.inl (nI c)), some (.inl (nI u)), some (.inl (nI 3))]) dM_answer_80 (by decide) rfl (by decide) rfl ?_
          refine rw_goto (pc := 83) dM_answer_83 (tgt := 55) rfl ?_
          refine rw_iload_n (pc := 55) dM_answer_55 rfl ?_
          refine rw_iconst (pc := 56) (x := nI 4) dM_answer_56 (by decide) ?_
          refine rw_icmpge (pc := 57) dM_answer_57 (tgt := 86) rfl (fun c6 => ?_) (fun c6 => ?_)
          · skip
            replace c6 : 4 ≤ 3 := (nI_leI (a := 4) (b := 3) (by omega) (by omega)).mp c6
            exact absurd c6 (by decide)
          · skip
            replace c6 : ¬ (4 ≤ 3) := fun qz => c6 ((nI_leI (a := 4) (b := 3) (by omega) (by omega)).mpr qz)
            refine rw_aload_n (pc := 60) dM_answer_60 rfl ?_
            refine rw_getR (pc := 61) (x := some 102) flM_128_M dM_answer_61 (mo_o62 hm) (mo_S62 hm) (mo_R102 hm) ?_
            refine rw_iconst (pc := 64) (x := nI 4) dM_answer_64 (by decide) ?_
            refine rw_iload_n (pc := 65) dM_answer_65 rfl ?_
            refine rw_imul (pc := 66) (v := nI (4 * u)) dM_answer_66 (pk_mul _ _) ?_
            refine rw_iload_n (pc := 67) dM_answer_67 rfl ?_
            refine rw_iadd (pc := 68) (v := nI (4 * u + 3)) dM_answer_68 (nI_add _ _) ?_
            refine rw_aload_n (pc := 69) dM_answer_69 rfl ?_
            refine rw_getR (pc := 70) (x := some 73) flM_41_M dM_answer_70 (mo_o62 hm) (mo_S62 hm) (mo_R73 hm) ?_
            refine rw_iconst (pc := 73) (x := nI 4) dM_answer_73 (by decide) ?_
            refine rw_iload_n (pc := 74) dM_answer_74 rfl ?_
            refine rw_imul (pc := 75) (v := nI (4 * c)) dM_answer_75 (pk_mul _ _) ?_
            refine rw_iload_n (pc := 76) dM_answer_76 rfl ?_
            refine rw_iadd (pc := 77) (v := nI (4 * c + 3)) dM_answer_77 (nI_add _ _) ?_
            refine rw_iald (pc := 78) (v := hp_I (hp_mv (hp_mv (hp_mv (hp_mv (hp_mv (m_roomH h u (hp_I h 69 c) (nI c) (hp_I h 70 c) (hp_I h 68 c)) 71 c 98 u) 72 c 99 u) 73 (4 * c + 0) 102 (4 * u + 0)) 73 (4 * c + 1) 102 (4 * u + 1)) 73 (4 * c + 2) 102 (4 * u + 2)) 73 (4 * c + 3)) (i := (4 * c + 3)) dM_answer_78 (mo_o73 hm) (mo_S73 hm) (ix_nI (by omega) (by decide)) rfl ?_
            refine rw_iast (pc := 79) (i := (4 * u + 3)) dM_answer_79 (mo_o102 hm) (mo_S102 hm) (ix_nI (by omega) (by decide)) ?_
            show rn_W G xM_answer (1, 0, 0) 0 0 80 [some (.inr (some 62)), some (.inl (nI c)), some (.inl (nI u)), some (.inl (nI 3))] [] (hp_mv (hp_mv (hp_mv (hp_mv (hp_mv (hp_mv (m_roomH h u (hp_I h 69 c) (nI c) (hp_I h 70 c) (hp_I h 68 c)) 71 c 98 u) 72 c 99 u) 73 (4 * c + 0) 102 (4 * u + 0)) 73 (4 * c + 1) 102 (4 * u + 1)) 73 (4 * c + 2) 102 (4 * u + 2)) 73 (4 * c + 3) 102 (4 * u + 3)) _
            replace hm := mo_mv (A := 73) (i := (4 * c + 3)) (B := 102) (t := (4 * u + 3)) hm
            refine rw_iinc (pc := 80) (x := nI 3) (y := nI 4) (L' := [some (.inr (some 62)), some (.inl (nI c)), some (.inl (nI u)), some (.inl (nI 4))]) dM_answer_80 (by decide) rfl (by decide) rfl ?_
            refine rw_goto (pc := 83) dM_answer_83 (tgt := 55) rfl ?_
            refine rw_iload_n (pc := 55) dM_answer_55 rfl ?_
            refine rw_iconst (pc := 56) (x := nI 4) dM_answer_56 (by decide) ?_
            refine rw_icmpge (pc := 57) dM_answer_57 (tgt := 86) rfl (fun c7 => ?_) (fun c7 => ?_)
            · skip
              replace c7 : 4 ≤ 4 := (nI_leI (a := 4) (b := 4) (by omega) (by omega)).mp c7
              exact rw_vret (pc := 86) dM_answer_86 rfl ⟨rfl, rfl⟩
            · skip
              replace c7 : ¬ (4 ≤ 4) := fun qz => c7 ((nI_leI (a := 4) (b := 4) (by omega) (by omega)).mpr qz)
              exact absurd (by decide) c7
  · skip
    replace c2 : ¬ (0 ≤ u) := fun qz => c2 ((nI_leI (a := 0) (b := u) (by omega) (by omega)).mpr qz)
    omega
def m_ans (h : ha_H) (u c : Nat) : ha_H := if u = 60 then h else m_ansT h u c
theorem cM_answer (G : mt_G) (h : ha_H) (hm : mo_ok h) (hb : mo_b h) {u : Nat} (hu : hp_I h 62 34 = nI u) (h60 : u ≤ 60) {c : Nat} (hc : c < 3) : rn_M G xM_answer (1, 0, 0) [.inr (some 62), .inl (nI c)] h (rn_v (fun h' => m_ans h u c = h')) := by
  unfold m_ans
  by_cases e : u = 60
  · rw [if_pos e]
    subst e
    exact cM_answer60 G h hm hb hu hc
  · rw [if_neg e]
    exact cM_answerT G h hm hb hu (by omega) hc
