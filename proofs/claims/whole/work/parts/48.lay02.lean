theorem fr_roomH {g h : ha_H} {u : Nat} {k c f x : Int32} (q : fr 63 94 g h) : fr 63 94 g (m_roomH h u k c f x) := by
  unfold m_roomH
  exact fr_sI (fr_sI (fr_sI (fr_sI (fr_sI (fr_sI (fr_sI (fr_sI (fr_sI q (by omega)) (by omega)) (by omega)) (by omega)) (by omega)) (by omega)) (by omega)) (by omega)) (by omega)
theorem fk_roomH {g h : ha_H} {u j : Nat} {k c f x : Int32} (q : fk j g h) (n : ¬ j = 34) : fk j g (m_roomH h u k c f x) := by
  unfold m_roomH
  exact fk_sI (fk_sI (fk_sI (fk_sI (fk_sI (fk_sI (fk_sI (fk_sI (fk_sI q (by omega)) (by omega)) (by omega)) (by omega)) (by omega)) (by omega)) (by omega)) (by omega)) (by omega)
theorem fr_ask {h : ha_H} {u c : Nat} : fr 63 94 h (m_ask h u c) := by
  unfold m_ask m_askT
  by_cases e : u = 60
  · rw [if_pos e]; exact fr_rf h
  · rw [if_neg e]; exact fr_mv (fr_mv (fr_mv (fr_mv (fr_roomH (fr_rf h)) (by omega)) (by omega)) (by omega)) (by omega)
theorem fk_ask {h : ha_H} {u c j : Nat} (n : ¬ j = 34) : fk j h (m_ask h u c) := by
  unfold m_ask m_askT
  by_cases e : u = 60
  · rw [if_pos e]; exact fk_rf h
  · rw [if_neg e]; exact fk_mv (fk_mv (fk_mv (fk_mv (fk_roomH (fk_rf h) n) (by omega)) (by omega)) (by omega)) (by omega)
theorem fr_ans {h : ha_H} {u c : Nat} : fr 63 94 h (m_ans h u c) := by
  unfold m_ans m_ansT
  by_cases e : u = 60
  · rw [if_pos e]; exact fr_rf h
  · rw [if_neg e]; exact fr_mv (fr_mv (fr_mv (fr_mv (fr_mv (fr_mv (fr_roomH (fr_rf h)) (by omega)) (by omega)) (by omega)) (by omega)) (by omega)) (by omega)
theorem fk_ans {h : ha_H} {u c j : Nat} (n : ¬ j = 34) : fk j h (m_ans h u c) := by
  unfold m_ans m_ansT
  by_cases e : u = 60
  · rw [if_pos e]; exact fk_rf h
  · rw [if_neg e]; exact fk_mv (fk_mv (fk_mv (fk_mv (fk_mv (fk_mv (fk_roomH (fk_rf h) n) (by omega)) (by omega)) (by omega)) (by omega)) (by omega)) (by omega)
theorem fr_room {h : ha_H} {u : Nat} {k c f x : Int32} : fr 63 94 h (m_room h u k c f x).2 := by
  unfold m_room
  by_cases e : u = 60
  · rw [if_pos e]; exact fr_rf h
  · rw [if_neg e]; exact fr_roomH (fr_rf h)
theorem fk_room {h : ha_H} {u j : Nat} {k c f x : Int32} (n : ¬ j = 34) : fk j h (m_room h u k c f x).2 := by
  unfold m_room
  by_cases e : u = 60
  · rw [if_pos e]; exact fk_rf h
  · rw [if_neg e]; exact fk_roomH (fk_rf h) n
theorem vn_ask {n : List ab_M} {h : ha_H} {m : ab_M} {c : Nat} (H : mv_n n h) (e0 : am_c m = c) (e1 : hp_I h 87 c = nI (am_k m)) (e2 : hp_I h 88 c = nI (am_f m)) (e3 : hp_I h 78 c = am_n m) (e4 : am_k m = 1 → hp_I h 89 c = nI (am_m m) ∧ hp_I h 90 c = m_bi (am_y m)) (e5 : am_k m = 2 → hp_I h 91 c = nI (am_p m) ∧ hp_I h 92 c = am_v m) (e6 : ∃ p, p < 4 ∧ hp_I h 91 c = nI p) (e7 : ¬ am_k m = 4) : mv_n (f_send n m) (m_ask h (m_u h) c) := by
  rw [vn_u H]
  unfold f_send m_ask
  by_cases hl : n.length < 60
  · rw [if_pos hl, if_neg (by omega)]
    refine vn_add H hl ?_ ?_ ?_ ?_
    · simp [m_askT, m_roomH, hp_mv, hp_I_sI]
    · intro a h1 h2 j hj
      simp [m_askT, m_roomH, hp_mv, hp_I_sI, hj]
      intro z; omega
    · intro j hj
      simp [m_askT, m_roomH, hp_mv, hp_I_sI]
    · refine ⟨⟨?_, ?_, ?_, ?_⟩, fun z => ?_, fun z => ?_, ?_, fun z => absurd z e7⟩
      · simp [m_askT, m_roomH, hp_mv, hp_I_sI, e1]
      · simp [m_askT, m_roomH, hp_mv, hp_I_sI, e0]
      · simp [m_askT, m_roomH, hp_mv, hp_I_sI, e2]
      · simp [m_askT, m_roomH, hp_mv, hp_I_sI, e3]
      · have z' := e4 (by omega)
        simp [m_askT, m_roomH, hp_mv, hp_I_sI, z'.1, z'.2]
      · have z' := e5 z
        simp [m_askT, m_roomH, hp_mv, hp_I_sI, z'.1, z'.2]
      · obtain ⟨p, hp, ep⟩ := e6
        exact ⟨p, hp, by simp [m_askT, m_roomH, hp_mv, hp_I_sI, ep]⟩
  · rw [if_neg hl, if_pos (by have := H.2.1; omega)]
    exact H
theorem vn_ans {n : List ab_M} {h : ha_H} {r : ab_M} {c : Nat} (H : mv_n n h) (hr : mv_r h c r) : mv_n (f_send n r) (m_ans h (m_u h) c) := by
  rw [vn_u H]
  obtain ⟨e0, ⟨k4, k7⟩, e1, e2, e3, e4⟩ := hr
  unfold f_send m_ans
  by_cases hl : n.length < 60
  · rw [if_pos hl, if_neg (by omega)]
    refine vn_add H hl ?_ ?_ ?_ ?_
    · simp [m_ansT, m_roomH, hp_mv, hp_I_sI]
    · intro a h1 h2 j hj
      have : ¬ a = 102 := by omega
      simp [m_ansT, m_roomH, hp_mv, hp_I_sI, hj, this]
      intro z; omega
    · intro j hj
      have : ∀ q, q < 4 → ¬ j = 4 * n.length + q := fun q hq => by omega
      simp [m_ansT, m_roomH, hp_mv, hp_I_sI, this]
      omega
    · refine ⟨⟨?_, ?_, ?_, ?_⟩, fun z => ?_, fun z => absurd z (by omega), ⟨0, by omega, ?_⟩, fun z p hp => ?_⟩
      · simp [m_ansT, m_roomH, hp_mv, hp_I_sI, e2]
      · simp [m_ansT, m_roomH, hp_mv, hp_I_sI, e0]
      · simp [m_ansT, m_roomH, hp_mv, hp_I_sI, e3]
      · simp [m_ansT, m_roomH, hp_mv, hp_I_sI, e1]
      · have z' := (e4 (by omega)).1
        simp [m_ansT, m_roomH, hp_mv, hp_I_sI, z'.1, z'.2]
      · simp [m_ansT, m_roomH, hp_mv, hp_I_sI]
      · have z' := (e4 z).2
        rcases (by omega : p = 0 ∨ p = 1 ∨ p = 2 ∨ p = 3) with rfl | rfl | rfl | rfl
        · have w := z' 0 (by omega)
          simp [m_ansT, m_roomH, hp_mv, hp_I_sI] at w ⊢; exact w
        · have w := z' 1 (by omega)
          simp [m_ansT, m_roomH, hp_mv, hp_I_sI] at w ⊢; exact w
        · have w := z' 2 (by omega)
          simp [m_ansT, m_roomH, hp_mv, hp_I_sI] at w ⊢; exact w
        · have w := z' 3 (by omega)
          simp [m_ansT, m_roomH, hp_mv, hp_I_sI] at w ⊢; exact w
  · rw [if_neg hl, if_pos (by have := H.2.1; omega)]
    exact H
theorem vn_8 {n : List ab_M} {h : ha_H} {d f : Nat} (H : mv_n n h) : mv_n (f_send n (fm_8 d f)) (m_room h (m_u h) (nI 8) (nI d) (nI f) (nI 0)).2 := by
  rw [vn_u H]
  unfold f_send m_room
  by_cases hl : n.length < 60
  · rw [if_pos hl, if_neg (by omega)]
    refine vn_add H hl ?_ ?_ ?_ ?_
    · simp [m_roomH, hp_I_sI]
    · intro a h1 h2 j hj
      simp [m_roomH, hp_I_sI, hj]
      intro z; omega
    · intro j hj
      simp [m_roomH, hp_I_sI]
    · refine ⟨⟨?_, ?_, ?_, ?_⟩, fun z => ?_, fun z => ?_, ⟨0, by omega, ?_⟩, fun z => ?_⟩
      · simp [m_roomH, hp_I_sI, fm_8, am_k]
      · simp [m_roomH, hp_I_sI, fm_8, am_c]
      · simp [m_roomH, hp_I_sI, fm_8, am_f]
      · simp [m_roomH, hp_I_sI, fm_8, am_n]
      · simp [fm_8, am_k] at z
      · simp [fm_8, am_k] at z
      · simp [m_roomH, hp_I_sI]
      · simp [fm_8, am_k] at z
  · rw [if_neg hl, if_pos (by have := H.2.1; omega)]
    exact H
