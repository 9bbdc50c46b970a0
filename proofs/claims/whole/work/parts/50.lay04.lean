/-- the server's side -/
def SV (Q : Nat → Nat → Nat × Nat) (X : Nat → Nat) (a L : Nat) (su : Bool) (sn : Int32) (sg : Bool) (se : Int32) (pg : Nat → Nat → Int32) (s : ab_5) (h : ha_H) : Prop := mv_s L su sn sg se h ∧ mv_pg pg h ∧ mv_n s.1 h ∧ mv_md s.2.1 h ∧ mv_en s.2.2.1 h ∧ mv_sd s.2.2.2.1 h ∧ mv_ln a s.2.2.2.2 h ∧ pq Q X s.1 s.2.2.2.1 s.2.2.2.2
theorem sd_mem {n : List ab_M} {m x : ab_M} (h : x ∈ f_send n m) : x ∈ n ∨ x = m := by
  unfold f_send at h
  by_cases e : n.length < 60
  · rw [if_pos e] at h
    rcases List.mem_append.mp h with h | h
    · exact Or.inl h
    · exact Or.inr (List.mem_singleton.mp h)
  · rw [if_neg e] at h; exact Or.inl h
theorem hs_eq {md : Nat → Nat → Nat} {h : ha_H} (H : mv_md md h) {c f : Nat} (hc : c < 3) (hf : f < 4) : m_hs h c f = f_hl md c f := by
  obtain ⟨e, l⟩ := H c f hc hf
  unfold m_hs f_hl
  rw [e]
  rcases (by omega : md c f = 0 ∨ md c f = 1 ∨ md c f = 2) with q | q | q <;> rw [q] <;> decide
theorem cf_eq {md : Nat → Nat → Nat} {h : ha_H} (H : mv_md md h) {m : ab_M} {d : Nat} (hd : d < 3) (hf : am_f m < 4) (hm : am_m m ≤ 2) : m_cfB h (am_c m) (am_f m) (nI (am_m m)) d = f_cf md m d := by
  unfold m_cfB f_cf
  rw [hs_eq H hd hf, (H d _ hd hf).1]
  have l := (H d _ hd hf).2
  by_cases e : d = am_c m
  · simp [e]
  · have e1 : (nI (am_m m) = nI 2) = (am_m m = 2) := propext (nI_eq (by omega) (by omega))
    have e2 : (nI (md d (am_f m)) = nI 2) = (md d (am_f m) = 2) := propext (nI_eq (by omega) (by omega))
    simp only [e, e1, e2, decide_false, Bool.not_false, Bool.true_and, if_false]
    cases f_hl md d (am_f m)
    · rfl
    · by_cases x : am_m m = 2
      · simp [x]
      · simp [x]
theorem ca_eq {md : Nat → Nat → Nat} {h : ha_H} (H : mv_md md h) {m : ab_M} (hf : am_f m < 4) (hm : am_m m ≤ 2) : m_cfN h (am_c m) (am_f m) (nI (am_m m)) 3 = f_ca md m := by
  unfold m_cfN m_cfN m_cfN m_cfN f_ca
  rw [cf_eq H (by omega) hf hm, cf_eq H (by omega) hf hm, cf_eq H (by omega) hf hm]
  cases f_cf md m 0 <;> cases f_cf md m 1 <;> cases f_cf md m 2 <;> rfl
/-- an answer is kept and sent -/
theorem sv_ans {Q : Nat → Nat → Nat × Nat} {X : Nat → Nat} {a L : Nat} {su : Bool} {sn : Int32} {sg : Bool} {se : Int32} {pg : Nat → Nat → Int32} {n : List ab_M} {md : Nat → Nat → Nat} {en : Nat → Nat → Int32} {sd sd' : Nat → Option ab_M} {ln : Nat → List ab_M} {g : ha_H} {c : Nat} {r : ab_M} (H1 : mv_s L su sn sg se g) (H2 : mv_pg pg g) (H3 : mv_n n g) (H4 : mv_md md g) (H5 : mv_en en g) (H6 : mv_sd sd' g) (H7 : mv_ln a ln g) (H8 : pq Q X n sd ln) (hr : mv_r g c r) (hp : pm Q X r) (es : ∀ d, d < 3 → sd' d = some r ∨ sd' d = sd d) : SV Q X a L su sn sg se pg (f_send n r, md, en, sd', ln) (m_ans g (m_u g) c) := by
  have F : fr 63 94 g (m_ans g (m_u g) c) := fr_ans
  refine ⟨vk_s H1 (fk_ans (by omega)) (fk_ans (by omega)) (fr_mo F (by omega) (by omega)), vk_pg H2 (fr_mo F (by omega) (by omega)), vn_ans H3 hr, vk_md H4 (fr_mo F (by omega) (by omega)), vk_en H5 (fr_mo F (by omega) (by omega)), vk_sd H6 (fr_mo F (by omega) (by omega)), vk_ln H7 (fk_ans (by omega)) (fr_mo F (by omega) (by omega)), ?_, ?_, ?_⟩
  · intro m hm
    rcases sd_mem hm with q | rfl
    · exact H8.1 m q
    · exact hp
  · intro d r' hd e
    rcases es d hd with q | q
    · have e' : sd' d = some r' := e
      rw [q] at e'; cases e'; exact hp
    · have e' : sd' d = some r' := e
      rw [q] at e'; exact H8.2.1 d r' hd e'
  · exact H8.2.2
/-- the replies after a new one -/
theorem vd_fu {sd : Nat → Option ab_M} {h g : ha_H} {c : Nat} {r : ab_M} (H : mv_sd sd h) (hr : mv_r g c r) (q : ∀ x j, 68 ≤ x → x < 73 → ¬ j = c → hp_I g x j = hp_I h x j) (q3 : ∀ d p, d < 3 → ¬ d = c → p < 4 → hp_I g 73 (4 * d + p) = hp_I h 73 (4 * d + p)) : mv_sd (fu sd c (some r)) g := by
  intro d hd
  by_cases e : d = c
  · subst e
    rw [fu_at]
    refine ⟨fun z => (by cases z), fun r' z => ?_⟩
    cases z
    exact hr
  · rw [fu_ne _ _ e]
    refine ⟨fun z => by rw [q _ _ (by omega) (by omega) e]; exact (H d hd).1 z, fun r' z => ?_⟩
    obtain ⟨k1, k2, k3, k4, k5, k6⟩ := (H d hd).2 r' z
    exact ⟨k1, k2, by rw [q _ _ (by omega) (by omega) e]; exact k3, by rw [q _ _ (by omega) (by omega) e]; exact k4, by rw [q _ _ (by omega) (by omega) e]; exact k5, fun w => ⟨⟨by rw [q _ _ (by omega) (by omega) e]; exact (k6 w).1.1, by rw [q _ _ (by omega) (by omega) e]; exact (k6 w).1.2⟩, fun p hp => by rw [q3 _ _ hd e hp]; exact (k6 w).2 p hp⟩⟩
theorem fr_finH {lo hi : Nat} {g h : ha_H} {c : Nat} {x k f : Int32} (q : fr lo hi g h) (n : hi ≤ 68 ∨ 71 ≤ lo) : fr lo hi g (m_finH h c x k f) := fr_sI (fr_sI (fr_sI q (by omega)) (by omega)) (by omega)
theorem fk_finH {j : Nat} {g h : ha_H} {c : Nat} {x k f : Int32} (q : fk j g h) : fk j g (m_finH h c x k f) := fk_sI (fk_sI (fk_sI q (by omega)) (by omega)) (by omega)
theorem u_finH {h : ha_H} {c : Nat} {x k f : Int32} : m_u (m_finH h c x k f) = m_u h := by
  unfold m_u m_finH
  simp [hp_I_sI]
/-- an answer that is no grant -/
theorem sv_fin {Q : Nat → Nat → Nat × Nat} {X : Nat → Nat} {a L : Nat} {su : Bool} {sn : Int32} {sg : Bool} {se : Int32} {pg : Nat → Nat → Int32} {s : ab_5} {h : ha_H} (H : SV Q X a L su sn sg se pg s h) {r : ab_M} (h5 : 5 ≤ am_k r) (h7 : am_k r ≤ 7) (hp : pm Q X r) : SV Q X a L su sn sg se pg (f_fin r s) (m_fin h (m_u h) (am_c r) (am_n r) (nI (am_k r)) (nI (am_f r))) := by
  obtain ⟨H1, H2, H3, H4, H5, H6, H7, H8⟩ := H
  unfold m_fin
  rw [← u_finH (h := h) (c := am_c r) (x := am_n r) (k := nI (am_k r)) (f := nI (am_f r))]
  have hr : mv_r (m_finH h (am_c r) (am_n r) (nI (am_k r)) (nI (am_f r))) (am_c r) r := by
    refine ⟨rfl, ⟨by omega, h7⟩, ?_, ?_, ?_, fun z => absurd z (by omega)⟩
    · simp [m_finH, hp_I_sI]
    · simp [m_finH, hp_I_sI]
    · simp [m_finH, hp_I_sI]
  refine sv_ans (sd := s.2.2.2.1) (vk_s H1 (fk_finH (fk_rf _)) (fk_finH (fk_rf _)) (fr_finH (fr_rf _) (by omega))) (vk_pg H2 (fr_finH (fr_rf _) (by omega))) (vk_n H3 (fk_finH (fk_rf _)) (fr_finH (fr_rf _) (by omega))) (vk_md H4 (fr_finH (fr_rf _) (by omega))) (vk_en H5 (fr_finH (fr_rf _) (by omega))) (vd_fu H6 hr ?_ ?_) (vk_ln H7 (fk_finH (fk_rf _)) (fr_finH (fr_rf _) (by omega))) H8 hr hp ?_
  · intro x j h1 h2 hj
    simp [m_finH, hp_I_sI, hj]
  · intro d p hd e hp
    simp [m_finH, hp_I_sI]
  · intro d hd
    by_cases e : d = am_c r
    · exact Or.inl (by rw [e, fu_at])
    · exact Or.inr (by rw [fu_ne _ _ e])
theorem u_grH {h : ha_H} {c f : Nat} {m : Int32} {b : Bool} : m_u (m_grH h c f m b) = m_u h := by
  unfold m_u m_grH
  simp [hp_mv, hp_I_sI]
theorem fr_grH {lo hi : Nat} {g h : ha_H} {c f : Nat} {m : Int32} {b : Bool} (q : fr lo hi g h) (n : hi ≤ 66 ∨ (68 ≤ lo ∧ hi ≤ 71) ∨ 74 ≤ lo) : fr lo hi g (m_grH h c f m b) := fr_sI (fr_sI (fr_mv (fr_mv (fr_mv (fr_mv (fr_sI (fr_sI q (by omega)) (by omega)) (by omega)) (by omega)) (by omega)) (by omega)) (by omega)) (by omega)
theorem fk_grH {j : Nat} {g h : ha_H} {c f : Nat} {m : Int32} {b : Bool} (q : fk j g h) : fk j g (m_grH h c f m b) := fk_sI (fk_sI (fk_mv (fk_mv (fk_mv (fk_mv (fk_sI (fk_sI q (by omega)) (by omega)) (by omega)) (by omega)) (by omega)) (by omega)) (by omega)) (by omega)
/-- a grant -/
theorem sv_gr {Q : Nat → Nat → Nat × Nat} {X : Nat → Nat} {a L : Nat} {su : Bool} {sn : Int32} {sg : Bool} {se : Int32} {pg : Nat → Nat → Int32} {s : ab_5} {h : ha_H} (H : SV Q X a L su sn sg se pg s h) {m : ab_M} (h1 : am_k m ≤ 3) (hp : pm Q X m) : SV Q X a L su sn sg se pg (f_gr L sn sg pg m s) (m_gr h (m_u h) (am_c m) (am_f m) (am_n m) (nI (am_m m)) sg) := by
  obtain ⟨H1, H2, H3, H4, H5, H6, H7, H8⟩ := H
  have hc : am_c m < 3 := hp.1.1
  have hf : am_f m < 4 := hp.1.2.1
  have hm : am_m m ≤ 2 := hp.1.2.2.1
  unfold m_gr m_fin
  have eb : (m_hs h (am_c m) (am_f m) || sg) = (bif f_hl s.2.1 (am_c m) (am_f m) then true else sg) := by rw [hs_eq H4 hc hf]; cases f_hl s.2.1 (am_c m) (am_f m) <;> rfl
  have eu : m_u h = m_u (m_finH (m_grH h (am_c m) (am_f m) (nI (am_m m)) sg) (am_c m) (am_n m) (nI 4) (nI (am_f m))) := by rw [u_finH, u_grH]
  rw [eu]
  have hr : mv_r (m_finH (m_grH h (am_c m) (am_f m) (nI (am_m m)) sg) (am_c m) (am_n m) (nI 4) (nI (am_f m))) (am_c m) (f_gR sg pg s.2.1 m) := by
    refine ⟨rfl, ⟨Nat.le_of_ble_eq_true rfl, Nat.le_of_ble_eq_true rfl⟩, ?_, ?_, ?_, fun _ => ⟨⟨?_, ?_⟩, fun p hp => ?_⟩⟩
    · simp [m_finH, hp_I_sI, f_gR, f_rp, am_n]
    · simp [m_finH, hp_I_sI, f_gR, f_rp, am_k]
    · simp [m_finH, hp_I_sI, f_gR, f_rp, am_f]
    · simp [m_finH, m_grH, hp_mv, hp_I_sI, f_gR, f_rp, am_m]
    · simp only [m_finH, m_grH, hp_mv, hp_I_sI]
      simp [eb, f_gR, f_rp, am_y]
    · have w := H2 _ p hf hp
      rcases (by omega : p = 0 ∨ p = 1 ∨ p = 2 ∨ p = 3) with rfl | rfl | rfl | rfl
      · simp [m_finH, m_grH, hp_mv, hp_I_sI, f_gR, f_rp, am_4] at w ⊢; exact w
      · simp [m_finH, m_grH, hp_mv, hp_I_sI, f_gR, f_rp, am_4] at w ⊢; exact w
      · simp [m_finH, m_grH, hp_mv, hp_I_sI, f_gR, f_rp, am_4] at w ⊢; exact w
      · simp [m_finH, m_grH, hp_mv, hp_I_sI, f_gR, f_rp, am_4] at w ⊢; exact w
  have pr : pm Q X (f_gR sg pg s.2.1 m) := by
    refine ⟨⟨hc, hf, hm, Nat.le_of_ble_eq_true rfl⟩, Or.inr (Or.inl ⟨⟨Nat.le_of_ble_eq_true rfl, Nat.le_of_ble_eq_true rfl⟩, ?_⟩)⟩
    rcases hp.2 with ⟨_, x, x1, x2, x3, x4⟩ | ⟨q, _⟩ | q
    · exact ⟨x, x1, x2, x3, fun z => by cases z⟩
    · omega
    · omega
  have ix : ∀ c f, c < 3 → f < 4 → (4 * c + f = 4 * am_c m + am_f m ↔ c = am_c m ∧ f = am_f m) := fun c f _ _ => by omega
  refine sv_ans (sd := s.2.2.2.1) (vk_s H1 (fk_finH (fk_grH (fk_rf _))) (fk_finH (fk_grH (fk_rf _))) (fr_finH (fr_grH (fr_rf _) (by omega)) (by omega))) (vk_pg H2 (fr_finH (fr_grH (fr_rf _) (by omega)) (by omega))) (vk_n H3 (fk_finH (fk_grH (fk_rf _))) (fr_finH (fr_grH (fr_rf _) (by omega)) (by omega))) ?_ ?_ (vd_fu H6 hr ?_ ?_) (vk_ln H7 (fk_finH (fk_grH (fk_rf _))) (fr_finH (fr_grH (fr_rf _) (by omega)) (by omega))) H8 hr pr ?_
  · intro c f h1 h2
    simp only [m_finH, m_grH, hp_mv, hp_I_sI, fu2]
    simp [ix c f h1 h2]
    by_cases e : c = am_c m ∧ f = am_f m
    · simp [e, hm]
    · simp [e, H4 c f h1 h2]
  · intro c f h1 h2
    simp only [m_finH, m_grH, hp_mv, hp_I_sI, fu2]
    simp [ix c f h1 h2]
    by_cases e : c = am_c m ∧ f = am_f m
    · simp [e, H1.2.2.1, H1.1]
    · simp [e, H5 c f h1 h2]
  · intro x j h1 h2 hj
    have : ¬ x = 73 := by omega
    have : ¬ x = 67 := by omega
    have : ¬ x = 66 := by omega
    simp [m_finH, m_grH, hp_mv, hp_I_sI, hj, *]
  · intro d p hd e hp
    have : ∀ q, q < 4 → ¬ 4 * d + p = 4 * am_c m + q := fun q hq => by omega
    have := this 0 (by omega)
    have := (by omega : ¬ 4 * d + p = 4 * am_c m + 1)
    have := (by omega : ¬ 4 * d + p = 4 * am_c m + 2)
    have := (by omega : ¬ 4 * d + p = 4 * am_c m + 3)
    simp_all [m_finH, m_grH, hp_mv, hp_I_sI]
  · intro d hd
    by_cases e : d = am_c m
    · exact Or.inl (by rw [e, fu_at])
    · exact Or.inr (by rw [fu_ne _ _ e])
