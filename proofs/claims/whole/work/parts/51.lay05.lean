theorem sg_le {L : Nat} {su : Bool} {sn : Int32} {sg : Bool} {se : Int32} {h : ha_H} (H : mv_s L su sn sg se h) : decide (hp_I h 62 6 ≤ 0) = !sg := by
  rw [H.2.2.2.1]
  cases sg
  · rfl
  · have q := H.2.2.2.2 rfl
    show decide (se ≤ 0) = false
    rw [decide_eq_false_iff_not]
    exact Int32.not_le.mpr q
theorem sg_eq {L : Nat} {su : Bool} {sn : Int32} {sg : Bool} {se : Int32} {h : ha_H} (H : mv_s L su sn sg se h) : (hp_I h 62 6 = 0) = (sg = false) := by
  rw [H.2.2.2.1]
  cases sg
  · show (nI 0 = 0) = _
    exact propext ⟨fun _ => rfl, fun _ => nI_0⟩
  · have q := H.2.2.2.2 rfl
    show (se = 0) = _
    refine propext ⟨fun e => ?_, fun e => (by cases e)⟩
    rw [e] at q
    exact absurd q (by decide)
theorem sv_8 {Q : Nat → Nat → Nat × Nat} {X : Nat → Nat} {a L : Nat} {su : Bool} {sn : Int32} {sg : Bool} {se : Int32} {pg : Nat → Nat → Int32} {n : List ab_M} {md : Nat → Nat → Nat} {t : (Nat → Nat → Int32) × (Nat → Option ab_M) × (Nat → List ab_M)} {h : ha_H} {d f : Nat} (H : SV Q X a L su sn sg se pg (n, md, t) h) (hd : d < 3) (hf : f < 4) : SV Q X a L su sn sg se pg (f_send n (fm_8 d f), md, t) (m_room h (m_u h) (nI 8) (nI d) (nI f) (nI 0)).2 := by
  obtain ⟨H1, H2, H3, H4, H5, H6, H7, H8⟩ := H
  have F : fr 63 94 h (m_room h (m_u h) (nI 8) (nI d) (nI f) (nI 0)).2 := fr_room
  refine ⟨vk_s H1 (fk_room (by omega)) (fk_room (by omega)) (fr_mo F (by omega) (by omega)), vk_pg H2 (fr_mo F (by omega) (by omega)), vn_8 H3, vk_md H4 (fr_mo F (by omega) (by omega)), vk_en H5 (fr_mo F (by omega) (by omega)), vk_sd H6 (fr_mo F (by omega) (by omega)), vk_ln H7 (fk_room (by omega)) (fr_mo F (by omega) (by omega)), ?_, H8.2.1, H8.2.2⟩
  intro m hm
  rcases sd_mem hm with q | rfl
  · exact H8.1 m q
  · exact ⟨⟨hd, hf, Nat.le_of_ble_eq_true rfl, Nat.le_of_ble_eq_true rfl⟩, Or.inr (Or.inr rfl)⟩
theorem sv_r1 {Q : Nat → Nat → Nat × Nat} {X : Nat → Nat} {a L : Nat} {su : Bool} {sn : Int32} {sg : Bool} {se : Int32} {pg : Nat → Nat → Int32} {n : List ab_M} {md : Nat → Nat → Nat} {t : (Nat → Nat → Int32) × (Nat → Option ab_M) × (Nat → List ab_M)} {h : ha_H} {d : Nat} {m : ab_M} (H : SV Q X a L su sn sg se pg (n, md, t) h) (hd : d < 3) (hf : am_f m < 4) (hm : am_m m ≤ 2) : SV Q X a L su sn sg se pg (f_r1 md m d n, md, t) (if m_cfB h (am_c m) (am_f m) (nI (am_m m)) d = true then (m_room h (m_u h) (nI 8) (nI d) (nI (am_f m)) (nI 0)).2 else h) := by
  rw [cf_eq H.2.2.2.1 hd hf hm]
  unfold f_r1
  show SV Q X a L su sn sg se pg (bif f_cf md m d then f_send n (fm_8 d (am_f m)) else n, md, t) (if f_cf md m d = true then _ else h)
  cases e : f_cf md m d
  · rw [if_neg (by decide)]; exact H
  · rw [if_pos rfl]; exact sv_8 H hd hf
theorem sv_rc {Q : Nat → Nat → Nat × Nat} {X : Nat → Nat} {a L : Nat} {su : Bool} {sn : Int32} {sg : Bool} {se : Int32} {pg : Nat → Nat → Int32} {n : List ab_M} {md : Nat → Nat → Nat} {t : (Nat → Nat → Int32) × (Nat → Option ab_M) × (Nat → List ab_M)} {h : ha_H} {m : ab_M} (H : SV Q X a L su sn sg se pg (n, md, t) h) (hf : am_f m < 4) (hm : am_m m ≤ 2) : SV Q X a L su sn sg se pg (f_rc md m n, md, t) (m_rc (am_c m) (am_f m) (nI (am_m m)) 3 h 0) := by
  unfold f_rc m_rc m_rc m_rc m_rc
  exact sv_r1 (sv_r1 (sv_r1 H (by omega) hf hm) (by omega) hf hm) (by omega) hf hm
theorem fr_wtH {lo hi : Nat} {g h : ha_H} {c f : Nat} {x m : Int32} (q : fr lo hi g h) (n : 63 ≤ lo ∧ (hi ≤ 74 ∨ 78 ≤ lo)) : fr lo hi g (m_wtH h c f x m) := fr_sI (fr_sI (fr_sI (fr_sI (fr_sI q (by omega)) (by omega)) (by omega)) (by omega)) (by omega)
theorem fk_wtH {j : Nat} {g h : ha_H} {c f : Nat} {x m : Int32} (q : fk j g h) (n : ¬ j = 17) : fk j g (m_wtH h c f x m) := fk_sI (fk_sI (fk_sI (fk_sI (fk_sI q (by omega)) (by omega)) (by omega)) (by omega)) (by omega)
theorem sv_wt {Q : Nat → Nat → Nat × Nat} {X : Nat → Nat} {a L : Nat} {su : Bool} {sn : Int32} {sg : Bool} {se : Int32} {pg : Nat → Nat → Int32} {s : ab_5} {h : ha_H} {m : ab_M} (H : SV Q X a L su sn sg se pg s h) (ha : a < 2 ^ 30) (hk : am_k m = 1) (hp : pm Q X m) (h0 : hp_I h 74 (am_c m) = -1) : SV Q X (a + 1) L su sn sg se pg (f_wt m s) (m_rc (am_c m) (am_f m) (nI (am_m m)) 3 (m_wtH h (am_c m) (am_f m) (am_n m) (nI (am_m m))) 0) := by
  obtain ⟨H1, H2, H3, H4, H5, H6, H7, H8⟩ := H
  refine sv_rc (n := s.1) (md := s.2.1) ⟨vk_s H1 (fk_wtH (fk_rf _) (by omega)) (fk_wtH (fk_rf _) (by omega)) (fr_wtH (fr_rf _) (by omega)), vk_pg H2 (fr_wtH (fr_rf _) (by omega)), vk_n H3 (fk_wtH (fk_rf _) (by omega)) (fr_wtH (fr_rf _) (by omega)), vk_md H4 (fr_wtH (fr_rf _) (by omega)), vk_en H5 (fr_wtH (fr_rf _) (by omega)), vk_sd H6 (fr_wtH (fr_rf _) (by omega)), vl_add H7 ha hk hp.1.1 hp.1.2.1 h0, H8.1, H8.2.1, ?_⟩ hp.1.2.1 hp.1.2.2.1
  intro f o hf ho
  by_cases e : f = am_f m
  · subst e
    have ho' : o ∈ fu s.2.2.2.2 (am_f m) (f_add (s.2.2.2.2 (am_f m)) m) (am_f m) := ho
    rw [fu_at] at ho'
    unfold f_add at ho'
    by_cases c : (s.2.2.2.2 (am_f m)).length < 3
    · rw [if_pos c] at ho'
      rcases List.mem_append.mp ho' with q | q
      · exact H8.2.2 _ o hf q
      · rw [List.mem_singleton] at q; subst q; exact hp
    · rw [if_neg c] at ho'
      exact H8.2.2 _ o hf ho'
  · have ho' : o ∈ fu s.2.2.2.2 (am_f m) (f_add (s.2.2.2.2 (am_f m)) m) f := ho
    rw [fu_ne _ _ e] at ho'
    exact H8.2.2 f o hf ho'
theorem pm_rp {Q : Nat → Nat → Nat × Nat} {X : Nat → Nat} {m : ab_M} (hp : pm Q X m) (h3 : am_k m ≤ 3) {k : Nat} {b : Bool} {four : Nat → Int32} (h4 : 4 ≤ k) (h7 : k ≤ 7) (h2 : k = 7 → am_k m = 2) : pm Q X (f_rp k m b four) := by
  refine ⟨⟨hp.1.1, hp.1.2.1, hp.1.2.2.1, Nat.le_of_ble_eq_true rfl⟩, Or.inr (Or.inl ⟨⟨h4, h7⟩, ?_⟩)⟩
  rcases hp.2 with ⟨_, x, x1, x2, x3, x4⟩ | ⟨q, _⟩ | q
  · exact ⟨x, x1, x2, x3, fun z => by
      show (Q (am_c m) x).1 = 2
      rw [x4]; exact h2 z⟩
  · omega
  · omega
theorem sv_al {Q : Nat → Nat → Nat × Nat} {X : Nat → Nat} {a L : Nat} {su : Bool} {sn : Int32} {sg : Bool} {se : Int32} {pg : Nat → Nat → Int32} {s : ab_5} {h : ha_H} {m : ab_M} (H : SV Q X a L su sn sg se pg s h) (ha : a < 2 ^ 30) (hk : am_k m = 1) (hp : pm Q X m) (h0 : hp_I h 74 (am_c m) = -1) : ∃ b, b ≤ a + 1 ∧ SV Q X b L su sn sg se pg (f_sl L sn sg pg m s) (m_al h (m_u h) (am_c m) (am_f m) (am_n m) (nI (am_m m)) (am_y m)) := by
  have hw := sv_wt H ha hk hp h0
  have hg := sv_gr H (by omega) hp
  have hf := sv_fin H (r := f_rp 5 m false (fun _ => 0)) (Nat.le_of_ble_eq_true rfl) (Nat.le_of_ble_eq_true rfl) (pm_rp hp (by omega) (by omega) (by omega) (fun z => by omega))
  unfold m_al m_alT f_sl
  have eg := sg_le H.1
  have eg' : (hp_I h 62 6 ≤ 0) = (sg = false) := by
    have := eg
    cases sg <;> simp_all
  rw [hs_eq H.2.2.2.1 hp.1.1 hp.1.2.1, ca_eq H.2.2.2.1 hp.1.2.1 hp.1.2.2.1, ot_eq H.2.2.2.2.2.2.1 hp.1.2.1 h0, eg]
  simp only [eg']
  cases e1 : f_hl s.2.1 (am_c m) (am_f m) <;> by_cases e2 : (s.2.2.2.2 (am_f m)).length ≤ 0 <;> cases e3 : f_ca s.2.1 m <;> cases sg <;> cases e5 : am_y m <;> simp [e2, cond_true, cond_false] <;> first
    | exact ⟨a + 1, Nat.le_refl _, hw⟩
    | exact ⟨a, Nat.le_succ _, hg⟩
    | exact ⟨a, Nat.le_succ _, hf⟩
