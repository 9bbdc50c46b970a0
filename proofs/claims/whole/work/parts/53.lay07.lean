theorem sv_li {Q : Nat → Nat → Nat × Nat} {X : Nat → Nat} {a L : Nat} {su : Bool} {sn : Int32} {se : Int32} {pg : Nat → Nat → Int32} {f : Nat} (hf : f < 4) : ∀ (k : Nat) {s : ab_5} {h : ha_H} (_ : SV Q X a L su sn false se pg s h), SV Q X a L su sn false se pg (f_li L sn false pg f k s) (m_sv k h f)
  | 0, _, _, H => H
  | k + 1, s, h, H => by
    have e0 : hp_I h 62 6 = 0 := (sg_eq H.1).mpr rfl
    have F := fs_eq H.2.2.2.2.2.2.1 hf
    unfold m_sv f_li
    cases e : s.2.2.2.2 f with
    | nil =>
      rw [e] at F
      rw [F]
      exact H
    | cons m l =>
      rw [e] at F
      have hm : m ∈ s.2.2.2.2 f := by rw [e]; exact List.mem_cons_self
      have F' : m_fs h (nI f) 3 = some (am_c m) := F
      rw [F']
      obtain ⟨k1, k2, k3, k4, k5, k6, _⟩ := H.2.2.2.2.2.2.1.2.1 f hf m hm
      have hp : pm Q X m := H.2.2.2.2.2.2.2.2.2 f m hf hm
      subst k2
      show SV Q X a L su sn false se pg (bif f_ca s.2.1 m then s else f_li L sn false pg (am_f m) k (f_gr L sn false pg m (s.1, s.2.1, s.2.2.1, s.2.2.2.1, fu s.2.2.2.2 (am_f m) (f_out (m :: l) (am_c m))))) (if hp_I h 62 6 = 0 then (if m_cfN h (am_c m) (am_f m) (hp_I h 76 (am_c m)) 3 = false then m_sv k (m_gw h (am_c m) (am_f m)) (am_f m) else h) else h)
      rw [if_pos e0, k6, ca_eq H.2.2.2.1 hf hp.1.2.2.1]
      cases e2 : f_ca s.2.1 m
      · rw [if_pos rfl]
        refine sv_li hf k ?_
        have H' : SV Q X a L su sn false se pg (s.1, s.2.1, s.2.2.1, s.2.2.2.1, fu s.2.2.2.2 (am_f m) (f_out (m :: l) (am_c m))) (hp_sI h 74 (am_c m) (-1)) := by
          obtain ⟨H1, H2, H3, H4, H5, H6, H7, H8⟩ := sv_lo (c := am_c m) H
          refine ⟨H1, H2, H3, H4, H5, H6, vx_ln H7 (fun f' hf' => ?_), H8.1, H8.2.1, fun f' o hf' ho => ?_⟩
          · show f_out (s.2.2.2.2 f') (am_c m) = fu s.2.2.2.2 (am_f m) (f_out (m :: l) (am_c m)) f'
            by_cases w : f' = am_f m
            · rw [w, fu_at, e]
            · rw [fu_ne _ _ w]
              exact lo_id (fun o ho z => w (vl_one H.2.2.2.2.2.2.1 hf' hf ho hm z))
          · have ho' : o ∈ fu s.2.2.2.2 (am_f m) (f_out (m :: l) (am_c m)) f' := ho
            by_cases w : f' = am_f m
            · rw [w, fu_at] at ho'
              refine H.2.2.2.2.2.2.2.2.2 _ o hf ?_
              rw [e]; exact lo_mem ho'
            · rw [fu_ne _ _ w] at ho'
              exact H.2.2.2.2.2.2.2.2.2 f' o hf' ho'
        unfold m_gw
        have eu : m_u h = m_u (hp_sI h 74 (am_c m) (-1)) := by unfold m_u; simp [hp_I_sI]
        have e5 : hp_I (hp_sI h 74 (am_c m) (-1)) 75 (am_c m) = am_n m := by rw [hp_I_sI, if_neg (by omega)]; exact k5
        have e6 : hp_I (hp_sI h 74 (am_c m) (-1)) 76 (am_c m) = nI (am_m m) := by rw [hp_I_sI, if_neg (by omega)]; exact k6
        rw [eu, e5, e6]
        exact sv_gr H' (by omega) hp
      · rw [if_neg (by decide)]
        exact H
theorem sv_stop {h : ha_H} (e : ¬ hp_I h 62 6 = 0) : ∀ k f, m_sv k h f = h
  | 0, _ => rfl
  | k + 1, f => by
    unfold m_sv
    cases m_fs h (nI f) 3 with
    | none => rfl
    | some c => exact if_neg e
theorem sv_gt {Q : Nat → Nat → Nat × Nat} {X : Nat → Nat} {a L : Nat} {su : Bool} {sn : Int32} {sg : Bool} {se : Int32} {pg : Nat → Nat → Int32} {s : ab_5} {h : ha_H} (H : SV Q X a L su sn sg se pg s h) : SV Q X a L su sn sg se pg (f_gt L sn sg pg s) (m_serve h) := by
  unfold m_serve m_svN m_svN m_svN m_svN m_svN f_gt f_go
  cases sg
  · exact sv_li (by omega) 3 (sv_li (by omega) 3 (sv_li (by omega) 3 (sv_li (by omega) 3 H)))
  · have e : ¬ hp_I h 62 6 = 0 := by rw [sg_eq H.1]; decide
    rw [sv_stop e, sv_stop e, sv_stop e, sv_stop e]
    exact H
/-- the reference's leases that end -/
theorem el_sp : ∀ (n : Nat) (h : ha_H) (l : Nat), (∀ x y, ¬ x = 66 → hp_I (m_el n h l) x y = hp_I h x y) ∧ ∀ j, hp_I (m_el n h l) 66 j = if l ≤ j ∧ j < l + n ∧ ¬ hp_I h 64 3 < hp_I h 67 j then nI 0 else hp_I h 66 j
  | 0, h, l => ⟨fun _ _ _ => rfl, fun j => by rw [if_neg (by omega)]; rfl⟩
  | n + 1, h, l => by
    unfold m_el
    generalize eg : (if hp_I h 64 3 < hp_I h 67 l then hp_mv h 66 l 66 l else hp_sI h 66 l (nI 0)) = g
    have G : (∀ x y, ¬ x = 66 → hp_I g x y = hp_I h x y) ∧ ∀ j, hp_I g 66 j = if j = l ∧ ¬ hp_I h 64 3 < hp_I h 67 l then nI 0 else hp_I h 66 j := by
      subst eg
      by_cases c : hp_I h 64 3 < hp_I h 67 l
      · rw [if_pos c]
        refine ⟨fun x y hx => by unfold hp_mv; rw [hp_I_sI, if_neg (fun z => hx z.1)], fun j => ?_⟩
        unfold hp_mv
        rw [hp_I_sI, if_neg (fun z : j = l ∧ ¬ hp_I h 64 3 < hp_I h 67 l => z.2 c)]
        by_cases w : 66 = 66 ∧ j = l
        · rw [if_pos w, w.2]
        · rw [if_neg w]
      · rw [if_neg c]
        refine ⟨fun x y hx => by rw [hp_I_sI, if_neg (fun z => hx z.1)], fun j => ?_⟩
        rw [hp_I_sI]
        by_cases w : j = l
        · rw [if_pos ⟨rfl, w⟩, if_pos ⟨w, c⟩]
        · rw [if_neg (fun z => w z.2), if_neg (fun z => w z.1)]
    obtain ⟨I1, I2⟩ := el_sp n g (l + 1)
    refine ⟨fun x y hx => (I1 x y hx).trans (G.1 x y hx), fun j => ?_⟩
    rw [I2, G.1 64 3 (by omega), G.1 67 j (by omega), G.2]
    by_cases w : j = l
    · subst w
      rw [if_neg (by omega)]
      by_cases c : hp_I h 64 3 < hp_I h 67 j
      · rw [if_neg (fun z => z.2 c), if_neg (fun z => z.2.2 c)]
      · rw [if_pos ⟨rfl, c⟩, if_pos ⟨Nat.le_refl _, by omega, c⟩]
    · rw [if_neg (fun z : j = l ∧ _ => w z.1)]
      by_cases c : hp_I h 64 3 < hp_I h 67 j
      · rw [if_neg (fun z => z.2.2 c), if_neg (fun z => z.2.2 c)]
      · by_cases d : l + 1 ≤ j ∧ j < l + 1 + n
        · rw [if_pos ⟨d.1, d.2, c⟩, if_pos ⟨by omega, by omega, c⟩]
        · rw [if_neg (fun z => d ⟨z.1, z.2.1⟩), if_neg (fun z => d ⟨by omega, by omega⟩)]
theorem sv_t1 {Q : Nat → Nat → Nat × Nat} {X : Nat → Nat} {a L : Nat} {su : Bool} {w : ab_7} {se : Int32} {pg : Nat → Nat → Int32} {h : ha_H} (H : SV Q X a L su w.1 w.2.1 se pg w.2.2 h) : SV Q X a L su (ft_1 L se pg w).1 (ft_1 L se pg w).2.1 se pg (ft_1 L se pg w).2.2 (m_tk1 h 3) := by
  unfold m_tk1 ft_1
  rw [if_pos rfl]
  refine sv_gt ?_
  obtain ⟨⟨s1, s2, s3, s4, s5⟩, H2, H3, H4, H5, H6, H7, H8⟩ := H
  generalize eg : hp_sI h 64 3 (hp_I h 64 3 + nI 1) = g
  have G : ∀ x y, ¬ x = 64 → hp_I g x y = hp_I h x y := fun x y hx => by rw [← eg, hp_I_sI, if_neg (by omega)]
  have G3 : hp_I g 64 3 = w.1 + nI 1 := by rw [← eg, hp_I_sI, if_pos ⟨rfl, rfl⟩, s3]
  obtain ⟨E1, E2⟩ := el_sp 12 g 0
  generalize ee : m_el 12 g 0 = e
  rw [ee] at E1 E2
  have K : ∀ x y, ¬ (x = 62 ∧ y = 6) → ¬ x = 64 → ¬ x = 66 → hp_I (m_tkG e) x y = hp_I h x y := fun x y h1 h2 h3 => by
    unfold m_tkG
    rw [hp_I_sI, if_neg h1, E1 x y h3, G x y h2]
  have K3 : hp_I (m_tkG e) 64 3 = w.1 + nI 1 := by
    unfold m_tkG
    rw [hp_I_sI, if_neg (by omega), E1 64 3 (by omega), G3]
  have FR : ∀ lo hi, 67 ≤ lo ∨ (65 ≤ lo ∧ hi ≤ 66) → fr lo hi h (m_tkG e) := fun lo hi c x h1 h2 j => K x j (by omega) (by omega) (by omega)
  have FK : ∀ j, ¬ j = 6 → fk j h (m_tkG e) := fun j hj => K 62 j (by omega) (by omega) (by omega)
  have M6 : ∀ j, hp_I (m_tkG e) 66 j = hp_I e 66 j := fun j => by unfold m_tkG; rw [hp_I_sI, if_neg (by omega)]
  refine ⟨⟨(FK 0 (by omega)).trans s1, ?_, K3, ?_, ?_⟩, vk_pg H2 (FR _ _ (by omega)), vk_n H3 (FK _ (by omega)) (FR _ _ (by omega)), ?_, vk_en H5 (FR _ _ (by omega)), vk_sd H6 (FR _ _ (by omega)), vk_ln H7 (FK _ (by omega)) (FR _ _ (by omega)), H8⟩
  · rw [K 63 3 (by omega) (by omega) (by omega)]; exact s2
  · unfold m_tkG
    rw [hp_I_sI, if_pos ⟨rfl, rfl⟩, E1 64 3 (by omega), E1 62 6 (by omega), G3, G 62 6 (by omega), s4]
    cases c : w.2.1
    · show (if w.1 + nI 1 < nI 0 then nI 0 else nI 0) = bif (if se ≤ w.1 + nI 1 then false else false) then se else nI 0
      simp
    · show (if w.1 + nI 1 < se then se else nI 0) = bif (if se ≤ w.1 + nI 1 then false else true) then se else nI 0
      by_cases d : se ≤ w.1 + nI 1
      · rw [if_neg (Int32.not_lt.mpr d), if_pos d]; rfl
      · rw [if_pos (Int32.not_le.mp d), if_neg d]; rfl
  · intro z
    refine s5 ?_
    by_cases d : se ≤ w.1 + nI 1
    · rw [if_pos d] at z; cases z
    · rw [if_neg d] at z; exact z
  · intro c f hc hf
    have q := H4 c f hc hf
    rw [M6, E2, G3, G 66 _ (by omega), G 67 _ (by omega), H5 c f hc hf, q.1]
    show _ = nI (f_el (w.1 + nI 1) w.2.2.2.1 w.2.2.2.2.1 c f) ∧ f_el (w.1 + nI 1) w.2.2.2.1 w.2.2.2.2.1 c f ≤ 2
    unfold f_el
    by_cases d : w.2.2.2.2.1 c f ≤ w.1 + nI 1
    · rw [if_pos ⟨by omega, by omega, Int32.not_lt.mpr d⟩, if_pos d]; exact ⟨rfl, by omega⟩
    · rw [if_neg (fun z => z.2.2 (Int32.not_le.mp d)), if_neg d]; exact ⟨rfl, q.2⟩
theorem sv_tn {Q : Nat → Nat → Nat × Nat} {X : Nat → Nat} {a L : Nat} {su : Bool} {se : Int32} {pg : Nat → Nat → Int32} : ∀ (k : Nat) {w : ab_7} {h : ha_H} (_ : SV Q X a L su w.1 w.2.1 se pg w.2.2 h), SV Q X a L su (ft_n L se pg k w).1 (ft_n L se pg k w).2.1 se pg (ft_n L se pg k w).2.2 (m_tkN k h 3)
  | 0, _, _, H => H
  | k + 1, _, _, H => by
    unfold m_tkN ft_n
    exact sv_tn k (sv_t1 H)
/-- the server goes down -/
theorem sv_crash {Q : Nat → Nat → Nat × Nat} {X : Nat → Nat} {a L : Nat} {su : Bool} {sn : Int32} {sg : Bool} {se : Int32} {pg : Nat → Nat → Int32} {s : ab_5} {h : ha_H} (H : SV Q X a L su sn sg se pg s h) : SV Q X a L false sn sg se pg (s.1, fun _ _ => 0, s.2.2.1, s.2.2.2.1, fun _ => []) (m_crS h) := by
  obtain ⟨⟨s1, s2, s3, s4, s5⟩, H2, H3, H4, H5, H6, H7, H8⟩ := H
  have K : ∀ x y, ¬ (x = 63 ∧ y = 3) → ¬ x = 66 → ¬ x = 74 → hp_I (m_crS h) x y = hp_I h x y := fun x y h1 h2 h3 => by
    unfold m_crS
    simp only [hp_I_sI, h1, h2, h3, false_and, if_false]
  have FR : ∀ lo hi, 64 ≤ lo → hi ≤ 66 ∨ 67 ≤ lo → hi ≤ 74 ∨ 75 ≤ lo → fr lo hi h (m_crS h) := fun lo hi c0 c1 c2 x h1 h2 j => K x j (by omega) (by omega) (by omega)
  have FK : ∀ j, fk j h (m_crS h) := fun j => K 62 j (by omega) (by omega) (by omega)
  refine ⟨⟨(FK 0).trans s1, ?_, ?_, (FK 6).trans s4, s5⟩, vk_pg H2 (FR _ _ (by omega) (by omega) (by omega)), vk_n H3 (FK _) (FR _ _ (by omega) (by omega) (by omega)), ?_, vk_en H5 (FR _ _ (by omega) (by omega) (by omega)), vk_sd H6 (FR _ _ (by omega) (by omega) (by omega)), ⟨(FK 17).trans H7.1, ?_, ?_, ?_⟩, H8.1, H8.2.1, ?_⟩
  · unfold m_crS
    simp [hp_I_sI, m_bi]
  · rw [K 64 3 (by omega) (by omega) (by omega)]; exact s3
  · intro c f hc hf
    refine ⟨?_, Nat.zero_le _⟩
    unfold m_crS
    simp only [hp_I_sI, show ¬ (66 = 74) by decide, show ¬ (66 = 63) by decide, false_and, if_false, true_and]
    show _ = nI 0
    have : 4 * c + f < 12 := by omega
    generalize 4 * c + f = j at this ⊢
    rcases (by omega : j = 0 ∨ j = 1 ∨ j = 2 ∨ j = 3 ∨ j = 4 ∨ j = 5 ∨ j = 6 ∨ j = 7 ∨ j = 8 ∨ j = 9 ∨ j = 10 ∨ j = 11) with rfl | rfl | rfl | rfl | rfl | rfl | rfl | rfl | rfl | rfl | rfl | rfl <;> simp
  · intro f hf m hm; cases hm
  · intro f hf; exact List.Pairwise.nil
  · intro c hc
    refine Or.inl ?_
    unfold m_crS
    simp only [hp_I_sI, true_and]
    rcases (by omega : c = 0 ∨ c = 1 ∨ c = 2) with rfl | rfl | rfl <;> simp
  · intro f m hf hm; cases hm
/-- the server comes up -/
theorem sv_restart {Q : Nat → Nat → Nat × Nat} {X : Nat → Nat} {a L : Nat} {su : Bool} {sn : Int32} {sg : Bool} {se : Int32} {pg : Nat → Nat → Int32} {s : ab_5} {h : ha_H} (H : SV Q X a L su sn sg se pg s h) (h0 : 0 < sn + nI L) : SV Q X a L true sn true (sn + nI L) pg s (m_rsA h 3) := by
  obtain ⟨⟨s1, s2, s3, s4, s5⟩, H2, H3, H4, H5, H6, H7, H8⟩ := H
  have K : ∀ x y, ¬ (x = 63 ∧ y = 3) → ¬ (x = 62 ∧ y = 6) → hp_I (m_rsA h 3) x y = hp_I h x y := fun x y h1 h2 => by
    unfold m_rsA
    rw [hp_I_sI, if_neg h2, hp_I_sI, if_neg h1]
  have FR : ∀ lo hi, 64 ≤ lo → fr lo hi h (m_rsA h 3) := fun lo hi c0 x h1 h2 j => K x j (by omega) (by omega)
  have FK : ∀ j, ¬ j = 6 → fk j h (m_rsA h 3) := fun j hj => K 62 j (by omega) (by omega)
  refine ⟨⟨(FK 0 (by omega)).trans s1, ?_, ?_, ?_, fun _ => h0⟩, vk_pg H2 (FR _ _ (by omega)), vk_n H3 (FK _ (by omega)) (FR _ _ (by omega)), vk_md H4 (FR _ _ (by omega)), vk_en H5 (FR _ _ (by omega)), vk_sd H6 (FR _ _ (by omega)), vk_ln H7 (FK _ (by omega)) (FR _ _ (by omega)), H8⟩
  · unfold m_rsA
    simp [hp_I_sI, m_bi]
  · rw [K 64 3 (by omega) (by omega)]; exact s3
  · unfold m_rsA
    rw [hp_I_sI, if_pos ⟨rfl, rfl⟩, if_pos rfl, s3, s1]; rfl
