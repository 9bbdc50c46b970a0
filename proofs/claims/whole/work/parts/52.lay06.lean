theorem wa_eq {Q : Nat → Nat → Nat × Nat} {X : Nat → Nat} {a : Nat} {n : List ab_M} {sd : Nat → Option ab_M} {ln : Nat → List ab_M} {h : ha_H} {m : ab_M} (H : mv_ln a ln h) (hq : pq Q X n sd ln) (hX : ∀ c, c < 3 → X c < 2 ^ 30) (hp : pm Q X m) (hk : am_k m ≤ 3) : (!decide (hp_I h 74 (am_c m) < 0) && decide (hp_I h 75 (am_c m) = am_n m)) = f_wa ln m := by
  obtain ⟨h1, h2, h3, h4⟩ := H
  have hc := hp.1.1
  have hf := hp.1.2.1
  rw [Bool.eq_iff_iff]
  unfold f_wa
  simp only [Bool.and_eq_true, Bool.not_eq_true', decide_eq_true_eq, decide_eq_false_iff_not]
  constructor
  · rintro ⟨q1, q2⟩
    rcases h4 _ hc with z | ⟨f, o, f4, ho, ec⟩
    · rw [z] at q1; exact absurd (by decide) q1
    · obtain ⟨k1, k2, k3, k4, k5, k6, _⟩ := h2 f f4 o ho
      have po := hq.2.2 f o f4 ho
      rw [ec, q2] at k5
      have ef : am_f m = f := by
        rcases hp.2 with ⟨_, x, x1, x2, x3, x4⟩ | ⟨q, _⟩ | q
        · rcases po.2 with ⟨_, y, y1, y2, y3, y4⟩ | ⟨q, _⟩ | q
          · have : x = y := by
              have b1 := hX _ hc
              have b2 := hX _ po.1.1
              refine (nI_eq (by omega) (by omega)).mp ?_
              rw [← x1, ← y1]; exact k5
            subst this
            rw [ec, x4] at y4
            have := congrArg Prod.snd y4
            exact this.trans k2
          · omega
          · omega
        · omega
        · omega
      rw [ef]
      cases e : f_of (ln f) (am_c m) with
      | none => exact absurd ec (of_N e ho)
      | some o' =>
        obtain ⟨m1, m2⟩ := of_S e
        have := (h2 f f4 o' m1).2.2.2.2.1
        rw [m2, q2] at this
        show (if am_n o' = am_n m then true else false) = true
        rw [if_pos this.symm]
  · intro z
    cases e : f_of (ln (am_f m)) (am_c m) with
    | none => rw [e] at z; cases z
    | some o =>
      rw [e] at z
      have z' : (if am_n o = am_n m then true else false) = true := z
      obtain ⟨m1, m2⟩ := of_S e
      obtain ⟨k1, k2, k3, k4, k5, k6, _⟩ := h2 _ hf o m1
      rw [m2] at k4 k5
      refine ⟨?_, ?_⟩
      · rw [k4]; exact nI_pos (by omega)
      · rw [k5]
        by_cases c : am_n o = am_n m
        · exact c
        · rw [if_neg c] at z'; cases z'
theorem sv_lo {Q : Nat → Nat → Nat × Nat} {X : Nat → Nat} {a L : Nat} {su : Bool} {sn : Int32} {sg : Bool} {se : Int32} {pg : Nat → Nat → Int32} {s : ab_5} {h : ha_H} {c : Nat} (H : SV Q X a L su sn sg se pg s h) : SV Q X a L su sn sg se pg (f_lo c s) (hp_sI h 74 c (-1)) := by
  obtain ⟨H1, H2, H3, H4, H5, H6, H7, H8⟩ := H
  exact ⟨vk_s H1 (fk_sI (fk_rf _) (by omega)) (fk_sI (fk_rf _) (by omega)) (fr_sI (fr_rf _) (by omega)), vk_pg H2 (fr_sI (fr_rf _) (by omega)), vk_n H3 (fk_sI (fk_rf _) (by omega)) (fr_sI (fr_rf _) (by omega)), vk_md H4 (fr_sI (fr_rf _) (by omega)), vk_en H5 (fr_sI (fr_rf _) (by omega)), vk_sd H6 (fr_sI (fr_rf _) (by omega)), vl_out H7, H8.1, H8.2.1, fun f m hf hm => H8.2.2 f m hf (lo_mem hm)⟩
theorem sv_rq2 {Q : Nat → Nat → Nat × Nat} {X : Nat → Nat} {a L : Nat} {su : Bool} {sn : Int32} {sg : Bool} {se : Int32} {pg : Nat → Nat → Int32} {s : ab_5} {h : ha_H} {m : ab_M} {mo v : Int32} {cl : Bool} {t : Nat} (H : SV Q X a L su sn sg se pg s h) (ha : a < 2 ^ 30) (hk : am_k m ≤ 3) (hp : pm Q X m) (h0 : hp_I h 74 (am_c m) = -1) (e1 : am_k m = 1 → mo = nI (am_m m) ∧ cl = am_y m) (e2 : am_k m = 2 → t = 4 * am_f m + am_p m ∧ v = am_v m) : ∃ b, b ≤ a + 1 ∧ SV Q X b L su sn sg se (f_sv L sn sg pg m s).1 (f_sv L sn sg pg m s).2 (m_rq2 h (nI (am_k m)) (am_c m) (am_f m) (am_n m) mo cl t v) := by
  unfold f_sv m_rq2
  have hc := hp.1.1
  have hf := hp.1.2.1
  have hpp := hp.1.2.2.2
  by_cases k1 : am_k m = 1
  · rw [if_pos k1, if_pos (by rw [k1])]
    obtain ⟨rfl, rfl⟩ := e1 k1
    exact sv_al H ha k1 hp h0
  · have n1 : ¬ nI (am_k m) = nI 1 := fun z => k1 ((nI_eq (by omega) (by omega)).mp z)
    rw [if_neg k1, if_neg n1]
    by_cases k2 : am_k m = 2
    · rw [if_pos k2, if_pos (by rw [k2])]
      obtain ⟨rfl, rfl⟩ := e2 k2
      obtain ⟨H1, H2, H3, H4, H5, H6, H7, H8⟩ := id H
      have hm2 := H4 _ _ hc hf
      unfold f_ss
      by_cases c : s.2.1 (am_c m) (am_f m) = 2
      · rw [if_pos c, if_pos (by rw [hm2.1, c])]
        refine ⟨a, Nat.le_succ _, ?_⟩
        have eu : m_u h = m_u (hp_sI h 65 (4 * am_f m + am_p m) (am_v m)) := by unfold m_u; simp [hp_I_sI]
        rw [eu]
        refine sv_fin (r := f_rp 6 m false (fun _ => 0)) ⟨vk_s H1 (fk_sI (fk_rf _) (by omega)) (fk_sI (fk_rf _) (by omega)) (fr_sI (fr_rf _) (by omega)), ?_, vk_n H3 (fk_sI (fk_rf _) (by omega)) (fr_sI (fr_rf _) (by omega)), vk_md H4 (fr_sI (fr_rf _) (by omega)), vk_en H5 (fr_sI (fr_rf _) (by omega)), vk_sd H6 (fr_sI (fr_rf _) (by omega)), vk_ln H7 (fk_sI (fk_rf _) (by omega)) (fr_sI (fr_rf _) (by omega)), H8⟩ (Nat.le_of_ble_eq_true rfl) (Nat.le_of_ble_eq_true rfl) (pm_rp hp hk (by omega) (by omega) (fun z => by omega))
        intro f p f4 p4
        have ix : (4 * f + p = 4 * am_f m + am_p m) ↔ (f = am_f m ∧ p = am_p m) := ⟨fun z => by omega, fun z => by omega⟩
        rw [hp_I_sI]
        show (if 65 = 65 ∧ _ then _ else _) = fu2 pg (am_f m) (am_p m) (am_v m) f p
        unfold fu2
        by_cases w : f = am_f m ∧ p = am_p m
        · rw [if_pos ⟨rfl, ix.mpr w⟩, if_pos w]
        · rw [if_neg (fun z => w (ix.mp z.2)), if_neg w]; exact H2 f p f4 p4
      · have n2 : ¬ hp_I h 66 (4 * am_c m + am_f m) = nI 2 := by rw [hm2.1]; exact fun z => c ((nI_eq (by omega) (by omega)).mp z)
        rw [if_neg c, if_neg n2]
        refine ⟨a, Nat.le_succ _, ?_⟩
        have eid : ∀ x y, hp_I (hp_mv h 65 (4 * am_f m + am_p m) 65 (4 * am_f m + am_p m)) x y = hp_I h x y := fun x y => by
          unfold hp_mv
          rw [hp_I_sI]
          by_cases w : x = 65 ∧ y = 4 * am_f m + am_p m
          · rw [if_pos w, w.1, w.2]
          · rw [if_neg w]
        have eu : m_u h = m_u (hp_mv h 65 (4 * am_f m + am_p m) 65 (4 * am_f m + am_p m)) := by unfold m_u; rw [eid]
        rw [eu]
        have F : ∀ lo hi, fr lo hi h (hp_mv h 65 (4 * am_f m + am_p m) 65 (4 * am_f m + am_p m)) := fun lo hi x _ _ j => eid x j
        have K : ∀ j, fk j h (hp_mv h 65 (4 * am_f m + am_p m) 65 (4 * am_f m + am_p m)) := fun j => eid 62 j
        exact sv_fin (r := f_rp 7 m false (fun _ => 0)) ⟨vk_s H1 (K _) (K _) (F _ _), vk_pg H2 (F _ _), vk_n H3 (K _) (F _ _), vk_md H4 (F _ _), vk_en H5 (F _ _), vk_sd H6 (F _ _), vk_ln H7 (K _) (F _ _), H8⟩ (Nat.le_of_ble_eq_true rfl) (Nat.le_of_ble_eq_true rfl) (pm_rp hp hk (by omega) (by omega) (fun _ => k2))
    · have n2 : ¬ nI (am_k m) = nI 2 := fun z => k2 ((nI_eq (by omega) (by omega)).mp z)
      rw [if_neg k2, if_neg n2]
      obtain ⟨H1, H2, H3, H4, H5, H6, H7, H8⟩ := H
      refine ⟨a, Nat.le_succ _, ?_⟩
      have eu : m_u h = m_u (hp_sI h 66 (4 * am_c m + am_f m) (nI 0)) := by unfold m_u; simp [hp_I_sI]
      rw [eu]
      refine sv_fin (r := f_rp 6 m false (fun _ => 0)) (s := (s.1, fu2 s.2.1 (am_c m) (am_f m) 0, s.2.2)) ⟨vk_s H1 (fk_sI (fk_rf _) (by omega)) (fk_sI (fk_rf _) (by omega)) (fr_sI (fr_rf _) (by omega)), vk_pg H2 (fr_sI (fr_rf _) (by omega)), vk_n H3 (fk_sI (fk_rf _) (by omega)) (fr_sI (fr_rf _) (by omega)), ?_, vk_en H5 (fr_sI (fr_rf _) (by omega)), vk_sd H6 (fr_sI (fr_rf _) (by omega)), vk_ln H7 (fk_sI (fk_rf _) (by omega)) (fr_sI (fr_rf _) (by omega)), H8⟩ (Nat.le_of_ble_eq_true rfl) (Nat.le_of_ble_eq_true rfl) (pm_rp hp hk (by omega) (by omega) (fun z => by omega))
      intro c f c3 f4
      have ix : (4 * c + f = 4 * am_c m + am_f m) ↔ (c = am_c m ∧ f = am_f m) := ⟨fun z => by omega, fun z => by omega⟩
      rw [hp_I_sI]
      show (if 66 = 66 ∧ _ then _ else _) = nI (fu2 s.2.1 (am_c m) (am_f m) 0 c f) ∧ fu2 s.2.1 (am_c m) (am_f m) 0 c f ≤ 2
      unfold fu2
      by_cases w : c = am_c m ∧ f = am_f m
      · rw [if_pos ⟨rfl, ix.mpr w⟩, if_pos w]; exact ⟨rfl, by omega⟩
      · rw [if_neg (fun z => w (ix.mp z.2)), if_neg w]; exact H4 c f c3 f4
theorem sv_rq {Q : Nat → Nat → Nat × Nat} {X : Nat → Nat} {a L : Nat} {su : Bool} {sn : Int32} {sg : Bool} {se : Int32} {pg : Nat → Nat → Int32} {s : ab_5} {h : ha_H} {m : ab_M} {mo v : Int32} {cl : Bool} {t : Nat} (H : SV Q X a L su sn sg se pg s h) (ha : a < 2 ^ 30) (hX : ∀ c, c < 3 → X c < 2 ^ 30) (hk : am_k m ≤ 3) (hp : pm Q X m) (e1 : am_k m = 1 → mo = nI (am_m m) ∧ cl = am_y m) (e2 : am_k m = 2 → t = 4 * am_f m + am_p m ∧ v = am_v m) : ∃ b, b ≤ a + 1 ∧ SV Q X b L su sn sg se (f_rb L sn sg pg m s).1 (f_rb L sn sg pg m s).2 (m_rq h (nI (am_k m)) (am_c m) (am_f m) (am_n m) mo cl t v) := by
  have hc := hp.1.1
  have R2 : ∃ b, b ≤ a + 1 ∧ SV Q X b L su sn sg se (f_r2 L sn sg pg m s).1 (f_r2 L sn sg pg m s).2 (if (!decide (hp_I h 74 (am_c m) < 0) && decide (hp_I h 75 (am_c m) = am_n m)) = true then h else m_rq2 (hp_sI h 74 (am_c m) (-1)) (nI (am_k m)) (am_c m) (am_f m) (am_n m) mo cl t v) := by
    rw [wa_eq H.2.2.2.2.2.2.1 H.2.2.2.2.2.2.2 hX hp hk]
    unfold f_r2
    cases e : f_wa s.2.2.2.2 m
    · rw [if_neg (by decide)]
      exact sv_rq2 (sv_lo H) ha hk hp hI_set e1 e2
    · rw [if_pos rfl]
      exact ⟨a, Nat.le_succ _, H⟩
  obtain ⟨xn, x1, x2, x3⟩ : ∃ x, am_n m = nI x ∧ 1 ≤ x ∧ x ≤ X (am_c m) := by
    rcases hp.2 with ⟨_, x, x1, x2, x3, _⟩ | ⟨q, _⟩ | q
    · exact ⟨x, x1, x2, x3⟩
    · omega
    · omega
  have b1 := hX _ hc
  unfold f_rb m_rq
  have hd := H.2.2.2.2.2.1 _ hc
  cases e : s.2.2.2.1 (am_c m) with
  | none =>
    have q := hd.1 e
    rw [q, if_pos (by rw [x1]; exact nI_le (by omega) (by omega)), if_neg (by rw [x1]; exact fun z => absurd ((nI_eq (by omega) (by omega)).mp z) (by omega))]
    exact R2
  | some r =>
    have q := hd.2 r e
    show ∃ b, b ≤ a + 1 ∧ SV Q X b L su sn sg se (if am_n m = am_n r then (pg, (f_send s.1 r, s.2)) else if am_n r < am_n m then f_r2 L sn sg pg m s else (pg, s)).1 (if am_n m = am_n r then (pg, (f_send s.1 r, s.2)) else if am_n r < am_n m then f_r2 L sn sg pg m s else (pg, s)).2 _
    rw [q.2.2.1]
    by_cases c1 : am_n m = am_n r
    · rw [if_pos c1, if_pos (by rw [c1]; exact Int32.le_refl _), if_pos c1]
      obtain ⟨H1, H2, H3, H4, H5, H6, H7, H8⟩ := H
      exact ⟨a, Nat.le_succ _, sv_ans (sd := s.2.2.2.1) H1 H2 H3 H4 H5 H6 H7 H8 q (H8.2.1 _ r hc e) (fun d _ => Or.inr rfl)⟩
    · rw [if_neg c1]
      by_cases c2 : am_n r < am_n m
      · rw [if_pos c2, if_pos (Int32.le_of_lt c2), if_neg c1]
        exact R2
      · have c3 : ¬ am_n r ≤ am_n m := fun z => by
          rcases Int32.le_iff_lt_or_eq.mp z with w | w
          · exact c2 w
          · exact c1 w.symm
        rw [if_neg c2, if_neg c3]
        exact ⟨a, Nat.le_succ _, H⟩
