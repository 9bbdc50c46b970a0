/-- another answer arrives at its client -/
theorem mq_rp {K L : Nat} {n : List ab_M} {su : Bool} {sn : Int32} {sg : Bool} {se : Int32} {pg : Nat → Nat → Int32} {md : Nat → Nat → Nat} {en : Nat → Nat → Int32} {sd : Nat → Option ab_M} {ln : Nat → List ab_M} {C : Nat → ab_C} {h : ha_H} {c : Nat} {up : Bool} {nw nu : Int32} {o : ab_M} {si : Int32} {cp : Nat → ab_P} {wr : List ab_W} {mo : Nat} {ti : Int32} {re lo : Bool} {ps : Nat → Int32} {m : ab_M} (H : MV K L n su sn sg se pg md en sd ln (fu C c (up, nw, nu, some o, si, fu cp (am_f m) (mo, ti, re, lo, ps), wr)) h) (hc : c < 3) (hf : am_f m < 4) (k5 : 5 ≤ am_k m) (k7 : am_k m ≤ 7) (h7 : am_k m = 7 → am_k o = 2) (en0 : am_n o = am_n m) : MV K L n su sn sg se pg md en sd ln (fu C c (up, nw, nu, (f_ry L si wr mo ti re lo ps o m).1, si, fu cp (am_f m) (f_ry L si wr mo ti re lo ps o m).2.1, (f_ry L si wr mo ti re lo ps o m).2.2)) (m_replied h (nI (am_k m)) c (am_f m)) := by
  have A := mv_at H hc
  have I := mv_I H
  obtain ⟨⟨a1, a2, a3⟩, ⟨a4, a4', p4, a4p, a4q⟩, hW, a6⟩ := A
  have hWc : mv_W h c wr := hW
  have ew : m_w h c = wr.length := w_eq hWc
  have ho := a4' o rfl
  have e87 : hp_I h 87 c = nI (am_k o) := ho.2.1
  have ko := ho.1.1
  generalize eA : hp_sI h 87 c (nI 0) = gA
  have GA : ∀ x j, ¬ (x = 87 ∧ j = c) → hp_I gA x j = hp_I h x j := fun x j y => by rw [← eA, hp_I_sI, if_neg y]
  have GA1 : hp_I gA 87 c = nI 0 := by rw [← eA, hI_set]
  have IA : mo_I gA ∧ mo_dp gA := by
    rw [← eA]
    exact ⟨(mI_sI I.1 (by omega) (by simp)).1, dp_sI I.2 (by omega)⟩
  have WA : mv_W gA c wr := by
    obtain ⟨w1, w2, w3⟩ := hWc
    refine ⟨by rw [GA 84 _ (by omega)]; exact w1, w2, fun i w e => ?_⟩
    obtain ⟨b1, b2, b3, b4⟩ := w3 i w e
    exact ⟨by rw [GA 85 _ (by omega)]; exact b1, by rw [GA 86 _ (by omega)]; exact b2, b3, b4⟩
  have half : ∀ (gB : ha_H) (wr' : List ab_W) (y : ab_P), mo_I gB → mo_dp gB → mv_W gB c wr' → (∀ x j, ¬ (x = 84 ∧ j = c) → ¬ ((x = 85 ∨ x = 86) ∧ 6 * c ≤ j ∧ j < 6 * c + 6) → ¬ ((x = 79 ∨ x = 82) ∧ j = 4 * c + am_f m) → hp_I gB x j = hp_I gA x j) → mv_P gB c (am_f m) y → MV K L n su sn sg se pg md en sd ln (fu C c (up, nw, nu, none, si, fu cp (am_f m) y, wr')) gB := by
    intro gB wr' y IB DB WB GB PB
    have G' : ∀ x j, ¬ (x = 84 ∧ j = c) → ¬ ((x = 85 ∨ x = 86) ∧ 6 * c ≤ j ∧ j < 6 * c + 6) → ¬ ((x = 79 ∨ x = 82) ∧ j = 4 * c + am_f m) → ¬ (x = 87 ∧ j = c) → hp_I gB x j = hp_I h x j := fun x j y1 y2 y3 y4 => by rw [GB x j y1 y2 y3, GA x j y4]
    refine mv_cl H hc (fun x j y => ?_) IB DB ?_ rfl (Or.inl rfl)
    · unfold fcx at y
      exact G' x j (by omega) (by omega) (by omega) (by omega)
    · refine ⟨⟨?_, ?_, ?_⟩, ⟨fun _ => ?_, fun m z => (by cases z), p4, a4p, ?_⟩, WB, fun f' hf' => ?_⟩
      · rw [G' 63 _ (by omega) (by omega) (by omega) (by omega)]; exact a1
      · rw [G' 64 _ (by omega) (by omega) (by omega) (by omega)]; exact a2
      · rw [G' 78 _ (by omega) (by omega) (by omega) (by omega)]; exact a3
      · rw [GB 87 _ (by omega) (by omega) (by omega)]; exact GA1
      · rw [G' 91 _ (by omega) (by omega) (by omega) (by omega)]; exact a4q
      · by_cases ef : f' = am_f m
        · subst ef
          show mv_P _ c (am_f m) (fu cp (am_f m) y (am_f m))
          rw [fu_at]; exact PB
        · show mv_P _ c f' (fu cp (am_f m) y f')
          rw [fu_ne _ _ ef]
          have q : mv_P h c f' (fu cp (am_f m) (mo, ti, re, lo, ps) f') := a6 f' hf'
          rw [fu_ne _ _ ef] at q
          obtain ⟨⟨q1, q2⟩, q3, q4, q5⟩ := q
          exact ⟨⟨by rw [G' 79 _ (by omega) (by omega) (by omega) (by omega)]; exact q1, q2⟩, by rw [G' 81 _ (by omega) (by omega) (by omega) (by omega)]; exact q3, by rw [G' 82 _ (by omega) (by omega) (by omega) (by omega)]; exact q4, fun z => ⟨by rw [G' 80 _ (by omega) (by omega) (by omega) (by omega)]; exact (q5 z).1, fun p hp => by rw [G' 83 _ (by omega) (by omega) (by omega) (by omega)]; exact (q5 z).2 p hp⟩⟩
  obtain ⟨⟨q1, q2⟩, q3, q4, q5⟩ := (mv_Pf H hc hf).1
  have PA : mv_P gA c (am_f m) (mo, ti, re, lo, ps) := ⟨⟨by rw [GA 79 _ (by omega)]; exact q1, q2⟩, by rw [GA 81 _ (by omega)]; exact q3, by rw [GA 82 _ (by omega)]; exact q4, fun z => ⟨by rw [GA 80 _ (by omega)]; exact (q5 z).1, fun p hp => by rw [GA 83 _ (by omega)]; exact (q5 z).2 p hp⟩⟩
  have same := half gA wr (mo, ti, re, lo, ps) IA.1 IA.2 WA (fun _ _ _ _ _ => rfl) PA
  have k4 : ¬ am_k m = 4 := by omega
  unfold m_replied f_ry
  rw [eA, ew, e87, if_pos en0]
  have n2 : (nI (am_k o) = nI 2) = (am_k o = 2) := propext (nI_eq (by omega) (by omega))
  have n6 : (nI (am_k m) = nI 6) = (am_k m = 6) := propext (nI_eq (by omega) (by omega))
  have n7 : (nI (am_k m) = nI 7) = (am_k m = 7) := propext (nI_eq (by omega) (by omega))
  simp only [n2, n6, n7, k4, if_false]
  rcases (by omega : am_k m = 5 ∨ am_k m = 6 ∨ am_k m = 7) with e | e | e
  · simp only [e]
    by_cases z : am_k o = 2
    · simpa [z] using same
    · simpa [z] using same
  · simp only [e]
    by_cases z : am_k o = 2
    · obtain ⟨F1, F2⟩ := fg_W (mo := 1) WA hf
      rw [fg_one] at F1
      have IF := (fg_I (f := am_f m) (mo := 1) hc WA.2.1 IA.1).1
      have DF := fg_dp (f := am_f m) (mo := 1) hc WA.2.1 IA.2
      simp [z]
      obtain ⟨⟨r1, r2⟩, r3, r4, r5⟩ := PA
      exact half _ (f_rf wr (am_f m)) (mo, ti, re, lo, ps) IF DF F1 (fun x j y1 y2 _ => F2 x j y1 y2) ⟨⟨by rw [F2 79 _ (by omega) (by omega)]; exact r1, r2⟩, by rw [F2 81 _ (by omega) (by omega)]; exact r3, by rw [F2 82 _ (by omega) (by omega)]; exact r4, fun z => ⟨by rw [F2 80 _ (by omega) (by omega)]; exact (r5 z).1, fun p hp => by rw [F2 83 _ (by omega) (by omega)]; exact (r5 z).2 p hp⟩⟩
    · simpa [z] using same
  · have z := h7 e
    simp only [e, z]
    obtain ⟨F1, F2⟩ := fg_W (mo := 6) WA hf
    rw [fg_all (am_f m) wr 0 (by have := WA.2.1; omega)] at F1
    have IF := (fg_I (f := am_f m) (mo := 6) hc WA.2.1 IA.1).1
    have DF := fg_dp (f := am_f m) (mo := 6) hc WA.2.1 IA.2
    simp
    obtain ⟨⟨r1, r2⟩, r3, r4, r5⟩ := PA
    generalize m_forget gA wr.length c (am_f m) 6 = gF at F1 F2 IF DF ⊢
    have GG : ∀ x j, ¬ ((x = 79 ∨ x = 82) ∧ j = 4 * c + am_f m) → hp_I (hp_sI (hp_sI gF 82 (4 * c + am_f m) (nI 1)) 79 (4 * c + am_f m) (nI 0)) x j = hp_I gF x j := fun x j y => by rw [hp_I_sI, if_neg (by omega), hp_I_sI, if_neg (by omega)]
    refine half _ (f_ra wr (am_f m)) (0, ti, re, true, ps) (mI_sI (mI_sI IF (by omega) (fun _ => Or.inr rfl)).1 (by omega) (by simp)).1 (dp_sI (dp_sI DF (by omega)) (by omega)) ?_ (fun x j y1 y2 y3 => by rw [GG x j y3, F2 x j y1 y2]) ⟨⟨by rw [hI_set], by show 0 ≤ 2; omega⟩, ?_, ?_, fun z => absurd z (by show ¬ 0 < 0; omega)⟩
    · obtain ⟨w1, w2, w3⟩ := F1
      refine ⟨by rw [GG 84 _ (by omega)]; exact w1, w2, fun i w e => ?_⟩
      obtain ⟨b1, b2, b3, b4⟩ := w3 i w e
      exact ⟨by rw [GG 85 _ (by omega)]; exact b1, by rw [GG 86 _ (by omega)]; exact b2, b3, b4⟩
    · rw [GG 81 _ (by omega), F2 81 _ (by omega) (by omega)]; exact r3
    · simp [hp_I_sI, m_bi]
theorem mo_sp {h : ha_H} {i t : Nat} (ne : ¬ i = t) : (∀ x, 94 ≤ x → x < 102 → ∀ y, hp_I (m_move h i t) x y = if y = t then hp_I h x i else hp_I h x y) ∧ (∀ p, p < 4 → hp_I (m_move h i t) 102 (4 * t + p) = hp_I h 102 (4 * i + p)) ∧ (∀ j, ¬ (4 * t ≤ j ∧ j < 4 * t + 4) → hp_I (m_move h i t) 102 j = hp_I h 102 j) ∧ ∀ x j, x < 94 ∨ 102 < x → hp_I (m_move h i t) x j = hp_I h x j := by
  refine ⟨fun x h1 h2 y => ?_, fun p hp => ?_, fun j hj => ?_, fun x j hx => ?_⟩
  · by_cases e : y = t
    · subst e
      rw [if_pos rfl]
      rcases (by omega : x = 94 ∨ x = 95 ∨ x = 96 ∨ x = 97 ∨ x = 98 ∨ x = 99 ∨ x = 100 ∨ x = 101) with rfl | rfl | rfl | rfl | rfl | rfl | rfl | rfl <;> simp [m_move, hp_mv, hp_I_sI]
    · rw [if_neg e]
      have : ¬ x = 102 := by omega
      simp [m_move, hp_mv, hp_I_sI, e, this]
  · have n10 : ¬ 4 * i + 1 = 4 * t := by omega
    have n20 : ¬ 4 * i + 2 = 4 * t := by omega
    have n21 : ¬ 4 * i + 2 = 4 * t + 1 := by omega
    have n30 : ¬ 4 * i + 3 = 4 * t := by omega
    have n31 : ¬ 4 * i + 3 = 4 * t + 1 := by omega
    have n32 : ¬ 4 * i + 3 = 4 * t + 2 := by omega
    rcases (by omega : p = 0 ∨ p = 1 ∨ p = 2 ∨ p = 3) with rfl | rfl | rfl | rfl <;> simp [m_move, hp_mv, hp_I_sI, ne, n10, n20, n21, n30, n31, n32]
  · simp only [m_move, hp_mv, hp_I_sI]
    repeat rw [if_neg (by omega)]
  · simp only [m_move, hp_mv, hp_I_sI]
    repeat rw [if_neg (by omega)]
theorem sh_sp : ∀ (n : Nat) (h : ha_H) (k : Nat), (∀ x, 94 ≤ x → x < 102 → ∀ y, hp_I (m_shift n h k) x y = if k ≤ y ∧ y < k + n then hp_I h x (y + 1) else hp_I h x y) ∧ (∀ y p, p < 4 → hp_I (m_shift n h k) 102 (4 * y + p) = if k ≤ y ∧ y < k + n then hp_I h 102 (4 * (y + 1) + p) else hp_I h 102 (4 * y + p)) ∧ ∀ x j, x < 94 ∨ 102 < x → hp_I (m_shift n h k) x j = hp_I h x j
  | 0, h, k => ⟨fun x _ _ y => by rw [if_neg (by omega)]; rfl, fun y p _ => by rw [if_neg (by omega)]; rfl, fun _ _ _ => rfl⟩
  | n + 1, h, k => by
    unfold m_shift
    obtain ⟨I1, I2, I3⟩ := sh_sp n (m_move h (k + 1) k) (k + 1)
    obtain ⟨M1, M2, M3, M4⟩ := mo_sp (h := h) (i := k + 1) (t := k) (by omega)
    refine ⟨fun x h1 h2 y => ?_, fun y p hp => ?_, fun x j hx => by rw [I3 x j hx, M4 x j hx]⟩
    · rw [I1 x h1 h2, M1 x h1 h2, M1 x h1 h2]
      by_cases a : y = k
      · subst a
        rw [if_neg (by omega), if_pos rfl, if_pos (by omega)]
      · by_cases b : k + 1 ≤ y ∧ y < k + 1 + n
        · rw [if_pos b, if_neg (by omega), if_pos (by omega)]
        · rw [if_neg b, if_neg a, if_neg (by omega)]
    · rw [I2 y p hp]
      by_cases a : y = k
      · subst a
        rw [if_neg (by omega), if_pos (by omega), M2 p hp]
      · by_cases b : k + 1 ≤ y ∧ y < k + 1 + n
        · rw [if_pos b, if_pos (by omega), M3 _ (by omega)]
        · rw [if_neg b, if_neg (by omega), M3 _ (by omega)]
theorem mm_k {h g : ha_H} {i j : Nat} {m : ab_M} (H : mv_m h i m) (q : ∀ x, 94 ≤ x → x < 102 → hp_I g x j = hp_I h x i) (q4 : ∀ p, p < 4 → hp_I g 102 (4 * j + p) = hp_I h 102 (4 * i + p)) : mv_m g j m := by
  obtain ⟨⟨k1, k2, k3, k4⟩, k5, k6, ⟨p, k7, k8⟩, k9⟩ := H
  refine ⟨⟨?_, ?_, ?_, ?_⟩, fun z => ⟨?_, ?_⟩, fun z => ⟨?_, ?_⟩, ⟨p, k7, ?_⟩, fun z p hp => ?_⟩
  · rw [q 94 (by omega) (by omega)]; exact k1
  · rw [q 95 (by omega) (by omega)]; exact k2
  · rw [q 96 (by omega) (by omega)]; exact k3
  · rw [q 97 (by omega) (by omega)]; exact k4
  · rw [q 98 (by omega) (by omega)]; exact (k5 z).1
  · rw [q 99 (by omega) (by omega)]; exact (k5 z).2
  · rw [q 100 (by omega) (by omega)]; exact (k6 z).1
  · rw [q 101 (by omega) (by omega)]; exact (k6 z).2
  · rw [q 100 (by omega) (by omega)]; exact k8
  · rw [q4 p hp]; exact k9 z p hp
theorem dr_fr {h : ha_H} {u j : Nat} : ∀ x y, ¬ (x = 62 ∧ y = 34) → x < 94 ∨ 102 < x → hp_I (m_drop h u j) x y = hp_I h x y := fun x y z w => by
  unfold m_drop
  rw [(sh_sp _ _ _).2.2 x y w, hp_I_sI, if_neg z]
theorem vn_drop {n : List ab_M} {h : ha_H} {j : Nat} (H : mv_n n h) (hj : j < n.length) : mv_n (n.eraseIdx j) (m_drop h (m_u h) j) := by
  rw [vn_u H]
  have l60 := H.2.1
  have len : (n.eraseIdx j).length = n.length - 1 := List.length_eraseIdx_of_lt hj
  refine ⟨?_, by omega, fun i m e => ?_⟩
  · unfold m_drop
    rw [(sh_sp _ _ _).2.2 62 34 (by omega), hI_set, len]
  · have hi : i < (n.eraseIdx j).length := (List.getElem?_eq_some_iff.mp e).1
    rw [List.getElem?_eraseIdx] at e
    obtain ⟨S1, S2, S3⟩ := sh_sp (n.length - 1 - j) (hp_sI h 62 34 (nI (n.length - 1))) j
    by_cases c : i < j
    · rw [if_pos c] at e
      refine mm_k (H.2.2 i m e) (fun x h1 h2 => ?_) (fun p hp => ?_)
      · unfold m_drop
        rw [S1 x h1 h2, if_neg (by omega), hp_I_sI, if_neg (by omega)]
      · unfold m_drop
        rw [S2 i p hp, if_neg (by omega), hp_I_sI, if_neg (by omega)]
    · rw [if_neg c] at e
      refine mm_k (H.2.2 (i + 1) m e) (fun x h1 h2 => ?_) (fun p hp => ?_)
      · unfold m_drop
        rw [S1 x h1 h2, if_pos (by omega), hp_I_sI, if_neg (by omega)]
      · unfold m_drop
        rw [S2 i p hp, if_pos (by omega), hp_I_sI, if_neg (by omega)]
/-- only the messages change -/
theorem mv_ms {K L : Nat} {n : List ab_M} {su : Bool} {sn : Int32} {sg : Bool} {se : Int32} {pg : Nat → Nat → Int32} {md : Nat → Nat → Nat} {en : Nat → Nat → Int32} {sd : Nat → Option ab_M} {ln : Nat → List ab_M} {C : Nat → ab_C} {h : ha_H} {g : ha_H} {n' : List ab_M} (H : MV K L n su sn sg se pg md en sd ln C h) (G : ∀ x y, ¬ (x = 62 ∧ y = 34) → x < 94 ∨ 102 < x → hp_I g x y = hp_I h x y) (hi : mo_I g) (hn : mv_n n' g) (hs : ∀ m, m ∈ n' → m ∈ n) : MV K L n' su sn sg se pg md en sd ln C g := by
  obtain ⟨Q, X, a, k, ⟨_, d⟩, ⟨H1, H2, H3, H4, H5, H6, H7, H8⟩, M, P⟩ := H
  have FR : ∀ lo hi, 63 ≤ lo → hi ≤ 94 → fr lo hi h g := fun lo hi c1 c2 x h1 h2 j => G x j (by omega) (by omega)
  have FK : ∀ j, ¬ j = 34 → fk j h g := fun j hj => G 62 j (by omega) (by omega)
  exact ⟨Q, X, a, k, ⟨hi, dp_k d (fun j => G 85 j (by omega) (by omega))⟩, ⟨vk_s H1 (FK 0 (by omega)) (FK 6 (by omega)) (FR _ _ (by omega) (by omega)), vk_pg H2 (FR _ _ (by omega) (by omega)), hn, vk_md H4 (FR _ _ (by omega) (by omega)), vk_en H5 (FR _ _ (by omega) (by omega)), vk_sd H6 (FR _ _ (by omega) (by omega)), vk_ln H7 (FK 17 (by omega)) (FR _ _ (by omega) (by omega)), fun m hm => H8.1 m (hs m hm), H8.2.1, H8.2.2⟩, k_C M (fun c _ => fc_fr (FR _ _ (by omega) (by omega))), P⟩
theorem mv_nn {K L : Nat} {n : List ab_M} {su : Bool} {sn : Int32} {sg : Bool} {se : Int32} {pg : Nat → Nat → Int32} {md : Nat → Nat → Nat} {en : Nat → Nat → Int32} {sd : Nat → Option ab_M} {ln : Nat → List ab_M} {C : Nat → ab_C} {h : ha_H} (H : MV K L n su sn sg se pg md en sd ln C h) : mv_n n h := by
  obtain ⟨Q, X, a, k, _, S, _⟩ := H
  exact S.2.2.1
theorem mq_drop {K L : Nat} {n : List ab_M} {su : Bool} {sn : Int32} {sg : Bool} {se : Int32} {pg : Nat → Nat → Int32} {md : Nat → Nat → Nat} {en : Nat → Nat → Int32} {sd : Nat → Option ab_M} {ln : Nat → List ab_M} {C : Nat → ab_C} {h : ha_H} {j : Nat} (H : MV K L n su sn sg se pg md en sd ln C h) (hj : j < n.length) : MV K L (n.eraseIdx j) su sn sg se pg md en sd ln C (m_drop h (m_u h) j) := by
  have hn := mv_nn H
  exact mv_ms H dr_fr (mI_drop (mv_I H).1 (by rw [vn_u hn]; exact hj)).1 (vn_drop hn hj) (fun m hm => List.mem_of_mem_eraseIdx hm)
theorem mq_dup {K L : Nat} {n : List ab_M} {su : Bool} {sn : Int32} {sg : Bool} {se : Int32} {pg : Nat → Nat → Int32} {md : Nat → Nat → Nat} {en : Nat → Nat → Int32} {sd : Nat → Option ab_M} {ln : Nat → List ab_M} {C : Nat → ab_C} {h : ha_H} {j : Nat} {m : ab_M} (H : MV K L n su sn sg se pg md en sd ln C h) (e : n[j]? = some m) (hl : n.length < 60) : MV K L (f_send n m) su sn sg se pg md en sd ln C (m_dup h (m_u h) j) := by
  have hn := mv_nn H
  have hj : j < n.length := (List.getElem?_eq_some_iff.mp e).1
  have eu := vn_u hn
  rw [eu]
  obtain ⟨M1, M2, M3, M4⟩ := mo_sp (h := h) (i := j) (t := n.length) (by omega)
  have es : f_send n m = n ++ [m] := if_pos hl
  have hiM := mI_move (mv_I H).1 (i := j) (t := n.length)
  have hi : mo_I (m_dup h n.length j) := by
    unfold m_dup
    have hb : mo_b (hp_sI (m_move h j n.length) 62 34 (nI (n.length + 1))) := mb_sI hiM.1.2.1 (fun z => by simp at z)
    exact mI_of (mo_sI hiM.1.1) hb hI_set (by omega)
  rw [es]
  refine mv_ms H (fun x y z w => ?_) hi ?_ (fun x hx => ?_)
  · unfold m_dup
    rw [hp_I_sI, if_neg z, M4 x y w]
  · refine vn_add hn hl ?_ ?_ ?_ ?_
    · unfold m_dup; rw [hI_set]
    · intro a h1 h2 y hy
      unfold m_dup
      rw [hp_I_sI, if_neg (by omega), M1 a h1 h2, if_neg hy]
    · intro y hy
      unfold m_dup
      rw [hp_I_sI, if_neg (by omega), M3 y (by omega)]
    · refine mm_k (hn.2.2 j m e) (fun x h1 h2 => ?_) (fun p hp => ?_)
      · unfold m_dup
        rw [hp_I_sI, if_neg (by omega), M1 x h1 h2, if_pos rfl]
      · unfold m_dup
        rw [hp_I_sI, if_neg (by omega), M2 p hp]
  · rcases List.mem_append.mp hx with q | q
    · exact q
    · rw [List.mem_singleton] at q; subst q; exact List.mem_of_getElem? e
