theorem si_eq {si : Int32} {L : Nat} (h8 : 8 ≤ L) (h : L < 2 ^ 31) : si + nI L / nI 2 - nI 2 = si + nI (L / 2 - 2) := by
  rw [pk_div h (by omega) (by omega), Int32.sub_eq_add_neg, Int32.add_assoc, ← Int32.sub_eq_add_neg, pk_sub (by omega)]
/-- a grant arrives at its client -/
theorem mq_gd {K L : Nat} {n : List ab_M} {su : Bool} {sn : Int32} {sg : Bool} {se : Int32} {pg : Nat → Nat → Int32} {md : Nat → Nat → Nat} {en : Nat → Nat → Int32} {sd : Nat → Option ab_M} {ln : Nat → List ab_M} {C : Nat → ab_C} {h : ha_H} {c : Nat} {up : Bool} {nw nu : Int32} {o : ab_M} {si : Int32} {cp : Nat → ab_P} {wr : List ab_W} {mo : Nat} {ti : Int32} {re lo : Bool} {ps : Nat → Int32} {m : ab_M} {fr0 : Nat} (H : MV K L n su sn sg se pg md en sd ln (fu C c (up, nw, nu, some o, si, fu cp (am_f m) (mo, ti, re, lo, ps), wr)) h) (hc : c < 3) (hf : am_f m < 4) (hm2 : am_m m ≤ 2) (h8 : 8 ≤ L) (hL : L < 2 ^ 31) (h4 : ∀ p, p < 4 → hp_I h 102 (fr0 + p) = am_4 m p) : MV K L n su sn sg se pg md en sd ln (fu C c (up, nw, nu, none, si, fu cp (am_f m) (f_tl L si wr lo m).1, (f_tl L si wr lo m).2)) (m_granted h c (am_f m) (nI (am_m m)) (am_y m) fr0) := by
  have A := mv_at H hc
  have I := mv_I H
  have e62 : hp_I h 62 0 = nI L := by
    obtain ⟨Q, X, a, k, _, S, _⟩ := H
    exact S.1.1
  have e93 : hp_I h 93 c = si := (A.2.1.2.1 o rfl).2.2.2.1
  have q0 := (mv_Pf H hc hf).1
  obtain ⟨⟨a1, a2, a3⟩, ⟨a4, a4', p4, a4p, a4q⟩, hW, a6⟩ := A
  have hWc : mv_W h c wr := hW
  have ew : m_w h c = wr.length := w_eq hWc
  generalize eA : m_gdA h c (am_f m) (nI (am_m m)) = gA
  have GA : ∀ x j, ¬ (x = 87 ∧ j = c) → ¬ ((x = 79 ∨ x = 80) ∧ j = 4 * c + am_f m) → hp_I gA x j = hp_I h x j := fun x j y1 y2 => by
    rw [← eA]; unfold m_gdA
    rw [hp_I_sI, if_neg (by omega), hp_I_sI, if_neg (by omega), hp_I_sI, if_neg (by omega)]
  have GA1 : hp_I gA 87 c = nI 0 := by rw [← eA]; simp [m_gdA, hp_I_sI]
  have GA2 : hp_I gA 79 (4 * c + am_f m) = nI (am_m m) := by rw [← eA]; simp [m_gdA, hp_I_sI]
  have GA3 : hp_I gA 80 (4 * c + am_f m) = si + nI (L / 2 - 2) := by
    rw [← eA]; unfold m_gdA
    rw [hI_set, e93, e62, si_eq h8 hL]
  have IA : mo_I gA ∧ mo_dp gA := by
    rw [← eA]; unfold m_gdA
    exact ⟨(mI_sI (mI_sI (mI_sI I.1 (by omega) (by simp)).1 (by omega) (by simp)).1 (by omega) (by simp)).1, dp_sI (dp_sI (dp_sI I.2 (by omega)) (by omega)) (by omega)⟩
  have WA : mv_W gA c wr := by
    obtain ⟨w1, w2, w3⟩ := hWc
    refine ⟨by rw [GA 84 _ (by omega) (by omega)]; exact w1, w2, fun i w e => ?_⟩
    obtain ⟨b1, b2, b3, b4⟩ := w3 i w e
    exact ⟨by rw [GA 85 _ (by omega) (by omega)]; exact b1, by rw [GA 86 _ (by omega) (by omega)]; exact b2, b3, b4⟩
  have half : ∀ (gB : ha_H) (wr' : List ab_W) (lo' : Bool), mo_I gB → mo_dp gB → mv_W gB c wr' → (∀ x j, ¬ (x = 84 ∧ j = c) → ¬ ((x = 85 ∨ x = 86) ∧ 6 * c ≤ j ∧ j < 6 * c + 6) → ¬ (x = 82 ∧ j = 4 * c + am_f m) → hp_I gB x j = hp_I gA x j) → hp_I gB 82 (4 * c + am_f m) = m_bi lo' → MV K L n su sn sg se pg md en sd ln (fu C c (up, nw, nu, none, si, fu cp (am_f m) (am_m m, si + nI (L / 2 - 2), false, lo', f_redo wr' (am_f m) (am_4 m)), wr')) (m_gdD gB wr'.length c (am_f m) fr0) := by
    intro gB wr' lo' IB DB WB GB GBl
    generalize eC : m_gdC gB c (am_f m) fr0 = gC
    have GC : ∀ x j, ¬ (x = 83 ∧ 16 * c + 4 * am_f m ≤ j ∧ j < 16 * c + 4 * am_f m + 4) → hp_I gC x j = hp_I gB x j := fun x j y => by
      rw [← eC]; unfold m_gdC hp_mv
      rw [hp_I_sI, if_neg (by omega), hp_I_sI, if_neg (by omega), hp_I_sI, if_neg (by omega), hp_I_sI, if_neg (by omega)]
    have GC4 : ∀ p, p < 4 → hp_I gC 83 (16 * c + 4 * am_f m + p) = am_4 m p := fun p hp => by
      rw [← h4 p hp, ← GA 102 (fr0 + p) (by omega) (by omega), ← GB 102 (fr0 + p) (by omega) (by omega) (by omega), ← eC]
      rcases (by omega : p = 0 ∨ p = 1 ∨ p = 2 ∨ p = 3) with rfl | rfl | rfl | rfl <;> simp [m_gdC, hp_mv, hp_I_sI]
    have IC : mo_I gC := by
      rw [← eC]; unfold m_gdC
      exact (mI_mv (mI_mv (mI_mv (mI_mv IB (by omega) (by simp)).1 (by omega) (by simp)).1 (by omega) (by simp)).1 (by omega) (by simp)).1
    have WC : ∀ i w, wr'[i]? = some w → mv_w gC c (0 + i) w := fun i w e => by
      obtain ⟨b1, b2, b3, b4⟩ := WB.2.2 i w e
      rw [Nat.zero_add]
      exact ⟨by rw [GC 85 _ (by omega)]; exact b1, by rw [GC 86 _ (by omega)]; exact b2, b3, b4⟩
    obtain ⟨R1, R2⟩ := rd_sp c (am_f m) hf wr' gC 0 (am_4 m) WC GC4
    have IR : mo_I (m_rd c (am_f m) wr'.length gC 0) := m_rdP (P := mo_I) (fun h k v hi => (mI_sI hi (by omega) (by simp)).1) _ _ _ IC
    unfold m_gdD
    rw [eC]
    generalize m_rd c (am_f m) wr'.length gC 0 = gR at R1 R2 IR ⊢
    have G : ∀ x j, ¬ (x = 81 ∧ j = 4 * c + am_f m) → ¬ (x = 83 ∧ 16 * c + 4 * am_f m ≤ j ∧ j < 16 * c + 4 * am_f m + 4) → hp_I (hp_sI gR 81 (4 * c + am_f m) (nI 0)) x j = hp_I gB x j := fun x j y1 y2 => by
      rw [hp_I_sI, if_neg y1, R2 x j y2, GC x j y2]
    have G' : ∀ x j, ¬ (x = 81 ∧ j = 4 * c + am_f m) → ¬ (x = 83 ∧ 16 * c + 4 * am_f m ≤ j ∧ j < 16 * c + 4 * am_f m + 4) → ¬ (x = 84 ∧ j = c) → ¬ ((x = 85 ∨ x = 86) ∧ 6 * c ≤ j ∧ j < 6 * c + 6) → ¬ (x = 82 ∧ j = 4 * c + am_f m) → ¬ (x = 87 ∧ j = c) → ¬ ((x = 79 ∨ x = 80) ∧ j = 4 * c + am_f m) → hp_I (hp_sI gR 81 (4 * c + am_f m) (nI 0)) x j = hp_I h x j := fun x j y1 y2 y3 y4 y5 y6 y7 => by
      rw [G x j y1 y2, GB x j y3 y4 y5, GA x j y6 y7]
    refine mv_cl H hc (fun x j y => ?_) (mI_sI IR (by omega) (fun _ => Or.inl rfl)).1 (dp_k DB (fun j => G 85 j (by omega) (by omega))) ?_ rfl (Or.inl rfl)
    · unfold fcx at y
      exact G' x j (by omega) (by omega) (by omega) (by omega) (by omega) (by omega) (by omega)
    · refine ⟨⟨?_, ?_, ?_⟩, ⟨fun _ => ?_, fun m z => (by cases z), p4, a4p, ?_⟩, ⟨?_, WB.2.1, fun i w e => ?_⟩, fun f' hf' => ?_⟩
      · rw [G' 63 _ (by omega) (by omega) (by omega) (by omega) (by omega) (by omega) (by omega)]; exact a1
      · rw [G' 64 _ (by omega) (by omega) (by omega) (by omega) (by omega) (by omega) (by omega)]; exact a2
      · rw [G' 78 _ (by omega) (by omega) (by omega) (by omega) (by omega) (by omega) (by omega)]; exact a3
      · rw [G 87 _ (by omega) (by omega), GB 87 _ (by omega) (by omega) (by omega)]; exact GA1
      · rw [G' 91 _ (by omega) (by omega) (by omega) (by omega) (by omega) (by omega) (by omega)]; exact a4q
      · rw [G 84 _ (by omega) (by omega)]; exact WB.1
      · obtain ⟨b1, b2, b3, b4⟩ := WB.2.2 i w e
        exact ⟨by rw [G 85 _ (by omega) (by omega)]; exact b1, by rw [G 86 _ (by omega) (by omega)]; exact b2, b3, b4⟩
      · by_cases ef : f' = am_f m
        · subst ef
          show mv_P _ c (am_f m) (fu cp (am_f m) (am_m m, si + nI (L / 2 - 2), false, lo', f_redo wr' (am_f m) (am_4 m)) (am_f m))
          rw [fu_at]
          refine ⟨⟨?_, hm2⟩, hI_set, ?_, fun _ => ⟨?_, fun p hp => ?_⟩⟩
          · rw [G 79 _ (by omega) (by omega), GB 79 _ (by omega) (by omega) (by omega)]; exact GA2
          · rw [G 82 _ (by omega) (by omega)]; exact GBl
          · rw [G 80 _ (by omega) (by omega), GB 80 _ (by omega) (by omega) (by omega)]; exact GA3
          · rw [hp_I_sI, if_neg (by omega)]; exact R1 p hp
        · show mv_P _ c f' (fu cp (am_f m) (am_m m, si + nI (L / 2 - 2), false, lo', f_redo wr' (am_f m) (am_4 m)) f')
          rw [fu_ne _ _ ef]
          have q : mv_P h c f' (fu cp (am_f m) (mo, ti, re, lo, ps) f') := a6 f' hf'
          rw [fu_ne _ _ ef] at q
          obtain ⟨⟨q1, q2⟩, q3, q4, q5⟩ := q
          exact ⟨⟨by rw [G' 79 _ (by omega) (by omega) (by omega) (by omega) (by omega) (by omega) (by omega)]; exact q1, q2⟩, by rw [G' 81 _ (by omega) (by omega) (by omega) (by omega) (by omega) (by omega) (by omega)]; exact q3, by rw [G' 82 _ (by omega) (by omega) (by omega) (by omega) (by omega) (by omega) (by omega)]; exact q4, fun z => ⟨by rw [G' 80 _ (by omega) (by omega) (by omega) (by omega) (by omega) (by omega) (by omega)]; exact (q5 z).1, fun p hp => by rw [G' 83 _ (by omega) (by omega) (by omega) (by omega) (by omega) (by omega) (by omega)]; exact (q5 z).2 p hp⟩⟩
  have q82 : hp_I gA 82 (4 * c + am_f m) = m_bi lo := by rw [GA 82 _ (by omega) (by omega)]; exact q0.2.2.1
  have same := half gA wr lo IA.1 IA.2 WA (fun _ _ _ _ _ => rfl) q82
  unfold m_granted f_tl
  rw [eA, ew, hd_eq WA hf]
  cases ey : am_y m
  · cases eh : f_hw wr (am_f m)
    · simp only [Bool.and_false, Bool.false_eq_true, if_false, cond_false]
      exact same
    · simp only [Bool.not_false, Bool.and_true, if_true, cond_false, cond_true]
      obtain ⟨F1, F2⟩ := fg_W (mo := 6) WA hf
      rw [fg_all (am_f m) wr 0 (by have := WA.2.1; omega)] at F1
      have IF := (fg_I (f := am_f m) (mo := 6) hc WA.2.1 IA.1).1
      have DF := fg_dp (f := am_f m) (mo := 6) hc WA.2.1 IA.2
      have eB : m_gdB gA wr.length c (am_f m) = hp_sI (m_forget gA wr.length c (am_f m) 6) 82 (4 * c + am_f m) (nI 1) := rfl
      have WB : mv_W (m_gdB gA wr.length c (am_f m)) c (f_ra wr (am_f m)) := by
        rw [eB]
        obtain ⟨w1, w2, w3⟩ := F1
        refine ⟨by rw [hp_I_sI, if_neg (by omega)]; exact w1, w2, fun i w e => ?_⟩
        obtain ⟨b1, b2, b3, b4⟩ := w3 i w e
        exact ⟨by rw [hp_I_sI, if_neg (by omega)]; exact b1, by rw [hp_I_sI, if_neg (by omega)]; exact b2, b3, b4⟩
      rw [w_eq WB]
      refine half _ (f_ra wr (am_f m)) true ?_ ?_ WB ?_ ?_
      · rw [eB]; exact (mI_sI IF (by omega) (fun _ => Or.inr rfl)).1
      · rw [eB]; exact dp_sI DF (by omega)
      · intro x j y1 y2 y3
        rw [eB, hp_I_sI, if_neg y3, F2 x j y1 y2]
      · rw [eB, hI_set]; rfl
  · simp only [Bool.not_true, Bool.false_and, Bool.false_eq_true, if_false, cond_true]
    exact same
