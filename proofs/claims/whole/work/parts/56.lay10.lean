/-- only client c's cells change -/
theorem mv_cl {K L : Nat} {n : List ab_M} {su : Bool} {sn : Int32} {sg : Bool} {se : Int32} {pg : Nat → Nat → Int32} {md : Nat → Nat → Nat} {en : Nat → Nat → Int32} {sd : Nat → Option ab_M} {ln : Nat → List ab_M} {C : Nat → ab_C} {h : ha_H} {g : ha_H} {c : Nat} {y y' : ab_C} (H : MV K L n su sn sg se pg md en sd ln (fu C c y) h) (hc : c < 3) (G : ∀ x j, ¬ fcx c x j → hp_I g x j = hp_I h x j) (hi : mo_I g) (hd : mo_dp g) (hy : mv_c g c y') (e1 : y'.2.2.1 = y.2.2.1) (e2 : y'.2.2.2.1 = none ∨ y'.2.2.2.1 = y.2.2.2.1) : MV K L n su sn sg se pg md en sd ln (fu C c y') g := by
  obtain ⟨Q, X, a, k, _, S, M, P⟩ := H
  refine ⟨Q, X, a, k, ⟨hi, hd⟩, k_SV S (fun x j z => G x j (by unfold fsx at z; unfold fcx; omega)), fun d hd' => ?_, fun d hd' => ?_, fun d m hd' z => ?_⟩
  · by_cases e : d = c
    · subst e; rw [fu_at]; exact hy
    · rw [fu_ne _ _ e]
      have Md := M d hd'
      rw [fu_ne _ _ e] at Md
      exact k_c Md (fun x j z => G x j (by unfold fcx at z ⊢; omega))
  · have := P.1 d hd'
    by_cases e : d = c
    · subst e; rw [fu_at] at this ⊢; rw [e1]; exact this
    · rw [fu_ne _ _ e] at this ⊢; exact this
  · by_cases e : d = c
    · subst e; rw [fu_at] at z
      rcases e2 with q | q
      · rw [q] at z; cases z
      · rw [q] at z
        exact P.2 d m hd' (by rw [fu_at]; exact z)
    · rw [fu_ne _ _ e] at z
      exact P.2 d m hd' (by rw [fu_ne _ _ e]; exact z)
theorem mv_at {K L : Nat} {n : List ab_M} {su : Bool} {sn : Int32} {sg : Bool} {se : Int32} {pg : Nat → Nat → Int32} {md : Nat → Nat → Nat} {en : Nat → Nat → Int32} {sd : Nat → Option ab_M} {ln : Nat → List ab_M} {C : Nat → ab_C} {h : ha_H} {c : Nat} {y : ab_C} (H : MV K L n su sn sg se pg md en sd ln (fu C c y) h) (hc : c < 3) : mv_c h c y := by
  obtain ⟨Q, X, a, k, _, S, M, P⟩ := H
  have := M c hc
  rw [fu_at] at this
  exact this
theorem mv_I {K L : Nat} {n : List ab_M} {su : Bool} {sn : Int32} {sg : Bool} {se : Int32} {pg : Nat → Nat → Int32} {md : Nat → Nat → Nat} {en : Nat → Nat → Int32} {sd : Nat → Option ab_M} {ln : Nat → List ab_M} {C : Nat → ab_C} {h : ha_H} (H : MV K L n su sn sg se pg md en sd ln C h) : mo_I h ∧ mo_dp h := by
  obtain ⟨Q, X, a, k, r, _⟩ := H
  exact r
theorem mv_Pf {K L : Nat} {n : List ab_M} {su : Bool} {sn : Int32} {sg : Bool} {se : Int32} {pg : Nat → Nat → Int32} {md : Nat → Nat → Nat} {en : Nat → Nat → Int32} {sd : Nat → Option ab_M} {ln : Nat → List ab_M} {C : Nat → ab_C} {h : ha_H} {c : Nat} {up : Bool} {nw nu : Int32} {op : Option ab_M} {si : Int32} {cp : Nat → ab_P} {wr : List ab_W} {f : Nat} {mo : Nat} {ti : Int32} {re lo : Bool} {ps : Nat → Int32} (H : MV K L n su sn sg se pg md en sd ln (fu C c (up, nw, nu, op, si, fu cp f (mo, ti, re, lo, ps), wr)) h) (hc : c < 3) (hf : f < 4) : mv_P h c f (mo, ti, re, lo, ps) ∧ hp_I h 64 c = nw ∧ hp_I h 63 c = m_bi (!up) := by
  have := mv_at H hc
  have q := this.2.2.2 f hf
  have q' : mv_P h c f (fu cp f (mo, ti, re, lo, ps) f) := q
  rw [fu_at] at q'
  exact ⟨q', this.1.2.1, this.1.1⟩
theorem n_le0 {k : Nat} (h : k ≤ 2) : (nI k ≤ 0) = (k = 0) := by
  rcases (by omega : k = 0 ∨ k = 1 ∨ k = 2) with rfl | rfl | rfl <;> decide
theorem n_2 {k : Nat} (h : k ≤ 2) : (nI k = nI 2) = (k = 2) := propext (nI_eq (by omega) (by omega))
theorem n_lt {k j : Nat} (h : k ≤ 2) (hj : j ≤ 2) : (nI k < nI j) = (k < j) := propext (nI_ltI (by omega) (by omega))
theorem al_1 {h : ha_H} {c : Nat} {nw : Int32} {f : Nat} {mo : Nat} {ti : Int32} {re lo : Bool} {ps : Nat → Int32} (H : mv_P h c f (mo, ti, re, lo, ps)) (e : hp_I h 64 c = nw) : m_vl h c f = f_al mo ti 1 nw := by
  obtain ⟨⟨a1, a2⟩, a3, a4, a5⟩ := H
  have a1' : hp_I h 79 (4 * c + f) = nI mo := a1
  have a2' : mo ≤ 2 := a2
  unfold m_vl f_al
  rw [a1', e]
  simp only [n_le0 a2']
  by_cases z : mo = 0
  · subst z; simp
  · have := (a5 (show 0 < mo by omega)).1
    rw [this]
    have z1 : ¬ mo < 1 := by omega
    simp only [z, z1, decide_false, Bool.not_false, Bool.true_and, if_false]
    by_cases y : ti ≤ nw <;> simp [y]
theorem al_k {h : ha_H} {c : Nat} {nw : Int32} {f : Nat} {mo : Nat} {ti : Int32} {re lo : Bool} {ps : Nat → Int32} (H : mv_P h c f (mo, ti, re, lo, ps)) (e : hp_I h 64 c = nw) {k : Nat} (h1 : 1 ≤ k) (h2 : k ≤ 2) : (m_vl h c f && !decide (hp_I h 79 (4 * c + f) < nI k)) = f_al mo ti k nw := by
  rw [al_1 H e]
  obtain ⟨⟨a1, a2⟩, a3, a4, a5⟩ := H
  have a1' : hp_I h 79 (4 * c + f) = nI mo := a1
  have a2' : mo ≤ 2 := a2
  rw [a1']
  simp only [n_lt a2' h2]
  unfold f_al
  by_cases z : mo < k
  · simp [z]
  · have z1 : ¬ mo < 1 := by omega
    simp [z, z1]
theorem al_2 {h : ha_H} {c : Nat} {nw : Int32} {f : Nat} {mo : Nat} {ti : Int32} {re lo : Bool} {ps : Nat → Int32} (H : mv_P h c f (mo, ti, re, lo, ps)) (e : hp_I h 64 c = nw) : (m_vl h c f && decide (hp_I h 79 (4 * c + f) = nI 2)) = f_al mo ti 2 nw := by
  rw [al_1 H e]
  obtain ⟨⟨a1, a2⟩, a3, a4, a5⟩ := H
  have a1' : hp_I h 79 (4 * c + f) = nI mo := a1
  have a2' : mo ≤ 2 := a2
  rw [a1']
  simp only [n_2 a2']
  unfold f_al
  by_cases z : mo = 2
  · subst z; simp
  · have z1 : mo < 2 := by omega
    simp [z, z1]
/-- one copy of a client changes, by its own cells -/
theorem mv_cf {K L : Nat} {n : List ab_M} {su : Bool} {sn : Int32} {sg : Bool} {se : Int32} {pg : Nat → Nat → Int32} {md : Nat → Nat → Nat} {en : Nat → Nat → Int32} {sd : Nat → Option ab_M} {ln : Nat → List ab_M} {C : Nat → ab_C} {h : ha_H} {c : Nat} {up : Bool} {nw nu : Int32} {op : Option ab_M} {si : Int32} {cp : Nat → ab_P} {wr : List ab_W} {f : Nat} {mo : Nat} {ti : Int32} {re lo : Bool} {ps : Nat → Int32} {g : ha_H} {y : ab_P} (H : MV K L n su sn sg se pg md en sd ln (fu C c (up, nw, nu, op, si, fu cp f (mo, ti, re, lo, ps), wr)) h) (hc : c < 3) (hf : f < 4) (G : ∀ x j, ¬ ((79 ≤ x ∧ x ≤ 82) ∧ j = 4 * c + f) → ¬ (x = 83 ∧ 16 * c + 4 * f ≤ j ∧ j < 16 * c + 4 * f + 4) → hp_I g x j = hp_I h x j) (hi : mo_I g) (hy : mv_P g c f y) : MV K L n su sn sg se pg md en sd ln (fu C c (up, nw, nu, op, si, fu cp f y, wr)) g := by
  have A := mv_at H hc
  refine mv_cl H hc (fun x j z => G x j (fun w => z (by unfold fcx; omega)) (fun w => z (by unfold fcx; omega))) hi (dp_k (mv_I H).2 (fun j => G 85 j (by omega) (by omega))) ?_ rfl (Or.inr rfl)
  obtain ⟨⟨a1, a2, a3⟩, ⟨a4, a4', p, a4p, a4q⟩, ⟨w1, w2, w3⟩, a6⟩ := A
  refine ⟨⟨by rw [G 63 _ (by omega) (by omega)]; exact a1, by rw [G 64 _ (by omega) (by omega)]; exact a2, by rw [G 78 _ (by omega) (by omega)]; exact a3⟩, ⟨fun z => by rw [G 87 _ (by omega) (by omega)]; exact a4 z, fun m z => ?_, p, a4p, by rw [G 91 _ (by omega) (by omega)]; exact a4q⟩, ⟨by rw [G 84 _ (by omega) (by omega)]; exact w1, w2, fun i w e => ?_⟩, fun f' hf' => ?_⟩
  · obtain ⟨b1, b2, b3, b4, b5, b6⟩ := a4' m z
    exact ⟨b1, by rw [G 87 _ (by omega) (by omega)]; exact b2, by rw [G 88 _ (by omega) (by omega)]; exact b3, by rw [G 93 _ (by omega) (by omega)]; exact b4, fun z => ⟨by rw [G 89 _ (by omega) (by omega)]; exact (b5 z).1, by rw [G 90 _ (by omega) (by omega)]; exact (b5 z).2⟩, fun z => ⟨by rw [G 91 _ (by omega) (by omega)]; exact (b6 z).1, by rw [G 92 _ (by omega) (by omega)]; exact (b6 z).2⟩⟩
  · obtain ⟨b1, b2, b3, b4⟩ := w3 i w e
    exact ⟨by rw [G 85 _ (by omega) (by omega)]; exact b1, by rw [G 86 _ (by omega) (by omega)]; exact b2, b3, b4⟩
  · by_cases e : f' = f
    · subst e
      show mv_P g c f' (fu cp f' y f')
      rw [fu_at]; exact hy
    · show mv_P g c f' (fu cp f y f')
      rw [fu_ne _ _ e]
      have q : mv_P h c f' (fu cp f (mo, ti, re, lo, ps) f') := a6 f' hf'
      rw [fu_ne _ _ e] at q
      obtain ⟨⟨q1, q2⟩, q3, q4, q5⟩ := q
      exact ⟨⟨by rw [G 79 _ (by omega) (by omega)]; exact q1, q2⟩, by rw [G 81 _ (by omega) (by omega)]; exact q3, by rw [G 82 _ (by omega) (by omega)]; exact q4, fun z => ⟨by rw [G 80 _ (by omega) (by omega)]; exact (q5 z).1, fun p hp => by rw [G 83 _ (by omega) (by omega)]; exact (q5 z).2 p hp⟩⟩
/-- the mark of what was lost is taken -/
theorem mv_lm {K L : Nat} {n : List ab_M} {su : Bool} {sn : Int32} {sg : Bool} {se : Int32} {pg : Nat → Nat → Int32} {md : Nat → Nat → Nat} {en : Nat → Nat → Int32} {sd : Nat → Option ab_M} {ln : Nat → List ab_M} {C : Nat → ab_C} {h : ha_H} {c : Nat} {up : Bool} {nw nu : Int32} {op : Option ab_M} {si : Int32} {cp : Nat → ab_P} {wr : List ab_W} {f : Nat} {mo : Nat} {ti : Int32} {re lo : Bool} {ps : Nat → Int32} (H : MV K L n su sn sg se pg md en sd ln (fu C c (up, nw, nu, op, si, fu cp f (mo, ti, re, lo, ps), wr)) h) (hc : c < 3) (hf : f < 4) (b : Bool) : MV K L n su sn sg se pg md en sd ln (fu C c (up, nw, nu, op, si, fu cp f (mo, ti, re, b, ps), wr)) (hp_sI h 82 (4 * c + f) (m_bi b)) := by
  obtain ⟨⟨⟨q1, q2⟩, q3, q4, q5⟩, _, _⟩ := mv_Pf H hc hf
  refine mv_cf H hc hf (fun x j z _ => by rw [hp_I_sI, if_neg (by omega)]) (mI_sI (mv_I H).1 (by omega) (fun _ => m_bi01 b)).1 ?_
  exact ⟨⟨by rw [hp_I_sI, if_neg (by omega)]; exact q1, q2⟩, by rw [hp_I_sI, if_neg (by omega)]; exact q3, hI_set, fun z => ⟨by rw [hp_I_sI, if_neg (by omega)]; exact (q5 z).1, fun p hp => by rw [hp_I_sI, if_neg (by omega)]; exact (q5 z).2 p hp⟩⟩
theorem ls_eq (h : ha_H) (c f : Nat) : m_ls h c f = hp_sI h 82 (4 * c + f) (m_bi false) := rfl
theorem lo_eq {h : ha_H} {c : Nat} {f : Nat} {mo : Nat} {ti : Int32} {re lo : Bool} {ps : Nat → Int32} (H : mv_P h c f (mo, ti, re, lo, ps)) : (hp_I h 82 (4 * c + f) = 0) = (lo = false) := by
  have q : hp_I h 82 (4 * c + f) = m_bi lo := H.2.2.1
  rw [q]; exact propext (m_bi0 lo)
theorem w_f {K L : Nat} {n : List ab_M} {su : Bool} {sn : Int32} {sg : Bool} {se : Int32} {pg : Nat → Nat → Int32} {md : Nat → Nat → Nat} {en : Nat → Nat → Int32} {sd : Nat → Option ab_M} {ln : Nat → List ab_M} {C : Nat → ab_C} {h : ha_H} {c : Nat} {y : ab_C} (H : MV K L n su sn sg se pg md en sd ln (fu C c y) h) (hc : c < 3) : m_w h c = y.2.2.2.2.2.2.length := w_eq (mv_at H hc).2.2.1
theorem aK_le {nw : Int32} {wr : List ab_W} {f mo : Nat} {ti : Int32} {k : Nat} (h : 1 ≤ k ∧ k ≤ 2) : 1 ≤ f_aK nw wr f mo ti k ∧ f_aK nw wr f mo ti k ≤ 2 := by
  unfold f_aK
  cases f_al mo ti 2 nw
  · cases f_hw wr f
    · exact h
    · exact ⟨Nat.le_of_ble_eq_true rfl, Nat.le_of_ble_eq_true rfl⟩
  · exact ⟨Nat.le_of_ble_eq_true rfl, Nat.le_of_ble_eq_true rfl⟩
theorem mq_acq {K L : Nat} {n : List ab_M} {su : Bool} {sn : Int32} {sg : Bool} {se : Int32} {pg : Nat → Nat → Int32} {md : Nat → Nat → Nat} {en : Nat → Nat → Int32} {sd : Nat → Option ab_M} {ln : Nat → List ab_M} {C : Nat → ab_C} {h : ha_H} {c : Nat} {up : Bool} {nw nu : Int32} {op : Option ab_M} {si : Int32} {cp : Nat → ab_P} {wr : List ab_W} {f : Nat} {mo : Nat} {ti : Int32} {re lo : Bool} {ps : Nat → Int32} {k : Nat} (H : MV K L n su sn sg se pg md en sd ln (fu C c (up, nw, nu, op, si, fu cp f (mo, ti, re, lo, ps), wr)) h) (hc : c < 3) (hf : f < 4) (hk : 1 ≤ k ∧ k ≤ 2) : (m_acqA h c f (nI k)).1 = (f_as n c nw nu op si wr f mo ti re lo ps k).1 ∧ MV (K + 1) L (f_as n c nw nu op si wr f mo ti re lo ps k).2.1 su sn sg se pg md en sd ln (fu C c (up, nw, (f_as n c nw nu op si wr f mo ti re lo ps k).2.2.1, (f_as n c nw nu op si wr f mo ti re lo ps k).2.2.2.1, (f_as n c nw nu op si wr f mo ti re lo ps k).2.2.2.2.1, fu cp f (f_as n c nw nu op si wr f mo ti re lo ps k).2.2.2.2.2, wr)) (m_acqA h c f (nI k)).2 := by
  have H' := mv_lm H hc hf false
  have ew := w_f H hc
  obtain ⟨q, q64, _⟩ := mv_Pf H hc hf
  have el := lo_eq q
  unfold m_acqA f_as
  rw [ls_eq]
  cases lo with
  | true =>
    rw [if_neg (by rw [el]; decide)]
    exact ⟨rfl, MV_S H'⟩
  | false =>
    rw [if_pos (by rw [el])]
    obtain ⟨q', q64', _⟩ := mv_Pf H' hc hf
    have eM : m_acM (hp_sI h 82 (4 * c + f) (m_bi false)) c f (nI k) (m_w h c) = nI (f_aK nw wr f mo ti k) := by
      unfold m_acM f_aK
      rw [al_2 q' q64', ew]
      have := hd_eq (h := hp_sI h 82 (4 * c + f) (m_bi false)) (f := f) (mv_at H' hc).2.2.1 hf
      rw [this]
      cases f_al mo ti 2 nw
      · cases e : f_hw wr f
        · simp
        · simp
      · rfl
    have bk := aK_le (nw := nw) (wr := wr) (f := f) (mo := mo) (ti := ti) hk
    have eC : m_acC (hp_sI h 82 (4 * c + f) (m_bi false)) c f (nI (f_aK nw wr f mo ti k)) = f_al mo ti (f_aK nw wr f mo ti k) nw := al_k q' q64' bk.1 bk.2
    rw [eM, eC]
    exact mv_open (m := fm_L c f (nu + nI 1) (f_aK nw wr f mo ti k) (f_al mo ti (f_aK nw wr f mo ti k) nw)) H' hc rfl rfl ⟨Nat.le_refl _, by show 1 ≤ 3; omega⟩ hf bk.2 (by show 0 < 4; omega) (fun z => by cases z)
theorem mq_read0 {K L : Nat} {n : List ab_M} {su : Bool} {sn : Int32} {sg : Bool} {se : Int32} {pg : Nat → Nat → Int32} {md : Nat → Nat → Nat} {en : Nat → Nat → Int32} {sd : Nat → Option ab_M} {ln : Nat → List ab_M} {C : Nat → ab_C} {h : ha_H} {c : Nat} {up : Bool} {nw nu : Int32} {op : Option ab_M} {si : Int32} {cp : Nat → ab_P} {wr : List ab_W} {f : Nat} {mo : Nat} {ti : Int32} {re lo : Bool} {ps : Nat → Int32} {p : Nat} (H : MV K L n su sn sg se pg md en sd ln (fu C c (up, nw, nu, op, si, fu cp f (mo, ti, re, lo, ps), wr)) h) (hc : c < 3) (hf : f < 4) (hp : p < 4) : (m_readA h c f p 0).1 = (bif lo then -3 else bif f_al mo ti 1 nw then ps p else -2) ∧ MV K L n su sn sg se pg md en sd ln (fu C c (up, nw, nu, op, si, fu cp f (mo, ti, re, false, ps), wr)) (m_readA h c f p 0).2 := by
  obtain ⟨q, q64, _⟩ := mv_Pf H hc hf
  have el := lo_eq q
  unfold m_readA
  rw [al_1 q q64]
  cases lo with
  | true =>
    rw [if_neg (by rw [el]; decide)]
    exact ⟨rfl, mv_lm H hc hf false⟩
  | false =>
    rw [if_pos (by rw [el])]
    cases e : f_al mo ti 1 nw
    · exact ⟨rfl, H⟩
    · refine ⟨?_, H⟩
      have m0 : 0 < mo := by
        rcases Nat.eq_zero_or_pos mo with z | z
        · subst z; simp [f_al] at e
        · exact z
      show (if (0 : Nat) = 1 then nI 1 else hp_I h 83 (16 * c + 4 * f + p)) = ps p
      rw [if_neg (by decide)]
      exact (q.2.2.2 m0).2 p hp
theorem mq_read1 {K L : Nat} {n : List ab_M} {su : Bool} {sn : Int32} {sg : Bool} {se : Int32} {pg : Nat → Nat → Int32} {md : Nat → Nat → Nat} {en : Nat → Nat → Int32} {sd : Nat → Option ab_M} {ln : Nat → List ab_M} {C : Nat → ab_C} {h : ha_H} {c : Nat} {up : Bool} {nw nu : Int32} {op : Option ab_M} {si : Int32} {cp : Nat → ab_P} {wr : List ab_W} {f : Nat} {mo : Nat} {ti : Int32} {re lo : Bool} {ps : Nat → Int32} {p : Nat} (H : MV K L n su sn sg se pg md en sd ln (fu C c (up, nw, nu, op, si, fu cp f (mo, ti, re, lo, ps), wr)) h) (hc : c < 3) (hf : f < 4) : (m_readA h c f p 1).1 = (bif lo then -3 else bif f_al mo ti 1 nw then nI 1 else -2) ∧ MV K L n su sn sg se pg md en sd ln (fu C c (up, nw, nu, op, si, fu cp f (mo, ti, re, lo, ps), wr)) (m_readA h c f p 1).2 := by
  obtain ⟨q, q64, _⟩ := mv_Pf H hc hf
  have el := lo_eq q
  unfold m_readA
  rw [al_1 q q64]
  cases lo with
  | true =>
    rw [if_neg (by rw [el]; decide)]
    exact ⟨rfl, mv_lm H hc hf true⟩
  | false =>
    rw [if_pos (by rw [el])]
    cases e : f_al mo ti 1 nw
    · exact ⟨rfl, H⟩
    · exact ⟨rfl, H⟩
theorem mq_wr {K L : Nat} {n : List ab_M} {su : Bool} {sn : Int32} {sg : Bool} {se : Int32} {pg : Nat → Nat → Int32} {md : Nat → Nat → Nat} {en : Nat → Nat → Int32} {sd : Nat → Option ab_M} {ln : Nat → List ab_M} {C : Nat → ab_C} {h : ha_H} {c : Nat} {up : Bool} {nw nu : Int32} {op : Option ab_M} {si : Int32} {cp : Nat → ab_P} {wr : List ab_W} {f : Nat} {mo : Nat} {ti : Int32} {re lo : Bool} {ps : Nat → Int32} {p : Nat} {v : Int32} (H : MV K L n su sn sg se pg md en sd ln (fu C c (up, nw, nu, op, si, fu cp f (mo, ti, re, lo, ps), wr)) h) (hc : c < 3) (hf : f < 4) (hp : p < 4) : (m_writeA h c f p v).1 = (f_wp nw wr f mo ti re lo ps p v).1 ∧ MV K L n su sn sg se pg md en sd ln (fu C c (up, nw, nu, op, si, fu cp f (f_wp nw wr f mo ti re lo ps p v).2.1, (f_wp nw wr f mo ti re lo ps p v).2.2)) (m_writeA h c f p v).2 := by
  have H' := mv_lm H hc hf false
  have ew : m_w h c = wr.length := w_f H hc
  obtain ⟨q, q64, _⟩ := mv_Pf H hc hf
  have el := lo_eq q
  unfold m_writeA f_wp
  rw [ls_eq]
  cases lo with
  | true =>
    rw [if_neg (by rw [el]; decide)]
    exact ⟨rfl, H'⟩
  | false =>
    rw [if_pos (by rw [el])]
    obtain ⟨q', q64', _⟩ := mv_Pf H' hc hf
    rw [al_2 q' q64', ew]
    have A := mv_at H' hc
    have I' := mv_I H'
    generalize hp_sI h 82 (4 * c + f) (m_bi false) = g at H' q' q64' A I' ⊢
    cases e : f_al mo ti 2 nw
    · exact ⟨rfl, H'⟩
    · show (if wr.length = 6 then _ else _ : Int32 × ha_H).1 = (if wr.length < 6 then _ else _ : Int32 × ab_P × List ab_W).1 ∧ _
      have l6 : wr.length ≤ 6 := A.2.2.1.2.1
      have em : mo = 2 := by
        have : mo ≤ 2 := q'.1.2
        rcases Nat.lt_or_ge mo 2 with z | z
        · simp [f_al, z] at e
        · omega
      by_cases z : wr.length = 6
      · simp only [z, if_true]
        rw [show (if (6 : Nat) < 6 then (nI (6 + 1), (mo, ti, re, false, fu ps p v), wr ++ [(f, p, v)]) else ((-4 : Int32), ((mo, ti, re, false, ps) : ab_P), wr)) = (-4, (mo, ti, re, false, ps), wr) from if_neg (by omega)]
        exact ⟨rfl, H'⟩
      · rw [if_neg z, if_pos (by omega)]
        simp only [cond_true, if_true]
        refine ⟨trivial, ?_⟩
        have G : ∀ x j, ¬ (x = 83 ∧ j = 16 * c + 4 * f + p) → ¬ ((x = 85 ∨ x = 86) ∧ j = 6 * c + wr.length) → ¬ (x = 84 ∧ j = c) → hp_I (m_wrH g wr.length c f p v) x j = hp_I g x j := fun x j y1 y2 y3 => by
          unfold m_wrH
          rw [hp_I_sI, if_neg (by omega), hp_I_sI, if_neg (by omega), hp_I_sI, if_neg (by omega), hp_I_sI, if_neg (by omega)]
        refine mv_cl H' hc (fun x j y => G x j (fun w => y (by unfold fcx; omega)) (fun w => y (by unfold fcx; omega)) (fun w => y (by unfold fcx; omega))) ?_ ?_ ?_ rfl (Or.inr rfl)
        · unfold m_wrH
          exact (mI_sI (mI_sI (mI_sI (mI_sI I'.1 (by omega) (by simp)).1 (by omega) (by simp)).1 (by omega) (by simp)).1 (by omega) (by simp)).1
        · unfold m_wrH
          exact dp_sI (dp_sI (dp_set (dp_sI I'.2 (by omega)) (by omega)) (by omega)) (by omega)
        · obtain ⟨⟨a1, a2, a3⟩, ⟨a4, a4', p4, a4p, a4q⟩, ⟨w1, w2, w3⟩, a6⟩ := A
          refine ⟨⟨by rw [G 63 _ (by omega) (by omega) (by omega)]; exact a1, by rw [G 64 _ (by omega) (by omega) (by omega)]; exact a2, by rw [G 78 _ (by omega) (by omega) (by omega)]; exact a3⟩, ⟨fun z => by rw [G 87 _ (by omega) (by omega) (by omega)]; exact a4 z, fun m z => ?_, p4, a4p, by rw [G 91 _ (by omega) (by omega) (by omega)]; exact a4q⟩, ⟨?_, ?_, fun i w e => ?_⟩, fun f' hf' => ?_⟩
          · obtain ⟨b1, b2, b3, b4, b5, b6⟩ := a4' m z
            exact ⟨b1, by rw [G 87 _ (by omega) (by omega) (by omega)]; exact b2, by rw [G 88 _ (by omega) (by omega) (by omega)]; exact b3, by rw [G 93 _ (by omega) (by omega) (by omega)]; exact b4, fun z => ⟨by rw [G 89 _ (by omega) (by omega) (by omega)]; exact (b5 z).1, by rw [G 90 _ (by omega) (by omega) (by omega)]; exact (b5 z).2⟩, fun z => ⟨by rw [G 91 _ (by omega) (by omega) (by omega)]; exact (b6 z).1, by rw [G 92 _ (by omega) (by omega) (by omega)]; exact (b6 z).2⟩⟩
          · show hp_I (m_wrH g wr.length c f p v) 84 c = nI (wr ++ [(f, p, v)]).length
            rw [List.length_append]
            unfold m_wrH
            rw [hI_set]; rfl
          · show (wr ++ [(f, p, v)]).length ≤ 6
            rw [List.length_append]; show wr.length + 1 ≤ 6; omega
          · have e' : (wr ++ [(f, p, v)])[i]? = some w := e
            by_cases ci : i < wr.length
            · rw [List.getElem?_append_left ci] at e'
              obtain ⟨b1, b2, b3, b4⟩ := w3 i w e'
              exact ⟨by rw [G 85 _ (by omega) (by omega) (by omega)]; exact b1, by rw [G 86 _ (by omega) (by omega) (by omega)]; exact b2, b3, b4⟩
            · have lt := (List.getElem?_eq_some_iff.mp e').1
              rw [List.length_append] at lt
              have ei : i = wr.length := by
                have : i < wr.length + 1 := lt
                omega
              subst ei
              rw [List.getElem?_append_right (Nat.le_refl _), Nat.sub_self] at e'
              have e'' : some (f, p, v) = some w := e'
              cases e''
              refine ⟨?_, ?_, hf, hp⟩
              · unfold m_wrH; simp [hp_I_sI]
              · unfold m_wrH; simp [hp_I_sI]
          · by_cases ef : f' = f
            · subst ef
              show mv_P _ c f' (fu cp f' (mo, ti, re, false, fu ps p v) f')
              rw [fu_at]
              obtain ⟨⟨q1, q2⟩, q3, q4, q5⟩ := q'
              refine ⟨⟨by rw [G 79 _ (by omega) (by omega) (by omega)]; exact q1, q2⟩, by rw [G 81 _ (by omega) (by omega) (by omega)]; exact q3, by rw [G 82 _ (by omega) (by omega) (by omega)]; exact q4, fun z => ⟨by rw [G 80 _ (by omega) (by omega) (by omega)]; exact (q5 z).1, fun p' hp' => ?_⟩⟩
              show _ = fu ps p v p'
              by_cases ep : p' = p
              · subst ep; rw [fu_at]; unfold m_wrH; simp [hp_I_sI]
              · rw [fu_ne _ _ ep, G 83 _ (by omega) (by omega) (by omega)]; exact (q5 z).2 p' hp'
            · show mv_P _ c f' (fu cp f (mo, ti, re, false, fu ps p v) f')
              rw [fu_ne _ _ ef]
              have qf : mv_P g c f' (fu cp f (mo, ti, re, false, ps) f') := a6 f' hf'
              rw [fu_ne _ _ ef] at qf
              obtain ⟨⟨q1, q2⟩, q3, q4, q5⟩ := qf
              exact ⟨⟨by rw [G 79 _ (by omega) (by omega) (by omega)]; exact q1, q2⟩, by rw [G 81 _ (by omega) (by omega) (by omega)]; exact q3, by rw [G 82 _ (by omega) (by omega) (by omega)]; exact q4, fun z => ⟨by rw [G 80 _ (by omega) (by omega) (by omega)]; exact (q5 z).1, fun p hp => by rw [G 83 _ (by omega) (by omega) (by omega)]; exact (q5 z).2 p hp⟩⟩
