theorem mv_pv {K L : Nat} {n : List ab_M} {su : Bool} {sn : Int32} {sg : Bool} {se : Int32} {pg : Nat → Nat → Int32} {md : Nat → Nat → Nat} {en : Nat → Nat → Int32} {sd : Nat → Option ab_M} {ln : Nat → List ab_M} {C : Nat → ab_C} {h : ha_H} {c : Nat} {up : Bool} {nw nu : Int32} {si : Int32} {cp : Nat → ab_P} {wr : List ab_W} {p : Nat} {v : Int32} (H : MV K L n su sn sg se pg md en sd ln (fu C c (up, nw, nu, none, si, cp, wr)) h) (hc : c < 3) (hp : p < 4) : MV K L n su sn sg se pg md en sd ln (fu C c (up, nw, nu, none, si, cp, wr)) (hp_sI (hp_sI h 91 c (nI p)) 92 c v) := by
  have G : ∀ x j, ¬ ((x = 91 ∨ x = 92) ∧ j = c) → hp_I (hp_sI (hp_sI h 91 c (nI p)) 92 c v) x j = hp_I h x j := fun x j y => by rw [hp_I_sI, if_neg (by omega), hp_I_sI, if_neg (by omega)]
  have A := mv_at H hc
  refine mv_cl H hc (fun x j y => G x j (fun w => y (by unfold fcx; omega))) (mI_sI (mI_sI (mv_I H).1 (by omega) (by simp)).1 (by omega) (by simp)).1 (dp_k (mv_I H).2 (fun j => G 85 j (by omega))) ?_ rfl (Or.inl rfl)
  obtain ⟨⟨a1, a2, a3⟩, ⟨a4, a4', p4, a4p, a4q⟩, ⟨w1, w2, w3⟩, a6⟩ := A
  refine ⟨⟨by rw [G 63 _ (by omega)]; exact a1, by rw [G 64 _ (by omega)]; exact a2, by rw [G 78 _ (by omega)]; exact a3⟩, ⟨fun z => by rw [G 87 _ (by omega)]; exact a4 z, fun m z => (by cases z), p, hp, by simp [hp_I_sI]⟩, ⟨by rw [G 84 _ (by omega)]; exact w1, w2, fun i w e => ?_⟩, fun f' hf' => ?_⟩
  · obtain ⟨b1, b2, b3, b4⟩ := w3 i w e
    exact ⟨by rw [G 85 _ (by omega)]; exact b1, by rw [G 86 _ (by omega)]; exact b2, b3, b4⟩
  · obtain ⟨⟨q1, q2⟩, q3, q4, q5⟩ := a6 f' hf'
    exact ⟨⟨by rw [G 79 _ (by omega)]; exact q1, q2⟩, by rw [G 81 _ (by omega)]; exact q3, by rw [G 82 _ (by omega)]; exact q4, fun z => ⟨by rw [G 80 _ (by omega)]; exact (q5 z).1, fun p hp => by rw [G 83 _ (by omega)]; exact (q5 z).2 p hp⟩⟩
theorem mq_fl {K L : Nat} {n : List ab_M} {su : Bool} {sn : Int32} {sg : Bool} {se : Int32} {pg : Nat → Nat → Int32} {md : Nat → Nat → Nat} {en : Nat → Nat → Int32} {sd : Nat → Option ab_M} {ln : Nat → List ab_M} {C : Nat → ab_C} {h : ha_H} {c : Nat} {up : Bool} {nw nu : Int32} {si : Int32} {cp : Nat → ab_P} {wr : List ab_W} {w0 : ab_W} {mo : Nat} {ti : Int32} {re lo : Bool} {ps : Nat → Int32} (H : MV K L n su sn sg se pg md en sd ln (fu C c (up, nw, nu, none, si, fu cp w0.1 (mo, ti, re, lo, ps), wr)) h) (hc : c < 3) (e0 : wr[0]? = some w0) : (m_flA h c (hp_I h 85 (6 * c)).toNatClampNeg).1 = (f_st n c nw nu none si mo ti w0).1 ∧ MV (K + 1) L (f_st n c nw nu none si mo ti w0).2.1 su sn sg se pg md en sd ln (fu C c (up, nw, (f_st n c nw nu none si mo ti w0).2.2.1, (f_st n c nw nu none si mo ti w0).2.2.2.1, (f_st n c nw nu none si mo ti w0).2.2.2.2, fu cp w0.1 (mo, ti, re, lo, ps), wr)) (m_flA h c (hp_I h 85 (6 * c)).toNatClampNeg).2 := by
  obtain ⟨b1, b2, b3, b4⟩ := (mv_at H hc).2.2.1.2.2 0 w0 e0
  rw [Nat.add_zero] at b1 b2
  rw [b1, nI_clamp (by omega)]
  have d1 : (4 * w0.1 + w0.2.1) / 4 = w0.1 := by omega
  have d2 : (4 * w0.1 + w0.2.1) % 4 = w0.2.1 := by omega
  obtain ⟨q, q64, _⟩ := mv_Pf H hc b3
  unfold m_flA f_st
  rw [d1, d2, al_2 q q64]
  cases e : f_al mo ti 2 nw
  · exact ⟨rfl, MV_S H⟩
  · rw [if_pos rfl]
    have e92 : hp_mv (hp_sI h 91 c (nI w0.2.1)) 86 (6 * c) 92 c = hp_sI (hp_sI h 91 c (nI w0.2.1)) 92 c w0.2.2 := by
      unfold hp_mv
      rw [hp_I_sI, if_neg (by omega), b2]
    rw [e92]
    exact mv_open (m := fm_S c (nu + nI 1) w0) (mv_pv H hc b4) hc rfl rfl ⟨by show 1 ≤ 2; omega, by show 2 ≤ 3; omega⟩ b3 (by show 0 ≤ 2; omega) b4 (fun _ => ⟨by simp [hp_I_sI, fm_S, am_p], by simp [hp_I_sI, fm_S, am_v]⟩)
theorem mq_cl {K L : Nat} {n : List ab_M} {su : Bool} {sn : Int32} {sg : Bool} {se : Int32} {pg : Nat → Nat → Int32} {md : Nat → Nat → Nat} {en : Nat → Nat → Int32} {sd : Nat → Option ab_M} {ln : Nat → List ab_M} {C : Nat → ab_C} {h : ha_H} {c : Nat} {up : Bool} {nw nu : Int32} {op : Option ab_M} {si : Int32} {cp : Nat → ab_P} {wr : List ab_W} {f : Nat} {mo : Nat} {ti : Int32} {re lo : Bool} {ps : Nat → Int32} (H : MV K L n su sn sg se pg md en sd ln (fu C c (up, nw, nu, op, si, fu cp f (mo, ti, re, lo, ps), wr)) h) (hc : c < 3) (hf : f < 4) : (m_closeA h c f).1 = (f_gb n c nw nu op si f mo ti re lo ps).1 ∧ MV (K + 1) L (f_gb n c nw nu op si f mo ti re lo ps).2.1 su sn sg se pg md en sd ln (fu C c (up, nw, (f_gb n c nw nu op si f mo ti re lo ps).2.2.1, (f_gb n c nw nu op si f mo ti re lo ps).2.2.2.1, (f_gb n c nw nu op si f mo ti re lo ps).2.2.2.2.1, fu cp f (f_gb n c nw nu op si f mo ti re lo ps).2.2.2.2.2, wr)) (m_closeA h c f).2 := by
  have H' := mv_lm H hc hf false
  obtain ⟨q, q64, _⟩ := mv_Pf H hc hf
  have el := lo_eq q
  unfold m_closeA f_gb
  rw [ls_eq]
  cases lo with
  | true =>
    rw [if_neg (by rw [el]; decide)]
    exact ⟨rfl, MV_S H'⟩
  | false =>
    rw [if_pos (by rw [el])]
    obtain ⟨q', _, _⟩ := mv_Pf H' hc hf
    generalize hp_sI h 82 (4 * c + f) (m_bi false) = g at H' q' ⊢
    obtain ⟨⟨q1, q2⟩, q3, q4, q5⟩ := q'
    have q1' : hp_I g 79 (4 * c + f) = nI mo := q1
    have q2' : mo ≤ 2 := q2
    rw [q1']
    by_cases z : mo = 0
    · subst z
      rw [if_pos (by decide)]
      simp only [cond_false, if_true]
      exact ⟨trivial, MV_S H'⟩
    · have z' : ¬ nI mo = 0 := nI_ne0 (by omega) (by omega)
      rw [if_neg z']
      simp only [cond_false, z, if_false]
      have H2 : MV K L n su sn sg se pg md en sd ln (fu C c (up, nw, nu, op, si, fu cp f (0, ti, false, false, ps), wr)) (hp_sI (hp_sI g 79 (4 * c + f) (nI 0)) 81 (4 * c + f) (nI 0)) := by
        refine mv_cf H' hc hf (fun x j z _ => by rw [hp_I_sI, if_neg (by omega), hp_I_sI, if_neg (by omega)]) (mI_sI (mI_sI (mv_I H').1 (by omega) (by simp)).1 (by omega) (fun _ => Or.inl rfl)).1 ⟨⟨by simp [hp_I_sI], by show 0 ≤ 2; omega⟩, by simp [hp_I_sI, m_bi], by simpa [hp_I_sI] using q4, fun z => absurd z (by show ¬ 0 < 0; omega)⟩
      exact mv_open (m := (3, c, f, nu + nI 1, 0, false, 0, 0, fun _ => 0)) H2 hc rfl rfl ⟨by show 1 ≤ 3; omega, by show 3 ≤ 3; omega⟩ hf (by show 0 ≤ 2; omega) (by show 0 < 4; omega) (fun z => by cases z)
theorem mq_re {K L : Nat} {n : List ab_M} {su : Bool} {sn : Int32} {sg : Bool} {se : Int32} {pg : Nat → Nat → Int32} {md : Nat → Nat → Nat} {en : Nat → Nat → Int32} {sd : Nat → Option ab_M} {ln : Nat → List ab_M} {C : Nat → ab_C} {h : ha_H} {c : Nat} {up : Bool} {nw nu : Int32} {m : ab_M} {si : Int32} {cp : Nat → ab_P} {wr : List ab_W} (H : MV K L n su sn sg se pg md en sd ln (fu C c (up, nw, nu, some m, si, cp, wr)) h) (hc : c < 3) : hp_I h 78 c = am_n m ∧ MV K L (f_send n m) su sn sg se pg md en sd ln (fu C c (up, nw, nu, some m, si, cp, wr)) (m_ask h (m_u h) c) := by
  have A := mv_at H hc
  have ho : mv_o h c nu si m := A.2.1.2.1 m rfl
  refine ⟨A.1.2.2.trans ho.1.2.2.symm, ?_⟩
  obtain ⟨Q, X, a, k, ⟨hi, hd⟩, S, M, P⟩ := H
  have Fr : fr 63 94 h (m_ask h (m_u h) c) := fr_ask
  exact ⟨Q, X, a, k, ⟨(mI_ask hi).1, dp_k hd (fun j => Fr 85 (by omega) (by omega) j)⟩, sv_ask S (P.2 c m hc (by rw [fu_at])) ho A.1.2.2 A.2.1.2.2, k_C M (fun d _ => fc_fr Fr), P⟩
theorem mq_rec {K L : Nat} {n : List ab_M} {su : Bool} {sn : Int32} {sg : Bool} {se : Int32} {pg : Nat → Nat → Int32} {md : Nat → Nat → Nat} {en : Nat → Nat → Int32} {sd : Nat → Option ab_M} {ln : Nat → List ab_M} {C : Nat → ab_C} {h : ha_H} {c : Nat} {up : Bool} {nw nu : Int32} {op : Option ab_M} {si : Int32} {cp : Nat → ab_P} {wr : List ab_W} {f : Nat} {mo : Nat} {ti : Int32} {re lo : Bool} {ps : Nat → Int32} (H : MV K L n su sn sg se pg md en sd ln (fu C c (up, nw, nu, op, si, fu cp f (mo, ti, re, lo, ps), wr)) h) (hc : c < 3) (hf : f < 4) (b : Bool) : MV K L n su sn sg se pg md en sd ln (fu C c (up, nw, nu, op, si, fu cp f (mo, ti, b, lo, ps), wr)) (hp_sI h 81 (4 * c + f) (m_bi b)) := by
  obtain ⟨⟨⟨q1, q2⟩, q3, q4, q5⟩, _, _⟩ := mv_Pf H hc hf
  refine mv_cf H hc hf (fun x j z _ => by rw [hp_I_sI, if_neg (by omega)]) (mI_sI (mv_I H).1 (by omega) (fun _ => m_bi01 b)).1 ?_
  exact ⟨⟨by rw [hp_I_sI, if_neg (by omega)]; exact q1, q2⟩, hI_set, by rw [hp_I_sI, if_neg (by omega)]; exact q4, fun z => ⟨by rw [hp_I_sI, if_neg (by omega)]; exact (q5 z).1, fun p hp => by rw [hp_I_sI, if_neg (by omega)]; exact (q5 z).2 p hp⟩⟩
theorem mq_upc {K L : Nat} {n : List ab_M} {su : Bool} {sn : Int32} {sg : Bool} {se : Int32} {pg : Nat → Nat → Int32} {md : Nat → Nat → Nat} {en : Nat → Nat → Int32} {sd : Nat → Option ab_M} {ln : Nat → List ab_M} {C : Nat → ab_C} {h : ha_H} {c : Nat} {up : Bool} {nw nu : Int32} {op : Option ab_M} {si : Int32} {cp : Nat → ab_P} {wr : List ab_W} (H : MV K L n su sn sg se pg md en sd ln (fu C c (up, nw, nu, op, si, cp, wr)) h) (hc : c < 3) (b : Bool) : MV K L n su sn sg se pg md en sd ln (fu C c (b, nw, nu, op, si, cp, wr)) (hp_sI h 63 c (m_bi (!b))) := by
  have G : ∀ x j, ¬ (x = 63 ∧ j = c) → hp_I (hp_sI h 63 c (m_bi (!b))) x j = hp_I h x j := fun x j y => by rw [hp_I_sI, if_neg y]
  obtain ⟨⟨a1, a2, a3⟩, a4, a5, a6⟩ := mv_at H hc
  have F : ∀ x j, fcx c x j → ¬ x = 63 → hp_I (hp_sI h 63 c (m_bi (!b))) x j = hp_I h x j := fun x j _ y => G x j (fun z => y z.1)
  refine mv_cl H hc (fun x j y => G x j (fun w => y (by unfold fcx; omega))) (mI_sI (mv_I H).1 (by omega) (fun _ => m_bi01 _)).1 (dp_k (mv_I H).2 (fun j => G 85 j (by omega))) ?_ rfl (Or.inr rfl)
  obtain ⟨a4, a4', p4, a4p, a4q⟩ := a4
  obtain ⟨w1, w2, w3⟩ := a5
  refine ⟨⟨hI_set, by rw [G 64 _ (by omega)]; exact a2, by rw [G 78 _ (by omega)]; exact a3⟩, ⟨fun z => by rw [G 87 _ (by omega)]; exact a4 z, fun m z => ?_, p4, a4p, by rw [G 91 _ (by omega)]; exact a4q⟩, ⟨by rw [G 84 _ (by omega)]; exact w1, w2, fun i w e => ?_⟩, fun f' hf' => ?_⟩
  · obtain ⟨b1, b2, b3, b4, b5, b6⟩ := a4' m z
    exact ⟨b1, by rw [G 87 _ (by omega)]; exact b2, by rw [G 88 _ (by omega)]; exact b3, by rw [G 93 _ (by omega)]; exact b4, fun z => ⟨by rw [G 89 _ (by omega)]; exact (b5 z).1, by rw [G 90 _ (by omega)]; exact (b5 z).2⟩, fun z => ⟨by rw [G 91 _ (by omega)]; exact (b6 z).1, by rw [G 92 _ (by omega)]; exact (b6 z).2⟩⟩
  · obtain ⟨b1, b2, b3, b4⟩ := w3 i w e
    exact ⟨by rw [G 85 _ (by omega)]; exact b1, by rw [G 86 _ (by omega)]; exact b2, b3, b4⟩
  · obtain ⟨⟨q1, q2⟩, q3, q4, q5⟩ := a6 f' hf'
    exact ⟨⟨by rw [G 79 _ (by omega)]; exact q1, q2⟩, by rw [G 81 _ (by omega)]; exact q3, by rw [G 82 _ (by omega)]; exact q4, fun z => ⟨by rw [G 80 _ (by omega)]; exact (q5 z).1, fun p hp => by rw [G 83 _ (by omega)]; exact (q5 z).2 p hp⟩⟩
theorem mq_nwc {K L : Nat} {n : List ab_M} {su : Bool} {sn : Int32} {sg : Bool} {se : Int32} {pg : Nat → Nat → Int32} {md : Nat → Nat → Nat} {en : Nat → Nat → Int32} {sd : Nat → Option ab_M} {ln : Nat → List ab_M} {C : Nat → ab_C} {h : ha_H} {c : Nat} {up : Bool} {nw nu : Int32} {op : Option ab_M} {si : Int32} {cp : Nat → ab_P} {wr : List ab_W} (H : MV K L n su sn sg se pg md en sd ln (fu C c (up, nw, nu, op, si, cp, wr)) h) (hc : c < 3) (v : Int32) : MV K L n su sn sg se pg md en sd ln (fu C c (up, v, nu, op, si, cp, wr)) (hp_sI h 64 c v) := by
  have G : ∀ x j, ¬ (x = 64 ∧ j = c) → hp_I (hp_sI h 64 c v) x j = hp_I h x j := fun x j y => by rw [hp_I_sI, if_neg y]
  obtain ⟨⟨a1, a2, a3⟩, a4, a5, a6⟩ := mv_at H hc
  refine mv_cl H hc (fun x j y => G x j (fun w => y (by unfold fcx; omega))) (mI_sI (mv_I H).1 (by omega) (by simp)).1 (dp_k (mv_I H).2 (fun j => G 85 j (by omega))) ?_ rfl (Or.inr rfl)
  obtain ⟨a4, a4', p4, a4p, a4q⟩ := a4
  obtain ⟨w1, w2, w3⟩ := a5
  refine ⟨⟨by rw [G 63 _ (by omega)]; exact a1, hI_set, by rw [G 78 _ (by omega)]; exact a3⟩, ⟨fun z => by rw [G 87 _ (by omega)]; exact a4 z, fun m z => ?_, p4, a4p, by rw [G 91 _ (by omega)]; exact a4q⟩, ⟨by rw [G 84 _ (by omega)]; exact w1, w2, fun i w e => ?_⟩, fun f' hf' => ?_⟩
  · obtain ⟨b1, b2, b3, b4, b5, b6⟩ := a4' m z
    exact ⟨b1, by rw [G 87 _ (by omega)]; exact b2, by rw [G 88 _ (by omega)]; exact b3, by rw [G 93 _ (by omega)]; exact b4, fun z => ⟨by rw [G 89 _ (by omega)]; exact (b5 z).1, by rw [G 90 _ (by omega)]; exact (b5 z).2⟩, fun z => ⟨by rw [G 91 _ (by omega)]; exact (b6 z).1, by rw [G 92 _ (by omega)]; exact (b6 z).2⟩⟩
  · obtain ⟨b1, b2, b3, b4⟩ := w3 i w e
    exact ⟨by rw [G 85 _ (by omega)]; exact b1, by rw [G 86 _ (by omega)]; exact b2, b3, b4⟩
  · obtain ⟨⟨q1, q2⟩, q3, q4, q5⟩ := a6 f' hf'
    exact ⟨⟨by rw [G 79 _ (by omega)]; exact q1, q2⟩, by rw [G 81 _ (by omega)]; exact q3, by rw [G 82 _ (by omega)]; exact q4, fun z => ⟨by rw [G 80 _ (by omega)]; exact (q5 z).1, fun p hp => by rw [G 83 _ (by omega)]; exact (q5 z).2 p hp⟩⟩
theorem mq_tkc {K L : Nat} {n : List ab_M} {su : Bool} {sn : Int32} {sg : Bool} {se : Int32} {pg : Nat → Nat → Int32} {md : Nat → Nat → Nat} {en : Nat → Nat → Int32} {sd : Nat → Option ab_M} {ln : Nat → List ab_M} {C : Nat → ab_C} {c : Nat} {up : Bool} {nu : Int32} {op : Option ab_M} {si : Int32} {cp : Nat → ab_P} {wr : List ab_W} (hc : c < 3) : ∀ (k : Nat) {nw : Int32} {h : ha_H} (_ : MV K L n su sn sg se pg md en sd ln (fu C c (up, nw, nu, op, si, cp, wr)) h), MV K L n su sn sg se pg md en sd ln (fu C c (up, nw + nI k, nu, op, si, cp, wr)) (m_tkN k h c)
  | 0, nw, _, H => by
    have e : nw + nI 0 = nw := by rw [nI_0]; exact Int32.add_zero nw
    rw [e]; exact H
  | k + 1, nw, h, H => by
    have e1 : m_tk1 h c = hp_sI h 64 c (hp_I h 64 c + nI 1) := by unfold m_tk1; rw [if_neg (by omega)]
    have e2 : hp_I h 64 c = nw := (mv_at H hc).1.2.1
    unfold m_tkN
    rw [e1, e2]
    have e3 : nw + nI (k + 1) = nw + nI 1 + nI k := by
      rw [Int32.add_assoc, nI_add]
      congr 2
      omega
    rw [e3]
    exact mq_tkc hc k (mq_nwc H hc _)
/-- a client goes down -/
theorem mq_crc {K L : Nat} {n : List ab_M} {su : Bool} {sn : Int32} {sg : Bool} {se : Int32} {pg : Nat → Nat → Int32} {md : Nat → Nat → Nat} {en : Nat → Nat → Int32} {sd : Nat → Option ab_M} {ln : Nat → List ab_M} {C : Nat → ab_C} {h : ha_H} {c : Nat} {up : Bool} {nw nu : Int32} {op : Option ab_M} {si : Int32} {cp : Nat → ab_P} {wr : List ab_W} (H : MV K L n su sn sg se pg md en sd ln (fu C c (up, nw, nu, op, si, cp, wr)) h) (hc : c < 3) : MV K L n su sn sg se pg md en sd ln (fu C c (false, nw, nu, none, si, fun f => fz_ (cp f), [])) (m_crC h c) := by
  have A := mv_at H hc
  have I := mv_I H
  have G : ∀ x j, ¬ fcx c x j → hp_I (m_crC h c) x j = hp_I h x j := fun x j y => by
    unfold fcx at y
    unfold m_crC
    repeat rw [hp_I_sI, if_neg (by omega)]
  have G2 : ∀ x j, x = 64 ∨ x = 78 ∨ x = 91 → hp_I (m_crC h c) x j = hp_I h x j := fun x j y => by
    unfold m_crC
    repeat rw [hp_I_sI, if_neg (by omega)]
  have hi : mo_I (m_crC h c) := by
    have B : ∀ (x : Nat), x ∈ [63, 72, 81, 82, 90, 99] → nI 0 = 0 ∨ nI 0 = 1 := fun _ _ => Or.inl rfl
    unfold m_crC
    exact (mI_sI (mI_sI (mI_sI (mI_sI (mI_sI (mI_sI (mI_sI (mI_sI (mI_sI (mI_sI (mI_sI (mI_sI (mI_sI (mI_sI (mI_sI I.1 (by omega) (fun _ => Or.inr rfl)).1 (by omega) (by simp)).1 (by omega) (by simp)).1 (by omega) (by simp)).1 (by omega) (B _)).1 (by omega) (B _)).1 (by omega) (by simp)).1 (by omega) (B _)).1 (by omega) (B _)).1 (by omega) (by simp)).1 (by omega) (B _)).1 (by omega) (B _)).1 (by omega) (by simp)).1 (by omega) (B _)).1 (by omega) (B _)).1
  refine mv_cl H hc G hi (dp_k I.2 (fun j => ?_)) ?_ rfl (Or.inl rfl)
  · unfold m_crC
    repeat rw [hp_I_sI, if_neg (by omega)]
  · obtain ⟨⟨a1, a2, a3⟩, ⟨a4, a4', p4, a4p, a4q⟩, ⟨w1, w2, w3⟩, a6⟩ := A
    refine ⟨⟨?_, by rw [G2 64 _ (by omega)]; exact a2, by rw [G2 78 _ (by omega)]; exact a3⟩, ⟨fun _ => ?_, fun m z => (by cases z), p4, a4p, by rw [G2 91 _ (by omega)]; exact a4q⟩, ⟨?_, by show 0 ≤ 6; omega, fun i w e => (by cases e)⟩, fun f hf => ?_⟩
    · unfold m_crC; simp [hp_I_sI, m_bi]
    · unfold m_crC; simp [hp_I_sI]
    · unfold m_crC; simp [hp_I_sI]
    · refine ⟨⟨?_, by show 0 ≤ 2; omega⟩, ?_, ?_, fun z => absurd z (by show ¬ 0 < 0; omega)⟩
      · show _ = nI 0
        rcases (by omega : f = 0 ∨ f = 1 ∨ f = 2 ∨ f = 3) with rfl | rfl | rfl | rfl <;> (unfold m_crC; simp [hp_I_sI])
      · show _ = nI 0
        rcases (by omega : f = 0 ∨ f = 1 ∨ f = 2 ∨ f = 3) with rfl | rfl | rfl | rfl <;> (unfold m_crC; simp [hp_I_sI])
      · show _ = nI 0
        rcases (by omega : f = 0 ∨ f = 1 ∨ f = 2 ∨ f = 3) with rfl | rfl | rfl | rfl <;> (unfold m_crC; simp [hp_I_sI])
/-- a client comes up -/
theorem mq_rsc {K L : Nat} {n : List ab_M} {su : Bool} {sn : Int32} {sg : Bool} {se : Int32} {pg : Nat → Nat → Int32} {md : Nat → Nat → Nat} {en : Nat → Nat → Int32} {sd : Nat → Option ab_M} {ln : Nat → List ab_M} {C : Nat → ab_C} {h : ha_H} {c : Nat} {up : Bool} {nw nu : Int32} {op : Option ab_M} {si : Int32} {cp : Nat → ab_P} {wr : List ab_W} (H : MV K L n su sn sg se pg md en sd ln (fu C c (up, nw, nu, op, si, cp, wr)) h) (hc : c < 3) : MV K L n su sn sg se pg md en sd ln (fu C c (true, nw, nu, op, si, cp, wr)) (m_rsA h c) := by
  have H1 := mq_upc H hc true
  have e : m_rsA h c = hp_sI (hp_sI h 63 c (m_bi (!true))) 62 6 (hp_I (hp_sI h 63 c (m_bi (!true))) 62 6) := by
    unfold m_rsA
    rw [if_neg (by omega), hp_I_sI, if_neg (by omega)]; rfl
  rw [e]
  generalize hp_sI h 63 c (m_bi (!true)) = g at H1
  refine MV_eq H1 (mI_sF (mv_I H1).1 (by omega)).1 (fun x j _ _ => ?_)
  rw [hp_I_sI]
  by_cases z : x = 62 ∧ j = 6
  · rw [if_pos z, z.1, z.2]
  · rw [if_neg z]
