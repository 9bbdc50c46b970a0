theorem n_lts {k : Nat} (h : k ≤ 8) (j : Nat) (hj : j ≤ 8) : (nI k < nI j) = (k < j) := propext (nI_ltI (by omega) (by omega))
theorem n_ltr {k : Nat} (h : k ≤ 8) (j : Nat) (hj : j ≤ 8) : (nI j < nI k) = (j < k) := propext (nI_ltI (by omega) (by omega))
theorem n_eqs {k : Nat} (h : k ≤ 8) (j : Nat) (hj : j ≤ 8) : (nI k = nI j) = (k = j) := propext (nI_eq (by omega) (by omega))
theorem y_bi (b : Bool) : (!decide (m_bi b = 0)) = b := by cases b <;> decide
theorem up_bi (b : Bool) : decide (m_bi (!b) = 0) = b := by cases b <;> decide
/-- what the reference reads of the message that it delivers -/
theorem dl_rd {n : List ab_M} {h : ha_H} {j : Nat} {m : ab_M} (H : mv_n n h) (e : n[j]? = some m) (hc : am_c m < 3) (hf : am_f m < 4) (hp : am_p m < 4) : ∃ p, p < 4 ∧ (am_k m = 2 → p = am_p m) ∧ m_dl h j = m_dlX h n.length (nI (am_k m)) (am_c m) (am_f m) (am_n m) (hp_I h 98 j) (!decide (hp_I h 99 j = 0)) (4 * am_f m + p) (hp_I h 101 j) j := by
  obtain ⟨⟨k1, k2, k3, k4⟩, k5, k6, ⟨p, k7, k8⟩, k9⟩ := H.2.2 j m e
  refine ⟨p, k7, fun z => ?_, ?_⟩
  · have q := (k6 z).1
    rw [k8] at q
    exact (nI_eq (by omega) (by omega)).mp q
  · unfold m_dl
    rw [vn_u H, k1, k2, k3, k4, k8, nI_clamp (by omega), nI_clamp (by omega), nI_clamp (by omega)]
theorem sm_I {h g : ha_H} (q : sm mz_C h g) : (∀ c, c < 3 → fc c h g) ∧ ∀ j, hp_I g 85 j = hp_I h 85 j := by
  have A : ∀ x, 63 ≤ x → x ≤ 93 → (x ≤ 64 ∨ 78 ≤ x) → ∀ j, hp_I g x j = hp_I h x j := fun x h1 h2 h3 j => q x (by
    rcases (by omega : x = 63 ∨ x = 64 ∨ x = 78 ∨ x = 79 ∨ x = 80 ∨ x = 81 ∨ x = 82 ∨ x = 83 ∨ x = 84 ∨ x = 85 ∨ x = 86 ∨ x = 87 ∨ x = 88 ∨ x = 89 ∨ x = 90 ∨ x = 91 ∨ x = 92 ∨ x = 93) with rfl | rfl | rfl | rfl | rfl | rfl | rfl | rfl | rfl | rfl | rfl | rfl | rfl | rfl | rfl | rfl | rfl | rfl <;> decide) j
  exact ⟨fun c _ x j z => A x (by unfold fcx at z; omega) (by unfold fcx at z; omega) (by unfold fcx at z; omega) j, A 85 (by omega) (by omega) (by omega)⟩
theorem sv_drop {Q : Nat → Nat → Nat × Nat} {X : Nat → Nat} {a L : Nat} {su : Bool} {sn : Int32} {sg : Bool} {se : Int32} {pg : Nat → Nat → Int32} {n : List ab_M} {t : (Nat → Nat → Nat) × (Nat → Nat → Int32) × (Nat → Option ab_M) × (Nat → List ab_M)} {h : ha_H} {j : Nat} (H : SV Q X a L su sn sg se pg (n, t) h) (hj : j < n.length) : SV Q X a L su sn sg se pg (n.eraseIdx j, t) (m_drop h (m_u h) j) := by
  obtain ⟨H1, H2, H3, H4, H5, H6, H7, H8⟩ := H
  have FR : ∀ lo hi, 63 ≤ lo → hi ≤ 94 → fr lo hi h (m_drop h (m_u h) j) := fun lo hi c1 c2 x h1 h2 y => dr_fr x y (by omega) (by omega)
  have FK : ∀ k, ¬ k = 34 → fk k h (m_drop h (m_u h) j) := fun k hk => dr_fr 62 k (by omega) (by omega)
  exact ⟨vk_s H1 (FK 0 (by omega)) (FK 6 (by omega)) (FR _ _ (by omega) (by omega)), vk_pg H2 (FR _ _ (by omega) (by omega)), vn_drop H3 hj, vk_md H4 (FR _ _ (by omega) (by omega)), vk_en H5 (FR _ _ (by omega) (by omega)), vk_sd H6 (FR _ _ (by omega) (by omega)), vk_ln H7 (FK 17 (by omega)) (FR _ _ (by omega) (by omega)), fun m hm => H8.1 m (List.mem_of_mem_eraseIdx hm), H8.2.1, H8.2.2⟩
theorem mv_pm {K L : Nat} {n : List ab_M} {su : Bool} {sn : Int32} {sg : Bool} {se : Int32} {pg : Nat → Nat → Int32} {md : Nat → Nat → Nat} {en : Nat → Nat → Int32} {sd : Nat → Option ab_M} {ln : Nat → List ab_M} {C : Nat → ab_C} {h : ha_H} {j : Nat} {m : ab_M} (H : MV K L n su sn sg se pg md en sd ln C h) (e : n[j]? = some m) : (am_c m < 3 ∧ am_f m < 4 ∧ am_m m ≤ 2 ∧ am_p m < 4) ∧ am_k m ≤ 8 := by
  obtain ⟨Q, X, a, k, _, S, _⟩ := H
  have hp := S.2.2.2.2.2.2.2.1 m (List.mem_of_getElem? e)
  refine ⟨hp.1, ?_⟩
  rcases hp.2 with ⟨q, _⟩ | ⟨q, _⟩ | q <;> omega
/-- a request is delivered -/
theorem mq_dlq {K L : Nat} {n : List ab_M} {su : Bool} {sn : Int32} {sg : Bool} {se : Int32} {pg : Nat → Nat → Int32} {md : Nat → Nat → Nat} {en : Nat → Nat → Int32} {sd : Nat → Option ab_M} {ln : Nat → List ab_M} {C : Nat → ab_C} {h : ha_H} {j : Nat} {m : ab_M} (H : MV K L n su sn sg se pg md en sd ln C h) (hK : K < 2 ^ 20) (e : n[j]? = some m) (k3 : am_k m ≤ 3) : MV (K + 1) L (f_rQ su L sn sg pg m (n.eraseIdx j, md, en, sd, ln)).2.1 su sn sg se (f_rQ su L sn sg pg m (n.eraseIdx j, md, en, sd, ln)).1 (f_rQ su L sn sg pg m (n.eraseIdx j, md, en, sd, ln)).2.2.1 (f_rQ su L sn sg pg m (n.eraseIdx j, md, en, sd, ln)).2.2.2.1 (f_rQ su L sn sg pg m (n.eraseIdx j, md, en, sd, ln)).2.2.2.2.1 (f_rQ su L sn sg pg m (n.eraseIdx j, md, en, sd, ln)).2.2.2.2.2 C (m_dl h j) := by
  have hn := mv_nn H
  have hj : j < n.length := (List.getElem?_eq_some_iff.mp e).1
  obtain ⟨bp, k8⟩ := mv_pm H e
  obtain ⟨p, p4, pe, ed⟩ := dl_rd hn e bp.1 bp.2.1 bp.2.2.2
  have mm := hn.2.2 j m e
  rw [ed]
  unfold m_dlX m_dl1 m_dl4 m_dl5
  simp only [n_eqs k8 4 (by omega), n_eqs k8 8 (by omega), n_lts k8 5 (by omega)]
  rw [show decide (am_k m = 4) = false from decide_eq_false (by omega), show decide (am_k m = 8) = false from decide_eq_false (by omega), show decide (am_k m < 5) = true from decide_eq_true (by omega)]
  simp only [Bool.false_and, Bool.not_true, Bool.false_eq_true, if_false]
  obtain ⟨Q, X, a, ⟨b1, b2, t, b3, b4⟩, ⟨hi, hd⟩, S, M, P⟩ := H
  have hp : pm Q X m := S.2.2.2.2.2.2.2.1 m (List.mem_of_getElem? e)
  have S1 := sv_drop S hj
  have hiD := (mI_drop hi (j := j) (by rw [vn_u hn]; exact hj)).1
  have MD : mv_C C (m_drop h (m_u h) j) := k_C M (fun c _ => fc_fr (fun x h1 h2 y => dr_fr x y (by omega) (by omega)))
  have DD : mo_dp (m_drop h (m_u h) j) := dp_k hd (fun y => dr_fr 85 y (by omega) (by omega))
  rw [vn_u hn] at S1 hiD MD DD
  generalize m_drop h n.length j = g at S1 hiD MD DD ⊢
  unfold m_dl3 f_rQ
  have e63 : hp_I g 63 3 = m_bi (!su) := S1.1.2.1
  rw [e63, up_bi]
  simp only [n_ltr k8 3 (by omega)]
  rw [show decide (3 < am_k m) = false from decide_eq_false (by omega)]
  cases su
  · simp only [Bool.and_false, Bool.false_eq_true, if_false, cond_false]
    exact ⟨Q, X, a, kb_S ⟨b1, b2, t, b3, b4⟩, ⟨hiD, DD⟩, S1, MD, P⟩
  · simp only [Bool.not_false, Bool.and_true, if_true, cond_true]
    obtain ⟨b, hb, S2⟩ := sv_rq (t := 4 * am_f m + p) (v := hp_I h 101 j) (mo := hp_I h 98 j) (cl := !decide (hp_I h 99 j = 0)) S1 (by omega) (fun c hc => by have := b2 c hc; omega) k3 hp (fun z => by
      obtain ⟨z1, z2⟩ := mm.2.1 (Or.inl z)
      exact ⟨z1, by rw [z2, y_bi]⟩) (fun z => ⟨by rw [pe z], (mm.2.2.1 z).2⟩)
    have S3 := sv_gt S2
    have F1 := sm_I (sm_rq (h := g) (k := nI (am_k m)) (c := am_c m) (f := am_f m) (x := am_n m) (m := hp_I h 98 j) (cl := !decide (hp_I h 99 j = 0)) (t := 4 * am_f m + p) (v := hp_I h 101 j))
    have I1 := mI_rq (k := nI (am_k m)) (c := am_c m) (f := am_f m) (x := am_n m) (m := hp_I h 98 j) (cl := !decide (hp_I h 99 j = 0)) (t := 4 * am_f m + p) (v := hp_I h 101 j) hiD
    generalize m_rq g (nI (am_k m)) (am_c m) (am_f m) (am_n m) (hp_I h 98 j) (!decide (hp_I h 99 j = 0)) (4 * am_f m + p) (hp_I h 101 j) = g1 at S3 F1 I1 ⊢
    have F2 := sm_I (sm_serve (h := g1))
    exact ⟨Q, X, b, ⟨by omega, fun c hc => by have := b2 c hc; omega, t, b3, by omega⟩, ⟨mI_svN 4 I1, dp_k DD (fun y => (F2.2 y).trans (F1.2 y))⟩, S3, k_C MD (fun c hc => fc_tr (F1.1 c hc) (F2.1 c hc)), P⟩
def f_dG (up : Bool) (op : Option ab_M) (x : Int32) : Bool := match op with
  | none => false
  | some o => (up && decide (am_n o = x))
theorem dG_eq {h : ha_H} {c : Nat} {up : Bool} {nw nu : Int32} {op : Option ab_M} {si : Int32} {cp : Nat → ab_P} {wr : List ab_W} (A : mv_c h c (up, nw, nu, op, si, cp, wr)) (x : Int32) : m_dlG h c x = f_dG up op x := by
  obtain ⟨⟨a1, a2, a3⟩, ⟨a4, a4', _⟩, _⟩ := A
  unfold m_dlG
  have a1' : hp_I h 63 c = m_bi (!up) := a1
  have a3' : hp_I h 78 c = nu := a3
  rw [a1', up_bi, a3']
  cases op with
  | none =>
    have q : hp_I h 87 c = nI 0 := a4 rfl
    rw [q]
    show (up && (!decide (nI 0 ≤ 0) && decide (nu = x))) = false
    rw [show decide (nI 0 ≤ 0) = true by decide]; cases up <;> rfl
  | some o =>
    obtain ⟨⟨k1, k2, k3⟩, b2, _⟩ := a4' o rfl
    have k3' : am_n o = nu := k3
    rw [b2, ← k3']
    have : ¬ nI (am_k o) ≤ 0 := nI_nle (by omega) (by omega)
    simp [this, f_dG]
/-- an answer reaches a client -/
def f_rA (up : Bool) (L : Nat) (si : Int32) (wr : List ab_W) (mo : Nat) (ti : Int32) (re lo : Bool) (ps : Nat → Int32) (op : Option ab_M) (m : ab_M) : Option ab_M × ab_P × List ab_W := match op with
  | none => (none, (mo, ti, re, lo, ps), wr)
  | some o => bif up then f_ry L si wr mo ti re lo ps o m else (some o, (mo, ti, re, lo, ps), wr)
/-- an answer is delivered -/
theorem mq_dlp {K L : Nat} {n : List ab_M} {su : Bool} {sn : Int32} {sg : Bool} {se : Int32} {pg : Nat → Nat → Int32} {md : Nat → Nat → Nat} {en : Nat → Nat → Int32} {sd : Nat → Option ab_M} {ln : Nat → List ab_M} {C : Nat → ab_C} {h : ha_H} {c : Nat} {up : Bool} {nw nu : Int32} {op : Option ab_M} {si : Int32} {cp : Nat → ab_P} {wr : List ab_W} {mo : Nat} {ti : Int32} {re lo : Bool} {ps : Nat → Int32} {j : Nat} {m : ab_M} (H : MV K L n su sn sg se pg md en sd ln (fu C c (up, nw, nu, op, si, fu cp (am_f m) (mo, ti, re, lo, ps), wr)) h) (hK : K < 2 ^ 20) (h8 : 8 ≤ L) (hL : L ≤ 200) (ec : am_c m = c) (e : n[j]? = some m) (k4 : 4 ≤ am_k m) (k7 : am_k m ≤ 7) : MV K L (n.eraseIdx j) su sn sg se pg md en sd ln (fu C c (up, nw, nu, (f_rA up L si wr mo ti re lo ps op m).1, si, fu cp (am_f m) (f_rA up L si wr mo ti re lo ps op m).2.1, (f_rA up L si wr mo ti re lo ps op m).2.2)) (m_dl h j) := by
  have hn := mv_nn H
  have hj : j < n.length := (List.getElem?_eq_some_iff.mp e).1
  obtain ⟨bp, k8⟩ := mv_pm H e
  obtain ⟨p, p4, pe, ed⟩ := dl_rd hn e bp.1 bp.2.1 bp.2.2.2
  have mm := hn.2.2 j m e
  have hc : c < 3 := by rw [← ec]; exact bp.1
  have hf := bp.2.1
  have h7 : ∀ o, op = some o → am_n o = am_n m → am_k m = 7 → am_k o = 2 := by
    intro o eo en0 e7
    subst eo
    have A := mv_at H hc
    obtain ⟨Q, X, a, ⟨b1, b2, b3⟩, _, S, M, P⟩ := H
    have pmm := S.2.2.2.2.2.2.2.1 m (List.mem_of_getElem? e)
    have po := P.2 c o hc (by rw [fu_at])
    have oc : am_c o = c := (A.2.1.2.1 o rfl).1.2.1
    have ok := (A.2.1.2.1 o rfl).1.1
    rcases pmm.2 with ⟨q, _⟩ | ⟨q, x, x1, x2, x3, x4⟩ | q
    · omega
    · rcases po.2 with ⟨r, y, y1, y2, y3, y4⟩ | ⟨r, _⟩ | r
      · have z3 := b2 _ bp.1
        have z4 := b2 _ po.1.1
        have : x = y := (nI_eq (by omega) (by omega)).mp (by rw [← x1, ← y1]; exact en0.symm)
        subst this
        have w := x4 e7
        rw [oc, ← ec] at y4
        rw [y4] at w
        exact w
      · omega
      · omega
    · omega
  rw [ed]
  unfold m_dlX m_dl1 m_dl3 m_dl4 m_dl5
  simp only [n_eqs k8 4 (by omega), n_eqs k8 8 (by omega), n_lts k8 5 (by omega), n_ltr k8 3 (by omega), n_ltr k8 7 (by omega)]
  rw [show decide (am_k m = 8) = false from decide_eq_false (by omega), show decide (3 < am_k m) = true from decide_eq_true (by omega), show decide (7 < am_k m) = false from decide_eq_false (by omega)]
  simp only [Bool.false_and, Bool.not_true, Bool.not_false, Bool.true_and, Bool.false_eq_true, if_false]
  rw [ec, dG_eq (mv_at H hc)]
  have D := fun {C' : Nat → ab_C} {g : ha_H} (Hg : MV K L n su sn sg se pg md en sd ln C' g) => mq_drop Hg hj
  have eun : m_u h = n.length := vn_u hn
  by_cases c4 : am_k m = 4
  · -- a grant
    rw [show decide (am_k m = 4) = true from decide_eq_true c4, show decide (am_k m < 5) = true from decide_eq_true (by omega)]
    simp only [Bool.true_and, Bool.not_true, Bool.false_and, Bool.false_eq_true, if_false]
    cases op with
    | none =>
      show MV K L (n.eraseIdx j) su sn sg se pg md en sd ln (fu C c (up, nw, nu, none, si, fu cp (am_f m) (mo, ti, re, lo, ps), wr)) (m_drop (if false = true then _ else h) n.length j)
      rw [if_neg (by decide), ← eun]; exact D H
    | some o =>
      show MV K L (n.eraseIdx j) su sn sg se pg md en sd ln (fu C c (up, nw, nu, (bif up then f_ry L si wr mo ti re lo ps o m else (some o, (mo, ti, re, lo, ps), wr)).1, si, fu cp (am_f m) (bif up then f_ry L si wr mo ti re lo ps o m else (some o, (mo, ti, re, lo, ps), wr)).2.1, (bif up then f_ry L si wr mo ti re lo ps o m else (some o, (mo, ti, re, lo, ps), wr)).2.2)) (m_drop (if (up && decide (am_n o = am_n m)) = true then _ else h) n.length j)
      cases up
      · rw [Bool.false_and, if_neg (by decide), ← eun]; exact D H
      · by_cases en0 : am_n o = am_n m
        · rw [Bool.true_and, if_pos (decide_eq_true en0)]
          have z := mm.2.1 (Or.inr c4)
          rw [z.1, z.2, y_bi]
          have Hg := mq_gd (m := m) (fr0 := 4 * j) H hc hf bp.2.2.1 h8 (by omega) (mm.2.2.2.2 c4)
          have eg : (f_ry L si wr mo ti re lo ps o m) = (none, f_tl L si wr lo m) := by unfold f_ry; rw [if_pos en0, if_pos c4]
          rw [cond_true, eg]
          have := D Hg
          rw [vn_u (mv_nn Hg)] at this
          exact this
        · rw [Bool.true_and, if_neg (by simp [en0]), ← eun]
          have eg : (f_ry L si wr mo ti re lo ps o m) = (some o, (mo, ti, re, lo, ps), wr) := by unfold f_ry; rw [if_neg en0]
          rw [cond_true, eg]
          exact D H
  · rw [show decide (am_k m = 4) = false from decide_eq_false c4, show decide (am_k m < 5) = false from decide_eq_false (by omega)]
    simp only [Bool.false_and, Bool.not_false, Bool.true_and, Bool.false_eq_true, if_false]
    have H1 := D H
    rw [eun] at H1
    rw [dG_eq (mv_at H1 hc)]
    cases op with
    | none =>
      show MV K L (n.eraseIdx j) su sn sg se pg md en sd ln (fu C c (up, nw, nu, none, si, fu cp (am_f m) (mo, ti, re, lo, ps), wr)) (if false = true then _ else _)
      rw [if_neg (by decide)]; exact H1
    | some o =>
      show MV K L (n.eraseIdx j) su sn sg se pg md en sd ln (fu C c (up, nw, nu, (bif up then f_ry L si wr mo ti re lo ps o m else (some o, (mo, ti, re, lo, ps), wr)).1, si, fu cp (am_f m) (bif up then f_ry L si wr mo ti re lo ps o m else (some o, (mo, ti, re, lo, ps), wr)).2.1, (bif up then f_ry L si wr mo ti re lo ps o m else (some o, (mo, ti, re, lo, ps), wr)).2.2)) (if (up && decide (am_n o = am_n m)) = true then _ else _)
      cases up
      · rw [Bool.false_and, if_neg (by decide)]; exact H1
      · by_cases en0 : am_n o = am_n m
        · rw [Bool.true_and, if_pos (decide_eq_true en0)]
          rw [cond_true]
          exact mq_rp H1 hc hf (by omega) k7 (h7 o rfl en0) en0
        · rw [Bool.true_and, if_neg (by simp [en0])]
          have eg : (f_ry L si wr mo ti re lo ps o m) = (some o, (mo, ti, re, lo, ps), wr) := by unfold f_ry; rw [if_neg en0]
          rw [cond_true, eg]
          exact H1
/-- a recall is delivered -/
theorem mq_dlr {K L : Nat} {n : List ab_M} {su : Bool} {sn : Int32} {sg : Bool} {se : Int32} {pg : Nat → Nat → Int32} {md : Nat → Nat → Nat} {en : Nat → Nat → Int32} {sd : Nat → Option ab_M} {ln : Nat → List ab_M} {C : Nat → ab_C} {h : ha_H} {c : Nat} {up : Bool} {nw nu : Int32} {op : Option ab_M} {si : Int32} {cp : Nat → ab_P} {wr : List ab_W} {mo : Nat} {ti : Int32} {re lo : Bool} {ps : Nat → Int32} {j : Nat} {m : ab_M} (H : MV K L n su sn sg se pg md en sd ln (fu C c (up, nw, nu, op, si, fu cp (am_f m) (mo, ti, re, lo, ps), wr)) h) (ec : am_c m = c) (e : n[j]? = some m) (k8 : am_k m = 8) : MV K L (n.eraseIdx j) su sn sg se pg md en sd ln (fu C c (up, nw, nu, op, si, fu cp (am_f m) (mo, ti, bif up then true else re, lo, ps), wr)) (m_dl h j) := by
  have hn := mv_nn H
  have hj : j < n.length := (List.getElem?_eq_some_iff.mp e).1
  obtain ⟨bp, _⟩ := mv_pm H e
  obtain ⟨p, p4, pe, ed⟩ := dl_rd hn e bp.1 bp.2.1 bp.2.2.2
  have hc : c < 3 := by rw [← ec]; exact bp.1
  have hf := bp.2.1
  rw [ed]
  unfold m_dlX m_dl1 m_dl3 m_dl4 m_dl5
  rw [k8, ec]
  simp only [show decide (nI 8 = nI 4) = false by decide, show decide (nI 3 < nI 8) = true by decide, show decide (nI 8 < nI 5) = false by decide, show decide (nI 7 < nI 8) = true by decide, Bool.false_and, Bool.not_true, Bool.not_false, Bool.true_and, Bool.false_eq_true, if_false]
  have H1 := mq_drop H hj
  rw [vn_u hn] at H1
  have e63 := (mv_Pf H1 hc hf).2.2
  rw [e63, up_bi]
  cases up
  · rw [Bool.and_false, if_neg (by decide)]; exact H1
  · rw [Bool.and_true, if_pos (decide_eq_true trivial)]; exact mq_rec H1 hc hf true
