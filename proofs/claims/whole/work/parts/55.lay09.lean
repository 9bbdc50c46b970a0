/-- what the server's side reads -/
def fsx (x j : Nat) : Prop := x = 62 ∨ ((x = 63 ∨ x = 64) ∧ j = 3) ∨ (65 ≤ x ∧ x < 78) ∨ (94 ≤ x ∧ x < 103)
def fs (h g : ha_H) : Prop := ∀ x j, fsx x j → hp_I g x j = hp_I h x j
theorem fs_rf (h : ha_H) : fs h h := fun _ _ _ => rfl
theorem fs_sI {g h : ha_H} {A k : Nat} {v : Int32} (q : fs g h) (n : ¬ fsx A k) : fs g (hp_sI h A k v) := fun x j z => by
  rw [hp_I_sI, if_neg (fun w => n (by rw [← w.1, ← w.2]; exact z))]; exact q x j z
theorem fs_tr {a b d : ha_H} (x : fs a b) (y : fs b d) : fs a d := fun q j z => (y q j z).trans (x q j z)
theorem k_SV {Q : Nat → Nat → Nat × Nat} {X : Nat → Nat} {a L : Nat} {su : Bool} {sn : Int32} {sg : Bool} {se : Int32} {pg : Nat → Nat → Int32} {s : ab_5} {h g : ha_H} (H : SV Q X a L su sn sg se pg s h) (q : fs h g) : SV Q X a L su sn sg se pg s g := by
  obtain ⟨⟨s1, s2, s3, s4, s5⟩, H2, H3, H4, H5, H6, H7, H8⟩ := H
  have FR : ∀ lo hi, (65 ≤ lo ∧ hi ≤ 78) ∨ (94 ≤ lo ∧ hi ≤ 103) → fr lo hi h g := fun lo hi c x h1 h2 j => q x j (by unfold fsx; omega)
  have FK : ∀ j, fk j h g := fun j => q 62 j (by unfold fsx; omega)
  exact ⟨⟨(FK 0).trans s1, (q 63 3 (by unfold fsx; omega)).trans s2, (q 64 3 (by unfold fsx; omega)).trans s3, (FK 6).trans s4, s5⟩, vk_pg H2 (FR _ _ (by omega)), vk_n H3 (FK _) (FR _ _ (by omega)), vk_md H4 (FR _ _ (by omega)), vk_en H5 (FR _ _ (by omega)), vk_sd H6 (FR _ _ (by omega)), vk_ln H7 (FK _) (FR _ _ (by omega)), H8⟩
def pc (Q : Nat → Nat → Nat × Nat) (X : Nat → Nat) (C : Nat → ab_C) : Prop := (∀ c, c < 3 → (C c).2.2.1 = nI (X c)) ∧ ∀ c m, c < 3 → (C c).2.2.2.1 = some m → pm Q X m
/-- the bounds: K calls have been made -/
def kb (K : Nat) (X : Nat → Nat) (a : Nat) (sn : Int32) : Prop := a ≤ K ∧ (∀ c, c < 3 → X c ≤ K) ∧ ∃ t, sn = nI t ∧ t ≤ 100 * K
/-- the reference's cells show the abstract state -/
def MV (K L : Nat) (n : List ab_M) (su : Bool) (sn : Int32) (sg : Bool) (se : Int32) (pg : Nat → Nat → Int32) (md : Nat → Nat → Nat) (en : Nat → Nat → Int32) (sd : Nat → Option ab_M) (ln : Nat → List ab_M) (C : Nat → ab_C) (h : ha_H) : Prop := ∃ (Q : Nat → Nat → Nat × Nat) (X : Nat → Nat) (a : Nat), kb K X a sn ∧ (mo_I h ∧ mo_dp h) ∧ SV Q X a L su sn sg se pg (n, md, en, sd, ln) h ∧ mv_C C h ∧ pc Q X C
theorem kb_S {K : Nat} {X : Nat → Nat} {a : Nat} {sn : Int32} (H : kb K X a sn) : kb (K + 1) X a sn := ⟨by have := H.1; omega, fun c hc => by have := H.2.1 c hc; omega, by obtain ⟨t, h1, h2⟩ := H.2.2; exact ⟨t, h1, by omega⟩⟩
theorem MV_S {K L : Nat} {n : List ab_M} {su : Bool} {sn : Int32} {sg : Bool} {se : Int32} {pg : Nat → Nat → Int32} {md : Nat → Nat → Nat} {en : Nat → Nat → Int32} {sd : Nat → Option ab_M} {ln : Nat → List ab_M} {C : Nat → ab_C} {h : ha_H} (H : MV K L n su sn sg se pg md en sd ln C h) : MV (K + 1) L n su sn sg se pg md en sd ln C h := by
  obtain ⟨Q, X, a, k, r⟩ := H
  exact ⟨Q, X, a, kb_S k, r⟩
theorem dp_k {h g : ha_H} (H : mo_dp h) (q : ∀ j, hp_I g 85 j = hp_I h 85 j) : mo_dp g := fun j hj => by rw [q]; exact H j hj
/-- all cells of the reference are as they were -/
theorem MV_eq {K L : Nat} {n : List ab_M} {su : Bool} {sn : Int32} {sg : Bool} {se : Int32} {pg : Nat → Nat → Int32} {md : Nat → Nat → Nat} {en : Nat → Nat → Int32} {sd : Nat → Option ab_M} {ln : Nat → List ab_M} {C : Nat → ab_C} {h g : ha_H} (H : MV K L n su sn sg se pg md en sd ln C h) (hi : mo_I g) (q : ∀ x j, 62 ≤ x → x < 103 → hp_I g x j = hp_I h x j) : MV K L n su sn sg se pg md en sd ln C g := by
  obtain ⟨Q, X, a, k, ⟨_, d⟩, S, M, P⟩ := H
  exact ⟨Q, X, a, k, ⟨hi, dp_k d (fun j => q 85 j (by omega) (by omega))⟩, k_SV S (fun x j z => q x j (by unfold fsx at z; omega) (by unfold fsx at z; omega)), k_C M (fun c _ x j z => q x j (by unfold fcx at z; omega) (by unfold fcx at z; omega)), P⟩
/-- a new number of client c stands for a kind and a file -/
def gQ (Q : Nat → Nat → Nat × Nat) (X : Nat → Nat) (c k f : Nat) : Nat → Nat → Nat × Nat := fun d x => if d = c ∧ x = X c + 1 then (k, f) else Q d x
theorem pm_g {Q : Nat → Nat → Nat × Nat} {X : Nat → Nat} {c k f : Nat} {m : ab_M} (H : pm Q X m) : pm (gQ Q X c k f) (fu X c (X c + 1)) m := by
  have A : ∀ x, x ≤ X (am_c m) → x ≤ fu X c (X c + 1) (am_c m) ∧ gQ Q X c k f (am_c m) x = Q (am_c m) x := fun x hx => by
    refine ⟨?_, ?_⟩
    · by_cases e : am_c m = c
      · rw [e, fu_at]; rw [e] at hx; omega
      · rw [fu_ne _ _ e]; exact hx
    · exact if_neg (fun z => by rw [z.1] at hx; omega)
  obtain ⟨h1, h2⟩ := H
  refine ⟨h1, ?_⟩
  rcases h2 with ⟨q, x, x1, x2, x3, x4⟩ | ⟨q, x, x1, x2, x3, x4⟩ | q
  · exact Or.inl ⟨q, x, x1, x2, (A x x3).1, by rw [(A x x3).2]; exact x4⟩
  · exact Or.inr (Or.inl ⟨q, x, x1, x2, (A x x3).1, by rw [(A x x3).2]; exact x4⟩)
  · exact Or.inr (Or.inr q)
theorem SV_g {Q : Nat → Nat → Nat × Nat} {X : Nat → Nat} {a L : Nat} {su : Bool} {sn : Int32} {sg : Bool} {se : Int32} {pg : Nat → Nat → Int32} {s : ab_5} {h : ha_H} {c k f : Nat} (H : SV Q X a L su sn sg se pg s h) : SV (gQ Q X c k f) (fu X c (X c + 1)) a L su sn sg se pg s h := by
  obtain ⟨H1, H2, H3, H4, H5, H6, H7, H8⟩ := H
  exact ⟨H1, H2, H3, H4, H5, H6, H7, fun m hm => pm_g (H8.1 m hm), fun d r hd e => pm_g (H8.2.1 d r hd e), fun f m hf hm => pm_g (H8.2.2 f m hf hm)⟩
/-- a message is sent that is no answer -/
theorem sv_ask {Q : Nat → Nat → Nat × Nat} {X : Nat → Nat} {a L : Nat} {su : Bool} {sn : Int32} {sg : Bool} {se : Int32} {pg : Nat → Nat → Int32} {n : List ab_M} {t : (Nat → Nat → Nat) × (Nat → Nat → Int32) × (Nat → Option ab_M) × (Nat → List ab_M)} {h : ha_H} {c : Nat} {m : ab_M} {nu si : Int32} (H : SV Q X a L su sn sg se pg (n, t) h) (hp : pm Q X m) (ho : mv_o h c nu si m) (h78 : hp_I h 78 c = nu) (h91 : ∃ p, p < 4 ∧ hp_I h 91 c = nI p) : SV Q X a L su sn sg se pg (f_send n m, t) (m_ask h (m_u h) c) := by
  obtain ⟨H1, H2, H3, H4, H5, H6, H7, H8⟩ := H
  have F : fr 63 94 h (m_ask h (m_u h) c) := fr_ask
  obtain ⟨⟨b1, b2, b3⟩, b4, b5, b6, b7, b8⟩ := ho
  refine ⟨vk_s H1 (fk_ask (by omega)) (fk_ask (by omega)) (fr_mo F (by omega) (by omega)), vk_pg H2 (fr_mo F (by omega) (by omega)), vn_ask H3 b2 b4 b5 (h78.trans b3.symm) b7 b8 h91 (by omega), vk_md H4 (fr_mo F (by omega) (by omega)), vk_en H5 (fr_mo F (by omega) (by omega)), vk_sd H6 (fr_mo F (by omega) (by omega)), vk_ln H7 (fk_ask (by omega)) (fr_mo F (by omega) (by omega)), ?_, H8.2.1, H8.2.2⟩
  intro x hx
  rcases sd_mem hx with q | rfl
  · exact H8.1 x q
  · exact hp
theorem fs_fr {h g : ha_H} (q : fr 63 94 h g) : ∀ x j, 63 ≤ x → x < 94 → hp_I g x j = hp_I h x j := fun x j h1 h2 => q x h1 h2 j
theorem nI_ne4 {k : Nat} (h : k < 2 ^ 31) {j : Nat} (hj : j < 2 ^ 31) (e : ¬ k = j) : ¬ nI k = nI j := fun z => e ((nI_eq h hj).mp z)
/-- a client opens a request -/
theorem mv_open {K L : Nat} {n : List ab_M} {su : Bool} {sn : Int32} {sg : Bool} {se : Int32} {pg : Nat → Nat → Int32} {md : Nat → Nat → Nat} {en : Nat → Nat → Int32} {sd : Nat → Option ab_M} {ln : Nat → List ab_M} {C : Nat → ab_C} {h : ha_H} {c : Nat} {up : Bool} {nw nu : Int32} {op : Option ab_M} {si : Int32} {cp : Nat → ab_P} {wr : List ab_W} {m : ab_M} (H : MV K L n su sn sg se pg md en sd ln (fu C c (up, nw, nu, op, si, cp, wr)) h) (hc : c < 3) (e1 : am_c m = c) (e2 : am_n m = nu + nI 1) (e3 : 1 ≤ am_k m ∧ am_k m ≤ 3) (e4 : am_f m < 4) (e5 : am_m m ≤ 2) (e6 : am_p m < 4) (e7 : am_k m = 2 → hp_I h 91 c = nI (am_p m) ∧ hp_I h 92 c = am_v m) : (m_open h c (nI (am_k m)) (nI (am_f m)) (nI (am_m m)) (am_y m)).1 = nu + nI 1 ∧ MV (K + 1) L (f_send n m) su sn sg se pg md en sd ln (fu C c (up, nw, nu + nI 1, some m, nw, cp, wr)) (m_open h c (nI (am_k m)) (nI (am_f m)) (nI (am_m m)) (am_y m)).2 := by
  obtain ⟨Q, X, a, ⟨k1, k2, t, k3, k4⟩, ⟨hi, hd⟩, S, M, P⟩ := H
  have Mc := M c hc
  rw [fu_at] at Mc
  obtain ⟨⟨a1, a2, a3⟩, a4, a5, a6⟩ := Mc
  have Pc := P.1 c hc
  rw [fu_at] at Pc
  have Pc' : nu = nI (X c) := Pc
  have a2' : hp_I h 64 c = nw := a2
  have a3' : hp_I h 78 c = nu := a3
  refine ⟨by show hp_I h 78 c + nI 1 = _; rw [a3'], ?_⟩
  show MV (K + 1) L (f_send n m) su sn sg se pg md en sd ln (fu C c (up, nw, nu + nI 1, some m, nw, cp, wr)) (m_ask (m_opH h c (nI (am_k m)) (nI (am_f m)) (nI (am_m m)) (am_y m) (hp_I h 78 c) (hp_I h 64 c)) (m_u h) c)
  have hiO := (mI_opH hi (c := c) (k := nI (am_k m)) (f := nI (am_f m)) (m := nI (am_m m)) (cl := am_y m) (nn := hp_I h 78 c) (ck := hp_I h 64 c))
  rw [a2', a3'] at hiO ⊢
  rw [← hiO.2]
  generalize eg : m_opH h c (nI (am_k m)) (nI (am_f m)) (nI (am_m m)) (am_y m) nu nw = g at hiO ⊢
  have G : ∀ x j, ¬ ((x = 78 ∨ x = 87 ∨ x = 88 ∨ x = 89 ∨ x = 90 ∨ x = 93) ∧ j = c) → hp_I g x j = hp_I h x j := fun x j q => by
    rw [← eg]; unfold m_opH
    rw [hp_I_sI, if_neg (by omega), hp_I_sI, if_neg (by omega), hp_I_sI, if_neg (by omega), hp_I_sI, if_neg (by omega), hp_I_sI, if_neg (by omega), hp_I_sI, if_neg (by omega)]
  have g78 : hp_I g 78 c = nu + nI 1 := by rw [← eg]; simp [m_opH, hp_I_sI]
  have ho : mv_o g c (nu + nI 1) nw m := by
    refine ⟨⟨e3, e1, e2⟩, ?_, ?_, ?_, fun _ => ⟨?_, ?_⟩, fun z => ?_⟩
    · rw [← eg]; simp [m_opH, hp_I_sI]
    · rw [← eg]; simp [m_opH, hp_I_sI]
    · rw [← eg]; simp [m_opH, hp_I_sI]
    · rw [← eg]; simp [m_opH, hp_I_sI]
    · rw [← eg]; simp [m_opH, hp_I_sI]
    · rw [G 91 c (by omega), G 92 c (by omega)]; exact e7 z
  obtain ⟨p0, hp0, ep0⟩ := a4.2.2
  have h91 : ∃ p, p < 4 ∧ hp_I g 91 c = nI p := ⟨p0, hp0, by rw [G 91 c (by omega)]; exact ep0⟩
  have pmm : pm (gQ Q X c (am_k m) (am_f m)) (fu X c (X c + 1)) m := by
    refine ⟨⟨by omega, e4, e5, e6⟩, Or.inl ⟨e3, X c + 1, ?_, by omega, ?_, ?_⟩⟩
    · rw [e2, Pc']; exact nI_add _ 1
    · rw [e1, fu_at]; omega
    · unfold gQ; rw [if_pos ⟨e1, rfl⟩]
  have Sg : SV Q X a L su sn sg se pg (n, md, en, sd, ln) g := k_SV S (fun x j z => G x j (by unfold fsx at z; omega))
  have Fr : fr 63 94 g (m_ask g (m_u g) c) := fr_ask
  refine ⟨gQ Q X c (am_k m) (am_f m), fu X c (X c + 1), a, ⟨by omega, fun d hd => ?_, t, k3, by omega⟩, ⟨(mI_ask hiO.1).1, ?_⟩, sv_ask (SV_g Sg) pmm ho g78 h91, ?_, ?_, ?_⟩
  · by_cases e : d = c
    · subst e; rw [fu_at]; have := k2 d hd; omega
    · rw [fu_ne _ _ e]; have := k2 d hd; omega
  · refine dp_k hd (fun j => ?_)
    rw [Fr 85 (by omega) (by omega), G 85 j (by omega)]
  · intro d hd
    by_cases e : d = c
    · subst e
      rw [fu_at]
      refine k_c ?_ (fc_fr Fr)
      refine ⟨⟨?_, ?_, g78⟩, ⟨fun z => (by cases z), fun m' z => ?_, h91⟩, ?_, fun f hf => ?_⟩
      · rw [G 63 _ (by omega)]; exact a1
      · rw [G 64 _ (by omega)]; exact a2'
      · cases z; exact ho
      · obtain ⟨w1, w2, w3⟩ := a5
        refine ⟨by rw [G 84 _ (by omega)]; exact w1, w2, fun i w e => ?_⟩
        obtain ⟨b1, b2, b3, b4⟩ := w3 i w e
        exact ⟨by rw [G 85 _ (by omega)]; exact b1, by rw [G 86 _ (by omega)]; exact b2, b3, b4⟩
      · obtain ⟨⟨q1, q2⟩, q3, q4, q5⟩ := a6 f hf
        exact ⟨⟨by rw [G 79 _ (by omega)]; exact q1, q2⟩, by rw [G 81 _ (by omega)]; exact q3, by rw [G 82 _ (by omega)]; exact q4, fun z => ⟨by rw [G 80 _ (by omega)]; exact (q5 z).1, fun p hp => by rw [G 83 _ (by omega)]; exact (q5 z).2 p hp⟩⟩
    · rw [fu_ne _ _ e]
      have Md := M d hd
      rw [fu_ne _ _ e] at Md
      exact k_c Md (fun x j z => (fc_fr Fr x j z).trans (G x j (by unfold fcx at z; omega)))
  · intro d hd
    by_cases e : d = c
    · subst e; rw [fu_at, fu_at]; show nu + nI 1 = _; rw [Pc']; exact nI_add _ 1
    · rw [fu_ne _ _ e, fu_ne _ _ e]
      have := P.1 d hd
      rw [fu_ne _ _ e] at this; exact this
  · intro d m' hd z
    by_cases e : d = c
    · subst e; rw [fu_at] at z; cases z; exact pmm
    · rw [fu_ne _ _ e] at z
      refine pm_g (P.2 d m' hd ?_)
      rw [fu_ne _ _ e]; exact z
