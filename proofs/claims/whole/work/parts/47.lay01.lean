/-! Layer 3: what the reference's cells show of the abstract state. -/
/-- cells lo to hi of g are h's -/
def fr (lo hi : Nat) (h g : ha_H) : Prop := ∀ a, lo ≤ a → a < hi → ∀ j, hp_I g a j = hp_I h a j
theorem fr_rf {lo hi : Nat} (h : ha_H) : fr lo hi h h := fun _ _ _ _ => rfl
theorem fr_tr {lo hi : Nat} {a b c : ha_H} (x : fr lo hi a b) (y : fr lo hi b c) : fr lo hi a c := fun q h1 h2 j => (y q h1 h2 j).trans (x q h1 h2 j)
theorem fr_sI {lo hi : Nat} {g h : ha_H} {A k : Nat} {v : Int32} (q : fr lo hi g h) (n : A < lo ∨ hi ≤ A) : fr lo hi g (hp_sI h A k v) := fun a h1 h2 j => by rw [hp_I_sI, if_neg (by omega)]; exact q a h1 h2 j
theorem fr_mv {lo hi : Nat} {g h : ha_H} {A i B t : Nat} (q : fr lo hi g h) (n : B < lo ∨ hi ≤ B) : fr lo hi g (hp_mv h A i B t) := fr_sI q n
theorem fr_mo {lo hi lo' hi' : Nat} {g h : ha_H} (q : fr lo hi g h) (n : lo ≤ lo') (m : hi' ≤ hi) : fr lo' hi' g h := fun a h1 h2 j => q a (by omega) (by omega) j
/-- place k of the reference's own fields is kept -/
def fk (k : Nat) (h g : ha_H) : Prop := hp_I g 62 k = hp_I h 62 k
theorem fk_rf {k : Nat} (h : ha_H) : fk k h h := rfl
theorem fk_tr {k : Nat} {a b c : ha_H} (x : fk k a b) (y : fk k b c) : fk k a c := Eq.trans y x
theorem fk_sI {k : Nat} {g h : ha_H} {A j : Nat} {v : Int32} (q : fk k g h) (n : ¬ 62 = A ∨ ¬ k = j) : fk k g (hp_sI h A j v) := by
  show hp_I (hp_sI h A j v) 62 k = _
  rw [hp_I_sI, if_neg (by omega)]
  exact q
theorem fk_mv {k : Nat} {g h : ha_H} {A i B t : Nat} (q : fk k g h) (n : ¬ 62 = B ∨ ¬ k = t) : fk k g (hp_mv h A i B t) := fk_sI q n
/-- the message in place i of the reference -/
def mv_m (h : ha_H) (i : Nat) (m : ab_M) : Prop := (hp_I h 94 i = nI (am_k m) ∧ hp_I h 95 i = nI (am_c m) ∧ hp_I h 96 i = nI (am_f m) ∧ hp_I h 97 i = am_n m) ∧ (am_k m = 1 ∨ am_k m = 4 → hp_I h 98 i = nI (am_m m) ∧ hp_I h 99 i = m_bi (am_y m)) ∧ (am_k m = 2 → hp_I h 100 i = nI (am_p m) ∧ hp_I h 101 i = am_v m) ∧ (∃ p, p < 4 ∧ hp_I h 100 i = nI p) ∧ (am_k m = 4 → ∀ p, p < 4 → hp_I h 102 (4 * i + p) = am_4 m p)
def mv_n (n : List ab_M) (h : ha_H) : Prop := hp_I h 62 34 = nI n.length ∧ n.length ≤ 60 ∧ ∀ i m, n[i]? = some m → mv_m h i m
def mv_s (L : Nat) (su : Bool) (sn : Int32) (sg : Bool) (se : Int32) (h : ha_H) : Prop := hp_I h 62 0 = nI L ∧ hp_I h 63 3 = m_bi (!su) ∧ hp_I h 64 3 = sn ∧ hp_I h 62 6 = (bif sg then se else nI 0) ∧ (sg = true → 0 < se)
def mv_pg (pg : Nat → Nat → Int32) (h : ha_H) : Prop := ∀ f p, f < 4 → p < 4 → hp_I h 65 (4 * f + p) = pg f p
def mv_md (md : Nat → Nat → Nat) (h : ha_H) : Prop := ∀ c f, c < 3 → f < 4 → hp_I h 66 (4 * c + f) = nI (md c f) ∧ md c f ≤ 2
def mv_en (en : Nat → Nat → Int32) (h : ha_H) : Prop := ∀ c f, c < 3 → f < 4 → hp_I h 67 (4 * c + f) = en c f
def mv_r (h : ha_H) (c : Nat) (r : ab_M) : Prop := am_c r = c ∧ (4 ≤ am_k r ∧ am_k r ≤ 7) ∧ hp_I h 68 c = am_n r ∧ hp_I h 69 c = nI (am_k r) ∧ hp_I h 70 c = nI (am_f r) ∧ (am_k r = 4 → (hp_I h 71 c = nI (am_m r) ∧ hp_I h 72 c = m_bi (am_y r)) ∧ ∀ p, p < 4 → hp_I h 73 (4 * c + p) = am_4 r p)
def mv_sd (sd : Nat → Option ab_M) (h : ha_H) : Prop := ∀ c, c < 3 → (sd c = none → hp_I h 68 c = nI 0) ∧ ∀ r, sd c = some r → mv_r h c r
def mv_l (h : ha_H) (a f : Nat) (m : ab_M) : Prop := am_k m = 1 ∧ am_f m = f ∧ am_c m < 3 ∧ hp_I h 74 (am_c m) = nI f ∧ hp_I h 75 (am_c m) = am_n m ∧ hp_I h 76 (am_c m) = nI (am_m m) ∧ ∃ s, s < a ∧ hp_I h 77 (am_c m) = nI s
def mv_ln (a : Nat) (ln : Nat → List ab_M) (h : ha_H) : Prop := hp_I h 62 17 = nI a ∧ (∀ f, f < 4 → ∀ m, m ∈ ln f → mv_l h a f m) ∧ (∀ f, f < 4 → (ln f).Pairwise (fun m m' => am_c m ≠ am_c m' ∧ hp_I h 77 (am_c m) < hp_I h 77 (am_c m'))) ∧ ∀ c, c < 3 → hp_I h 74 c = -1 ∨ ∃ f m, f < 4 ∧ m ∈ ln f ∧ am_c m = c
/-- what a message that travels is: its parts, and what its number stands for -/
def pm (Q : Nat → Nat → Nat × Nat) (X : Nat → Nat) (m : ab_M) : Prop := (am_c m < 3 ∧ am_f m < 4 ∧ am_m m ≤ 2 ∧ am_p m < 4) ∧ (((1 ≤ am_k m ∧ am_k m ≤ 3) ∧ ∃ x, am_n m = nI x ∧ 1 ≤ x ∧ x ≤ X (am_c m) ∧ Q (am_c m) x = (am_k m, am_f m)) ∨ ((4 ≤ am_k m ∧ am_k m ≤ 7) ∧ ∃ x, am_n m = nI x ∧ 1 ≤ x ∧ x ≤ X (am_c m) ∧ (am_k m = 7 → (Q (am_c m) x).1 = 2)) ∨ am_k m = 8)
def pq (Q : Nat → Nat → Nat × Nat) (X : Nat → Nat) (n : List ab_M) (sd : Nat → Option ab_M) (ln : Nat → List ab_M) : Prop := (∀ m, m ∈ n → pm Q X m) ∧ (∀ c r, c < 3 → sd c = some r → pm Q X r) ∧ ∀ f m, f < 4 → m ∈ ln f → pm Q X m
theorem vk_n {n : List ab_M} {h g : ha_H} (H : mv_n n h) (e : fk 34 h g) (q : fr 94 103 h g) : mv_n n g := by
  obtain ⟨h1, h2, h3⟩ := H
  refine ⟨Eq.trans e h1, h2, fun i m hm => ?_⟩
  obtain ⟨⟨k1, k2, k3, k4⟩, k5, k6, ⟨p, k7, k8⟩, k9⟩ := h3 i m hm
  have Q : ∀ a, 94 ≤ a → a < 103 → ∀ j, hp_I g a j = hp_I h a j := q
  refine ⟨⟨?_, ?_, ?_, ?_⟩, fun z => ⟨?_, ?_⟩, fun z => ⟨?_, ?_⟩, ⟨p, k7, ?_⟩, fun z p hp => ?_⟩
  · rw [Q 94 (by omega) (by omega)]; exact k1
  · rw [Q 95 (by omega) (by omega)]; exact k2
  · rw [Q 96 (by omega) (by omega)]; exact k3
  · rw [Q 97 (by omega) (by omega)]; exact k4
  · rw [Q 98 (by omega) (by omega)]; exact (k5 z).1
  · rw [Q 99 (by omega) (by omega)]; exact (k5 z).2
  · rw [Q 100 (by omega) (by omega)]; exact (k6 z).1
  · rw [Q 101 (by omega) (by omega)]; exact (k6 z).2
  · rw [Q 100 (by omega) (by omega)]; exact k8
  · rw [Q 102 (by omega) (by omega)]; exact k9 z p hp
theorem vk_s {L : Nat} {su : Bool} {sn : Int32} {sg : Bool} {se : Int32} {h g : ha_H} (H : mv_s L su sn sg se h) (e0 : fk 0 h g) (e6 : fk 6 h g) (q : fr 63 65 h g) : mv_s L su sn sg se g := by
  obtain ⟨h1, h2, h3, h4, h5⟩ := H
  exact ⟨Eq.trans e0 h1, by rw [q 63 (by omega) (by omega)]; exact h2, by rw [q 64 (by omega) (by omega)]; exact h3, Eq.trans e6 h4, h5⟩
theorem vk_pg {pg : Nat → Nat → Int32} {h g : ha_H} (H : mv_pg pg h) (q : fr 65 66 h g) : mv_pg pg g := fun f p hf hp => by rw [q 65 (by omega) (by omega)]; exact H f p hf hp
theorem vk_md {md : Nat → Nat → Nat} {h g : ha_H} (H : mv_md md h) (q : fr 66 67 h g) : mv_md md g := fun f p hf hp => by rw [q 66 (by omega) (by omega)]; exact H f p hf hp
theorem vk_en {en : Nat → Nat → Int32} {h g : ha_H} (H : mv_en en h) (q : fr 67 68 h g) : mv_en en g := fun f p hf hp => by rw [q 67 (by omega) (by omega)]; exact H f p hf hp
theorem vk_sd {sd : Nat → Option ab_M} {h g : ha_H} (H : mv_sd sd h) (q : fr 68 74 h g) : mv_sd sd g := fun c hc => by
  refine ⟨fun e => by rw [q 68 (by omega) (by omega)]; exact (H c hc).1 e, fun r e => ?_⟩
  obtain ⟨k1, k2, k3, k4, k5, k6⟩ := (H c hc).2 r e
  exact ⟨k1, k2, by rw [q 68 (by omega) (by omega)]; exact k3, by rw [q 69 (by omega) (by omega)]; exact k4, by rw [q 70 (by omega) (by omega)]; exact k5, fun z => ⟨⟨by rw [q 71 (by omega) (by omega)]; exact (k6 z).1.1, by rw [q 72 (by omega) (by omega)]; exact (k6 z).1.2⟩, fun p hp => by rw [q 73 (by omega) (by omega)]; exact (k6 z).2 p hp⟩⟩
theorem vk_ln {a : Nat} {ln : Nat → List ab_M} {h g : ha_H} (H : mv_ln a ln h) (e : fk 17 h g) (q : fr 74 78 h g) : mv_ln a ln g := by
  obtain ⟨h1, h2, h3, h4⟩ := H
  refine ⟨Eq.trans e h1, fun f hf m hm => ?_, fun f hf => ?_, fun c hc => ?_⟩
  · obtain ⟨k1, k2, k3, k4, k5, k6, s, k7, k8⟩ := h2 f hf m hm
    exact ⟨k1, k2, k3, by rw [q 74 (by omega) (by omega)]; exact k4, by rw [q 75 (by omega) (by omega)]; exact k5, by rw [q 76 (by omega) (by omega)]; exact k6, s, k7, by rw [q 77 (by omega) (by omega)]; exact k8⟩
  · exact (h3 f hf).imp (fun {x y} z => ⟨z.1, by rw [q 77 (by omega) (by omega), q 77 (by omega) (by omega)]; exact z.2⟩)
  · rw [q 74 (by omega) (by omega)]; exact h4 c hc
theorem vx_ln {a : Nat} {ln ln' : Nat → List ab_M} {h : ha_H} (H : mv_ln a ln h) (e : ∀ f, f < 4 → ln f = ln' f) : mv_ln a ln' h := by
  obtain ⟨h1, h2, h3, h4⟩ := H
  refine ⟨h1, fun f hf m hm => h2 f hf m (by rw [e f hf]; exact hm), fun f hf => by rw [← e f hf]; exact h3 f hf, fun c hc => ?_⟩
  rcases h4 c hc with q | ⟨f, m, q1, q2, q3⟩
  · exact Or.inl q
  · exact Or.inr ⟨f, m, q1, by rw [← e f q1]; exact q2, q3⟩
/-- a message is put at the end -/
theorem vn_add {n : List ab_M} {h g : ha_H} {m : ab_M} (H : mv_n n h) (hl : n.length < 60) (e : hp_I g 62 34 = nI (n.length + 1)) (q : ∀ a, 94 ≤ a → a < 102 → ∀ j, ¬ j = n.length → hp_I g a j = hp_I h a j) (q4 : ∀ j, j < 4 * n.length → hp_I g 102 j = hp_I h 102 j) (hm : mv_m g n.length m) : mv_n (n ++ [m]) g := by
  obtain ⟨h1, h2, h3⟩ := H
  refine ⟨by rw [e, List.length_append]; rfl, by rw [List.length_append]; show n.length + 1 ≤ 60; omega, fun i m' hm' => ?_⟩
  by_cases c : i < n.length
  · rw [List.getElem?_append_left c] at hm'
    obtain ⟨⟨k1, k2, k3, k4⟩, k5, k6, ⟨p, k7, k8⟩, k9⟩ := h3 i m' hm'
    have Q : ∀ a, 94 ≤ a → a < 102 → hp_I g a i = hp_I h a i := fun a x y => q a x y i (by omega)
    refine ⟨⟨?_, ?_, ?_, ?_⟩, fun z => ⟨?_, ?_⟩, fun z => ⟨?_, ?_⟩, ⟨p, k7, ?_⟩, fun z p hp => ?_⟩
    · rw [Q 94 (by omega) (by omega)]; exact k1
    · rw [Q 95 (by omega) (by omega)]; exact k2
    · rw [Q 96 (by omega) (by omega)]; exact k3
    · rw [Q 97 (by omega) (by omega)]; exact k4
    · rw [Q 98 (by omega) (by omega)]; exact (k5 z).1
    · rw [Q 99 (by omega) (by omega)]; exact (k5 z).2
    · rw [Q 100 (by omega) (by omega)]; exact (k6 z).1
    · rw [Q 101 (by omega) (by omega)]; exact (k6 z).2
    · rw [Q 100 (by omega) (by omega)]; exact k8
    · rw [q4 _ (by omega)]; exact k9 z p hp
  · have hlen : i < (n ++ [m]).length := by
      rcases Nat.lt_or_ge i (n ++ [m]).length with z | z
      · exact z
      · rw [List.getElem?_eq_none z] at hm'; cases hm'
    have ei : i = n.length := by rw [List.length_append] at hlen; have : i < n.length + 1 := hlen; omega
    subst ei
    rw [List.getElem?_append_right (Nat.le_refl _), Nat.sub_self] at hm'
    obtain rfl : m = m' := by simpa using hm'
    exact hm
theorem vn_u {n : List ab_M} {h : ha_H} (H : mv_n n h) : m_u h = n.length := by
  unfold m_u
  rw [H.1, nI_clamp (by have := H.2.1; omega)]
