def RQ (k : Nat) (h g : ha_H) : Prop := hp_n g = 63 + k ∧ fb 62 h g ∧ hp_S g 62 = .inr 10 ∧ (∀ q ∈ mo_L.take k, hp_R g 62 q.1 = some q.2.1 ∧ hp_S g q.2.1 = .inl q.2.2) ∧ ∀ x y, 62 ≤ x → x < 63 + k → hp_I g x y = 0
theorem rq_0 {h : ha_H} (hn : hp_n h = 62) : RQ 0 h (hp_new h (.inr 10)) := by
  refine ⟨by show hp_n h + 1 = _; omega, fb_new (fb_rf _ h) (by omega), by rw [hp_S_new, if_pos hn.symm], fun q hq => (by cases hq), fun x y h1 h2 => ?_⟩
  rw [hp_I_new, if_pos (by omega)]
theorem mo_bd : ∀ q ∈ mo_L, 63 ≤ q.2.1 ∧ q.2.1 < 103 := by decide
theorem rq_S {k : Nat} {h g : ha_H} (H : RQ k h g) {q : Nat × Nat × Nat × Nat} (e : mo_L.take (k + 1) = mo_L.take k ++ [q]) (e2 : q.2.1 = 63 + k) (ne : ∀ p ∈ mo_L.take k, ¬ p.1 = q.1 ∧ p.2.1 < 63 + k) : RQ (k + 1) h (hp_sR (hp_new g (.inl q.2.2)) 62 q.1 (some (hp_n g))) := by
  obtain ⟨h1, h2, h3, h4, h5⟩ := H
  refine ⟨by show hp_n g + 1 = _; omega, fb_sR (fb_new h2 (by omega)) (by omega), ?_, fun p hp => ?_, fun x y l1 l2 => ?_⟩
  · show hp_S (hp_new g (.inl q.2.2)) 62 = _
    rw [hp_S_new, if_neg (by omega)]; exact h3
  · rw [e] at hp
    rcases List.mem_append.mp hp with hp | hp
    · obtain ⟨n1, n2⟩ := ne p hp
      refine ⟨?_, ?_⟩
      · rw [hp_R_sR, if_neg (fun z => n1 z.2), hp_R_new, if_neg (by omega)]; exact (h4 p hp).1
      · show hp_S (hp_new g (.inl q.2.2)) p.2.1 = _
        rw [hp_S_new, if_neg (by omega)]; exact (h4 p hp).2
    · rw [List.mem_singleton] at hp
      subst hp
      refine ⟨by rw [hp_R_sR, if_pos ⟨rfl, rfl⟩, h1, e2], ?_⟩
      show hp_S (hp_new g (.inl p.2.2)) p.2.1 = _
      rw [hp_S_new, if_pos (by omega)]
  · show hp_I (hp_new g (.inl q.2.2)) x y = 0
    rw [hp_I_new]
    by_cases z : x = hp_n g
    · rw [if_pos z]
    · rw [if_neg z]; exact h5 x y l1 (by omega)
/-- the reference when it has been made -/
def RE (L : Nat) (h g : ha_H) : Prop := hp_n g = 103 ∧ fb 62 h g ∧ mo_ok g ∧ (hp_I g 62 0 = nI L ∧ ∀ y, ¬ y = 0 → hp_I g 62 y = 0) ∧ ∀ x y, 63 ≤ x → x < 103 → hp_I g x y = if x = 74 ∧ y < 3 then -1 else 0
theorem re_of {L : Nat} {h g : ha_H} (H : RQ 40 h g) : RE L h (hp_sI (hp_sI (hp_sI (hp_sI g 62 0 (nI L)) 74 0 (-1)) 74 1 (-1)) 74 2 (-1)) := by
  obtain ⟨h1, h2, h3, h4, h5⟩ := H
  refine ⟨h1, fb_sI (fb_sI (fb_sI (fb_sI h2 (by omega)) (by omega)) (by omega)) (by omega), ⟨by show 103 ≤ hp_n g; omega, h3, fun q hq => h4 q (by rw [List.take_of_length_le (by decide)]; exact hq)⟩, ⟨by simp [hp_I_sI], fun y hy => ?_⟩, fun x y l1 l2 => ?_⟩
  · rw [hp_I_sI, if_neg (by omega), hp_I_sI, if_neg (by omega), hp_I_sI, if_neg (by omega), hp_I_sI, if_neg (by omega)]; exact h5 62 y (by omega) (by omega)
  · by_cases z : x = 74 ∧ y < 3
    · rw [if_pos z]
      rcases (by omega : y = 0 ∨ y = 1 ∨ y = 2) with e | e | e <;> simp [hp_I_sI, z.1, e]
    · rw [if_neg z, hp_I_sI, if_neg (by omega), hp_I_sI, if_neg (by omega), hp_I_sI, if_neg (by omega), hp_I_sI, if_neg (by omega)]; exact h5 x y (by omega) (by omega)
/-- the clients at the start -/
def C_0 : Nat → ab_C := fun _ => (true, nI 0, nI 0, none, nI 0, fun _ => (0, nI 0, false, false, fun _ => 0), [])
theorem MV_0 {L : Nat} {h g : ha_H} (H : RE L h g) : MV 0 L [] true (nI 0) false (nI 0) (fun _ _ => 0) (fun _ _ => 0) (fun _ _ => 0) (fun _ => none) (fun _ => []) C_0 g := by
  obtain ⟨h1, h2, h3, ⟨h4, h5⟩, h6⟩ := H
  have Z : ∀ x y, 63 ≤ x → x < 103 → ¬ x = 74 → hp_I g x y = nI 0 := fun x y l1 l2 l3 => by rw [h6 x y l1 l2, if_neg (by omega)]; exact nI_0.symm
  have hi : mo_I g := by
    refine mI_of (u := 0) h3 (fun a ha j => Or.inl ?_) (by rw [h5 34 (by omega)]; exact nI_0.symm) (by omega)
    have hb : 63 ≤ a ∧ a < 103 ∧ ¬ a = 74 := by
      simp only [List.mem_cons, List.not_mem_nil, or_false] at ha
      omega
    rw [Z a j hb.1 hb.2.1 hb.2.2]; exact nI_0
  refine ⟨fun _ _ => (0, 0), fun _ => 0, 0, ⟨Nat.le_refl _, fun _ _ => Nat.le_refl _, 0, rfl, Nat.le_refl _⟩, ⟨hi, fun j _ => ⟨0, by omega, Z 85 j (by omega) (by omega) (by omega)⟩⟩, ⟨⟨h4, Z 63 3 (by omega) (by omega) (by omega), Z 64 3 (by omega) (by omega) (by omega), by rw [h5 6 (by omega)]; exact nI_0.symm, fun z => (by cases z)⟩, fun f p _ _ => by rw [Z 65 _ (by omega) (by omega) (by omega)]; exact nI_0, ⟨by rw [h5 34 (by omega)]; exact nI_0.symm, by show 0 ≤ 60; omega, fun i m e => (by simp at e)⟩, fun c f _ _ => ⟨Z 66 _ (by omega) (by omega) (by omega), by show 0 ≤ 2; omega⟩, fun c f _ _ => by rw [Z 67 _ (by omega) (by omega) (by omega)]; exact nI_0, fun c _ => ⟨fun _ => Z 68 c (by omega) (by omega) (by omega), fun r e => (by cases e)⟩, ⟨by rw [h5 17 (by omega)]; exact nI_0.symm, fun f _ m hm => (by cases hm), fun f _ => List.Pairwise.nil, fun c hc => Or.inl (by rw [h6 74 c (by omega) (by omega), if_pos ⟨rfl, hc⟩])⟩, fun m hm => (by cases hm), fun c r _ e => (by cases e), fun f m _ hm => (by cases hm)⟩, fun c hc => ⟨⟨Z 63 c (by omega) (by omega) (by omega), Z 64 c (by omega) (by omega) (by omega), Z 78 c (by omega) (by omega) (by omega)⟩, ⟨fun _ => Z 87 c (by omega) (by omega) (by omega), fun m e => (by cases e), 0, by omega, Z 91 c (by omega) (by omega) (by omega)⟩, ⟨Z 84 c (by omega) (by omega) (by omega), by show 0 ≤ 6; omega, fun i w e => (by cases e)⟩, fun f hf => ⟨⟨Z 79 _ (by omega) (by omega) (by omega), by show 0 ≤ 2; omega⟩, Z 81 _ (by omega) (by omega) (by omega), Z 82 _ (by omega) (by omega) (by omega), fun z => absurd z (by show ¬ 0 < 0; omega)⟩⟩, fun c _ => rfl, fun c m _ e => (by cases e)⟩
theorem CV_0 {L : Nat} {h g : ha_H} (h8 : 8 ≤ L) (h2 : L ≤ 200) (B : BQ L 3 h) (n : hp_n g = 103) (F : fb 62 h g) : CV L [] true (nI 0) false (nI 0) (fun _ _ => 0) (fun _ _ => 0) (fun _ _ => 0) (fun _ => none) (fun _ => []) C_0 g := by
  have B' : BF L 3 g := BF_sx B.2 (fun x _ hx => F x (by omega))
  obtain ⟨⟨s1, s28⟩, ⟨r1, r2, r3⟩, ⟨n1, n2, n3, n4⟩, ⟨⟨⟨v1, v2, v3, v4, v5, v6⟩, v7⟩, ⟨⟨w1, w2, w3, w4, w5, w6⟩, w7, w8, w9⟩, ⟨u1, u2, u3, u4, u5⟩, ul⟩, hk⟩ := B'
  have CK : ∀ c, c < 3 → hp_R g 28 c = some (29 + 11 * c) ∧ CF (29 + 11 * c) (nI c) (nI (L / 2 - 2)) 2 4 g := hk
  refine ⟨⟨by omega, ⟨⟨s1, n1, n2, v1, v2, v3, v4, v5, v6, s28⟩, fun f hf => ⟨(v7 (6 + f) (by omega)).1, (ul f hf).2.1, by rw [show 21 + 2 * f = 20 + 2 * f + 1 by omega]; exact (ul f hf).2.2.1⟩, fun c hc => ⟨(v7 (12 + c) (by omega)).1, (v7 (16 + c) (by omega)).1, (CK c hc).2.1.1, ?_, ?_⟩, fun c f hc hf => ?_⟩, fun x y t z => ?_⟩, ⟨u1, ⟨h8, h2⟩, fun c hc => (CK c hc).2.2.2.1.2.1⟩, ⟨n4, by show 0 ≤ 60; omega, fun k m e => (by simp at e)⟩, u2, u3, u4, u5, fun f p hf hp => (v7 (6 + f) (by omega)).2 p, fun c f hc hf => ⟨by rw [(v7 (12 + c) (by omega)).2 f]; exact nI_0.symm, by show 0 ≤ 2; omega⟩, fun c f hc hf => (v7 (16 + c) (by omega)).2 f, fun c hc => Or.inl ⟨rfl, w9 c⟩, fun f hf => ⟨(ul f hf).2.2.2.2, by show 0 ≤ 3; omega, fun k m e => (by simp at e)⟩, fun c hc => ?_⟩
  · rw [show 30 + 11 * c = 29 + 11 * c + 1 by omega]; exact (CK c hc).2.1.2.1
  · rw [show 31 + 11 * c = 29 + 11 * c + 2 by omega]; exact (CK c hc).2.1.2.2
  · obtain ⟨k1, k2⟩ := (CK c hc).2.2.2.2 f hf
    rw [show 32 + 11 * c + 2 * f = 29 + 11 * c + 3 + 2 * f by omega, show 33 + 11 * c + 2 * f = 29 + 11 * c + 3 + 2 * f + 1 by omega]
    exact ⟨k2.1, k2.2.1⟩
  · unfold cs_T at z
    rcases z with ⟨rfl, rfl, rfl⟩ | ⟨rfl, rfl, rfl⟩ | ⟨rfl, rfl, rfl⟩ | ⟨rfl, rfl, rfl⟩ | ⟨rfl, rfl, rfl⟩ | ⟨rfl, rfl, rfl⟩ | ⟨rfl, rfl, rfl⟩ | ⟨rfl, rfl, rfl⟩ | ⟨rfl, rfl, rfl⟩ | ⟨rfl, rfl, rfl⟩ | ⟨rfl, l, rfl⟩ | ⟨rfl, l, rfl⟩ | ⟨rfl, l, rfl⟩ | ⟨rfl, l, rfl⟩ | ⟨l1, l2, l3, rfl, rfl⟩ | ⟨rfl, l, rfl⟩ | ⟨q, p⟩ | ⟨q, l, rfl⟩ | ⟨q, rfl, rfl⟩
    · exact r1
    · exact r2
    · exact r3
    · exact n3
    · exact w1
    · exact w2
    · exact w3
    · exact w4
    · exact w5
    · exact w6
    · exact w7 y l
    · exact (w8 y l).1
    · exact (w8 y l).2
    · exact (ul y l).1
    · obtain ⟨f, hf, rfl⟩ : ∃ f, f < 4 ∧ x = 20 + 2 * f := ⟨(x - 20) / 2, by omega, by omega⟩
      exact (ul f hf).2.2.2.1
    · exact (CK y l).1
    · obtain ⟨c, hc, rfl⟩ : ∃ c, c < 3 ∧ x = 29 + 11 * c := ⟨(x - 29) / 11, by omega, by omega⟩
      obtain ⟨a1, a2, a3, a4⟩ := (CK c hc).2.2.1
      rcases p with ⟨rfl, rfl⟩ | ⟨rfl, rfl⟩ | ⟨rfl, rfl⟩
      · exact a1
      · exact a2
      · exact a3
    · obtain ⟨c, hc, rfl⟩ : ∃ c, c < 3 ∧ x = 29 + 11 * c + 1 := ⟨(x - 30) / 11, by omega, by omega⟩
      have := ((CK c hc).2.2.2.2 y l).1
      rw [show 29 + 11 * c + 1 + 2 + 2 * y = 29 + 11 * c + 3 + 2 * y by omega]
      exact this
    · obtain ⟨c, f, hc, hf, rfl⟩ : ∃ c f, c < 3 ∧ f < 4 ∧ x = 29 + 11 * c + 3 + 2 * f := by
        rcases q with q | q | q
        · exact ⟨0, (x - 32) / 2, by omega, by omega, by omega⟩
        · exact ⟨1, (x - 43) / 2, by omega, by omega, by omega⟩
        · exact ⟨2, (x - 54) / 2, by omega, by omega, by omega⟩
      exact ((CK c hc).2.2.2.2 f hf).2.2.2.1
  · obtain ⟨_, ⟨a1, a2, a3, a4⟩, ⟨i1, i2, i3, i4, i5, i6, i7⟩, kk⟩ := (CK c hc).2
    refine ⟨i1, i4, i5, i6, Or.inl ⟨rfl, a4⟩, i7, fun f hf => ?_, ⟨i3, by show 0 ≤ 6; omega⟩, fun k w e => (by cases e)⟩
    obtain ⟨_, _, _, ⟨j1, j2, j3, j4⟩, j5⟩ := (kk f hf).2
    rw [show 32 + 11 * c + 2 * f = 29 + 11 * c + 3 + 2 * f by omega]
    exact ⟨⟨j1, by show 0 ≤ 2; omega⟩, j2, j3, j4, fun p _ => j5 p⟩
