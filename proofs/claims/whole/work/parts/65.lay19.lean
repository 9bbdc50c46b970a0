def SF (len : Int32) (nt f : Nat) (g : ha_H) : Prop := ((hp_S g 4 = .inr 2 ∧ hp_S g 5 = .inl (9, 4) ∧ hp_S g 10 = .inl (3, 3) ∧ hp_S g 11 = .inl (9, 3) ∧ hp_S g 15 = .inl (9, 3) ∧ hp_S g 19 = .inl (4, 4)) ∧ ∀ x, (6 ≤ x ∧ x < 10) ∨ (12 ≤ x ∧ x < 15) ∨ (16 ≤ x ∧ x < 19) → hp_S g x = .inl (0, 4) ∧ ∀ y, hp_I g x y = 0) ∧ ((hp_R g 4 0 = some nt ∧ hp_R g 4 2 = some 5 ∧ hp_R g 4 3 = some 10 ∧ hp_R g 4 4 = some 11 ∧ hp_R g 4 5 = some 15 ∧ hp_R g 4 6 = some 19) ∧ (∀ k, k < 4 → hp_R g 5 k = some (6 + k)) ∧ (∀ k, k < 3 → hp_R g 11 k = some (12 + k) ∧ hp_R g 15 k = some (16 + k)) ∧ ∀ k, hp_R g 10 k = none) ∧ (hp_I g 4 1 = len ∧ hp_I g 4 7 = nI 1 ∧ hp_I g 4 8 = nI 0 ∧ hp_I g 4 9 = nI 0 ∧ hp_I g 4 10 = nI 0) ∧ ∀ k, k < f → hp_R g 19 k = some (20 + 2 * k) ∧ LF (20 + 2 * k) g
def SQ (h : ha_H) (len : Int32) (nt f : Nat) (g : ha_H) : Prop := hp_n g = 20 + 2 * f ∧ fb 4 h g ∧ SF len nt f g
def sy1 (h : ha_H) : ha_H := hp_sR (hp_mu h 4 4) 4 2 (some (hp_n h))
def sy2 (h : ha_H) : ha_H := hp_sR (hp_new (sy1 h) (.inl (3, 3))) 4 3 (some (hp_n (sy1 h)))
def sy3 (h : ha_H) : ha_H := hp_sR (hp_mu (sy2 h) 3 4) 4 4 (some (hp_n (sy2 h)))
def sy4 (h : ha_H) : ha_H := hp_sR (hp_mu (sy3 h) 3 4) 4 5 (some (hp_n (sy3 h)))
def sy5 (h : ha_H) : ha_H := hp_sR (hp_new (sy4 h) (.inl (4, 4))) 4 6 (some (hp_n (sy4 h)))
def sy (h : ha_H) (len : Int32) (nt : Nat) : ha_H := hp_sI (hp_sR (hp_sI (hp_sI (hp_sI (hp_sI (sy5 h) 4 7 (nI 1)) 4 8 (nI 0)) 4 9 (nI 0)) 4 10 (nI 0)) 4 0 (some nt)) 4 1 len
theorem sq_0 {h : ha_H} {nt : Nat} {len : Int32} (hn : hp_n h = 5) (hs : hp_S h 4 = .inr 2) : SQ h len nt 0 (sy h len nt) := by
  have n1 : hp_n (sy1 h) = 10 := by show hp_n h + 1 + 4 = 10; omega
  have n2 : hp_n (sy2 h) = 11 := by show hp_n (sy1 h) + 1 = 11; omega
  have n3 : hp_n (sy3 h) = 15 := by show hp_n (sy2 h) + 1 + 3 = 15; omega
  have n4 : hp_n (sy4 h) = 19 := by show hp_n (sy3 h) + 1 + 3 = 19; omega
  have n5 : hp_n (sy5 h) = 20 := by show hp_n (sy4 h) + 1 = 20; omega
  have S1 : ∀ x, hp_S (sy1 h) x = if x = 5 then .inl (9, 4) else if 5 ≤ x then .inl (0, 4) else hp_S h x := fun x => by show hp_S (hp_mu h 4 4) x = _; rw [hp_S_mu, hn]
  have S2 : ∀ x, hp_S (sy2 h) x = if x = 10 then .inl (3, 3) else hp_S (sy1 h) x := fun x => by show hp_S (hp_new (sy1 h) (.inl (3, 3))) x = _; rw [hp_S_new, n1]
  have S3 : ∀ x, hp_S (sy3 h) x = if x = 11 then .inl (9, 3) else if 11 ≤ x then .inl (0, 4) else hp_S (sy2 h) x := fun x => by show hp_S (hp_mu (sy2 h) 3 4) x = _; rw [hp_S_mu, n2]
  have S4 : ∀ x, hp_S (sy4 h) x = if x = 15 then .inl (9, 3) else if 15 ≤ x then .inl (0, 4) else hp_S (sy3 h) x := fun x => by show hp_S (hp_mu (sy3 h) 3 4) x = _; rw [hp_S_mu, n3]
  have S5 : ∀ x, hp_S (sy h len nt) x = if x = 19 then .inl (4, 4) else hp_S (sy4 h) x := fun x => by show hp_S (hp_new (sy4 h) (.inl (4, 4))) x = _; rw [hp_S_new, n4]
  have I1 : ∀ x y, hp_I (sy1 h) x y = if 5 ≤ x then 0 else hp_I h x y := fun x y => by show hp_I (hp_mu h 4 4) x y = _; rw [hp_I_mu, hn]
  have I2 : ∀ x y, hp_I (sy2 h) x y = if x = 10 then 0 else hp_I (sy1 h) x y := fun x y => by show hp_I (hp_new (sy1 h) (.inl (3, 3))) x y = _; rw [hp_I_new, n1]
  have I3 : ∀ x y, hp_I (sy3 h) x y = if 11 ≤ x then 0 else hp_I (sy2 h) x y := fun x y => by show hp_I (hp_mu (sy2 h) 3 4) x y = _; rw [hp_I_mu, n2]
  have I4 : ∀ x y, hp_I (sy4 h) x y = if 15 ≤ x then 0 else hp_I (sy3 h) x y := fun x y => by show hp_I (hp_mu (sy3 h) 3 4) x y = _; rw [hp_I_mu, n3]
  have I5 : ∀ x y, hp_I (sy5 h) x y = if x = 19 then 0 else hp_I (sy4 h) x y := fun x y => by show hp_I (hp_new (sy4 h) (.inl (4, 4))) x y = _; rw [hp_I_new, n4]
  have R1 : ∀ x y, hp_R (sy1 h) x y = if x = 4 ∧ y = 2 then some 5 else if x = 5 then (if y < 4 then some (6 + y) else none) else if 5 ≤ x then none else hp_R h x y := fun x y => by unfold sy1; rw [hp_R_sR, hp_R_mu, hn]
  have R2 : ∀ x y, hp_R (sy2 h) x y = if x = 4 ∧ y = 3 then some 10 else if x = 10 then none else hp_R (sy1 h) x y := fun x y => by unfold sy2; rw [hp_R_sR, hp_R_new, n1]
  have R3 : ∀ x y, hp_R (sy3 h) x y = if x = 4 ∧ y = 4 then some 11 else if x = 11 then (if y < 3 then some (12 + y) else none) else if 11 ≤ x then none else hp_R (sy2 h) x y := fun x y => by unfold sy3; rw [hp_R_sR, hp_R_mu, n2]
  have R4 : ∀ x y, hp_R (sy4 h) x y = if x = 4 ∧ y = 5 then some 15 else if x = 15 then (if y < 3 then some (16 + y) else none) else if 15 ≤ x then none else hp_R (sy3 h) x y := fun x y => by unfold sy4; rw [hp_R_sR, hp_R_mu, n3]
  have R5 : ∀ x y, hp_R (sy h len nt) x y = if x = 4 ∧ y = 0 then some nt else if x = 4 ∧ y = 6 then some 19 else if x = 19 then none else hp_R (sy4 h) x y := fun x y => by
    unfold sy
    rw [hp_R_sI, hp_R_sR, hp_R_sI, hp_R_sI, hp_R_sI, hp_R_sI]
    unfold sy5
    rw [hp_R_sR, hp_R_new, n4]
  have I6 : ∀ x y, ¬ x = 4 → hp_I (sy h len nt) x y = hp_I (sy5 h) x y := fun x y z => by
    unfold sy
    rw [hp_I_sI, if_neg (by omega), hp_I_sR, hp_I_sI, if_neg (by omega), hp_I_sI, if_neg (by omega), hp_I_sI, if_neg (by omega), hp_I_sI, if_neg (by omega)]
  refine ⟨by show hp_n (sy5 h) = _; omega, fun x hx => ⟨fun y => ?_, fun y => ?_, ?_⟩, ⟨⟨?_, ?_, ?_, ?_, ?_, ?_⟩, fun x hx => ⟨?_, fun y => ?_⟩⟩, ⟨⟨?_, ?_, ?_, ?_, ?_, ?_⟩, fun k hk => ?_, fun k hk => ⟨?_, ?_⟩, fun k => ?_⟩, ⟨?_, ?_, ?_, ?_, ?_⟩, fun k hk => by omega⟩
  · rw [I6 x y (by omega), I5, if_neg (by omega), I4, if_neg (by omega), I3, if_neg (by omega), I2, if_neg (by omega), I1, if_neg (by omega)]
  · rw [R5, if_neg (by omega), if_neg (by omega), if_neg (by omega), R4, if_neg (by omega), if_neg (by omega), if_neg (by omega), R3, if_neg (by omega), if_neg (by omega), if_neg (by omega), R2, if_neg (by omega), if_neg (by omega), R1, if_neg (by omega), if_neg (by omega), if_neg (by omega)]
  · rw [S5, if_neg (by omega), S4, if_neg (by omega), if_neg (by omega), S3, if_neg (by omega), if_neg (by omega), S2, if_neg (by omega), S1, if_neg (by omega), if_neg (by omega)]
  · simp [S5, S4, S3, S2, S1, hs]
  · simp [S5, S4, S3, S2, S1]
  · simp [S5, S4, S3, S2]
  · simp [S5, S4, S3]
  · simp [S5, S4]
  · simp [S5]
  · rw [S5, if_neg (by omega), S4, if_neg (by omega)]
    by_cases a : 15 ≤ x
    · rw [if_pos a]
    · rw [if_neg a, S3, if_neg (by omega)]
      by_cases b : 11 ≤ x
      · rw [if_pos b]
      · rw [if_neg b, S2, if_neg (by omega), S1, if_neg (by omega), if_pos (by omega)]
  · rw [I6 x y (by omega), I5, if_neg (by omega), I4]
    by_cases a : 15 ≤ x
    · rw [if_pos a]
    · rw [if_neg a, I3]
      by_cases b : 11 ≤ x
      · rw [if_pos b]
      · rw [if_neg b, I2, if_neg (by omega), I1, if_pos (by omega)]
  · simp [R5]
  · simp [R5, R4, R3, R2, R1]
  · simp [R5, R4, R3, R2]
  · simp [R5, R4, R3]
  · simp [R5, R4]
  · simp [R5]
  · simp [R5, R4, R3, R2, R1, hk]
  · simp [R5, R4, R3, hk]
  · simp [R5, R4, hk]
  · simp [R5, R4, R3, R2]
  · simp [sy, hp_I_sI]
  · simp [sy, hp_I_sI, hp_I_sR]
  · simp [sy, hp_I_sI, hp_I_sR]
  · simp [sy, hp_I_sI, hp_I_sR]
  · simp [sy, hp_I_sI, hp_I_sR]
theorem SF_sx {len : Int32} {nt f : Nat} {h g : ha_H} (H : SF len nt f h) (a : ∀ x, 4 ≤ x → x < 20 + 2 * f → sx h g x) : SF len nt f g := by
  obtain ⟨⟨⟨h1, h2, h3, h4, h5, h6⟩, h7⟩, ⟨⟨r1, r2, r3, r4, r5, r6⟩, r7, r8, r9⟩, ⟨i1, i2, i3, i4, i5⟩, hk⟩ := H
  have A := fun x (l1 : 4 ≤ x) (l2 : x < 20) => a x l1 (by omega)
  refine ⟨⟨⟨?_, ?_, ?_, ?_, ?_, ?_⟩, fun x hx => ⟨?_, fun y => ?_⟩⟩, ⟨⟨?_, ?_, ?_, ?_, ?_, ?_⟩, fun k hk => ?_, fun k hk => ⟨?_, ?_⟩, fun k => ?_⟩, ⟨?_, ?_, ?_, ?_, ?_⟩, fun k hf => ⟨?_, LF_sx (hk k hf).2 (a _ (by omega) (by omega)) (a _ (by omega) (by omega))⟩⟩
  · rw [(A 4 (by omega) (by omega)).2.2]; exact h1
  · rw [(A 5 (by omega) (by omega)).2.2]; exact h2
  · rw [(A 10 (by omega) (by omega)).2.2]; exact h3
  · rw [(A 11 (by omega) (by omega)).2.2]; exact h4
  · rw [(A 15 (by omega) (by omega)).2.2]; exact h5
  · rw [(A 19 (by omega) (by omega)).2.2]; exact h6
  · rw [(A x (by omega) (by omega)).2.2]; exact (h7 x hx).1
  · rw [(A x (by omega) (by omega)).1]; exact (h7 x hx).2 y
  · rw [(A 4 (by omega) (by omega)).2.1]; exact r1
  · rw [(A 4 (by omega) (by omega)).2.1]; exact r2
  · rw [(A 4 (by omega) (by omega)).2.1]; exact r3
  · rw [(A 4 (by omega) (by omega)).2.1]; exact r4
  · rw [(A 4 (by omega) (by omega)).2.1]; exact r5
  · rw [(A 4 (by omega) (by omega)).2.1]; exact r6
  · rw [(A 5 (by omega) (by omega)).2.1]; exact r7 k hk
  · rw [(A 11 (by omega) (by omega)).2.1]; exact (r8 k hk).1
  · rw [(A 15 (by omega) (by omega)).2.1]; exact (r8 k hk).2
  · rw [(A 10 (by omega) (by omega)).2.1]; exact r9 k
  · rw [(A 4 (by omega) (by omega)).1]; exact i1
  · rw [(A 4 (by omega) (by omega)).1]; exact i2
  · rw [(A 4 (by omega) (by omega)).1]; exact i3
  · rw [(A 4 (by omega) (by omega)).1]; exact i4
  · rw [(A 4 (by omega) (by omega)).1]; exact i5
  · rw [(A 19 (by omega) (by omega)).2.1]; exact (hk k hf).1
theorem sq_S {len : Int32} {nt f : Nat} {h g g2 : ha_H} (H : SQ h len nt f g) (q1 : hp_n g2 = 20 + 2 * f + 2) (q2 : fb (20 + 2 * f) (hp_new g (.inr 3)) g2) (q3 : LF (20 + 2 * f) g2) : SQ h len nt (f + 1) (hp_sR g2 19 f (some (20 + 2 * f))) := by
  obtain ⟨n1, b1, c1⟩ := H
  have F : fb (20 + 2 * f) g g2 := fb_tr (fb_new (fb_rf _ g) (by omega)) q2 (Nat.le_refl _)
  have c2 : SF len nt f g2 := SF_sx c1 (fun x _ hx => F x hx)
  refine ⟨by show hp_n g2 = _; omega, fb_sR (fb_tr b1 F (by omega)) (by omega), ?_⟩
  obtain ⟨⟨⟨h1, h2, h3, h4, h5, h6⟩, h7⟩, ⟨⟨r1, r2, r3, r4, r5, r6⟩, r7, r8, r9⟩, ⟨i1, i2, i3, i4, i5⟩, hk⟩ := c2
  have R : ∀ x y, ¬ (x = 19 ∧ y = f) → hp_R (hp_sR g2 19 f (some (20 + 2 * f))) x y = hp_R g2 x y := fun x y z => by rw [hp_R_sR, if_neg z]
  have S : ∀ x, ¬ x = 19 → sx g2 (hp_sR g2 19 f (some (20 + 2 * f))) x := fun x z => ⟨fun _ => rfl, fun y => R x y (by omega), rfl⟩
  refine ⟨⟨⟨h1, h2, h3, h4, h5, h6⟩, h7⟩, ⟨⟨by rw [R _ _ (by omega)]; exact r1, by rw [R _ _ (by omega)]; exact r2, by rw [R _ _ (by omega)]; exact r3, by rw [R _ _ (by omega)]; exact r4, by rw [R _ _ (by omega)]; exact r5, by rw [R _ _ (by omega)]; exact r6⟩, fun k hk => by rw [R _ _ (by omega)]; exact r7 k hk, fun k hk => ⟨by rw [R _ _ (by omega)]; exact (r8 k hk).1, by rw [R _ _ (by omega)]; exact (r8 k hk).2⟩, fun k => by rw [R _ _ (by omega)]; exact r9 k⟩, ⟨i1, i2, i3, i4, i5⟩, fun k hf => ?_⟩
  by_cases e : k = f
  · subst e
    exact ⟨by rw [hp_R_sR, if_pos ⟨rfl, rfl⟩], LF_sx q3 (S _ (by omega)) (S _ (by omega))⟩
  · exact ⟨by rw [R _ _ (by omega)]; exact (hk k (by omega)).1, LF_sx (hk k (by omega)).2 (S _ (by omega)) (S _ (by omega))⟩
def BF (L f : Nat) (g : ha_H) : Prop := (hp_S g 1 = .inr 0 ∧ hp_S g 28 = .inl (6, 3)) ∧ (hp_R g 1 0 = some 2 ∧ hp_R g 1 1 = some 4 ∧ hp_R g 1 2 = some 28) ∧ NF g ∧ SF (nI L) 2 4 g ∧ ∀ k, k < f → hp_R g 28 k = some (29 + 11 * k) ∧ CF (29 + 11 * k) (nI k) (nI (L / 2 - 2)) 2 4 g
def BQ (L f : Nat) (g : ha_H) : Prop := hp_n g = 29 + 11 * f ∧ BF L f g
theorem BF_sx {L f : Nat} {h g : ha_H} (H : BF L f h) (a : ∀ x, 1 ≤ x → x < 29 + 11 * f → sx h g x) : BF L f g := by
  obtain ⟨⟨h1, h2⟩, ⟨r1, r2, r3⟩, hN, hS, hk⟩ := H
  exact ⟨⟨by rw [(a 1 (by omega) (by omega)).2.2]; exact h1, by rw [(a 28 (by omega) (by omega)).2.2]; exact h2⟩, ⟨by rw [(a 1 (by omega) (by omega)).2.1]; exact r1, by rw [(a 1 (by omega) (by omega)).2.1]; exact r2, by rw [(a 1 (by omega) (by omega)).2.1]; exact r3⟩, NF_sx hN (a 2 (by omega) (by omega)) (a 3 (by omega) (by omega)), SF_sx hS (fun x h1 h2 => a x (by omega) (by omega)), fun k hf => ⟨by rw [(a 28 (by omega) (by omega)).2.1]; exact (hk k hf).1, CF_sx (hk k hf).2 (fun x h1 h2 => a x (by omega) (by omega))⟩⟩
theorem bq_0 {L : Nat} {g : ha_H} (hn : hp_n g = 28) (h1 : hp_S g 1 = .inr 0) (r1 : hp_R g 1 0 = some 2) (r2 : hp_R g 1 1 = some 4) (hN : NF g) (hS : SF (nI L) 2 4 g) : BQ L 0 (hp_sR (hp_new g (.inl (6, 3))) 1 2 (some (hp_n g))) := by
  have F : fb 28 g (hp_new g (.inl (6, 3))) := fb_new (fb_rf _ g) (by omega)
  have R : ∀ x y, ¬ (x = 1 ∧ y = 2) → hp_R (hp_sR (hp_new g (.inl (6, 3))) 1 2 (some (hp_n g))) x y = hp_R (hp_new g (.inl (6, 3))) x y := fun x y z => by rw [hp_R_sR, if_neg z]
  have S : ∀ x, x < 28 → ¬ x = 1 → sx g (hp_sR (hp_new g (.inl (6, 3))) 1 2 (some (hp_n g))) x := fun x l z => ⟨(F x l).1, fun y => by rw [R x y (by omega)]; exact (F x l).2.1 y, (F x l).2.2⟩
  refine ⟨by show hp_n g + 1 = _; omega, ⟨?_, ?_⟩, ⟨?_, ?_, ?_⟩, NF_sx hN (S 2 (by omega) (by omega)) (S 3 (by omega) (by omega)), SF_sx hS (fun x l1 l2 => S x (by omega) (by omega)), fun k hk => by omega⟩
  · show hp_S (hp_new g (.inl (6, 3))) 1 = _
    rw [(F 1 (by omega)).2.2]; exact h1
  · show hp_S (hp_new g (.inl (6, 3))) 28 = _
    rw [hp_S_new, if_pos hn.symm]
  · rw [R _ _ (by omega), (F 1 (by omega)).2.1]; exact r1
  · rw [R _ _ (by omega), (F 1 (by omega)).2.1]; exact r2
  · rw [hp_R_sR, if_pos ⟨rfl, rfl⟩, hn]
theorem bq_S {L f : Nat} {g g2 : ha_H} (H : BQ L f g) (q : CQ (29 + 11 * f) (hp_new g (.inr 4)) (nI f) (nI (L / 2 - 2)) 2 4 g2) : BQ L (f + 1) (hp_sR g2 28 f (some (29 + 11 * f))) := by
  obtain ⟨n1, c1⟩ := H
  obtain ⟨q1, q2, q3⟩ := q
  have F : fb (29 + 11 * f) g g2 := fb_tr (fb_new (fb_rf _ g) (by omega)) q2 (Nat.le_refl _)
  have c2 : BF L f g2 := BF_sx c1 (fun x _ hx => F x hx)
  obtain ⟨⟨h1, h2⟩, ⟨r1, r2, r3⟩, hN, hS, hk⟩ := c2
  have R : ∀ x y, ¬ (x = 28 ∧ y = f) → hp_R (hp_sR g2 28 f (some (29 + 11 * f))) x y = hp_R g2 x y := fun x y z => by rw [hp_R_sR, if_neg z]
  have S : ∀ x, ¬ x = 28 → sx g2 (hp_sR g2 28 f (some (29 + 11 * f))) x := fun x z => ⟨fun _ => rfl, fun y => R x y (by omega), rfl⟩
  refine ⟨by show hp_n g2 = _; omega, ⟨h1, h2⟩, ⟨by rw [R _ _ (by omega)]; exact r1, by rw [R _ _ (by omega)]; exact r2, by rw [R _ _ (by omega)]; exact r3⟩, NF_sx hN (S 2 (by omega)) (S 3 (by omega)), SF_sx hS (fun x l1 l2 => S x (by omega)), fun k hf => ?_⟩
  by_cases e : k = f
  · subst e
    exact ⟨by rw [hp_R_sR, if_pos ⟨rfl, rfl⟩], CF_sx q3 (fun x l1 l2 => S x (by omega))⟩
  · exact ⟨by rw [R _ _ (by omega)]; exact (hk k (by omega)).1, CF_sx (hk k (by omega)).2 (fun x l1 l2 => S x (by omega))⟩
