/-- what is made at the start -/
def sx (h g : ha_H) (x : Nat) : Prop := (∀ y, hp_I g x y = hp_I h x y) ∧ (∀ y, hp_R g x y = hp_R h x y) ∧ hp_S g x = hp_S h x
def fb (i : Nat) (h g : ha_H) : Prop := ∀ x, x < i → sx h g x
theorem fb_rf (i : Nat) (h : ha_H) : fb i h h := fun _ _ => ⟨fun _ => rfl, fun _ => rfl, rfl⟩
theorem fb_tr {i j : Nat} {a b c : ha_H} (p : fb i a b) (q : fb j b c) (l : i ≤ j) : fb i a c := fun x hx => ⟨fun y => ((q x (by omega)).1 y).trans ((p x hx).1 y), fun y => ((q x (by omega)).2.1 y).trans ((p x hx).2.1 y), ((q x (by omega)).2.2).trans (p x hx).2.2⟩
theorem fb_sI {i : Nat} {h g : ha_H} {A k : Nat} {v : Int32} (p : fb i h g) (l : i ≤ A) : fb i h (hp_sI g A k v) := fun x hx => ⟨fun y => by rw [hp_I_sI, if_neg (by omega)]; exact (p x hx).1 y, (p x hx).2.1, (p x hx).2.2⟩
theorem fb_sR {i : Nat} {h g : ha_H} {A k : Nat} {v : Option Nat} (p : fb i h g) (l : i ≤ A) : fb i h (hp_sR g A k v) := fun x hx => ⟨(p x hx).1, fun y => by rw [hp_R_sR, if_neg (by omega)]; exact (p x hx).2.1 y, (p x hx).2.2⟩
theorem fb_new {i : Nat} {h g : ha_H} {s : (Nat × Nat) ⊕ Nat} (p : fb i h g) (l : i ≤ hp_n g) : fb i h (hp_new g s) := fun x hx => ⟨fun y => by rw [hp_I_new, if_neg (by omega)]; exact (p x hx).1 y, fun y => by rw [hp_R_new, if_neg (by omega)]; exact (p x hx).2.1 y, by rw [hp_S_new, if_neg (by omega)]; exact (p x hx).2.2⟩
theorem fb_mu {i : Nat} {h g : ha_H} {N K : Nat} (p : fb i h g) (l : i ≤ hp_n g) : fb i h (hp_mu g N K) := fun x hx => ⟨fun y => by rw [hp_I_mu, if_neg (by omega)]; exact (p x hx).1 y, fun y => by rw [hp_R_mu, if_neg (by omega), if_neg (by omega)]; exact (p x hx).2.1 y, by rw [hp_S_mu, if_neg (by omega), if_neg (by omega)]; exact (p x hx).2.2⟩
theorem fb_mo {i j : Nat} {h g : ha_H} (p : fb j h g) (l : i ≤ j) : fb i h g := fun x hx => p x (by omega)
def KF (j : Nat) (g : ha_H) : Prop := hp_S g j = .inr 5 ∧ hp_S g (j + 1) = .inl (0, 4) ∧ hp_R g j 0 = some (j + 1) ∧ (hp_I g j 1 = nI 0 ∧ hp_I g j 2 = nI 0 ∧ hp_I g j 3 = nI 0 ∧ hp_I g j 4 = nI 0) ∧ ∀ y, hp_I g (j + 1) y = 0
def kx (h : ha_H) (j : Nat) : ha_H := hp_sI (hp_sI (hp_sI (hp_sI (hp_sR (hp_new h (.inl (0, 4))) j 0 (some (hp_n h))) j 1 (nI 0)) j 2 (nI 0)) j 3 (nI 0)) j 4 (nI 0)
theorem k_KF {h : ha_H} {j : Nat} (hn : hp_n h = j + 1) (hs : hp_S h j = .inr 5) : hp_n (kx h j) = j + 2 ∧ fb j h (kx h j) ∧ KF j (kx h j) := by
  refine ⟨?_, ?_, ?_, ?_, ?_, ⟨?_, ?_, ?_, ?_⟩, ?_⟩
  · show hp_n h + 1 = _; omega
  · unfold kx
    exact fb_sI (fb_sI (fb_sI (fb_sI (fb_sR (fb_new (fb_rf j h) (by omega)) (by omega)) (by omega)) (by omega)) (by omega)) (by omega)
  · show hp_S (hp_new h (.inl (0, 4))) j = _
    rw [hp_S_new, if_neg (by omega)]; exact hs
  · show hp_S (hp_new h (.inl (0, 4))) (j + 1) = _
    rw [hp_S_new, if_pos hn.symm]
  · simp [kx, hp_R_sI, hp_R_sR, hn]
  · simp [kx, hp_I_sI]
  · simp [kx, hp_I_sI]
  · simp [kx, hp_I_sI]
  · simp [kx, hp_I_sI]
  · intro y
    simp [kx, hp_I_sI, hp_I_sR, hp_I_new, hn]
theorem KF_sx {j : Nat} {h g : ha_H} (H : KF j h) (a : sx h g j) (b : sx h g (j + 1)) : KF j g := by
  obtain ⟨h1, h2, h3, ⟨h4, h5, h6, h7⟩, h8⟩ := H
  exact ⟨by rw [a.2.2]; exact h1, by rw [b.2.2]; exact h2, by rw [a.2.1]; exact h3, ⟨by rw [a.1]; exact h4, by rw [a.1]; exact h5, by rw [a.1]; exact h6, by rw [a.1]; exact h7⟩, fun y => by rw [b.1]; exact h8 y⟩
def LF (j : Nat) (g : ha_H) : Prop := hp_S g j = .inr 3 ∧ hp_S g (j + 1) = .inl (5, 3) ∧ hp_R g j 0 = some (j + 1) ∧ hp_I g j 1 = nI 0
def lx (h : ha_H) (j : Nat) : ha_H := hp_sI (hp_sR (hp_new h (.inl (5, 3))) j 0 (some (hp_n h))) j 1 (nI 0)
theorem l_LF {h : ha_H} {j : Nat} (hn : hp_n h = j + 1) (hs : hp_S h j = .inr 3) : hp_n (lx h j) = j + 2 ∧ fb j h (lx h j) ∧ LF j (lx h j) := by
  refine ⟨?_, ?_, ?_, ?_, ?_, ?_⟩
  · show hp_n h + 1 = _; omega
  · unfold lx
    exact fb_sI (fb_sR (fb_new (fb_rf j h) (by omega)) (by omega)) (by omega)
  · show hp_S (hp_new h (.inl (5, 3))) j = _
    rw [hp_S_new, if_neg (by omega)]; exact hs
  · show hp_S (hp_new h (.inl (5, 3))) (j + 1) = _
    rw [hp_S_new, if_pos hn.symm]
  · simp [lx, hp_R_sI, hp_R_sR, hn]
  · simp [lx, hp_I_sI]
theorem LF_sx {j : Nat} {h g : ha_H} (H : LF j h) (a : sx h g j) (b : sx h g (j + 1)) : LF j g := by
  obtain ⟨h1, h2, h3, h4⟩ := H
  exact ⟨by rw [a.2.2]; exact h1, by rw [b.2.2]; exact h2, by rw [a.2.1]; exact h3, by rw [a.1]; exact h4⟩
def NF (g : ha_H) : Prop := hp_S g 2 = .inr 1 ∧ hp_S g 3 = .inl (2, 60) ∧ hp_R g 2 0 = some 3 ∧ hp_I g 2 1 = nI 0
def nx (h : ha_H) (j : Nat) : ha_H := hp_sI (hp_sR (hp_new h (.inl (2, 60))) j 0 (some (hp_n h))) j 1 (nI 0)
theorem n_NF {h : ha_H} (hn : hp_n h = 3) (hs : hp_S h 2 = .inr 1) : hp_n (nx h 2) = 4 ∧ fb 2 h (nx h 2) ∧ NF (nx h 2) := by
  refine ⟨?_, ?_, ?_, ?_, ?_, ?_⟩
  · show hp_n h + 1 = _; omega
  · unfold nx
    exact fb_sI (fb_sR (fb_new (fb_rf 2 h) (by omega)) (by omega)) (by omega)
  · show hp_S (hp_new h (.inl (2, 60))) 2 = _
    rw [hp_S_new, if_neg (by omega)]; exact hs
  · show hp_S (hp_new h (.inl (2, 60))) 3 = _
    rw [hp_S_new, if_pos hn.symm]
  · simp [nx, hp_R_sI, hp_R_sR, hn]
  · simp [nx, hp_I_sI]
theorem NF_sx {h g : ha_H} (H : NF h) (a : sx h g 2) (b : sx h g 3) : NF g := by
  obtain ⟨h1, h2, h3, h4⟩ := H
  exact ⟨by rw [a.2.2]; exact h1, by rw [b.2.2]; exact h2, by rw [a.2.1]; exact h3, by rw [a.1]; exact h4⟩
def CF (i : Nat) (id term : Int32) (nt f : Nat) (g : ha_H) : Prop := (hp_S g i = .inr 4 ∧ hp_S g (i + 1) = .inl (7, 4) ∧ hp_S g (i + 2) = .inl (8, 6)) ∧ (hp_R g i 2 = some nt ∧ hp_R g i 3 = some (i + 1) ∧ hp_R g i 4 = some (i + 2) ∧ hp_R g i 9 = none) ∧ (hp_I g i 0 = id ∧ hp_I g i 1 = term ∧ hp_I g i 5 = nI 0 ∧ hp_I g i 6 = nI 1 ∧ hp_I g i 7 = nI 0 ∧ hp_I g i 8 = nI 0 ∧ hp_I g i 10 = nI 0) ∧ ∀ k, k < f → hp_R g (i + 1) k = some (i + 3 + 2 * k) ∧ KF (i + 3 + 2 * k) g
def CQ (i : Nat) (h : ha_H) (id term : Int32) (nt f : Nat) (g : ha_H) : Prop := hp_n g = i + 3 + 2 * f ∧ fb i h g ∧ CF i id term nt f g
def cx (h : ha_H) (i : Nat) (id term : Int32) (nt : Nat) : ha_H := hp_sR (hp_sI (hp_sI (hp_sI (hp_sR (hp_sI (hp_sI (hp_sI (hp_sI (hp_sR (hp_new (hp_sR (hp_new h (.inl (7, 4))) i 3 (some (hp_n h))) (.inl (8, 6))) i 4 (some (hp_n (hp_sR (hp_new h (.inl (7, 4))) i 3 (some (hp_n h)))))) i 5 (nI 0)) i 6 (nI 1)) i 7 (nI 0)) i 8 (nI 0)) i 9 none) i 10 (nI 0)) i 0 id) i 1 term) i 2 (some nt)
theorem cq_0 {h : ha_H} {i nt : Nat} {id term : Int32} (hn : hp_n h = i + 1) (hs : hp_S h i = .inr 4) : CQ i h id term nt 0 (cx h i id term nt) := by
  refine ⟨?_, ?_, ⟨?_, ?_, ?_⟩, ⟨?_, ?_, ?_, ?_⟩, ⟨?_, ?_, ?_, ?_, ?_, ?_, ?_⟩, fun k hk => by omega⟩
  · show hp_n h + 1 + 1 = _; omega
  · unfold cx
    have en : hp_n (hp_sR (hp_new h (.inl (7, 4))) i 3 (some (hp_n h))) = i + 2 := by show hp_n h + 1 = _; omega
    refine fb_sR (fb_sI (fb_sI (fb_sI (fb_sR (fb_sI (fb_sI (fb_sI (fb_sI (fb_sR (fb_new (fb_sR (fb_new (fb_rf i h) (by omega)) (by omega)) ?_) ?_) ?_) ?_) ?_) ?_) ?_) ?_) ?_) ?_) ?_ <;> omega
  · simp [cx, hp_S_sI, hp_S_sR, hp_S_new, hp_n_sR, hp_n_new, hn, hs]
    omega
  · simp [cx, hp_S_sI, hp_S_sR, hp_S_new, hp_n_sR, hp_n_new, hn]
  · simp [cx, hp_S_sI, hp_S_sR, hp_S_new, hp_n_sR, hp_n_new, hn]
  · simp [cx, hp_R_sR]
  · simp [cx, hp_R_sI, hp_R_sR, hp_R_new, hp_n_sR, hp_n_new, hn]
    omega
  · simp [cx, hp_R_sI, hp_R_sR, hp_n_sR, hp_n_new, hn]
  · simp [cx, hp_R_sI, hp_R_sR]
  · simp [cx, hp_I_sI, hp_I_sR]
  · simp [cx, hp_I_sI, hp_I_sR]
  · simp [cx, hp_I_sI, hp_I_sR]
  · simp [cx, hp_I_sI, hp_I_sR]
  · simp [cx, hp_I_sI, hp_I_sR]
  · simp [cx, hp_I_sI, hp_I_sR]
  · simp [cx, hp_I_sI, hp_I_sR]
theorem CF_sx {i nt f : Nat} {id term : Int32} {h g : ha_H} (H : CF i id term nt f h) (a : ∀ x, i ≤ x → x < i + 3 + 2 * f → sx h g x) : CF i id term nt f g := by
  obtain ⟨⟨h1, h2, h3⟩, ⟨r1, r2, r3, r4⟩, ⟨i1, i2, i3, i4, i5, i6, i7⟩, hk⟩ := H
  have a0 := a i (by omega) (by omega)
  have a1 := a (i + 1) (by omega) (by omega)
  have a2 := a (i + 2) (by omega) (by omega)
  exact ⟨⟨by rw [a0.2.2]; exact h1, by rw [a1.2.2]; exact h2, by rw [a2.2.2]; exact h3⟩, ⟨by rw [a0.2.1]; exact r1, by rw [a0.2.1]; exact r2, by rw [a0.2.1]; exact r3, by rw [a0.2.1]; exact r4⟩, ⟨by rw [a0.1]; exact i1, by rw [a0.1]; exact i2, by rw [a0.1]; exact i3, by rw [a0.1]; exact i4, by rw [a0.1]; exact i5, by rw [a0.1]; exact i6, by rw [a0.1]; exact i7⟩, fun k hf => ⟨by rw [a1.2.1]; exact (hk k hf).1, KF_sx (hk k hf).2 (a _ (by omega) (by omega)) (a _ (by omega) (by omega))⟩⟩
theorem cq_S {i nt f : Nat} {id term : Int32} {h g g2 : ha_H} (H : CQ i h id term nt f g) (q1 : hp_n g2 = i + 3 + 2 * f + 2) (q2 : fb (i + 3 + 2 * f) (hp_new g (.inr 5)) g2) (q3 : KF (i + 3 + 2 * f) g2) : CQ i h id term nt (f + 1) (hp_sR g2 (i + 1) f (some (i + 3 + 2 * f))) := by
  obtain ⟨n1, b1, c1⟩ := H
  have F : fb (i + 3 + 2 * f) g g2 := fb_tr (fb_new (fb_rf _ g) (by omega)) q2 (Nat.le_refl _)
  have c2 : CF i id term nt f g2 := CF_sx c1 (fun x _ hx => F x hx)
  have hb : fb i h g2 := fb_tr b1 F (by omega)
  refine ⟨by show hp_n g2 = _; omega, fb_sR hb (by omega), ?_⟩
  obtain ⟨⟨h1, h2, h3⟩, ⟨r1, r2, r3, r4⟩, ⟨i1, i2, i3, i4, i5, i6, i7⟩, hk⟩ := c2
  have R : ∀ x y, ¬ (x = i + 1 ∧ y = f) → hp_R (hp_sR g2 (i + 1) f (some (i + 3 + 2 * f))) x y = hp_R g2 x y := fun x y z => by rw [hp_R_sR, if_neg z]
  refine ⟨⟨h1, h2, h3⟩, ⟨by rw [R _ _ (by omega)]; exact r1, by rw [R _ _ (by omega)]; exact r2, by rw [R _ _ (by omega)]; exact r3, by rw [R _ _ (by omega)]; exact r4⟩, ⟨i1, i2, i3, i4, i5, i6, i7⟩, fun k hf => ?_⟩
  have S : ∀ x, ¬ x = i + 1 → sx g2 (hp_sR g2 (i + 1) f (some (i + 3 + 2 * f))) x := fun x z => ⟨fun _ => rfl, fun y => R x y (by omega), rfl⟩
  by_cases e : k = f
  · subst e
    exact ⟨by rw [hp_R_sR, if_pos ⟨rfl, rfl⟩], KF_sx q3 (S _ (by omega)) (S _ (by omega))⟩
  · exact ⟨by rw [R _ _ (by omega)]; exact (hk k (by omega)).1, KF_sx (hk k (by omega)).2 (S _ (by omega)) (S _ (by omega))⟩
