def B1 (g : ha_H) : Prop := hp_n g = 4 ∧ hp_S g 1 = .inr 0 ∧ hp_R g 1 0 = some 2 ∧ NF g
def B2 (len : Int32) (g : ha_H) : Prop := hp_n g = 28 ∧ hp_S g 1 = .inr 0 ∧ hp_R g 1 0 = some 2 ∧ hp_R g 1 1 = some 4 ∧ NF g ∧ SF len 2 4 g
theorem b_1 {h g : ha_H} (hn : hp_n h = 2) (h1 : hp_S h 1 = .inr 0) (q1 : hp_n g = 4) (q2 : fb 2 (hp_new h (.inr 1)) g) (q3 : NF g) : B1 (hp_sR g 1 0 (some 2)) := by
  have S : ∀ x, ¬ x = 1 → sx g (hp_sR g 1 0 (some 2)) x := fun x z => ⟨fun _ => rfl, fun y => by rw [hp_R_sR, if_neg (by omega)], rfl⟩
  refine ⟨q1, ?_, by rw [hp_R_sR, if_pos ⟨rfl, rfl⟩], NF_sx q3 (S 2 (by omega)) (S 3 (by omega))⟩
  show hp_S g 1 = _
  rw [(q2 1 (by omega)).2.2, hp_S_new, if_neg (by omega)]; exact h1
theorem b_2 {len : Int32} {h g : ha_H} (H : B1 h) (q : SQ (hp_new h (.inr 2)) len 2 4 g) : B2 len (hp_sR g 1 1 (some 4)) := by
  obtain ⟨n1, s1, r1, hN⟩ := H
  obtain ⟨q1, q2, q3⟩ := q
  have F : fb 4 h g := fb_tr (fb_new (fb_rf _ h) (by omega)) q2 (Nat.le_refl _)
  have S : ∀ x, ¬ x = 1 → sx g (hp_sR g 1 1 (some 4)) x := fun x z => ⟨fun _ => rfl, fun y => by rw [hp_R_sR, if_neg (by omega)], rfl⟩
  have hN' : NF g := NF_sx hN (F 2 (by omega)) (F 3 (by omega))
  refine ⟨q1, ?_, ?_, by rw [hp_R_sR, if_pos ⟨rfl, rfl⟩], NF_sx hN' (S 2 (by omega)) (S 3 (by omega)), SF_sx q3 (fun x _ _ => S x (by omega))⟩
  · show hp_S g 1 = _
    rw [(F 1 (by omega)).2.2]; exact s1
  · rw [hp_R_sR, if_neg (by omega), (F 1 (by omega)).2.1]; exact r1
def f_L (x : Int32) : Nat := if x < nI 8 then 8 else if nI 200 < x then 200 else x.toNatClampNeg
theorem L_b (x : Int32) : 8 ≤ f_L x ∧ f_L x ≤ 200 := by
  unfold f_L
  by_cases a : x < nI 8
  · rw [if_pos a]; omega
  · by_cases b : nI 200 < x
    · rw [if_neg a, if_pos b]; omega
    · rw [if_neg a, if_neg b]
      obtain ⟨j, hj, rfl⟩ := nI_of (x := x) (fun z => a (Int32.lt_trans z (by decide)))
      rw [nI_clamp hj]
      refine ⟨Nat.le_of_not_lt (fun z => a (nI_lt z (by omega))), Nat.le_of_not_lt (fun z => b (nI_lt z hj))⟩
theorem L_m (x : Int32) : (if x < nI 8 then nI 8 else if nI 200 < x then nI 200 else x) = nI (f_L x) := by
  unfold f_L
  by_cases a : x < nI 8
  · rw [if_pos a, if_pos a]
  · by_cases b : nI 200 < x
    · rw [if_neg a, if_neg a, if_pos b, if_pos b]
    · rw [if_neg a, if_neg a, if_neg b, if_neg b]
      obtain ⟨j, hj, rfl⟩ := nI_of (x := x) (fun z => a (Int32.lt_trans z (by decide)))
      rw [nI_clamp hj]
theorem L_c (x : Int32) : (if nI 8 < (if x < nI 200 then x else nI 200) then (if x < nI 200 then x else nI 200) else nI 8) = nI (f_L x) := by
  rw [← L_m x]
  by_cases a : x < nI 200
  · rw [if_pos a]
    by_cases b : nI 8 < x
    · rw [if_pos b, if_neg (fun z => Int32.lt_irrefl (Int32.lt_trans z b)), if_neg (fun z => Int32.lt_irrefl (Int32.lt_trans z a))]
    · rw [if_neg b]
      by_cases c : x < nI 8
      · rw [if_pos c]
      · rw [if_neg c, if_neg (fun z => Int32.lt_irrefl (Int32.lt_trans z a))]
        exact Int32.le_antisymm (Int32.not_lt.mp c) (Int32.not_lt.mp b)
  · rw [if_neg a, if_pos (by decide)]
    have c : ¬ x < nI 8 := fun z => a (Int32.lt_trans z (by decide))
    rw [if_neg c]
    by_cases b : nI 200 < x
    · rw [if_pos b]
    · rw [if_neg b]
      exact Int32.le_antisymm (Int32.not_lt.mp a) (Int32.not_lt.mp b)
