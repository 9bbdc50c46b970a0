theorem cr_1_0 {L : Nat} {n : List ab_M} {su : Bool} {sn : Int32} {sg : Bool} {se : Int32} {pg : Nat → Nat → Int32} {md : Nat → Nat → Nat} {en : Nat → Nat → Int32} {sd : Nat → Option ab_M} {ln : Nat → List ab_M} {C : Nat → ab_C} {h : ha_H} (H : CV L n su sn sg se pg md en sd ln C h) : hp_R h 1 0 = some 2 := cs_r H (Or.inl (by omega))
theorem cr_1_1 {L : Nat} {n : List ab_M} {su : Bool} {sn : Int32} {sg : Bool} {se : Int32} {pg : Nat → Nat → Int32} {md : Nat → Nat → Nat} {en : Nat → Nat → Int32} {sd : Nat → Option ab_M} {ln : Nat → List ab_M} {C : Nat → ab_C} {h : ha_H} (H : CV L n su sn sg se pg md en sd ln C h) : hp_R h 1 1 = some 4 := cs_r H (Or.inr (Or.inl (by omega)))
theorem cr_1_2 {L : Nat} {n : List ab_M} {su : Bool} {sn : Int32} {sg : Bool} {se : Int32} {pg : Nat → Nat → Int32} {md : Nat → Nat → Nat} {en : Nat → Nat → Int32} {sd : Nat → Option ab_M} {ln : Nat → List ab_M} {C : Nat → ab_C} {h : ha_H} (H : CV L n su sn sg se pg md en sd ln C h) : hp_R h 1 2 = some 28 := cs_r H (Or.inr (Or.inr (Or.inl (by omega))))
theorem cr_2_0 {L : Nat} {n : List ab_M} {su : Bool} {sn : Int32} {sg : Bool} {se : Int32} {pg : Nat → Nat → Int32} {md : Nat → Nat → Nat} {en : Nat → Nat → Int32} {sd : Nat → Option ab_M} {ln : Nat → List ab_M} {C : Nat → ab_C} {h : ha_H} (H : CV L n su sn sg se pg md en sd ln C h) : hp_R h 2 0 = some 3 := cs_r H (Or.inr (Or.inr (Or.inr (Or.inl (by omega)))))
theorem cr_4_0 {L : Nat} {n : List ab_M} {su : Bool} {sn : Int32} {sg : Bool} {se : Int32} {pg : Nat → Nat → Int32} {md : Nat → Nat → Nat} {en : Nat → Nat → Int32} {sd : Nat → Option ab_M} {ln : Nat → List ab_M} {C : Nat → ab_C} {h : ha_H} (H : CV L n su sn sg se pg md en sd ln C h) : hp_R h 4 0 = some 2 := cs_r H (Or.inr (Or.inr (Or.inr (Or.inr (Or.inl (by omega))))))
theorem cr_4_2 {L : Nat} {n : List ab_M} {su : Bool} {sn : Int32} {sg : Bool} {se : Int32} {pg : Nat → Nat → Int32} {md : Nat → Nat → Nat} {en : Nat → Nat → Int32} {sd : Nat → Option ab_M} {ln : Nat → List ab_M} {C : Nat → ab_C} {h : ha_H} (H : CV L n su sn sg se pg md en sd ln C h) : hp_R h 4 2 = some 5 := cs_r H (Or.inr (Or.inr (Or.inr (Or.inr (Or.inr (Or.inl (by omega)))))))
theorem cr_4_3 {L : Nat} {n : List ab_M} {su : Bool} {sn : Int32} {sg : Bool} {se : Int32} {pg : Nat → Nat → Int32} {md : Nat → Nat → Nat} {en : Nat → Nat → Int32} {sd : Nat → Option ab_M} {ln : Nat → List ab_M} {C : Nat → ab_C} {h : ha_H} (H : CV L n su sn sg se pg md en sd ln C h) : hp_R h 4 3 = some 10 := cs_r H (Or.inr (Or.inr (Or.inr (Or.inr (Or.inr (Or.inr (Or.inl (by omega))))))))
theorem cr_4_4 {L : Nat} {n : List ab_M} {su : Bool} {sn : Int32} {sg : Bool} {se : Int32} {pg : Nat → Nat → Int32} {md : Nat → Nat → Nat} {en : Nat → Nat → Int32} {sd : Nat → Option ab_M} {ln : Nat → List ab_M} {C : Nat → ab_C} {h : ha_H} (H : CV L n su sn sg se pg md en sd ln C h) : hp_R h 4 4 = some 11 := cs_r H (Or.inr (Or.inr (Or.inr (Or.inr (Or.inr (Or.inr (Or.inr (Or.inl (by omega)))))))))
theorem cr_4_5 {L : Nat} {n : List ab_M} {su : Bool} {sn : Int32} {sg : Bool} {se : Int32} {pg : Nat → Nat → Int32} {md : Nat → Nat → Nat} {en : Nat → Nat → Int32} {sd : Nat → Option ab_M} {ln : Nat → List ab_M} {C : Nat → ab_C} {h : ha_H} (H : CV L n su sn sg se pg md en sd ln C h) : hp_R h 4 5 = some 15 := cs_r H (Or.inr (Or.inr (Or.inr (Or.inr (Or.inr (Or.inr (Or.inr (Or.inr (Or.inl (by omega))))))))))
theorem cr_4_6 {L : Nat} {n : List ab_M} {su : Bool} {sn : Int32} {sg : Bool} {se : Int32} {pg : Nat → Nat → Int32} {md : Nat → Nat → Nat} {en : Nat → Nat → Int32} {sd : Nat → Option ab_M} {ln : Nat → List ab_M} {C : Nat → ab_C} {h : ha_H} (H : CV L n su sn sg se pg md en sd ln C h) : hp_R h 4 6 = some 19 := cs_r H (Or.inr (Or.inr (Or.inr (Or.inr (Or.inr (Or.inr (Or.inr (Or.inr (Or.inr (Or.inl (by omega)))))))))))
theorem cr_5 {L : Nat} {n : List ab_M} {su : Bool} {sn : Int32} {sg : Bool} {se : Int32} {pg : Nat → Nat → Int32} {md : Nat → Nat → Nat} {en : Nat → Nat → Int32} {sd : Nat → Option ab_M} {ln : Nat → List ab_M} {C : Nat → ab_C} {h : ha_H} (H : CV L n su sn sg se pg md en sd ln C h) {f : Nat} (hf : f < 4) : hp_R h 5 f = some (6 + f) := cs_r H (Or.inr (Or.inr (Or.inr (Or.inr (Or.inr (Or.inr (Or.inr (Or.inr (Or.inr (Or.inr (Or.inl (by omega))))))))))))
theorem cr_11 {L : Nat} {n : List ab_M} {su : Bool} {sn : Int32} {sg : Bool} {se : Int32} {pg : Nat → Nat → Int32} {md : Nat → Nat → Nat} {en : Nat → Nat → Int32} {sd : Nat → Option ab_M} {ln : Nat → List ab_M} {C : Nat → ab_C} {h : ha_H} (H : CV L n su sn sg se pg md en sd ln C h) {f : Nat} (hf : f < 3) : hp_R h 11 f = some (12 + f) := cs_r H (Or.inr (Or.inr (Or.inr (Or.inr (Or.inr (Or.inr (Or.inr (Or.inr (Or.inr (Or.inr (Or.inr (Or.inl (by omega)))))))))))))
theorem cr_15 {L : Nat} {n : List ab_M} {su : Bool} {sn : Int32} {sg : Bool} {se : Int32} {pg : Nat → Nat → Int32} {md : Nat → Nat → Nat} {en : Nat → Nat → Int32} {sd : Nat → Option ab_M} {ln : Nat → List ab_M} {C : Nat → ab_C} {h : ha_H} (H : CV L n su sn sg se pg md en sd ln C h) {f : Nat} (hf : f < 3) : hp_R h 15 f = some (16 + f) := cs_r H (Or.inr (Or.inr (Or.inr (Or.inr (Or.inr (Or.inr (Or.inr (Or.inr (Or.inr (Or.inr (Or.inr (Or.inr (Or.inl (by omega))))))))))))))
theorem cr_19 {L : Nat} {n : List ab_M} {su : Bool} {sn : Int32} {sg : Bool} {se : Int32} {pg : Nat → Nat → Int32} {md : Nat → Nat → Nat} {en : Nat → Nat → Int32} {sd : Nat → Option ab_M} {ln : Nat → List ab_M} {C : Nat → ab_C} {h : ha_H} (H : CV L n su sn sg se pg md en sd ln C h) {f : Nat} (hf : f < 4) : hp_R h 19 f = some (20 + 2 * f) := cs_r H (Or.inr (Or.inr (Or.inr (Or.inr (Or.inr (Or.inr (Or.inr (Or.inr (Or.inr (Or.inr (Or.inr (Or.inr (Or.inr (Or.inl (by omega)))))))))))))))
theorem cr_28 {L : Nat} {n : List ab_M} {su : Bool} {sn : Int32} {sg : Bool} {se : Int32} {pg : Nat → Nat → Int32} {md : Nat → Nat → Nat} {en : Nat → Nat → Int32} {sd : Nat → Option ab_M} {ln : Nat → List ab_M} {C : Nat → ab_C} {h : ha_H} (H : CV L n su sn sg se pg md en sd ln C h) {f : Nat} (hf : f < 3) : hp_R h 28 f = some (29 + 11 * f) := cs_r H (Or.inr (Or.inr (Or.inr (Or.inr (Or.inr (Or.inr (Or.inr (Or.inr (Or.inr (Or.inr (Or.inr (Or.inr (Or.inr (Or.inr (Or.inr (Or.inl (by omega)))))))))))))))))
theorem cr_Q {L : Nat} {n : List ab_M} {su : Bool} {sn : Int32} {sg : Bool} {se : Int32} {pg : Nat → Nat → Int32} {md : Nat → Nat → Nat} {en : Nat → Nat → Int32} {sd : Nat → Option ab_M} {ln : Nat → List ab_M} {C : Nat → ab_C} {h : ha_H} (H : CV L n su sn sg se pg md en sd ln C h) {f : Nat} (hf : f < 4) : hp_R h (20 + 2 * f) 0 = some (21 + 2 * f) := cs_r H (Or.inr (Or.inr (Or.inr (Or.inr (Or.inr (Or.inr (Or.inr (Or.inr (Or.inr (Or.inr (Or.inr (Or.inr (Or.inr (Or.inr (Or.inl (by omega))))))))))))))))
theorem cr_C2 {L : Nat} {n : List ab_M} {su : Bool} {sn : Int32} {sg : Bool} {se : Int32} {pg : Nat → Nat → Int32} {md : Nat → Nat → Nat} {en : Nat → Nat → Int32} {sd : Nat → Option ab_M} {ln : Nat → List ab_M} {C : Nat → ab_C} {h : ha_H} (H : CV L n su sn sg se pg md en sd ln C h) {c : Nat} (hl : c < 3) : hp_R h (29 + 11 * c) 2 = some 2 := cs_r H (Or.inr (Or.inr (Or.inr (Or.inr (Or.inr (Or.inr (Or.inr (Or.inr (Or.inr (Or.inr (Or.inr (Or.inr (Or.inr (Or.inr (Or.inr (Or.inr (Or.inl (by omega))))))))))))))))))
theorem cr_C3 {L : Nat} {n : List ab_M} {su : Bool} {sn : Int32} {sg : Bool} {se : Int32} {pg : Nat → Nat → Int32} {md : Nat → Nat → Nat} {en : Nat → Nat → Int32} {sd : Nat → Option ab_M} {ln : Nat → List ab_M} {C : Nat → ab_C} {h : ha_H} (H : CV L n su sn sg se pg md en sd ln C h) {c : Nat} (hl : c < 3) : hp_R h (29 + 11 * c) 3 = some (30 + 11 * c) := cs_r H (Or.inr (Or.inr (Or.inr (Or.inr (Or.inr (Or.inr (Or.inr (Or.inr (Or.inr (Or.inr (Or.inr (Or.inr (Or.inr (Or.inr (Or.inr (Or.inr (Or.inl (by omega))))))))))))))))))
theorem cr_C4 {L : Nat} {n : List ab_M} {su : Bool} {sn : Int32} {sg : Bool} {se : Int32} {pg : Nat → Nat → Int32} {md : Nat → Nat → Nat} {en : Nat → Nat → Int32} {sd : Nat → Option ab_M} {ln : Nat → List ab_M} {C : Nat → ab_C} {h : ha_H} (H : CV L n su sn sg se pg md en sd ln C h) {c : Nat} (hl : c < 3) : hp_R h (29 + 11 * c) 4 = some (31 + 11 * c) := cs_r H (Or.inr (Or.inr (Or.inr (Or.inr (Or.inr (Or.inr (Or.inr (Or.inr (Or.inr (Or.inr (Or.inr (Or.inr (Or.inr (Or.inr (Or.inr (Or.inr (Or.inl (by omega))))))))))))))))))
theorem cr_cp {L : Nat} {n : List ab_M} {su : Bool} {sn : Int32} {sg : Bool} {se : Int32} {pg : Nat → Nat → Int32} {md : Nat → Nat → Nat} {en : Nat → Nat → Int32} {sd : Nat → Option ab_M} {ln : Nat → List ab_M} {C : Nat → ab_C} {h : ha_H} (H : CV L n su sn sg se pg md en sd ln C h) {c f : Nat} (hl : c < 3) (hf : f < 4) : hp_R h (30 + 11 * c) f = some (32 + 11 * c + 2 * f) := cs_r H (Or.inr (Or.inr (Or.inr (Or.inr (Or.inr (Or.inr (Or.inr (Or.inr (Or.inr (Or.inr (Or.inr (Or.inr (Or.inr (Or.inr (Or.inr (Or.inr (Or.inr (Or.inl (by omega)))))))))))))))))))
theorem cr_K {L : Nat} {n : List ab_M} {su : Bool} {sn : Int32} {sg : Bool} {se : Int32} {pg : Nat → Nat → Int32} {md : Nat → Nat → Nat} {en : Nat → Nat → Int32} {sd : Nat → Option ab_M} {ln : Nat → List ab_M} {C : Nat → ab_C} {h : ha_H} (H : CV L n su sn sg se pg md en sd ln C h) {c f : Nat} (hl : c < 3) (hf : f < 4) : hp_R h (32 + 11 * c + 2 * f) 0 = some (33 + 11 * c + 2 * f) := cs_r H (Or.inr (Or.inr (Or.inr (Or.inr (Or.inr (Or.inr (Or.inr (Or.inr (Or.inr (Or.inr (Or.inr (Or.inr (Or.inr (Or.inr (Or.inr (Or.inr (Or.inr (Or.inr ((by rcases (by omega : c = 0 ∨ c = 1 ∨ c = 2) with rfl | rfl | rfl <;> omega))))))))))))))))))))
theorem ok_sI {h : ha_H} {A k x : Nat} {v : Int32} (H : hp_ok h x) : hp_ok (hp_sI h A k v) x := ⟨H.1, by rw [hp_n_sI]; exact H.2⟩
theorem ok_sR {h : ha_H} {A k x : Nat} {v : Option Nat} (H : hp_ok h x) : hp_ok (hp_sR h A k v) x := ⟨H.1, by rw [hp_n_sR]; exact H.2⟩
theorem sh_sI {h : ha_H} {A k x : Nat} {v : Int32} {s : (Nat × Nat) ⊕ Nat} (H : hp_S h x = s) : hp_S (hp_sI h A k v) x = s := by rw [hp_S_sI]; exact H
theorem sh_sR {h : ha_H} {A k x : Nat} {v : Option Nat} {s : (Nat × Nat) ⊕ Nat} (H : hp_S h x = s) : hp_S (hp_sR h A k v) x = s := by rw [hp_S_sR]; exact H
theorem ok_nw {h : ha_H} {s : (Nat × Nat) ⊕ Nat} (q : 0 < hp_n h) : hp_ok (hp_new h s) (hp_n h) := ⟨q, by rw [hp_n_new]; omega⟩
theorem sh_nw {h : ha_H} {s : (Nat × Nat) ⊕ Nat} : hp_S (hp_new h s) (hp_n h) = s := by rw [hp_S_new, if_pos rfl]
theorem cm_g {h : ha_H} {i : Nat} {m : ab_M} (H : cv_M h i m) (k : 8 ≤ am_k m) : hp_S h i = .inr 6 := by
  rcases H.2.2.2 with q | q | q
  · exact absurd q.1.2 (by omega)
  · exact absurd q.1.2 (by omega)
  · exact q.2
theorem cm_k8 {h : ha_H} {i : Nat} {m : ab_M} (H : cv_M h i m) : 1 ≤ am_k m ∧ am_k m ≤ 8 := by
  rcases H.2.2.2 with q | q | q
  · have := q.1; omega
  · have := q.1; omega
  · have := q.1; omega
def hp_f4 (h : ha_H) (a : Nat) (v : Int32) : ha_H := hp_sI (hp_sI (hp_sI (hp_sI h a 0 v) a 1 v) a 2 v) a 3 v
def hm_4 (h : ha_H) (i : Nat) (k c f x : Int32) : ha_H := hp_sI (hp_sI (hp_sI (hp_sI h i 0 k) i 1 c) i 2 f) i 3 x
theorem ok_m4 {h : ha_H} {i a : Nat} {k c f x : Int32} (H : hp_ok h a) : hp_ok (hm_4 h i k c f x) a := ok_sI (ok_sI (ok_sI (ok_sI H)))
theorem sh_m4 {h : ha_H} {i a : Nat} {k c f x : Int32} {s : (Nat × Nat) ⊕ Nat} (H : hp_S h a = s) : hp_S (hm_4 h i k c f x) a = s := sh_sI (sh_sI (sh_sI (sh_sI H)))
theorem gx_m4 {g h : ha_H} {i : Nat} {k c f x : Int32} (q : hp_gr g h) (hA : hp_n g ≤ i) : hp_gr g (hm_4 h i k c f x) := gx_sI (gx_sI (gx_sI (gx_sI q hA) hA) hA) hA
theorem cA_fill (G : mt_G) (h : ha_H) {a : Nat} (ho : hp_ok h a) (hs : hp_S h a = .inl (0, 4)) (v : Int32) : rn_M G xA_fill (0, 0, 0) [.inr (some a), .inl v] h (rn_v (fun h' => hp_f4 h a v = h')) := by
  refine rn_of (by decide +kernel) (Nat.le_of_ble_eq_true rfl) ?_
  show rn_W G xA_fill (0, 0, 0) 0 0 0 [some (.inr (some a)), some (.inl v), none, none] [] h _
  refine rw_iconst (pc := 0) (x := nI 0) dA_fill_0 (by decide) ?_
  refine rw_istore_n (pc := 1) (L' := [some (.inr (some a)), some (.inl v), some (.inl (nI 0)), none]) dA_fill_1 (by decide) rfl ?_
  refine rw_aload_n (pc := 2) dA_fill_2 rfl ?_
  refine rw_alen (pc := 3) (x := nI 4) (t := 0) rfl dA_fill_3 ho hs rfl ?_
  refine rw_istore_n (pc := 4) (L' := [some (.inr (some a)), some (.inl v), some (.inl (nI 0)), some (.inl (nI 4))]) dA_fill_4 (by decide) rfl ?_
  refine rw_iload_n (pc := 5) dA_fill_5 rfl ?_
  refine rw_iload_n (pc := 6) dA_fill_6 rfl ?_
  refine rw_icmpge (pc := 7) dA_fill_7 (tgt := 20) rfl (fun c1 => ?_) (fun c1 => ?_)
  · skip
    replace c1 : 4 ≤ 0 := (nI_leI (a := 4) (b := 0) (by omega) (by omega)).mp c1
    exact absurd c1 (by decide)
  · skip
    replace c1 : ¬ (4 ≤ 0) := fun qz => c1 ((nI_leI (a := 4) (b := 0) (by omega) (by omega)).mpr qz)
    refine rw_aload_n (pc := 10) dA_fill_10 rfl ?_
    refine rw_iload_n (pc := 11) dA_fill_11 rfl ?_
    refine rw_iload_n (pc := 12) dA_fill_12 rfl ?_
    refine rw_iast (pc := 13) (i := 0) dA_fill_13 ho hs (ix_nI (by omega) (by decide)) ?_
    replace ho := ok_sI (A := a) (k := 0) (v := v) ho
    replace hs := sh_sI (A := a) (k := 0) (v := v) hs
    refine rw_iinc (pc := 14) (x := nI 0) (y := nI 1) (L' := [some (.inr (some a)), some (.inl v), some (.inl (nI 1)), some (.inl (nI 4))]) dA_fill_14 (by decide) rfl (by decide) rfl ?_
    refine rw_goto (pc := 17) dA_fill_17 (tgt := 5) rfl ?_
    refine rw_iload_n (pc := 5) dA_fill_5 rfl ?_
    refine rw_iload_n (pc := 6) dA_fill_6 rfl ?_
    refine rw_icmpge (pc := 7) dA_fill_7 (tgt := 20) rfl (fun c2 => ?_) (fun c2 => ?_)
    · skip
      replace c2 : 4 ≤ 1 := (nI_leI (a := 4) (b := 1) (by omega) (by omega)).mp c2
      exact absurd c2 (by decide)
    · skip
      replace c2 : ¬ (4 ≤ 1) := fun qz => c2 ((nI_leI (a := 4) (b := 1) (by omega) (by omega)).mpr qz)
      refine rw_aload_n (pc := 10) dA_fill_10 rfl ?_
      refine rw_iload_n (pc := 11) dA_fill_11 rfl ?_
      refine rw_iload_n (pc := 12) dA_fill_12 rfl ?_
      refine rw_iast (pc := 13) (i := 1) dA_fill_13 ho hs (ix_nI (by omega) (by decide)) ?_
      replace ho := ok_sI (A := a) (k := 1) (v := v) ho
      replace hs := sh_sI (A := a) (k := 1) (v := v) hs
      refine rw_iinc (pc := 14) (x := nI 1) (y := nI 2) (L' := [some (.inr (some a)), some (.inl v), some (.inl (nI 2)), some (.inl (nI 4))]) dA_fill_14 (by decide) rfl (by decide) rfl ?_
      refine rw_goto (pc := 17) dA_fill_17 (tgt := 5) rfl ?_
      refine rw_iload_n (pc := 5) dA_fill_5 rfl ?_
      refine rw_iload_n (pc := 6) dA_fill_6 rfl ?_
      refine rw_icmpge (pc := 7) dA_fill_7 (tgt := 20) rfl (fun c3 => ?_) (fun c3 => ?_)
      · skip
        replace c3 : 4 ≤ 2 := (nI_leI (a := 4) (b := 2) (by omega) (by omega)).mp c3
        exact absurd c3 (by decide)
      · skip
        replace c3 : ¬ (4 ≤ 2) := fun qz => c3 ((nI_leI (a := 4) (b := 2) (by omega) (by omega)).mpr qz)
        refine rw_aload_n (pc := 10) dA_fill_10 rfl ?_
        refine rw_iload_n (pc := 11) dA_fill_11 rfl ?_
        refine rw_iload_n (pc := 12) dA_fill_12 rfl ?_
        refine rw_iast (pc := 13) (i := 2) dA_fill_13 ho hs (ix_nI (by omega) (by decide)) ?_
        replace ho := ok_sI (A := a) (k := 2) (v := v) ho
        replace hs := sh_sI (A := a) (k := 2) (v := v) hs
        refine rw_iinc (pc := 14) (x := nI 2) (y := nI 3) (L' := [some (.inr (some a)), some (.inl v), some (.inl (nI 3)), some (.inl (nI 4))]) dA_fill_14 (by decide) rfl (by decide) rfl ?_
        refine rw_goto (pc := 17) dA_fill_17 (tgt := 5) rfl ?_
        refine rw_iload_n (pc := 5) dA_fill_5 rfl ?_
        refine rw_iload_n (pc := 6) dA_fill_6 rfl ?_
        refine rw_icmpge (pc := 7) dA_fill_7 (tgt := 20) rfl (fun c4 => ?_) (fun c4 => ?_)
        · skip
          replace c4 : 4 ≤ 3 := (nI_leI (a := 4) (b := 3) (by omega) (by omega)).mp c4
          exact absurd c4 (by decide)
        · skip
          replace c4 : ¬ (4 ≤ 3) := fun qz => c4 ((nI_leI (a := 4) (b := 3) (by omega) (by omega)).mpr qz)
          refine rw_aload_n (pc := 10) dA_fill_10 rfl ?_
          refine rw_iload_n (pc := 11) dA_fill_11 rfl ?_
          refine rw_iload_n (pc := 12) dA_fill_12 rfl ?_
          refine rw_iast (pc := 13) (i := 3) dA_fill_13 ho hs (ix_nI (by omega) (by decide)) ?_
          replace ho := ok_sI (A := a) (k := 3) (v := v) ho
          replace hs := sh_sI (A := a) (k := 3) (v := v) hs
          refine rw_iinc (pc := 14) (x := nI 3) (y := nI 4) (L' := [some (.inr (some a)), some (.inl v), some (.inl (nI 4)), some (.inl (nI 4))]) dA_fill_14 (by decide) rfl (by decide) rfl ?_
          refine rw_goto (pc := 17) dA_fill_17 (tgt := 5) rfl ?_
          refine rw_iload_n (pc := 5) dA_fill_5 rfl ?_
          refine rw_iload_n (pc := 6) dA_fill_6 rfl ?_
          refine rw_icmpge (pc := 7) dA_fill_7 (tgt := 20) rfl (fun c5 => ?_) (fun c5 => ?_)
          · skip
            replace c5 : 4 ≤ 4 := (nI_leI (a := 4) (b := 4) (by omega) (by omega)).mp c5
            exact rw_vret (pc := 20) dA_fill_20 rfl ⟨rfl, rfl⟩
          · skip
            replace c5 : ¬ (4 ≤ 4) := fun qz => c5 ((nI_leI (a := 4) (b := 4) (by omega) (by omega)).mpr qz)
            exact absurd (by decide) c5
theorem cG_initG (G : mt_G) (h : ha_H) {i : Nat} (ho : hp_ok h i) (hs : hp_S h i = .inr 6) (k c f x : Int32) : rn_M G xG_init (1, 0, 0) [.inr (some i), .inl k, .inl c, .inl f, .inl x] h (rn_v (fun h' => hm_4 h i k c f x = h')) := by
  refine rn_of (by decide +kernel) (Nat.le_of_ble_eq_true rfl) ?_
  show rn_W G xG_init (1, 0, 0) 0 0 0 [some (.inr (some i)), some (.inl k), some (.inl c), some (.inl f), some (.inl x)] [] h _
  refine rw_aload_n (pc := 0) dG_init_0 rfl ?_
  refine rw_objInit (pc := 1) bw_238 bw_21 bw_22 dG_init_1 (Nat.le_of_ble_eq_true rfl) (Nat.le_of_ble_eq_true rfl) ?_
  refine rw_aload_n (pc := 4) dG_init_4 rfl ?_
  refine rw_iload_n (pc := 5) dG_init_5 rfl ?_
  refine rw_putI (pc := 6) pfG_7_G dG_init_6 ho hs ?_
  replace ho := ok_sI (A := i) (k := 0) (v := k) ho
  replace hs := sh_sI (A := i) (k := 0) (v := k) hs
  refine rw_aload_n (pc := 9) dG_init_9 rfl ?_
  refine rw_iload_n (pc := 10) dG_init_10 rfl ?_
  refine rw_putI (pc := 11) pfG_13_G dG_init_11 ho hs ?_
  replace ho := ok_sI (A := i) (k := 1) (v := c) ho
  replace hs := sh_sI (A := i) (k := 1) (v := c) hs
  refine rw_aload_n (pc := 14) dG_init_14 rfl ?_
  refine rw_iload_n (pc := 15) dG_init_15 rfl ?_
  refine rw_putI (pc := 16) pfG_16_G dG_init_16 ho hs ?_
  replace ho := ok_sI (A := i) (k := 2) (v := f) ho
  replace hs := sh_sI (A := i) (k := 2) (v := f) hs
  refine rw_aload_n (pc := 19) dG_init_19 rfl ?_
  refine rw_iload (pc := 20) dG_init_20 rfl ?_
  refine rw_putI (pc := 22) pfG_19_G dG_init_22 ho hs ?_
  replace ho := ok_sI (A := i) (k := 3) (v := x) ho
  replace hs := sh_sI (A := i) (k := 3) (v := x) hs
  exact rw_vret (pc := 25) dG_init_25 rfl ⟨rfl, rfl⟩
theorem cG_initR (G : mt_G) (h : ha_H) {i : Nat} (ho : hp_ok h i) (hs : hp_S h i = .inr 7) (k c f x : Int32) : rn_M G xG_init (1, 0, 0) [.inr (some i), .inl k, .inl c, .inl f, .inl x] h (rn_v (fun h' => hm_4 h i k c f x = h')) := by
  refine rn_of (by decide +kernel) (Nat.le_of_ble_eq_true rfl) ?_
  show rn_W G xG_init (1, 0, 0) 0 0 0 [some (.inr (some i)), some (.inl k), some (.inl c), some (.inl f), some (.inl x)] [] h _
  refine rw_aload_n (pc := 0) dG_init_0 rfl ?_
  refine rw_objInit (pc := 1) bw_238 bw_21 bw_22 dG_init_1 (Nat.le_of_ble_eq_true rfl) (Nat.le_of_ble_eq_true rfl) ?_
  refine rw_aload_n (pc := 4) dG_init_4 rfl ?_
  refine rw_iload_n (pc := 5) dG_init_5 rfl ?_
  refine rw_putI (pc := 6) pfG_7_R dG_init_6 ho hs ?_
  replace ho := ok_sI (A := i) (k := 0) (v := k) ho
  replace hs := sh_sI (A := i) (k := 0) (v := k) hs
  refine rw_aload_n (pc := 9) dG_init_9 rfl ?_
  refine rw_iload_n (pc := 10) dG_init_10 rfl ?_
  refine rw_putI (pc := 11) pfG_13_R dG_init_11 ho hs ?_
  replace ho := ok_sI (A := i) (k := 1) (v := c) ho
  replace hs := sh_sI (A := i) (k := 1) (v := c) hs
  refine rw_aload_n (pc := 14) dG_init_14 rfl ?_
  refine rw_iload_n (pc := 15) dG_init_15 rfl ?_
  refine rw_putI (pc := 16) pfG_16_R dG_init_16 ho hs ?_
  replace ho := ok_sI (A := i) (k := 2) (v := f) ho
  replace hs := sh_sI (A := i) (k := 2) (v := f) hs
  refine rw_aload_n (pc := 19) dG_init_19 rfl ?_
  refine rw_iload (pc := 20) dG_init_20 rfl ?_
  refine rw_putI (pc := 22) pfG_19_R dG_init_22 ho hs ?_
  replace ho := ok_sI (A := i) (k := 3) (v := x) ho
  replace hs := sh_sI (A := i) (k := 3) (v := x) hs
  exact rw_vret (pc := 25) dG_init_25 rfl ⟨rfl, rfl⟩
theorem cG_initP (G : mt_G) (h : ha_H) {i : Nat} (ho : hp_ok h i) (hs : hp_S h i = .inr 8) (k c f x : Int32) : rn_M G xG_init (1, 0, 0) [.inr (some i), .inl k, .inl c, .inl f, .inl x] h (rn_v (fun h' => hm_4 h i k c f x = h')) := by
  refine rn_of (by decide +kernel) (Nat.le_of_ble_eq_true rfl) ?_
  show rn_W G xG_init (1, 0, 0) 0 0 0 [some (.inr (some i)), some (.inl k), some (.inl c), some (.inl f), some (.inl x)] [] h _
  refine rw_aload_n (pc := 0) dG_init_0 rfl ?_
  refine rw_objInit (pc := 1) bw_238 bw_21 bw_22 dG_init_1 (Nat.le_of_ble_eq_true rfl) (Nat.le_of_ble_eq_true rfl) ?_
  refine rw_aload_n (pc := 4) dG_init_4 rfl ?_
  refine rw_iload_n (pc := 5) dG_init_5 rfl ?_
  refine rw_putI (pc := 6) pfG_7_P dG_init_6 ho hs ?_
  replace ho := ok_sI (A := i) (k := 0) (v := k) ho
  replace hs := sh_sI (A := i) (k := 0) (v := k) hs
  refine rw_aload_n (pc := 9) dG_init_9 rfl ?_
  refine rw_iload_n (pc := 10) dG_init_10 rfl ?_
  refine rw_putI (pc := 11) pfG_13_P dG_init_11 ho hs ?_
  replace ho := ok_sI (A := i) (k := 1) (v := c) ho
  replace hs := sh_sI (A := i) (k := 1) (v := c) hs
  refine rw_aload_n (pc := 14) dG_init_14 rfl ?_
  refine rw_iload_n (pc := 15) dG_init_15 rfl ?_
  refine rw_putI (pc := 16) pfG_16_P dG_init_16 ho hs ?_
  replace ho := ok_sI (A := i) (k := 2) (v := f) ho
  replace hs := sh_sI (A := i) (k := 2) (v := f) hs
  refine rw_aload_n (pc := 19) dG_init_19 rfl ?_
  refine rw_iload (pc := 20) dG_init_20 rfl ?_
  refine rw_putI (pc := 22) pfG_19_P dG_init_22 ho hs ?_
  replace ho := ok_sI (A := i) (k := 3) (v := x) ho
  replace hs := sh_sI (A := i) (k := 3) (v := x) hs
  exact rw_vret (pc := 25) dG_init_25 rfl ⟨rfl, rfl⟩
theorem cR_init (G : mt_G) (h : ha_H) {i : Nat} (ho : hp_ok h i) (hs : hp_S h i = .inr 7) (k c f x : Int32) : rn_M G xR_init (2, 0, 0) [.inr (some i), .inl k, .inl c, .inl f, .inl x] h (rn_v (fun h' => hm_4 h i k c f x = h')) := by
  refine rn_of (by decide +kernel) (Nat.le_of_ble_eq_true rfl) ?_
  show rn_W G xR_init (2, 0, 0) 0 0 0 [some (.inr (some i)), some (.inl k), some (.inl c), some (.inl f), some (.inl x)] [] h _
  refine rw_aload_n (pc := 0) dR_init_0 rfl ?_
  refine rw_iload_n (pc := 1) dR_init_1 rfl ?_
  refine rw_iload_n (pc := 2) dR_init_2 rfl ?_
  refine rw_iload_n (pc := 3) dR_init_3 rfl ?_
  refine rw_iload (pc := 4) dR_init_4 rfl ?_
  refine rw_iv (pc := 6) (z' := (1, 0, 0)) (rc' := 0) (rs' := 0) (av := [.inl k, .inl c, .inl f, .inl x]) (st := []) mlR_3 miG_init rfl rfl dR_init_6 (cG_initR G _ ho hs _ _ _ _) rfl rfl (Nat.le_of_ble_eq_true rfl) (by decide) rfl rfl (fun h1 q1 => ?_)
  obtain rfl := q1
  replace ho := ok_m4 (i := i) (k := k) (c := c) (f := f) (x := x) ho
  replace hs := sh_m4 (i := i) (k := k) (c := c) (f := f) (x := x) hs
  exact rw_vret (pc := 9) dR_init_9 rfl ⟨rfl, rfl⟩
theorem cW_init (G : mt_G) (h : ha_H) {i : Nat} (ho : hp_ok h i) (hs : hp_S h i = .inr 9) (f p v : Int32) : rn_M G xW_init (1, 0, 0) [.inr (some i), .inl f, .inl p, .inl v] h (rn_v (fun h' => hp_sI (hp_sI (hp_sI h i 0 f) i 1 p) i 2 v = h')) := by
  refine rn_of (by decide +kernel) (Nat.le_of_ble_eq_true rfl) ?_
  show rn_W G xW_init (1, 0, 0) 0 0 0 [some (.inr (some i)), some (.inl f), some (.inl p), some (.inl v)] [] h _
  refine rw_aload_n (pc := 0) dW_init_0 rfl ?_
  refine rw_objInit (pc := 1) bw_330 bw_21 bw_22 dW_init_1 (Nat.le_of_ble_eq_true rfl) (Nat.le_of_ble_eq_true rfl) ?_
  refine rw_aload_n (pc := 4) dW_init_4 rfl ?_
  refine rw_iload_n (pc := 5) dW_init_5 rfl ?_
  refine rw_putI (pc := 6) pfW_7_W dW_init_6 ho hs ?_
  replace ho := ok_sI (A := i) (k := 0) (v := f) ho
  replace hs := sh_sI (A := i) (k := 0) (v := f) hs
  refine rw_aload_n (pc := 9) dW_init_9 rfl ?_
  refine rw_iload_n (pc := 10) dW_init_10 rfl ?_
  refine rw_putI (pc := 11) pfW_13_W dW_init_11 ho hs ?_
  replace ho := ok_sI (A := i) (k := 1) (v := p) ho
  replace hs := sh_sI (A := i) (k := 1) (v := p) hs
  refine rw_aload_n (pc := 14) dW_init_14 rfl ?_
  refine rw_iload_n (pc := 15) dW_init_15 rfl ?_
  refine rw_putI (pc := 16) pfW_16_W dW_init_16 ho hs ?_
  replace ho := ok_sI (A := i) (k := 2) (v := v) ho
  replace hs := sh_sI (A := i) (k := 2) (v := v) hs
  exact rw_vret (pc := 19) dW_init_19 rfl ⟨rfl, rfl⟩
theorem mk_I {h : ha_H} {i y : Nat} {k c f x : Int32} : hp_I (hm_4 h i k c f x) i y = if y = 3 then x else if y = 2 then f else if y = 1 then c else if y = 0 then k else hp_I h i y := by
  unfold hm_4
  rw [hp_I_sI, hp_I_sI, hp_I_sI, hp_I_sI]
  simp only [true_and]
theorem nw_I {h : ha_H} {s : (Nat × Nat) ⊕ Nat} {y : Nat} : hp_I (hp_new h s) (hp_n h) y = 0 := by rw [hp_I_new, if_pos rfl]
theorem cR_forLease (G : mt_G) (h : ha_H) (h103 : 103 ≤ hp_n h) {c f m : Nat} (hl : c < 3) (hf : f < 4) (x : Int32) (hm2 : m ≤ 2) (b : Bool) : rn_M G xR_forLease (3, 1, 8) [.inl (nI c), .inl (nI f), .inl x, .inl (nI m), .inl (m_bi b)] h (rn_r (fun r h' => hp_gr h h' ∧ ∃ i, r = some i ∧ cv_M h' i (1, c, f, x, m, b, 0, 0, fun _ => 0))) := by
  have hn0 : 0 < hp_n h := by omega
  refine rn_of (by decide +kernel) (Nat.le_of_ble_eq_true rfl) ?_
  show rn_W G xR_forLease (3, 1, 8) 1 8 0 [some (.inl (nI c)), some (.inl (nI f)), some (.inl x), some (.inl (nI m)), some (.inl (m_bi b)), none] [] h _
  refine rw_new (pc := 0) (rc' := 0) (rs' := 0) nnR_9 dR_forLease_0 rfl rfl ?_
  have ho := ok_nw (h := h) (s := .inr 7) hn0
  have hs := sh_nw (h := h) (s := .inr 7)
  have hg := gx_new (s := .inr 7) (gx_rf h)
  refine rw_dup (pc := 3) dR_forLease_3 ?_
  refine rw_iconst (pc := 4) (x := nI 1) dR_forLease_4 (by decide) ?_
  refine rw_iload_n (pc := 5) dR_forLease_5 rfl ?_
  refine rw_iload_n (pc := 6) dR_forLease_6 rfl ?_
  refine rw_iload_n (pc := 7) dR_forLease_7 rfl ?_
  refine rw_iv (pc := 8) (z' := (2, 0, 0)) (rc' := 0) (rs' := 0) (av := [.inl (nI 1), .inl (nI c), .inl (nI f), .inl x]) (st := [.inr (some (hp_n h))]) mlR_11 miR_init rfl rfl dR_forLease_8 (cR_init G _ ho hs _ _ _ _) rfl rfl (Nat.le_of_ble_eq_true rfl) (by decide) rfl rfl (fun h1 q1 => ?_)
  obtain rfl := q1
  replace ho := ok_m4 (i := (hp_n h)) (k := nI 1) (c := nI c) (f := nI f) (x := x) ho
  replace hs := sh_m4 (i := (hp_n h)) (k := nI 1) (c := nI c) (f := nI f) (x := x) hs
  replace hg := gx_m4 (i := (hp_n h)) (k := nI 1) (c := nI c) (f := nI f) (x := x) hg (Nat.le_refl _)
  refine rw_astore (pc := 11) (L' := [some (.inl (nI c)), some (.inl (nI f)), some (.inl x), some (.inl (nI m)), some (.inl (m_bi b)), some (.inr (some (hp_n h)))]) dR_forLease_11 (by decide) rfl ?_
  refine rw_aload (pc := 13) dR_forLease_13 rfl ?_
  refine rw_iload_n (pc := 15) dR_forLease_15 rfl ?_
  refine rw_putI (pc := 16) pfR_12_R dR_forLease_16 ho hs ?_
  replace ho := ok_sI (A := (hp_n h)) (k := 4) (v := nI m) ho
  replace hs := sh_sI (A := (hp_n h)) (k := 4) (v := nI m) hs
  replace hg := gx_sI (A := (hp_n h)) (k := 4) (v := nI m) hg (Nat.le_refl _)
  refine rw_aload (pc := 19) dR_forLease_19 rfl ?_
  refine rw_iload (pc := 21) dR_forLease_21 rfl ?_
  refine rw_putZ (pc := 23) pfR_16_R dR_forLease_23 ho hs (m_bi01 _) ?_
  replace ho := ok_sI (A := (hp_n h)) (k := 5) (v := m_bi b) ho
  replace hs := sh_sI (A := (hp_n h)) (k := 5) (v := m_bi b) hs
  replace hg := gx_sI (A := (hp_n h)) (k := 5) (v := m_bi b) hg (Nat.le_refl _)
  refine rw_aload (pc := 26) dR_forLease_26 rfl ?_
  refine rw_aret (pc := 28) dR_forLease_28 rfl (Or.inl ⟨_, rfl⟩) ⟨_, rfl, hg, _, rfl, ⟨h103, ho.2⟩, ?_, ?_, Or.inl ?_⟩
  · exact ⟨by simp [hp_I_sI, mk_I]; rfl, by simp [hp_I_sI, mk_I]; rfl, by simp [hp_I_sI, mk_I]; rfl, by simp [hp_I_sI, mk_I]; rfl⟩
  · exact ⟨hl, hf⟩
  · exact ⟨⟨Nat.le_of_ble_eq_true rfl, Nat.le_of_ble_eq_true rfl⟩, hs, by simp [hp_I_sI, mk_I]; rfl, hm2, by simp [hp_I_sI, mk_I]; rfl, by simp [hp_I_sI, mk_I, nw_I]; rfl, Nat.le_of_ble_eq_true rfl, by simp [hp_I_sI, mk_I, nw_I]; rfl⟩
theorem cR_forStore (G : mt_G) (h : ha_H) (h103 : 103 ≤ hp_n h) {c : Nat} (hl : c < 3) (x : Int32) {j : Nat} {u : ab_W} (hw : cv_W h j u) : rn_M G xR_forStore (3, 1, 8) [.inl (nI c), .inl x, .inr (some j)] h (rn_r (fun r h' => hp_gr h h' ∧ ∃ i, r = some i ∧ cv_M h' i (2, c, u.1, x, 0, false, u.2.1, u.2.2, fun _ => 0))) := by
  have hn0 : 0 < hp_n h := by omega
  refine rn_of (by decide +kernel) (Nat.le_of_ble_eq_true rfl) ?_
  show rn_W G xR_forStore (3, 1, 8) 1 8 0 [some (.inl (nI c)), some (.inl x), some (.inr (some j)), none] [] h _
  refine rw_new (pc := 0) (rc' := 0) (rs' := 0) nnR_9 dR_forStore_0 rfl rfl ?_
  have ho := ok_nw (h := h) (s := .inr 7) hn0
  have hs := sh_nw (h := h) (s := .inr 7)
  have hg := gx_new (s := .inr 7) (gx_rf h)
  refine rw_dup (pc := 3) dR_forStore_3 ?_
  refine rw_iconst (pc := 4) (x := nI 2) dR_forStore_4 (by decide) ?_
  refine rw_iload_n (pc := 5) dR_forStore_5 rfl ?_
  refine rw_aload_n (pc := 6) dR_forStore_6 rfl ?_
  refine rw_getI (pc := 7) (x := nI u.1) flR_20_W dR_forStore_7 (cw_o (cw_dy hw (le_dy (gx_le hg)))) (cw_dy hw (le_dy (gx_le hg))).2.1 (cw_dy hw (le_dy (gx_le hg))).2.2.1 ?_
  refine rw_iload_n (pc := 10) dR_forStore_10 rfl ?_
  refine rw_iv (pc := 11) (z' := (2, 0, 0)) (rc' := 0) (rs' := 0) (av := [.inl (nI 2), .inl (nI c), .inl (nI u.1), .inl x]) (st := [.inr (some (hp_n h))]) mlR_11 miR_init rfl rfl dR_forStore_11 (cR_init G _ ho hs _ _ _ _) rfl rfl (Nat.le_of_ble_eq_true rfl) (by decide) rfl rfl (fun h1 q1 => ?_)
  obtain rfl := q1
  replace ho := ok_m4 (i := (hp_n h)) (k := nI 2) (c := nI c) (f := nI u.1) (x := x) ho
  replace hs := sh_m4 (i := (hp_n h)) (k := nI 2) (c := nI c) (f := nI u.1) (x := x) hs
  replace hg := gx_m4 (i := (hp_n h)) (k := nI 2) (c := nI c) (f := nI u.1) (x := x) hg (Nat.le_refl _)
  refine rw_astore_n (pc := 14) (L' := [some (.inl (nI c)), some (.inl x), some (.inr (some j)), some (.inr (some (hp_n h)))]) dR_forStore_14 (by decide) rfl ?_
  refine rw_aload_n (pc := 15) dR_forStore_15 rfl ?_
  refine rw_aload_n (pc := 16) dR_forStore_16 rfl ?_
  refine rw_getI (pc := 17) (x := nI u.2.1) flR_25_W dR_forStore_17 (cw_o (cw_dy hw (le_dy (gx_le hg)))) (cw_dy hw (le_dy (gx_le hg))).2.1 (cw_dy hw (le_dy (gx_le hg))).2.2.2.2.1 ?_
  refine rw_putI (pc := 20) pfR_28_R dR_forStore_20 ho hs ?_
  replace ho := ok_sI (A := (hp_n h)) (k := 6) (v := nI u.2.1) ho
  replace hs := sh_sI (A := (hp_n h)) (k := 6) (v := nI u.2.1) hs
  replace hg := gx_sI (A := (hp_n h)) (k := 6) (v := nI u.2.1) hg (Nat.le_refl _)
  refine rw_aload_n (pc := 23) dR_forStore_23 rfl ?_
  refine rw_aload_n (pc := 24) dR_forStore_24 rfl ?_
  refine rw_getI (pc := 25) (x := u.2.2) flR_29_W dR_forStore_25 (cw_o (cw_dy hw (le_dy (gx_le hg)))) (cw_dy hw (le_dy (gx_le hg))).2.1 (cw_dy hw (le_dy (gx_le hg))).2.2.2.2.2.2 ?_
  refine rw_putI (pc := 28) pfR_32_R dR_forStore_28 ho hs ?_
  replace ho := ok_sI (A := (hp_n h)) (k := 7) (v := u.2.2) ho
  replace hs := sh_sI (A := (hp_n h)) (k := 7) (v := u.2.2) hs
  replace hg := gx_sI (A := (hp_n h)) (k := 7) (v := u.2.2) hg (Nat.le_refl _)
  refine rw_aload_n (pc := 31) dR_forStore_31 rfl ?_
  refine rw_aret (pc := 32) dR_forStore_32 rfl (Or.inl ⟨_, rfl⟩) ⟨_, rfl, hg, _, rfl, ⟨h103, ho.2⟩, ?_, ?_, Or.inl ?_⟩
  · exact ⟨by simp [hp_I_sI, mk_I]; rfl, by simp [hp_I_sI, mk_I]; rfl, by simp [hp_I_sI, mk_I]; rfl, by simp [hp_I_sI, mk_I]; rfl⟩
  · exact ⟨hl, hw.2.2.2.1⟩
  · exact ⟨⟨Nat.le_of_ble_eq_true rfl, Nat.le_of_ble_eq_true rfl⟩, hs, by simp [hp_I_sI, mk_I, nw_I]; rfl, Nat.le_of_ble_eq_true rfl, by simp [hp_I_sI, mk_I, nw_I]; rfl, by simp [hp_I_sI, mk_I, nw_I]; rfl, hw.2.2.2.2.2.1, by simp [hp_I_sI, mk_I, nw_I]; rfl⟩
theorem cR_forRelease (G : mt_G) (h : ha_H) (h103 : 103 ≤ hp_n h) {c f : Nat} (hl : c < 3) (hf : f < 4) (x : Int32) : rn_M G xR_forRelease (3, 1, 8) [.inl (nI c), .inl (nI f), .inl x] h (rn_r (fun r h' => hp_gr h h' ∧ ∃ i, r = some i ∧ cv_M h' i (3, c, f, x, 0, false, 0, 0, fun _ => 0))) := by
  have hn0 : 0 < hp_n h := by omega
  refine rn_of (by decide +kernel) (Nat.le_of_ble_eq_true rfl) ?_
  show rn_W G xR_forRelease (3, 1, 8) 1 8 0 [some (.inl (nI c)), some (.inl (nI f)), some (.inl x)] [] h _
  refine rw_new (pc := 0) (rc' := 0) (rs' := 0) nnR_9 dR_forRelease_0 rfl rfl ?_
  have ho := ok_nw (h := h) (s := .inr 7) hn0
  have hs := sh_nw (h := h) (s := .inr 7)
  have hg := gx_new (s := .inr 7) (gx_rf h)
  refine rw_dup (pc := 3) dR_forRelease_3 ?_
  refine rw_iconst (pc := 4) (x := nI 3) dR_forRelease_4 (by decide) ?_
  refine rw_iload_n (pc := 5) dR_forRelease_5 rfl ?_
  refine rw_iload_n (pc := 6) dR_forRelease_6 rfl ?_
  refine rw_iload_n (pc := 7) dR_forRelease_7 rfl ?_
  refine rw_iv (pc := 8) (z' := (2, 0, 0)) (rc' := 0) (rs' := 0) (av := [.inl (nI 3), .inl (nI c), .inl (nI f), .inl x]) (st := [.inr (some (hp_n h))]) mlR_11 miR_init rfl rfl dR_forRelease_8 (cR_init G _ ho hs _ _ _ _) rfl rfl (Nat.le_of_ble_eq_true rfl) (by decide) rfl rfl (fun h1 q1 => ?_)
  obtain rfl := q1
  replace ho := ok_m4 (i := (hp_n h)) (k := nI 3) (c := nI c) (f := nI f) (x := x) ho
  replace hs := sh_m4 (i := (hp_n h)) (k := nI 3) (c := nI c) (f := nI f) (x := x) hs
  replace hg := gx_m4 (i := (hp_n h)) (k := nI 3) (c := nI c) (f := nI f) (x := x) hg (Nat.le_refl _)
  refine rw_aret (pc := 11) dR_forRelease_11 rfl (Or.inl ⟨_, rfl⟩) ⟨_, rfl, hg, _, rfl, ⟨h103, ho.2⟩, ?_, ?_, Or.inl ?_⟩
  · exact ⟨by simp [hp_I_sI, mk_I]; rfl, by simp [hp_I_sI, mk_I]; rfl, by simp [hp_I_sI, mk_I]; rfl, by simp [hp_I_sI, mk_I]; rfl⟩
  · exact ⟨hl, hf⟩
  · exact ⟨⟨Nat.le_of_ble_eq_true rfl, Nat.le_of_ble_eq_true rfl⟩, hs, by simp [hp_I_sI, mk_I, nw_I]; rfl, Nat.le_of_ble_eq_true rfl, by simp [hp_I_sI, mk_I, nw_I]; rfl, by simp [hp_I_sI, mk_I, nw_I]; rfl, Nat.le_of_ble_eq_true rfl, by simp [hp_I_sI, mk_I, nw_I]; rfl⟩
