theorem cK_init (G : mt_G) (h : ha_H) {j : Nat} (hj0 : 0 < j) (hn : hp_n h = j + 1) (hs : hp_S h j = .inr 5) : rn_M G xK_init (1, 1, 4) [.inr (some j)] h (rn_v (fun h' => hp_n h' = j + 2 ∧ fb j h h' ∧ KF j h')) := by
  refine rn_of (by decide +kernel) (Nat.le_of_ble_eq_true rfl) ?_
  show rn_W G xK_init (1, 1, 4) 1 4 0 [some (.inr (some j))] [] h _
  refine rw_aload_n (pc := 0) dK_init_0 rfl ?_
  refine rw_objInit (pc := 1) bw_127 bw_21 bw_22 dK_init_1 (Nat.le_of_ble_eq_true rfl) (Nat.le_of_ble_eq_true rfl) ?_
  refine rw_aload_n (pc := 4) dK_init_4 rfl ?_
  refine rw_iconst (pc := 5) (x := nI 4) dK_init_5 (by decide) ?_
  refine rw_newa (pc := 6) (at' := .int) (t := 0) (N := 4) (rc' := 0) (rs' := 0) rfl (by decide) bw_73 rfl (fun _ _ h => h) dK_init_6 (by decide) (by decide) (by decide) rfl rfl ?_
  refine rw_putR (pc := 8) pfK_9_K (Or.inr ⟨_, rfl⟩) dK_init_8 ⟨by omega, by simp only [hp_n_sI, hp_n_sR, hp_n_new, hp_n_mu]; omega⟩ (by simp only [hp_S_sI, hp_S_sR, hp_S_new, hp_S_mu, hp_n_sI, hp_n_sR, hp_n_new, hp_n_mu, hn]; first | exact hs | (rw [if_neg (by omega)]; exact hs) | (rw [if_neg (by omega), if_neg (by omega)]; exact hs) | (repeat rw [if_neg (by omega)]) <;> exact hs) ?_
  refine rw_aload_n (pc := 11) dK_init_11 rfl ?_
  refine rw_iconst (pc := 12) (x := nI 0) dK_init_12 (by decide) ?_
  refine rw_putI (pc := 13) pfK_15_K dK_init_13 ⟨by omega, by simp only [hp_n_sI, hp_n_sR, hp_n_new, hp_n_mu]; omega⟩ (by simp only [hp_S_sI, hp_S_sR, hp_S_new, hp_S_mu, hp_n_sI, hp_n_sR, hp_n_new, hp_n_mu, hn]; first | exact hs | (rw [if_neg (by omega)]; exact hs) | (rw [if_neg (by omega), if_neg (by omega)]; exact hs) | (repeat rw [if_neg (by omega)]) <;> exact hs) ?_
  refine rw_aload_n (pc := 16) dK_init_16 rfl ?_
  refine rw_iconst (pc := 17) (x := nI 0) dK_init_17 (by decide) ?_
  refine rw_putI (pc := 18) pfK_19_K dK_init_18 ⟨by omega, by simp only [hp_n_sI, hp_n_sR, hp_n_new, hp_n_mu]; omega⟩ (by simp only [hp_S_sI, hp_S_sR, hp_S_new, hp_S_mu, hp_n_sI, hp_n_sR, hp_n_new, hp_n_mu, hn]; first | exact hs | (rw [if_neg (by omega)]; exact hs) | (rw [if_neg (by omega), if_neg (by omega)]; exact hs) | (repeat rw [if_neg (by omega)]) <;> exact hs) ?_
  refine rw_aload_n (pc := 21) dK_init_21 rfl ?_
  refine rw_iconst (pc := 22) (x := nI 0) dK_init_22 (by decide) ?_
  refine rw_putZ (pc := 23) pfK_22_K dK_init_23 ⟨by omega, by simp only [hp_n_sI, hp_n_sR, hp_n_new, hp_n_mu]; omega⟩ (by simp only [hp_S_sI, hp_S_sR, hp_S_new, hp_S_mu, hp_n_sI, hp_n_sR, hp_n_new, hp_n_mu, hn]; first | exact hs | (rw [if_neg (by omega)]; exact hs) | (rw [if_neg (by omega), if_neg (by omega)]; exact hs) | (repeat rw [if_neg (by omega)]) <;> exact hs) (Or.inl rfl) ?_
  refine rw_aload_n (pc := 26) dK_init_26 rfl ?_
  refine rw_iconst (pc := 27) (x := nI 0) dK_init_27 (by decide) ?_
  refine rw_putZ (pc := 28) pfK_26_K dK_init_28 ⟨by omega, by simp only [hp_n_sI, hp_n_sR, hp_n_new, hp_n_mu]; omega⟩ (by simp only [hp_S_sI, hp_S_sR, hp_S_new, hp_S_mu, hp_n_sI, hp_n_sR, hp_n_new, hp_n_mu, hn]; first | exact hs | (rw [if_neg (by omega)]; exact hs) | (rw [if_neg (by omega), if_neg (by omega)]; exact hs) | (repeat rw [if_neg (by omega)]) <;> exact hs) (Or.inl rfl) ?_
  exact rw_vret (pc := 31) dK_init_31 rfl ⟨rfl, k_KF hn hs⟩
theorem cQ_init (G : mt_G) (h : ha_H) {j : Nat} (hj0 : 0 < j) (hn : hp_n h = j + 1) (hs : hp_S h j = .inr 3) : rn_M G xQ_init (1, 1, 3) [.inr (some j)] h (rn_v (fun h' => hp_n h' = j + 2 ∧ fb j h h' ∧ LF j h')) := by
  refine rn_of (by decide +kernel) (Nat.le_of_ble_eq_true rfl) ?_
  show rn_W G xQ_init (1, 1, 3) 1 3 0 [some (.inr (some j))] [] h _
  refine rw_aload_n (pc := 0) dQ_init_0 rfl ?_
  refine rw_objInit (pc := 1) bw_61 bw_21 bw_22 dQ_init_1 (Nat.le_of_ble_eq_true rfl) (Nat.le_of_ble_eq_true rfl) ?_
  refine rw_aload_n (pc := 4) dQ_init_4 rfl ?_
  refine rw_iconst (pc := 5) (x := nI 3) dQ_init_5 (by decide) ?_
  refine rw_newq (pc := 6) (t := 5) (N := 3) (rc' := 0) (rs' := 0) rfl (by decide) bw_62 ao_4 dQ_init_6 (by decide) (by decide) (by decide) rfl rfl ?_
  refine rw_putR (pc := 9) pfQ_11_Q (Or.inr ⟨_, rfl⟩) dQ_init_9 ⟨by omega, by simp only [hp_n_sI, hp_n_sR, hp_n_new, hp_n_mu]; omega⟩ (by simp only [hp_S_sI, hp_S_sR, hp_S_new, hp_S_mu, hp_n_sI, hp_n_sR, hp_n_new, hp_n_mu, hn]; first | exact hs | (rw [if_neg (by omega)]; exact hs) | (rw [if_neg (by omega), if_neg (by omega)]; exact hs) | (repeat rw [if_neg (by omega)]) <;> exact hs) ?_
  refine rw_aload_n (pc := 12) dQ_init_12 rfl ?_
  refine rw_iconst (pc := 13) (x := nI 0) dQ_init_13 (by decide) ?_
  refine rw_putI (pc := 14) pfQ_17_Q dQ_init_14 ⟨by omega, by simp only [hp_n_sI, hp_n_sR, hp_n_new, hp_n_mu]; omega⟩ (by simp only [hp_S_sI, hp_S_sR, hp_S_new, hp_S_mu, hp_n_sI, hp_n_sR, hp_n_new, hp_n_mu, hn]; first | exact hs | (rw [if_neg (by omega)]; exact hs) | (rw [if_neg (by omega), if_neg (by omega)]; exact hs) | (repeat rw [if_neg (by omega)]) <;> exact hs) ?_
  exact rw_vret (pc := 17) dQ_init_17 rfl ⟨rfl, l_LF hn hs⟩
theorem cN_init (G : mt_G) (h : ha_H) (hn : hp_n h = 3) (hs : hp_S h 2 = .inr 1) : rn_M G xN_init (1, 1, 60) [.inr (some 2)] h (rn_v (fun h' => hp_n h' = 4 ∧ fb 2 h h' ∧ NF h')) := by
  refine rn_of (by decide +kernel) (Nat.le_of_ble_eq_true rfl) ?_
  show rn_W G xN_init (1, 1, 60) 1 60 0 [some (.inr (some 2))] [] h _
  refine rw_aload_n (pc := 0) dN_init_0 rfl ?_
  refine rw_objInit (pc := 1) bw_34 bw_21 bw_22 dN_init_1 (Nat.le_of_ble_eq_true rfl) (Nat.le_of_ble_eq_true rfl) ?_
  refine rw_aload_n (pc := 4) dN_init_4 rfl ?_
  refine rw_bipush (pc := 5) (x := nI 60) dN_init_5 (by decide) ?_
  refine rw_newq (pc := 7) (t := 2) (N := 60) (rc' := 0) (rs' := 0) rfl (by decide) bw_35 ao_0 dN_init_7 (by decide) (by decide) (by decide) rfl rfl ?_
  refine rw_putR (pc := 10) pfN_11_N (Or.inr ⟨_, rfl⟩) dN_init_10 ⟨by omega, by simp only [hp_n_sI, hp_n_sR, hp_n_new, hp_n_mu]; omega⟩ (by simp only [hp_S_sI, hp_S_sR, hp_S_new, hp_S_mu, hp_n_sI, hp_n_sR, hp_n_new, hp_n_mu, hn]; first | exact hs | (rw [if_neg (by omega)]; exact hs) | (rw [if_neg (by omega), if_neg (by omega)]; exact hs) | (repeat rw [if_neg (by omega)]) <;> exact hs) ?_
  refine rw_aload_n (pc := 13) dN_init_13 rfl ?_
  refine rw_iconst (pc := 14) (x := nI 0) dN_init_14 (by decide) ?_
  refine rw_putI (pc := 15) pfN_17_N dN_init_15 ⟨by omega, by simp only [hp_n_sI, hp_n_sR, hp_n_new, hp_n_mu]; omega⟩ (by simp only [hp_S_sI, hp_S_sR, hp_S_new, hp_S_mu, hp_n_sI, hp_n_sR, hp_n_new, hp_n_mu, hn]; first | exact hs | (rw [if_neg (by omega)]; exact hs) | (rw [if_neg (by omega), if_neg (by omega)]; exact hs) | (repeat rw [if_neg (by omega)]) <;> exact hs) ?_
  exact rw_vret (pc := 18) dN_init_18 rfl ⟨rfl, n_NF hn hs⟩
theorem cC_init (G : mt_G) (h : ha_H) {i nt : Nat} (hi0 : 0 < i) (hn : hp_n h = i + 1) (hs : hp_S h i = .inr 4) (id tm : Int32) : rn_M G xC_init (2, 10, 46) [.inr (some i), .inl id, .inl tm, .inr (some nt)] h (rn_v (fun h' => CQ i h id tm nt 4 h')) := by
  refine rn_of (by decide +kernel) (Nat.le_of_ble_eq_true rfl) ?_
  show rn_W G xC_init (2, 10, 46) 10 46 0 [some (.inr (some i)), some (.inl id), some (.inl tm), some (.inr (some nt)), none] [] h _
  refine rw_aload_n (pc := 0) dC_init_0 rfl ?_
  refine rw_objInit (pc := 1) bw_118 bw_21 bw_22 dC_init_1 (Nat.le_of_ble_eq_true rfl) (Nat.le_of_ble_eq_true rfl) ?_
  refine rw_aload_n (pc := 4) dC_init_4 rfl ?_
  refine rw_iconst (pc := 5) (x := nI 4) dC_init_5 (by decide) ?_
  refine rw_newq (pc := 6) (t := 7) (N := 4) (rc' := 9) (rs' := 42) rfl (by decide) bw_119 ao_6 dC_init_6 (by decide) (by decide) (by decide) rfl rfl ?_
  refine rw_putR (pc := 9) pfC_11_C (Or.inr ⟨_, rfl⟩) dC_init_9 ⟨by omega, by simp only [hp_n_sI, hp_n_sR, hp_n_new, hp_n_mu]; omega⟩ (by simp only [hp_S_sI, hp_S_sR, hp_S_new, hp_S_mu, hp_n_sI, hp_n_sR, hp_n_new, hp_n_mu, hn]; first | exact hs | (rw [if_neg (by omega)]; exact hs) | (rw [if_neg (by omega), if_neg (by omega)]; exact hs) | (repeat rw [if_neg (by omega)]) <;> exact hs) ?_
  refine rw_aload_n (pc := 12) dC_init_12 rfl ?_
  refine rw_bipush (pc := 13) (x := nI 6) dC_init_13 (by decide) ?_
  refine rw_newq (pc := 15) (t := 8) (N := 6) (rc' := 8) (rs' := 36) rfl (by decide) bw_121 ao_7 dC_init_15 (by decide) (by decide) (by decide) rfl rfl ?_
  refine rw_putR (pc := 18) pfC_19_C (Or.inr ⟨_, rfl⟩) dC_init_18 ⟨by omega, by simp only [hp_n_sI, hp_n_sR, hp_n_new, hp_n_mu]; omega⟩ (by simp only [hp_S_sI, hp_S_sR, hp_S_new, hp_S_mu, hp_n_sI, hp_n_sR, hp_n_new, hp_n_mu, hn]; first | exact hs | (rw [if_neg (by omega)]; exact hs) | (rw [if_neg (by omega), if_neg (by omega)]; exact hs) | (repeat rw [if_neg (by omega)]) <;> exact hs) ?_
  refine rw_aload_n (pc := 21) dC_init_21 rfl ?_
  refine rw_iconst (pc := 22) (x := nI 0) dC_init_22 (by decide) ?_
  refine rw_putI (pc := 23) pfC_23_C dC_init_23 ⟨by omega, by simp only [hp_n_sI, hp_n_sR, hp_n_new, hp_n_mu]; omega⟩ (by simp only [hp_S_sI, hp_S_sR, hp_S_new, hp_S_mu, hp_n_sI, hp_n_sR, hp_n_new, hp_n_mu, hn]; first | exact hs | (rw [if_neg (by omega)]; exact hs) | (rw [if_neg (by omega), if_neg (by omega)]; exact hs) | (repeat rw [if_neg (by omega)]) <;> exact hs) ?_
  refine rw_aload_n (pc := 26) dC_init_26 rfl ?_
  refine rw_iconst (pc := 27) (x := nI 1) dC_init_27 (by decide) ?_
  refine rw_putZ (pc := 28) pfC_27_C dC_init_28 ⟨by omega, by simp only [hp_n_sI, hp_n_sR, hp_n_new, hp_n_mu]; omega⟩ (by simp only [hp_S_sI, hp_S_sR, hp_S_new, hp_S_mu, hp_n_sI, hp_n_sR, hp_n_new, hp_n_mu, hn]; first | exact hs | (rw [if_neg (by omega)]; exact hs) | (rw [if_neg (by omega), if_neg (by omega)]; exact hs) | (repeat rw [if_neg (by omega)]) <;> exact hs) (Or.inr rfl) ?_
  refine rw_aload_n (pc := 31) dC_init_31 rfl ?_
  refine rw_iconst (pc := 32) (x := nI 0) dC_init_32 (by decide) ?_
  refine rw_putI (pc := 33) pfC_31_C dC_init_33 ⟨by omega, by simp only [hp_n_sI, hp_n_sR, hp_n_new, hp_n_mu]; omega⟩ (by simp only [hp_S_sI, hp_S_sR, hp_S_new, hp_S_mu, hp_n_sI, hp_n_sR, hp_n_new, hp_n_mu, hn]; first | exact hs | (rw [if_neg (by omega)]; exact hs) | (rw [if_neg (by omega), if_neg (by omega)]; exact hs) | (repeat rw [if_neg (by omega)]) <;> exact hs) ?_
  refine rw_aload_n (pc := 36) dC_init_36 rfl ?_
  refine rw_iconst (pc := 37) (x := nI 0) dC_init_37 (by decide) ?_
  refine rw_putI (pc := 38) pfC_34_C dC_init_38 ⟨by omega, by simp only [hp_n_sI, hp_n_sR, hp_n_new, hp_n_mu]; omega⟩ (by simp only [hp_S_sI, hp_S_sR, hp_S_new, hp_S_mu, hp_n_sI, hp_n_sR, hp_n_new, hp_n_mu, hn]; first | exact hs | (rw [if_neg (by omega)]; exact hs) | (rw [if_neg (by omega), if_neg (by omega)]; exact hs) | (repeat rw [if_neg (by omega)]) <;> exact hs) ?_
  refine rw_aload_n (pc := 41) dC_init_41 rfl ?_
  refine rw_null (pc := 42) dC_init_42 ?_
  refine rw_putR (pc := 43) pfC_37_C (Or.inl ⟨_, rfl⟩) dC_init_43 ⟨by omega, by simp only [hp_n_sI, hp_n_sR, hp_n_new, hp_n_mu]; omega⟩ (by simp only [hp_S_sI, hp_S_sR, hp_S_new, hp_S_mu, hp_n_sI, hp_n_sR, hp_n_new, hp_n_mu, hn]; first | exact hs | (rw [if_neg (by omega)]; exact hs) | (rw [if_neg (by omega), if_neg (by omega)]; exact hs) | (repeat rw [if_neg (by omega)]) <;> exact hs) ?_
  refine rw_aload_n (pc := 46) dC_init_46 rfl ?_
  refine rw_iconst (pc := 47) (x := nI 0) dC_init_47 (by decide) ?_
  refine rw_putI (pc := 48) pfC_41_C dC_init_48 ⟨by omega, by simp only [hp_n_sI, hp_n_sR, hp_n_new, hp_n_mu]; omega⟩ (by simp only [hp_S_sI, hp_S_sR, hp_S_new, hp_S_mu, hp_n_sI, hp_n_sR, hp_n_new, hp_n_mu, hn]; first | exact hs | (rw [if_neg (by omega)]; exact hs) | (rw [if_neg (by omega), if_neg (by omega)]; exact hs) | (repeat rw [if_neg (by omega)]) <;> exact hs) ?_
  refine rw_aload_n (pc := 51) dC_init_51 rfl ?_
  refine rw_iload_n (pc := 52) dC_init_52 rfl ?_
  refine rw_putI (pc := 53) pfC_44_C dC_init_53 ⟨by omega, by simp only [hp_n_sI, hp_n_sR, hp_n_new, hp_n_mu]; omega⟩ (by simp only [hp_S_sI, hp_S_sR, hp_S_new, hp_S_mu, hp_n_sI, hp_n_sR, hp_n_new, hp_n_mu, hn]; first | exact hs | (rw [if_neg (by omega)]; exact hs) | (rw [if_neg (by omega), if_neg (by omega)]; exact hs) | (repeat rw [if_neg (by omega)]) <;> exact hs) ?_
  refine rw_aload_n (pc := 56) dC_init_56 rfl ?_
  refine rw_iload_n (pc := 57) dC_init_57 rfl ?_
  refine rw_putI (pc := 58) pfC_47_C dC_init_58 ⟨by omega, by simp only [hp_n_sI, hp_n_sR, hp_n_new, hp_n_mu]; omega⟩ (by simp only [hp_S_sI, hp_S_sR, hp_S_new, hp_S_mu, hp_n_sI, hp_n_sR, hp_n_new, hp_n_mu, hn]; first | exact hs | (rw [if_neg (by omega)]; exact hs) | (rw [if_neg (by omega), if_neg (by omega)]; exact hs) | (repeat rw [if_neg (by omega)]) <;> exact hs) ?_
  refine rw_aload_n (pc := 61) dC_init_61 rfl ?_
  refine rw_aload_n (pc := 62) dC_init_62 rfl ?_
  refine rw_putR (pc := 63) pfC_50_C (Or.inl ⟨_, rfl⟩) dC_init_63 ⟨by omega, by simp only [hp_n_sI, hp_n_sR, hp_n_new, hp_n_mu]; omega⟩ (by simp only [hp_S_sI, hp_S_sR, hp_S_new, hp_S_mu, hp_n_sI, hp_n_sR, hp_n_new, hp_n_mu, hn]; first | exact hs | (rw [if_neg (by omega)]; exact hs) | (rw [if_neg (by omega), if_neg (by omega)]; exact hs) | (repeat rw [if_neg (by omega)]) <;> exact hs) ?_
  refine rw_iconst (pc := 66) (x := nI 0) dC_init_66 (by decide) ?_
  refine rw_istore (pc := 67) (L' := [some (.inr (some i)), some (.inl id), some (.inl tm), some (.inr (some nt)), some (.inl (nI 0))]) dC_init_67 (by decide) rfl ?_
  have hq := cq_0 (nt := nt) (id := id) (term := tm) hn hs
  change CQ i h id tm nt 0 (hp_sR (hp_sI (hp_sI (hp_sI (hp_sR (hp_sI (hp_sI (hp_sI (hp_sI (hp_sR (hp_new (hp_sR (hp_new h (.inl (7, 4))) i 3 (some (hp_n h))) (.inl (8, 6))) i 4 (some (hp_n (hp_sR (hp_new h (.inl (7, 4))) i 3 (some (hp_n h)))))) i 5 (nI 0)) i 6 (nI 1)) i 7 (nI 0)) i 8 (nI 0)) i 9 none) i 10 (nI 0)) i 0 id) i 1 tm) i 2 (some nt)) at hq
  generalize hp_sR (hp_sI (hp_sI (hp_sI (hp_sR (hp_sI (hp_sI (hp_sI (hp_sI (hp_sR (hp_new (hp_sR (hp_new h (.inl (7, 4))) i 3 (some (hp_n h))) (.inl (8, 6))) i 4 (some (hp_n (hp_sR (hp_new h (.inl (7, 4))) i 3 (some (hp_n h)))))) i 5 (nI 0)) i 6 (nI 1)) i 7 (nI 0)) i 8 (nI 0)) i 9 none) i 10 (nI 0)) i 0 id) i 1 tm) i 2 (some nt) = g1 at hq ⊢
  refine rw_iload (pc := 69) dC_init_69 rfl ?_
  refine rw_iconst (pc := 71) (x := nI 4) dC_init_71 (by decide) ?_
  refine rw_icmpge (pc := 72) dC_init_72 (tgt := 95) rfl (fun c2 => ?_) (fun c2 => ?_)
  · skip
    replace c2 : 4 ≤ 0 := (nI_leI (a := 4) (b := 0) (by omega) (by omega)).mp c2
    exact absurd c2 (by decide)
  · skip
    replace c2 : ¬ (4 ≤ 0) := fun qz => c2 ((nI_leI (a := 4) (b := 0) (by omega) (by omega)).mpr qz)
    refine rw_aload_n (pc := 75) dC_init_75 rfl ?_
    refine rw_getR (pc := 76) (x := some (i + 1)) flC_11_C dC_init_76 ⟨by omega, by have := hq.1; omega⟩ hq.2.2.1.1 hq.2.2.2.1.2.1 ?_
    refine rw_iload (pc := 79) dC_init_79 rfl ?_
    refine rw_new (pc := 81) (rc' := 7) (rs' := 31) nnC_9 dC_init_81 rfl rfl ?_
    have hnk : hp_n g1 = i + 3 + 2 * 0 := hq.1
    rw [hnk]
    refine rw_dup (pc := 84) dC_init_84 ?_
    refine rw_iv (pc := 85) (z' := (1, 1, 4)) (rc' := 6) (rs' := 27) (av := []) (st := [.inr (some (i + 3 + 2 * 0)), .inl (nI 0), .inr (some (i + 1))]) mlC_54 miK_init rfl rfl dC_init_85 (cK_init G _ (j := i + 3 + 2 * 0) (by omega) (by rw [hp_n_new]; omega) (by rw [hp_S_new, if_pos hnk.symm])) rfl rfl (Nat.le_of_ble_eq_true rfl) (Nat.le_of_ble_eq_true rfl) rfl rfl (fun h3 q3 => ?_)
    obtain ⟨q1, q2, q3⟩ := q3
    have hF : fb (i + 3 + 2 * 0) g1 h3 := fb_tr (fb_new (fb_rf _ _) (by omega)) q2 (Nat.le_refl _)
    refine rw_aast (pc := 88) (i := 0) so_7_K (by decide) dC_init_88 ⟨by omega, by omega⟩ (by rw [(hF (i + 1) (by omega)).2.2]; exact hq.2.2.1.2.1) (ix_nI (by omega) (by decide)) ⟨by omega, by omega⟩ q3.1 ?_
    replace hq := cq_S hq q1 q2 q3
    generalize hp_sR h3 (i + 1) 0 (some (i + 3 + 2 * 0)) = g4 at hq ⊢
    clear q1 q2 q3 hF hnk
    refine rw_iinc (pc := 89) (x := nI 0) (y := nI 1) (L' := [some (.inr (some i)), some (.inl id), some (.inl tm), some (.inr (some nt)), some (.inl (nI 1))]) dC_init_89 (by decide) rfl (by decide) rfl ?_
    refine rw_goto (pc := 92) dC_init_92 (tgt := 69) rfl ?_
    refine rw_iload (pc := 69) dC_init_69 rfl ?_
    refine rw_iconst (pc := 71) (x := nI 4) dC_init_71 (by decide) ?_
    refine rw_icmpge (pc := 72) dC_init_72 (tgt := 95) rfl (fun c5 => ?_) (fun c5 => ?_)
    · skip
      replace c5 : 4 ≤ 1 := (nI_leI (a := 4) (b := 1) (by omega) (by omega)).mp c5
      exact absurd c5 (by decide)
    · skip
      replace c5 : ¬ (4 ≤ 1) := fun qz => c5 ((nI_leI (a := 4) (b := 1) (by omega) (by omega)).mpr qz)
      refine rw_aload_n (pc := 75) dC_init_75 rfl ?_
      refine rw_getR (pc := 76) (x := some (i + 1)) flC_11_C dC_init_76 ⟨by omega, by have := hq.1; omega⟩ hq.2.2.1.1 hq.2.2.2.1.2.1 ?_
      refine rw_iload (pc := 79) dC_init_79 rfl ?_
      refine rw_new (pc := 81) (rc' := 5) (rs' := 22) nnC_9 dC_init_81 rfl rfl ?_
      have hnk : hp_n g4 = i + 3 + 2 * 1 := hq.1
      rw [hnk]
      refine rw_dup (pc := 84) dC_init_84 ?_
      refine rw_iv (pc := 85) (z' := (1, 1, 4)) (rc' := 4) (rs' := 18) (av := []) (st := [.inr (some (i + 3 + 2 * 1)), .inl (nI 1), .inr (some (i + 1))]) mlC_54 miK_init rfl rfl dC_init_85 (cK_init G _ (j := i + 3 + 2 * 1) (by omega) (by rw [hp_n_new]; omega) (by rw [hp_S_new, if_pos hnk.symm])) rfl rfl (Nat.le_of_ble_eq_true rfl) (Nat.le_of_ble_eq_true rfl) rfl rfl (fun h6 q6 => ?_)
      obtain ⟨q1, q2, q3⟩ := q6
      have hF : fb (i + 3 + 2 * 1) g4 h6 := fb_tr (fb_new (fb_rf _ _) (by omega)) q2 (Nat.le_refl _)
      refine rw_aast (pc := 88) (i := 1) so_7_K (by decide) dC_init_88 ⟨by omega, by omega⟩ (by rw [(hF (i + 1) (by omega)).2.2]; exact hq.2.2.1.2.1) (ix_nI (by omega) (by decide)) ⟨by omega, by omega⟩ q3.1 ?_
      replace hq := cq_S hq q1 q2 q3
      generalize hp_sR h6 (i + 1) 1 (some (i + 3 + 2 * 1)) = g7 at hq ⊢
      clear q1 q2 q3 hF hnk
      refine rw_iinc (pc := 89) (x := nI 1) (y := nI 2) (L' := [some (.inr (some i)), some (.inl id), some (.inl tm), some (.inr (some nt)), some (.inl (nI 2))]) dC_init_89 (by decide) rfl (by decide) rfl ?_
      refine rw_goto (pc := 92) dC_init_92 (tgt := 69) rfl ?_
      refine rw_iload (pc := 69) dC_init_69 rfl ?_
      refine rw_iconst (pc := 71) (x := nI 4) dC_init_71 (by decide) ?_
      refine rw_icmpge (pc := 72) dC_init_72 (tgt := 95) rfl (fun c8 => ?_) (fun c8 => ?_)
      · skip
        replace c8 : 4 ≤ 2 := (nI_leI (a := 4) (b := 2) (by omega) (by omega)).mp c8
        exact absurd c8 (by decide)
      · skip
        replace c8 : ¬ (4 ≤ 2) := fun qz => c8 ((nI_leI (a := 4) (b := 2) (by omega) (by omega)).mpr qz)
        refine rw_aload_n (pc := 75) dC_init_75 rfl ?_
        refine rw_getR (pc := 76) (x := some (i + 1)) flC_11_C dC_init_76 ⟨by omega, by have := hq.1; omega⟩ hq.2.2.1.1 hq.2.2.2.1.2.1 ?_
        refine rw_iload (pc := 79) dC_init_79 rfl ?_
        refine rw_new (pc := 81) (rc' := 3) (rs' := 13) nnC_9 dC_init_81 rfl rfl ?_
        have hnk : hp_n g7 = i + 3 + 2 * 2 := hq.1
        rw [hnk]
        refine rw_dup (pc := 84) dC_init_84 ?_
        refine rw_iv (pc := 85) (z' := (1, 1, 4)) (rc' := 2) (rs' := 9) (av := []) (st := [.inr (some (i + 3 + 2 * 2)), .inl (nI 2), .inr (some (i + 1))]) mlC_54 miK_init rfl rfl dC_init_85 (cK_init G _ (j := i + 3 + 2 * 2) (by omega) (by rw [hp_n_new]; omega) (by rw [hp_S_new, if_pos hnk.symm])) rfl rfl (Nat.le_of_ble_eq_true rfl) (Nat.le_of_ble_eq_true rfl) rfl rfl (fun h9 q9 => ?_)
        obtain ⟨q1, q2, q3⟩ := q9
        have hF : fb (i + 3 + 2 * 2) g7 h9 := fb_tr (fb_new (fb_rf _ _) (by omega)) q2 (Nat.le_refl _)
        refine rw_aast (pc := 88) (i := 2) so_7_K (by decide) dC_init_88 ⟨by omega, by omega⟩ (by rw [(hF (i + 1) (by omega)).2.2]; exact hq.2.2.1.2.1) (ix_nI (by omega) (by decide)) ⟨by omega, by omega⟩ q3.1 ?_
        replace hq := cq_S hq q1 q2 q3
        generalize hp_sR h9 (i + 1) 2 (some (i + 3 + 2 * 2)) = g10 at hq ⊢
        clear q1 q2 q3 hF hnk
        refine rw_iinc (pc := 89) (x := nI 2) (y := nI 3) (L' := [some (.inr (some i)), some (.inl id), some (.inl tm), some (.inr (some nt)), some (.inl (nI 3))]) dC_init_89 (by decide) rfl (by decide) rfl ?_
        refine rw_goto (pc := 92) dC_init_92 (tgt := 69) rfl ?_
        refine rw_iload (pc := 69) dC_init_69 rfl ?_
        refine rw_iconst (pc := 71) (x := nI 4) dC_init_71 (by decide) ?_
        refine rw_icmpge (pc := 72) dC_init_72 (tgt := 95) rfl (fun c11 => ?_) (fun c11 => ?_)
        · skip
          replace c11 : 4 ≤ 3 := (nI_leI (a := 4) (b := 3) (by omega) (by omega)).mp c11
          exact absurd c11 (by decide)
        · skip
          replace c11 : ¬ (4 ≤ 3) := fun qz => c11 ((nI_leI (a := 4) (b := 3) (by omega) (by omega)).mpr qz)
          refine rw_aload_n (pc := 75) dC_init_75 rfl ?_
          refine rw_getR (pc := 76) (x := some (i + 1)) flC_11_C dC_init_76 ⟨by omega, by have := hq.1; omega⟩ hq.2.2.1.1 hq.2.2.2.1.2.1 ?_
          refine rw_iload (pc := 79) dC_init_79 rfl ?_
          refine rw_new (pc := 81) (rc' := 1) (rs' := 4) nnC_9 dC_init_81 rfl rfl ?_
          have hnk : hp_n g10 = i + 3 + 2 * 3 := hq.1
          rw [hnk]
          refine rw_dup (pc := 84) dC_init_84 ?_
          refine rw_iv (pc := 85) (z' := (1, 1, 4)) (rc' := 0) (rs' := 0) (av := []) (st := [.inr (some (i + 3 + 2 * 3)), .inl (nI 3), .inr (some (i + 1))]) mlC_54 miK_init rfl rfl dC_init_85 (cK_init G _ (j := i + 3 + 2 * 3) (by omega) (by rw [hp_n_new]; omega) (by rw [hp_S_new, if_pos hnk.symm])) rfl rfl (Nat.le_of_ble_eq_true rfl) (Nat.le_of_ble_eq_true rfl) rfl rfl (fun h12 q12 => ?_)
          obtain ⟨q1, q2, q3⟩ := q12
          have hF : fb (i + 3 + 2 * 3) g10 h12 := fb_tr (fb_new (fb_rf _ _) (by omega)) q2 (Nat.le_refl _)
          refine rw_aast (pc := 88) (i := 3) so_7_K (by decide) dC_init_88 ⟨by omega, by omega⟩ (by rw [(hF (i + 1) (by omega)).2.2]; exact hq.2.2.1.2.1) (ix_nI (by omega) (by decide)) ⟨by omega, by omega⟩ q3.1 ?_
          replace hq := cq_S hq q1 q2 q3
          generalize hp_sR h12 (i + 1) 3 (some (i + 3 + 2 * 3)) = g13 at hq ⊢
          clear q1 q2 q3 hF hnk
          refine rw_iinc (pc := 89) (x := nI 3) (y := nI 4) (L' := [some (.inr (some i)), some (.inl id), some (.inl tm), some (.inr (some nt)), some (.inl (nI 4))]) dC_init_89 (by decide) rfl (by decide) rfl ?_
          refine rw_goto (pc := 92) dC_init_92 (tgt := 69) rfl ?_
          refine rw_iload (pc := 69) dC_init_69 rfl ?_
          refine rw_iconst (pc := 71) (x := nI 4) dC_init_71 (by decide) ?_
          refine rw_icmpge (pc := 72) dC_init_72 (tgt := 95) rfl (fun c14 => ?_) (fun c14 => ?_)
          · skip
            replace c14 : 4 ≤ 4 := (nI_leI (a := 4) (b := 4) (by omega) (by omega)).mp c14
            exact rw_vret (pc := 95) dC_init_95 rfl ⟨rfl, hq⟩
          · skip
            replace c14 : ¬ (4 ≤ 4) := fun qz => c14 ((nI_leI (a := 4) (b := 4) (by omega) (by omega)).mpr qz)
            exact absurd (by decide) c14
theorem cS_init (G : mt_G) (h : ha_H) {nt : Nat} (hn : hp_n h = 5) (hs : hp_S h 4 = .inr 2) (len : Int32) : rn_M G xS_init (2, 23, 77) [.inr (some 4), .inr (some nt), .inl len] h (rn_v (fun h' => SQ h len nt 4 h')) := by
  refine rn_of (by decide +kernel) (Nat.le_of_ble_eq_true rfl) ?_
  show rn_W G xS_init (2, 23, 77) 23 77 0 [some (.inr (some 4)), some (.inr (some nt)), some (.inl len), none] [] h _
  refine rw_aload_n (pc := 0) dS_init_0 rfl ?_
  refine rw_objInit (pc := 1) bw_50 bw_21 bw_22 dS_init_1 (Nat.le_of_ble_eq_true rfl) (Nat.le_of_ble_eq_true rfl) ?_
  refine rw_aload_n (pc := 4) dS_init_4 rfl ?_
  refine rw_iconst (pc := 5) (x := nI 4) dS_init_5 (by decide) ?_
  refine rw_iconst (pc := 6) (x := nI 4) dS_init_6 (by decide) ?_
  refine rw_multi (pc := 7) (N := 4) (K := 4) (rc' := 18) (rs' := 57) bw_51 bw_73 ao_1 dS_init_7 (by decide) (by decide) (by decide) (by decide) (by decide) rfl rfl ?_
  refine rw_putR (pc := 11) pfS_11_S (Or.inr ⟨_, rfl⟩) dS_init_11 ⟨by omega, by simp only [hp_n_sI, hp_n_sR, hp_n_new, hp_n_mu]; omega⟩ (by simp only [hp_S_sI, hp_S_sR, hp_S_new, hp_S_mu, hp_n_sI, hp_n_sR, hp_n_new, hp_n_mu, hn]; first | exact hs | (rw [if_neg (by omega)]; exact hs) | (rw [if_neg (by omega), if_neg (by omega)]; exact hs) | (repeat rw [if_neg (by omega)]) <;> exact hs) ?_
  refine rw_aload_n (pc := 14) dS_init_14 rfl ?_
  refine rw_iconst (pc := 15) (x := nI 3) dS_init_15 (by decide) ?_
  refine rw_newq (pc := 16) (t := 3) (N := 3) (rc' := 17) (rs' := 54) rfl (by decide) bw_53 ao_2 dS_init_16 (by decide) (by decide) (by decide) rfl rfl ?_
  refine rw_putR (pc := 19) pfS_18_S (Or.inr ⟨_, rfl⟩) dS_init_19 ⟨by omega, by simp only [hp_n_sI, hp_n_sR, hp_n_new, hp_n_mu]; omega⟩ (by simp only [hp_S_sI, hp_S_sR, hp_S_new, hp_S_mu, hp_n_sI, hp_n_sR, hp_n_new, hp_n_mu, hn]; first | exact hs | (rw [if_neg (by omega)]; exact hs) | (rw [if_neg (by omega), if_neg (by omega)]; exact hs) | (repeat rw [if_neg (by omega)]) <;> exact hs) ?_
  refine rw_aload_n (pc := 22) dS_init_22 rfl ?_
  refine rw_iconst (pc := 23) (x := nI 3) dS_init_23 (by decide) ?_
  refine rw_iconst (pc := 24) (x := nI 4) dS_init_24 (by decide) ?_
  refine rw_multi (pc := 25) (N := 3) (K := 4) (rc' := 13) (rs' := 39) bw_51 bw_73 ao_1 dS_init_25 (by decide) (by decide) (by decide) (by decide) (by decide) rfl rfl ?_
  refine rw_putR (pc := 29) pfS_22_S (Or.inr ⟨_, rfl⟩) dS_init_29 ⟨by omega, by simp only [hp_n_sI, hp_n_sR, hp_n_new, hp_n_mu]; omega⟩ (by simp only [hp_S_sI, hp_S_sR, hp_S_new, hp_S_mu, hp_n_sI, hp_n_sR, hp_n_new, hp_n_mu, hn]; first | exact hs | (rw [if_neg (by omega)]; exact hs) | (rw [if_neg (by omega), if_neg (by omega)]; exact hs) | (repeat rw [if_neg (by omega)]) <;> exact hs) ?_
  refine rw_aload_n (pc := 32) dS_init_32 rfl ?_
  refine rw_iconst (pc := 33) (x := nI 3) dS_init_33 (by decide) ?_
  refine rw_iconst (pc := 34) (x := nI 4) dS_init_34 (by decide) ?_
  refine rw_multi (pc := 35) (N := 3) (K := 4) (rc' := 9) (rs' := 24) bw_51 bw_73 ao_1 dS_init_35 (by decide) (by decide) (by decide) (by decide) (by decide) rfl rfl ?_
  refine rw_putR (pc := 39) pfS_25_S (Or.inr ⟨_, rfl⟩) dS_init_39 ⟨by omega, by simp only [hp_n_sI, hp_n_sR, hp_n_new, hp_n_mu]; omega⟩ (by simp only [hp_S_sI, hp_S_sR, hp_S_new, hp_S_mu, hp_n_sI, hp_n_sR, hp_n_new, hp_n_mu, hn]; first | exact hs | (rw [if_neg (by omega)]; exact hs) | (rw [if_neg (by omega), if_neg (by omega)]; exact hs) | (repeat rw [if_neg (by omega)]) <;> exact hs) ?_
  refine rw_aload_n (pc := 42) dS_init_42 rfl ?_
  refine rw_iconst (pc := 43) (x := nI 4) dS_init_43 (by decide) ?_
  refine rw_newq (pc := 44) (t := 4) (N := 4) (rc' := 8) (rs' := 20) rfl (by decide) bw_55 ao_3 dS_init_44 (by decide) (by decide) (by decide) rfl rfl ?_
  refine rw_putR (pc := 47) pfS_30_S (Or.inr ⟨_, rfl⟩) dS_init_47 ⟨by omega, by simp only [hp_n_sI, hp_n_sR, hp_n_new, hp_n_mu]; omega⟩ (by simp only [hp_S_sI, hp_S_sR, hp_S_new, hp_S_mu, hp_n_sI, hp_n_sR, hp_n_new, hp_n_mu, hn]; first | exact hs | (rw [if_neg (by omega)]; exact hs) | (rw [if_neg (by omega), if_neg (by omega)]; exact hs) | (repeat rw [if_neg (by omega)]) <;> exact hs) ?_
  refine rw_aload_n (pc := 50) dS_init_50 rfl ?_
  refine rw_iconst (pc := 51) (x := nI 1) dS_init_51 (by decide) ?_
  refine rw_putZ (pc := 52) pfS_34_S dS_init_52 ⟨by omega, by simp only [hp_n_sI, hp_n_sR, hp_n_new, hp_n_mu]; omega⟩ (by simp only [hp_S_sI, hp_S_sR, hp_S_new, hp_S_mu, hp_n_sI, hp_n_sR, hp_n_new, hp_n_mu, hn]; first | exact hs | (rw [if_neg (by omega)]; exact hs) | (rw [if_neg (by omega), if_neg (by omega)]; exact hs) | (repeat rw [if_neg (by omega)]) <;> exact hs) (Or.inr rfl) ?_
  refine rw_aload_n (pc := 55) dS_init_55 rfl ?_
  refine rw_iconst (pc := 56) (x := nI 0) dS_init_56 (by decide) ?_
  refine rw_putI (pc := 57) pfS_38_S dS_init_57 ⟨by omega, by simp only [hp_n_sI, hp_n_sR, hp_n_new, hp_n_mu]; omega⟩ (by simp only [hp_S_sI, hp_S_sR, hp_S_new, hp_S_mu, hp_n_sI, hp_n_sR, hp_n_new, hp_n_mu, hn]; first | exact hs | (rw [if_neg (by omega)]; exact hs) | (rw [if_neg (by omega), if_neg (by omega)]; exact hs) | (repeat rw [if_neg (by omega)]) <;> exact hs) ?_
  refine rw_aload_n (pc := 60) dS_init_60 rfl ?_
  refine rw_iconst (pc := 61) (x := nI 0) dS_init_61 (by decide) ?_
  refine rw_putZ (pc := 62) pfS_42_S dS_init_62 ⟨by omega, by simp only [hp_n_sI, hp_n_sR, hp_n_new, hp_n_mu]; omega⟩ (by simp only [hp_S_sI, hp_S_sR, hp_S_new, hp_S_mu, hp_n_sI, hp_n_sR, hp_n_new, hp_n_mu, hn]; first | exact hs | (rw [if_neg (by omega)]; exact hs) | (rw [if_neg (by omega), if_neg (by omega)]; exact hs) | (repeat rw [if_neg (by omega)]) <;> exact hs) (Or.inl rfl) ?_
  refine rw_aload_n (pc := 65) dS_init_65 rfl ?_
  refine rw_iconst (pc := 66) (x := nI 0) dS_init_66 (by decide) ?_
  refine rw_putI (pc := 67) pfS_45_S dS_init_67 ⟨by omega, by simp only [hp_n_sI, hp_n_sR, hp_n_new, hp_n_mu]; omega⟩ (by simp only [hp_S_sI, hp_S_sR, hp_S_new, hp_S_mu, hp_n_sI, hp_n_sR, hp_n_new, hp_n_mu, hn]; first | exact hs | (rw [if_neg (by omega)]; exact hs) | (rw [if_neg (by omega), if_neg (by omega)]; exact hs) | (repeat rw [if_neg (by omega)]) <;> exact hs) ?_
  refine rw_aload_n (pc := 70) dS_init_70 rfl ?_
  refine rw_aload_n (pc := 71) dS_init_71 rfl ?_
  refine rw_putR (pc := 72) pfS_48_S (Or.inl ⟨_, rfl⟩) dS_init_72 ⟨by omega, by simp only [hp_n_sI, hp_n_sR, hp_n_new, hp_n_mu]; omega⟩ (by simp only [hp_S_sI, hp_S_sR, hp_S_new, hp_S_mu, hp_n_sI, hp_n_sR, hp_n_new, hp_n_mu, hn]; first | exact hs | (rw [if_neg (by omega)]; exact hs) | (rw [if_neg (by omega), if_neg (by omega)]; exact hs) | (repeat rw [if_neg (by omega)]) <;> exact hs) ?_
  refine rw_aload_n (pc := 75) dS_init_75 rfl ?_
  refine rw_iload_n (pc := 76) dS_init_76 rfl ?_
  refine rw_putI (pc := 77) pfS_52_S dS_init_77 ⟨by omega, by simp only [hp_n_sI, hp_n_sR, hp_n_new, hp_n_mu]; omega⟩ (by simp only [hp_S_sI, hp_S_sR, hp_S_new, hp_S_mu, hp_n_sI, hp_n_sR, hp_n_new, hp_n_mu, hn]; first | exact hs | (rw [if_neg (by omega)]; exact hs) | (rw [if_neg (by omega), if_neg (by omega)]; exact hs) | (repeat rw [if_neg (by omega)]) <;> exact hs) ?_
  refine rw_iconst (pc := 80) (x := nI 0) dS_init_80 (by decide) ?_
  refine rw_istore_n (pc := 81) (L' := [some (.inr (some 4)), some (.inr (some nt)), some (.inl len), some (.inl (nI 0))]) dS_init_81 (by decide) rfl ?_
  have hq := sq_0 (nt := nt) (len := len) hn hs
  change SQ h len nt 0 (hp_sI (hp_sR (hp_sI (hp_sI (hp_sI (hp_sI (hp_sR (hp_new (hp_sR (hp_mu (hp_sR (hp_mu (hp_sR (hp_new (hp_sR (hp_mu h 4 4) 4 2 (some (hp_n h))) (.inl (3, 3))) 4 3 (some (hp_n (hp_sR (hp_mu h 4 4) 4 2 (some (hp_n h)))))) 3 4) 4 4 (some (hp_n (hp_sR (hp_new (hp_sR (hp_mu h 4 4) 4 2 (some (hp_n h))) (.inl (3, 3))) 4 3 (some (hp_n (hp_sR (hp_mu h 4 4) 4 2 (some (hp_n h))))))))) 3 4) 4 5 (some (hp_n (hp_sR (hp_mu (hp_sR (hp_new (hp_sR (hp_mu h 4 4) 4 2 (some (hp_n h))) (.inl (3, 3))) 4 3 (some (hp_n (hp_sR (hp_mu h 4 4) 4 2 (some (hp_n h)))))) 3 4) 4 4 (some (hp_n (hp_sR (hp_new (hp_sR (hp_mu h 4 4) 4 2 (some (hp_n h))) (.inl (3, 3))) 4 3 (some (hp_n (hp_sR (hp_mu h 4 4) 4 2 (some (hp_n h)))))))))))) (.inl (4, 4))) 4 6 (some (hp_n (hp_sR (hp_mu (hp_sR (hp_mu (hp_sR (hp_new (hp_sR (hp_mu h 4 4) 4 2 (some (hp_n h))) (.inl (3, 3))) 4 3 (some (hp_n (hp_sR (hp_mu h 4 4) 4 2 (some (hp_n h)))))) 3 4) 4 4 (some (hp_n (hp_sR (hp_new (hp_sR (hp_mu h 4 4) 4 2 (some (hp_n h))) (.inl (3, 3))) 4 3 (some (hp_n (hp_sR (hp_mu h 4 4) 4 2 (some (hp_n h))))))))) 3 4) 4 5 (some (hp_n (hp_sR (hp_mu (hp_sR (hp_new (hp_sR (hp_mu h 4 4) 4 2 (some (hp_n h))) (.inl (3, 3))) 4 3 (some (hp_n (hp_sR (hp_mu h 4 4) 4 2 (some (hp_n h)))))) 3 4) 4 4 (some (hp_n (hp_sR (hp_new (hp_sR (hp_mu h 4 4) 4 2 (some (hp_n h))) (.inl (3, 3))) 4 3 (some (hp_n (hp_sR (hp_mu h 4 4) 4 2 (some (hp_n h))))))))))))))) 4 7 (nI 1)) 4 8 (nI 0)) 4 9 (nI 0)) 4 10 (nI 0)) 4 0 (some nt)) 4 1 len) at hq
  generalize hp_sI (hp_sR (hp_sI (hp_sI (hp_sI (hp_sI (hp_sR (hp_new (hp_sR (hp_mu (hp_sR (hp_mu (hp_sR (hp_new (hp_sR (hp_mu h 4 4) 4 2 (some (hp_n h))) (.inl (3, 3))) 4 3 (some (hp_n (hp_sR (hp_mu h 4 4) 4 2 (some (hp_n h)))))) 3 4) 4 4 (some (hp_n (hp_sR (hp_new (hp_sR (hp_mu h 4 4) 4 2 (some (hp_n h))) (.inl (3, 3))) 4 3 (some (hp_n (hp_sR (hp_mu h 4 4) 4 2 (some (hp_n h))))))))) 3 4) 4 5 (some (hp_n (hp_sR (hp_mu (hp_sR (hp_new (hp_sR (hp_mu h 4 4) 4 2 (some (hp_n h))) (.inl (3, 3))) 4 3 (some (hp_n (hp_sR (hp_mu h 4 4) 4 2 (some (hp_n h)))))) 3 4) 4 4 (some (hp_n (hp_sR (hp_new (hp_sR (hp_mu h 4 4) 4 2 (some (hp_n h))) (.inl (3, 3))) 4 3 (some (hp_n (hp_sR (hp_mu h 4 4) 4 2 (some (hp_n h)))))))))))) (.inl (4, 4))) 4 6 (some (hp_n (hp_sR (hp_mu (hp_sR (hp_mu (hp_sR (hp_new (hp_sR (hp_mu h 4 4) 4 2 (some (hp_n h))) (.inl (3, 3))) 4 3 (some (hp_n (hp_sR (hp_mu h 4 4) 4 2 (some (hp_n h)))))) 3 4) 4 4 (some (hp_n (hp_sR (hp_new (hp_sR (hp_mu h 4 4) 4 2 (some (hp_n h))) (.inl (3, 3))) 4 3 (some (hp_n (hp_sR (hp_mu h 4 4) 4 2 (some (hp_n h))))))))) 3 4) 4 5 (some (hp_n (hp_sR (hp_mu (hp_sR (hp_new (hp_sR (hp_mu h 4 4) 4 2 (some (hp_n h))) (.inl (3, 3))) 4 3 (some (hp_n (hp_sR (hp_mu h 4 4) 4 2 (some (hp_n h)))))) 3 4) 4 4 (some (hp_n (hp_sR (hp_new (hp_sR (hp_mu h 4 4) 4 2 (some (hp_n h))) (.inl (3, 3))) 4 3 (some (hp_n (hp_sR (hp_mu h 4 4) 4 2 (some (hp_n h))))))))))))))) 4 7 (nI 1)) 4 8 (nI 0)) 4 9 (nI 0)) 4 10 (nI 0)) 4 0 (some nt)) 4 1 len = g1 at hq ⊢
  refine rw_iload_n (pc := 82) dS_init_82 rfl ?_
  refine rw_iconst (pc := 83) (x := nI 4) dS_init_83 (by decide) ?_
  refine rw_icmpge (pc := 84) dS_init_84 (tgt := 106) rfl (fun c2 => ?_) (fun c2 => ?_)
  · skip
    replace c2 : 4 ≤ 0 := (nI_leI (a := 4) (b := 0) (by omega) (by omega)).mp c2
    exact absurd c2 (by decide)
  · skip
    replace c2 : ¬ (4 ≤ 0) := fun qz => c2 ((nI_leI (a := 4) (b := 0) (by omega) (by omega)).mpr qz)
    refine rw_aload_n (pc := 87) dS_init_87 rfl ?_
    refine rw_getR (pc := 88) (x := some 19) flS_30_S dS_init_88 ⟨by omega, by have := hq.1; omega⟩ hq.2.2.1.1.1 hq.2.2.2.1.1.2.2.2.2.2 ?_
    refine rw_iload_n (pc := 91) dS_init_91 rfl ?_
    refine rw_new (pc := 92) (rc' := 7) (rs' := 18) nnS_28 dS_init_92 rfl rfl ?_
    have hnk : hp_n g1 = 20 + 2 * 0 := hq.1
    rw [hnk]
    refine rw_dup (pc := 95) dS_init_95 ?_
    refine rw_iv (pc := 96) (z' := (1, 1, 3)) (rc' := 6) (rs' := 15) (av := []) (st := [.inr (some (20 + 2 * 0)), .inl (nI 0), .inr (some 19)]) mlS_55 miQ_init rfl rfl dS_init_96 (cQ_init G _ (j := 20 + 2 * 0) (by omega) (by rw [hp_n_new]; omega) (by rw [hp_S_new, if_pos hnk.symm])) rfl rfl (Nat.le_of_ble_eq_true rfl) (Nat.le_of_ble_eq_true rfl) rfl rfl (fun h3 q3 => ?_)
    obtain ⟨q1, q2, q3⟩ := q3
    have hF : fb (20 + 2 * 0) g1 h3 := fb_tr (fb_new (fb_rf _ _) (by omega)) q2 (Nat.le_refl _)
    refine rw_aast (pc := 99) (i := 0) so_4_Q (by decide) dS_init_99 ⟨by omega, by omega⟩ (by rw [(hF 19 (by omega)).2.2]; exact hq.2.2.1.1.2.2.2.2.2) (ix_nI (by omega) (by decide)) ⟨by omega, by omega⟩ q3.1 ?_
    replace hq := sq_S hq q1 q2 q3
    generalize hp_sR h3 19 0 (some (20 + 2 * 0)) = g4 at hq ⊢
    clear q1 q2 q3 hF hnk
    refine rw_iinc (pc := 100) (x := nI 0) (y := nI 1) (L' := [some (.inr (some 4)), some (.inr (some nt)), some (.inl len), some (.inl (nI 1))]) dS_init_100 (by decide) rfl (by decide) rfl ?_
    refine rw_goto (pc := 103) dS_init_103 (tgt := 82) rfl ?_
    refine rw_iload_n (pc := 82) dS_init_82 rfl ?_
    refine rw_iconst (pc := 83) (x := nI 4) dS_init_83 (by decide) ?_
    refine rw_icmpge (pc := 84) dS_init_84 (tgt := 106) rfl (fun c5 => ?_) (fun c5 => ?_)
    · skip
      replace c5 : 4 ≤ 1 := (nI_leI (a := 4) (b := 1) (by omega) (by omega)).mp c5
      exact absurd c5 (by decide)
    · skip
      replace c5 : ¬ (4 ≤ 1) := fun qz => c5 ((nI_leI (a := 4) (b := 1) (by omega) (by omega)).mpr qz)
      refine rw_aload_n (pc := 87) dS_init_87 rfl ?_
      refine rw_getR (pc := 88) (x := some 19) flS_30_S dS_init_88 ⟨by omega, by have := hq.1; omega⟩ hq.2.2.1.1.1 hq.2.2.2.1.1.2.2.2.2.2 ?_
      refine rw_iload_n (pc := 91) dS_init_91 rfl ?_
      refine rw_new (pc := 92) (rc' := 5) (rs' := 13) nnS_28 dS_init_92 rfl rfl ?_
      have hnk : hp_n g4 = 20 + 2 * 1 := hq.1
      rw [hnk]
      refine rw_dup (pc := 95) dS_init_95 ?_
      refine rw_iv (pc := 96) (z' := (1, 1, 3)) (rc' := 4) (rs' := 10) (av := []) (st := [.inr (some (20 + 2 * 1)), .inl (nI 1), .inr (some 19)]) mlS_55 miQ_init rfl rfl dS_init_96 (cQ_init G _ (j := 20 + 2 * 1) (by omega) (by rw [hp_n_new]; omega) (by rw [hp_S_new, if_pos hnk.symm])) rfl rfl (Nat.le_of_ble_eq_true rfl) (Nat.le_of_ble_eq_true rfl) rfl rfl (fun h6 q6 => ?_)
      obtain ⟨q1, q2, q3⟩ := q6
      have hF : fb (20 + 2 * 1) g4 h6 := fb_tr (fb_new (fb_rf _ _) (by omega)) q2 (Nat.le_refl _)
      refine rw_aast (pc := 99) (i := 1) so_4_Q (by decide) dS_init_99 ⟨by omega, by omega⟩ (by rw [(hF 19 (by omega)).2.2]; exact hq.2.2.1.1.2.2.2.2.2) (ix_nI (by omega) (by decide)) ⟨by omega, by omega⟩ q3.1 ?_
      replace hq := sq_S hq q1 q2 q3
      generalize hp_sR h6 19 1 (some (20 + 2 * 1)) = g7 at hq ⊢
      clear q1 q2 q3 hF hnk
      refine rw_iinc (pc := 100) (x := nI 1) (y := nI 2) (L' := [some (.inr (some 4)), some (.inr (some nt)), some (.inl len), some (.inl (nI 2))]) dS_init_100 (by decide) rfl (by decide) rfl ?_
      refine rw_goto (pc := 103) dS_init_103 (tgt := 82) rfl ?_
      refine rw_iload_n (pc := 82) dS_init_82 rfl ?_
      refine rw_iconst (pc := 83) (x := nI 4) dS_init_83 (by decide) ?_
      refine rw_icmpge (pc := 84) dS_init_84 (tgt := 106) rfl (fun c8 => ?_) (fun c8 => ?_)
      · skip
        replace c8 : 4 ≤ 2 := (nI_leI (a := 4) (b := 2) (by omega) (by omega)).mp c8
        exact absurd c8 (by decide)
      · skip
        replace c8 : ¬ (4 ≤ 2) := fun qz => c8 ((nI_leI (a := 4) (b := 2) (by omega) (by omega)).mpr qz)
        refine rw_aload_n (pc := 87) dS_init_87 rfl ?_
        refine rw_getR (pc := 88) (x := some 19) flS_30_S dS_init_88 ⟨by omega, by have := hq.1; omega⟩ hq.2.2.1.1.1 hq.2.2.2.1.1.2.2.2.2.2 ?_
        refine rw_iload_n (pc := 91) dS_init_91 rfl ?_
        refine rw_new (pc := 92) (rc' := 3) (rs' := 8) nnS_28 dS_init_92 rfl rfl ?_
        have hnk : hp_n g7 = 20 + 2 * 2 := hq.1
        rw [hnk]
        refine rw_dup (pc := 95) dS_init_95 ?_
        refine rw_iv (pc := 96) (z' := (1, 1, 3)) (rc' := 2) (rs' := 5) (av := []) (st := [.inr (some (20 + 2 * 2)), .inl (nI 2), .inr (some 19)]) mlS_55 miQ_init rfl rfl dS_init_96 (cQ_init G _ (j := 20 + 2 * 2) (by omega) (by rw [hp_n_new]; omega) (by rw [hp_S_new, if_pos hnk.symm])) rfl rfl (Nat.le_of_ble_eq_true rfl) (Nat.le_of_ble_eq_true rfl) rfl rfl (fun h9 q9 => ?_)
        obtain ⟨q1, q2, q3⟩ := q9
        have hF : fb (20 + 2 * 2) g7 h9 := fb_tr (fb_new (fb_rf _ _) (by omega)) q2 (Nat.le_refl _)
        refine rw_aast (pc := 99) (i := 2) so_4_Q (by decide) dS_init_99 ⟨by omega, by omega⟩ (by rw [(hF 19 (by omega)).2.2]; exact hq.2.2.1.1.2.2.2.2.2) (ix_nI (by omega) (by decide)) ⟨by omega, by omega⟩ q3.1 ?_
        replace hq := sq_S hq q1 q2 q3
        generalize hp_sR h9 19 2 (some (20 + 2 * 2)) = g10 at hq ⊢
        clear q1 q2 q3 hF hnk
        refine rw_iinc (pc := 100) (x := nI 2) (y := nI 3) (L' := [some (.inr (some 4)), some (.inr (some nt)), some (.inl len), some (.inl (nI 3))]) dS_init_100 (by decide) rfl (by decide) rfl ?_
        refine rw_goto (pc := 103) dS_init_103 (tgt := 82) rfl ?_
        refine rw_iload_n (pc := 82) dS_init_82 rfl ?_
        refine rw_iconst (pc := 83) (x := nI 4) dS_init_83 (by decide) ?_
        refine rw_icmpge (pc := 84) dS_init_84 (tgt := 106) rfl (fun c11 => ?_) (fun c11 => ?_)
        · skip
          replace c11 : 4 ≤ 3 := (nI_leI (a := 4) (b := 3) (by omega) (by omega)).mp c11
          exact absurd c11 (by decide)
        · skip
          replace c11 : ¬ (4 ≤ 3) := fun qz => c11 ((nI_leI (a := 4) (b := 3) (by omega) (by omega)).mpr qz)
          refine rw_aload_n (pc := 87) dS_init_87 rfl ?_
          refine rw_getR (pc := 88) (x := some 19) flS_30_S dS_init_88 ⟨by omega, by have := hq.1; omega⟩ hq.2.2.1.1.1 hq.2.2.2.1.1.2.2.2.2.2 ?_
          refine rw_iload_n (pc := 91) dS_init_91 rfl ?_
          refine rw_new (pc := 92) (rc' := 1) (rs' := 3) nnS_28 dS_init_92 rfl rfl ?_
          have hnk : hp_n g10 = 20 + 2 * 3 := hq.1
          rw [hnk]
          refine rw_dup (pc := 95) dS_init_95 ?_
          refine rw_iv (pc := 96) (z' := (1, 1, 3)) (rc' := 0) (rs' := 0) (av := []) (st := [.inr (some (20 + 2 * 3)), .inl (nI 3), .inr (some 19)]) mlS_55 miQ_init rfl rfl dS_init_96 (cQ_init G _ (j := 20 + 2 * 3) (by omega) (by rw [hp_n_new]; omega) (by rw [hp_S_new, if_pos hnk.symm])) rfl rfl (Nat.le_of_ble_eq_true rfl) (Nat.le_of_ble_eq_true rfl) rfl rfl (fun h12 q12 => ?_)
          obtain ⟨q1, q2, q3⟩ := q12
          have hF : fb (20 + 2 * 3) g10 h12 := fb_tr (fb_new (fb_rf _ _) (by omega)) q2 (Nat.le_refl _)
          refine rw_aast (pc := 99) (i := 3) so_4_Q (by decide) dS_init_99 ⟨by omega, by omega⟩ (by rw [(hF 19 (by omega)).2.2]; exact hq.2.2.1.1.2.2.2.2.2) (ix_nI (by omega) (by decide)) ⟨by omega, by omega⟩ q3.1 ?_
          replace hq := sq_S hq q1 q2 q3
          generalize hp_sR h12 19 3 (some (20 + 2 * 3)) = g13 at hq ⊢
          clear q1 q2 q3 hF hnk
          refine rw_iinc (pc := 100) (x := nI 3) (y := nI 4) (L' := [some (.inr (some 4)), some (.inr (some nt)), some (.inl len), some (.inl (nI 4))]) dS_init_100 (by decide) rfl (by decide) rfl ?_
          refine rw_goto (pc := 103) dS_init_103 (tgt := 82) rfl ?_
          refine rw_iload_n (pc := 82) dS_init_82 rfl ?_
          refine rw_iconst (pc := 83) (x := nI 4) dS_init_83 (by decide) ?_
          refine rw_icmpge (pc := 84) dS_init_84 (tgt := 106) rfl (fun c14 => ?_) (fun c14 => ?_)
          · skip
            replace c14 : 4 ≤ 4 := (nI_leI (a := 4) (b := 4) (by omega) (by omega)).mp c14
            exact rw_vret (pc := 106) dS_init_106 rfl ⟨rfl, hq⟩
          · skip
            replace c14 : ¬ (4 ≤ 4) := fun qz => c14 ((nI_leI (a := 4) (b := 4) (by omega) (by omega)).mpr qz)
            exact absurd (by decide) c14
theorem cL_init (G : mt_G) (h : ha_H) (hn : hp_n h = 2) (hS1 : hp_S h 1 = .inr 0) (x : Int32) : rn_M G xL_init (3, 60, 600) [.inr (some 1), .inl x] h (rn_v (fun h' => BQ (f_L x) 3 h')) := by
  have hL := L_b x
  refine rn_of (by decide +kernel) (Nat.le_of_ble_eq_true rfl) ?_
  show rn_W G xL_init (3, 60, 600) 60 600 0 [some (.inr (some 1)), some (.inl x), none, none] [] h _
  refine rw_aload_n (pc := 0) dL_init_0 rfl ?_
  refine rw_objInit (pc := 1) bw_20 bw_21 bw_22 dL_init_1 (Nat.le_of_ble_eq_true rfl) (Nat.le_of_ble_eq_true rfl) ?_
  refine rw_bipush (pc := 4) (x := nI 8) dL_init_4 (by decide) ?_
  refine rw_sipush (pc := 6) (x := nI 200) dL_init_6 (by decide) ?_
  refine rw_iload_n (pc := 9) dL_init_9 rfl ?_
  refine rw_mmin (pc := 10) (v := (if x < nI 200 then x else nI 200)) bw_23 bw_24 bw_2 bw_25 dL_init_10 (Nat.le_of_ble_eq_true rfl) (Nat.le_of_ble_eq_true rfl) rfl ?_
  refine rw_mmax (pc := 13) (v := nI (f_L x)) bw_26 bw_27 bw_2 bw_28 dL_init_13 (Nat.le_of_ble_eq_true rfl) (Nat.le_of_ble_eq_true rfl) (L_c x) ?_
  refine rw_istore_n (pc := 16) (L' := [some (.inr (some 1)), some (.inl x), some (.inl (nI (f_L x))), none]) dL_init_16 (by decide) rfl ?_
  refine rw_aload_n (pc := 17) dL_init_17 rfl ?_
  refine rw_new (pc := 18) (rc' := 59) (rs' := 598) nnL_18 dL_init_18 rfl rfl ?_
  have hnk : hp_n h = 2 := hn
  rw [hnk]
  refine rw_dup (pc := 21) dL_init_21 ?_
  refine rw_iv (pc := 22) (z' := (1, 1, 60)) (rc' := 58) (rs' := 538) (av := []) (st := [.inr (some 2), .inr (some 1)]) mlL_20 miN_init rfl rfl dL_init_22 (cN_init G _ (by rw [hp_n_new]; omega) (by rw [hp_S_new, if_pos hnk.symm])) rfl rfl (Nat.le_of_ble_eq_true rfl) (Nat.le_of_ble_eq_true rfl) rfl rfl (fun h1 q1 => ?_)
  obtain ⟨q1, q2, q3⟩ := q1
  refine rw_putR (pc := 25) pfL_21_L (Or.inl ⟨_, rfl⟩) dL_init_25 ⟨by omega, by omega⟩ (by rw [(q2 1 (by omega)).2.2, hp_S_new, if_neg (by omega)]; exact hS1) ?_
  have hq := b_1 hn hS1 q1 q2 q3
  generalize hp_sR h1 1 0 (some 2) = g2 at hq ⊢
  clear q1 q2 q3 hnk
  refine rw_aload_n (pc := 28) dL_init_28 rfl ?_
  refine rw_new (pc := 29) (rc' := 57) (rs' := 527) nnL_25 dL_init_29 rfl rfl ?_
  have hnk : hp_n g2 = 4 := hq.1
  rw [hnk]
  refine rw_dup (pc := 32) dL_init_32 ?_
  refine rw_aload_n (pc := 33) dL_init_33 rfl ?_
  refine rw_getR (pc := 34) (x := some 2) flL_21_L dL_init_34 ⟨by omega, by rw [hp_n_new]; omega⟩ (by rw [hp_S_new, if_neg (by omega)]; exact hq.2.1) (by rw [hp_R_new, if_neg (by omega)]; exact hq.2.2.1) ?_
  refine rw_iload_n (pc := 37) dL_init_37 rfl ?_
  refine rw_iv (pc := 38) (z' := (2, 23, 77)) (rc' := 34) (rs' := 450) (av := [.inr (some 2), .inl (nI (f_L x))]) (st := [.inr (some 4), .inr (some 1)]) mlL_27 miS_init rfl rfl dL_init_38 (cS_init G _ (nt := 2) (by rw [hp_n_new]; omega) (by rw [hp_S_new, if_pos hnk.symm]) _) rfl rfl (Nat.le_of_ble_eq_true rfl) (Nat.le_of_ble_eq_true rfl) rfl rfl (fun h3 q3 => ?_)
  have q1 := q3.1
  have q2 := q3.2.1
  refine rw_putR (pc := 41) pfL_30_L (Or.inl ⟨_, rfl⟩) dL_init_41 ⟨by omega, by omega⟩ (by rw [(q2 1 (by omega)).2.2, hp_S_new, if_neg (by omega)]; exact hq.2.1) ?_
  replace hq := b_2 hq q3
  generalize hp_sR h3 1 1 (some 4) = g4 at hq ⊢
  clear q1 q2 hnk
  refine rw_aload_n (pc := 44) dL_init_44 rfl ?_
  refine rw_iconst (pc := 45) (x := nI 3) dL_init_45 (by decide) ?_
  refine rw_newq (pc := 46) (t := 6) (N := 3) (rc' := 33) (rs' := 447) rfl (by decide) bw_112 ao_5 dL_init_46 (by decide) (by decide) (by decide) rfl rfl ?_
  refine rw_putR (pc := 49) pfL_36_L (Or.inr ⟨_, rfl⟩) dL_init_49 ⟨by omega, by simp only [hp_n_new]; have := hq.1; omega⟩ (by first | exact hq.2.1 | (rw [hp_S_new, if_neg (by have := hq.1; omega)]; exact hq.2.1)) ?_
  replace hq := bq_0 hq.1 hq.2.1 hq.2.2.1 hq.2.2.2.1 hq.2.2.2.2.1 hq.2.2.2.2.2
  generalize hp_sR (hp_new g4 (.inl (6, 3))) 1 2 (some (hp_n g4)) = g5 at hq ⊢
  refine rw_iconst (pc := 52) (x := nI 0) dL_init_52 (by decide) ?_
  refine rw_istore_n (pc := 53) (L' := [some (.inr (some 1)), some (.inl x), some (.inl (nI (f_L x))), some (.inl (nI 0))]) dL_init_53 (by decide) rfl ?_
  refine rw_iload_n (pc := 54) dL_init_54 rfl ?_
  refine rw_iconst (pc := 55) (x := nI 3) dL_init_55 (by decide) ?_
  refine rw_icmpge (pc := 56) dL_init_56 (tgt := 88) rfl (fun c6 => ?_) (fun c6 => ?_)
  · skip
    replace c6 : 3 ≤ 0 := (nI_leI (a := 3) (b := 0) (by omega) (by omega)).mp c6
    exact absurd c6 (by decide)
  · skip
    replace c6 : ¬ (3 ≤ 0) := fun qz => c6 ((nI_leI (a := 3) (b := 0) (by omega) (by omega)).mpr qz)
    refine rw_aload_n (pc := 59) dL_init_59 rfl ?_
    refine rw_getR (pc := 60) (x := some 28) flL_36_L dL_init_60 ⟨by omega, by have := hq.1; omega⟩ hq.2.1.1 hq.2.2.1.2.2 ?_
    refine rw_iload_n (pc := 63) dL_init_63 rfl ?_
    refine rw_new (pc := 64) (rc' := 32) (rs' := 436) nnL_34 dL_init_64 rfl rfl ?_
    have hnk : hp_n g5 = 29 + 11 * 0 := hq.1
    rw [hnk]
    refine rw_dup (pc := 67) dL_init_67 ?_
    refine rw_iload_n (pc := 68) dL_init_68 rfl ?_
    refine rw_iload_n (pc := 69) dL_init_69 rfl ?_
    refine rw_iconst (pc := 70) (x := nI 2) dL_init_70 (by decide) ?_
    refine rw_idiv (pc := 71) (v := nI ((f_L x) / 2)) dL_init_71 (by decide) (pk_div (by omega) (by decide) (by decide)) ?_
    refine rw_iconst (pc := 72) (x := nI 2) dL_init_72 (by decide) ?_
    refine rw_isub (pc := 73) (v := nI (((f_L x) / 2) - 2)) dL_init_73 (pk_sub (by omega)) ?_
    refine rw_aload_n (pc := 74) dL_init_74 rfl ?_
    refine rw_getR (pc := 75) (x := some 2) flL_21_L dL_init_75 ⟨by omega, by rw [hp_n_new]; omega⟩ (by rw [hp_S_new, if_neg (by omega)]; exact hq.2.1.1) (by rw [hp_R_new, if_neg (by omega)]; exact hq.2.2.1.1) ?_
    refine rw_iv (pc := 78) (z' := (2, 10, 46)) (rc' := 22) (rs' := 390) (av := [.inl (nI 0), .inl (nI (((f_L x) / 2) - 2)), .inr (some 2)]) (st := [.inr (some (29 + 11 * 0)), .inl (nI 0), .inr (some 28)]) mlL_40 miC_init rfl rfl dL_init_78 (cC_init G _ (i := 29 + 11 * 0) (nt := 2) (by omega) (by rw [hp_n_new]; omega) (by rw [hp_S_new, if_pos hnk.symm]) _ _) rfl rfl (Nat.le_of_ble_eq_true rfl) (Nat.le_of_ble_eq_true rfl) rfl rfl (fun h7 q7 => ?_)
    have q1 := q7.1
    have q2 := q7.2.1
    refine rw_aast (pc := 81) (i := 0) so_6_C (by decide) dL_init_81 ⟨by omega, by omega⟩ (by rw [(q2 28 (by omega)).2.2, hp_S_new, if_neg (by omega)]; exact hq.2.1.2) (ix_nI (by omega) (by decide)) ⟨by omega, by omega⟩ q7.2.2.1.1 ?_
    replace hq := bq_S hq q7
    generalize hp_sR h7 28 0 (some (29 + 11 * 0)) = g8 at hq ⊢
    clear q1 q2 hnk
    refine rw_iinc (pc := 82) (x := nI 0) (y := nI 1) (L' := [some (.inr (some 1)), some (.inl x), some (.inl (nI (f_L x))), some (.inl (nI 1))]) dL_init_82 (by decide) rfl (by decide) rfl ?_
    refine rw_goto (pc := 85) dL_init_85 (tgt := 54) rfl ?_
    refine rw_iload_n (pc := 54) dL_init_54 rfl ?_
    refine rw_iconst (pc := 55) (x := nI 3) dL_init_55 (by decide) ?_
    refine rw_icmpge (pc := 56) dL_init_56 (tgt := 88) rfl (fun c9 => ?_) (fun c9 => ?_)
    · skip
      replace c9 : 3 ≤ 1 := (nI_leI (a := 3) (b := 1) (by omega) (by omega)).mp c9
      exact absurd c9 (by decide)
    · skip
      replace c9 : ¬ (3 ≤ 1) := fun qz => c9 ((nI_leI (a := 3) (b := 1) (by omega) (by omega)).mpr qz)
      refine rw_aload_n (pc := 59) dL_init_59 rfl ?_
      refine rw_getR (pc := 60) (x := some 28) flL_36_L dL_init_60 ⟨by omega, by have := hq.1; omega⟩ hq.2.1.1 hq.2.2.1.2.2 ?_
      refine rw_iload_n (pc := 63) dL_init_63 rfl ?_
      refine rw_new (pc := 64) (rc' := 21) (rs' := 379) nnL_34 dL_init_64 rfl rfl ?_
      have hnk : hp_n g8 = 29 + 11 * 1 := hq.1
      rw [hnk]
      refine rw_dup (pc := 67) dL_init_67 ?_
      refine rw_iload_n (pc := 68) dL_init_68 rfl ?_
      refine rw_iload_n (pc := 69) dL_init_69 rfl ?_
      refine rw_iconst (pc := 70) (x := nI 2) dL_init_70 (by decide) ?_
      refine rw_idiv (pc := 71) (v := nI ((f_L x) / 2)) dL_init_71 (by decide) (pk_div (by omega) (by decide) (by decide)) ?_
      refine rw_iconst (pc := 72) (x := nI 2) dL_init_72 (by decide) ?_
      refine rw_isub (pc := 73) (v := nI (((f_L x) / 2) - 2)) dL_init_73 (pk_sub (by omega)) ?_
      refine rw_aload_n (pc := 74) dL_init_74 rfl ?_
      refine rw_getR (pc := 75) (x := some 2) flL_21_L dL_init_75 ⟨by omega, by rw [hp_n_new]; omega⟩ (by rw [hp_S_new, if_neg (by omega)]; exact hq.2.1.1) (by rw [hp_R_new, if_neg (by omega)]; exact hq.2.2.1.1) ?_
      refine rw_iv (pc := 78) (z' := (2, 10, 46)) (rc' := 11) (rs' := 333) (av := [.inl (nI 1), .inl (nI (((f_L x) / 2) - 2)), .inr (some 2)]) (st := [.inr (some (29 + 11 * 1)), .inl (nI 1), .inr (some 28)]) mlL_40 miC_init rfl rfl dL_init_78 (cC_init G _ (i := 29 + 11 * 1) (nt := 2) (by omega) (by rw [hp_n_new]; omega) (by rw [hp_S_new, if_pos hnk.symm]) _ _) rfl rfl (Nat.le_of_ble_eq_true rfl) (Nat.le_of_ble_eq_true rfl) rfl rfl (fun h10 q10 => ?_)
      have q1 := q10.1
      have q2 := q10.2.1
      refine rw_aast (pc := 81) (i := 1) so_6_C (by decide) dL_init_81 ⟨by omega, by omega⟩ (by rw [(q2 28 (by omega)).2.2, hp_S_new, if_neg (by omega)]; exact hq.2.1.2) (ix_nI (by omega) (by decide)) ⟨by omega, by omega⟩ q10.2.2.1.1 ?_
      replace hq := bq_S hq q10
      generalize hp_sR h10 28 1 (some (29 + 11 * 1)) = g11 at hq ⊢
      clear q1 q2 hnk
      refine rw_iinc (pc := 82) (x := nI 1) (y := nI 2) (L' := [some (.inr (some 1)), some (.inl x), some (.inl (nI (f_L x))), some (.inl (nI 2))]) dL_init_82 (by decide) rfl (by decide) rfl ?_
      refine rw_goto (pc := 85) dL_init_85 (tgt := 54) rfl ?_
      refine rw_iload_n (pc := 54) dL_init_54 rfl ?_
      refine rw_iconst (pc := 55) (x := nI 3) dL_init_55 (by decide) ?_
      refine rw_icmpge (pc := 56) dL_init_56 (tgt := 88) rfl (fun c12 => ?_) (fun c12 => ?_)
      · skip
        replace c12 : 3 ≤ 2 := (nI_leI (a := 3) (b := 2) (by omega) (by omega)).mp c12
        exact absurd c12 (by decide)
      · skip
        replace c12 : ¬ (3 ≤ 2) := fun qz => c12 ((nI_leI (a := 3) (b := 2) (by omega) (by omega)).mpr qz)
        refine rw_aload_n (pc := 59) dL_init_59 rfl ?_
        refine rw_getR (pc := 60) (x := some 28) flL_36_L dL_init_60 ⟨by omega, by have := hq.1; omega⟩ hq.2.1.1 hq.2.2.1.2.2 ?_
        refine rw_iload_n (pc := 63) dL_init_63 rfl ?_
        refine rw_new (pc := 64) (rc' := 10) (rs' := 322) nnL_34 dL_init_64 rfl rfl ?_
        have hnk : hp_n g11 = 29 + 11 * 2 := hq.1
        rw [hnk]
        refine rw_dup (pc := 67) dL_init_67 ?_
        refine rw_iload_n (pc := 68) dL_init_68 rfl ?_
        refine rw_iload_n (pc := 69) dL_init_69 rfl ?_
        refine rw_iconst (pc := 70) (x := nI 2) dL_init_70 (by decide) ?_
        refine rw_idiv (pc := 71) (v := nI ((f_L x) / 2)) dL_init_71 (by decide) (pk_div (by omega) (by decide) (by decide)) ?_
        refine rw_iconst (pc := 72) (x := nI 2) dL_init_72 (by decide) ?_
        refine rw_isub (pc := 73) (v := nI (((f_L x) / 2) - 2)) dL_init_73 (pk_sub (by omega)) ?_
        refine rw_aload_n (pc := 74) dL_init_74 rfl ?_
        refine rw_getR (pc := 75) (x := some 2) flL_21_L dL_init_75 ⟨by omega, by rw [hp_n_new]; omega⟩ (by rw [hp_S_new, if_neg (by omega)]; exact hq.2.1.1) (by rw [hp_R_new, if_neg (by omega)]; exact hq.2.2.1.1) ?_
        refine rw_iv (pc := 78) (z' := (2, 10, 46)) (rc' := 0) (rs' := 276) (av := [.inl (nI 2), .inl (nI (((f_L x) / 2) - 2)), .inr (some 2)]) (st := [.inr (some (29 + 11 * 2)), .inl (nI 2), .inr (some 28)]) mlL_40 miC_init rfl rfl dL_init_78 (cC_init G _ (i := 29 + 11 * 2) (nt := 2) (by omega) (by rw [hp_n_new]; omega) (by rw [hp_S_new, if_pos hnk.symm]) _ _) rfl rfl (Nat.le_of_ble_eq_true rfl) (Nat.le_of_ble_eq_true rfl) rfl rfl (fun h13 q13 => ?_)
        have q1 := q13.1
        have q2 := q13.2.1
        refine rw_aast (pc := 81) (i := 2) so_6_C (by decide) dL_init_81 ⟨by omega, by omega⟩ (by rw [(q2 28 (by omega)).2.2, hp_S_new, if_neg (by omega)]; exact hq.2.1.2) (ix_nI (by omega) (by decide)) ⟨by omega, by omega⟩ q13.2.2.1.1 ?_
        replace hq := bq_S hq q13
        generalize hp_sR h13 28 2 (some (29 + 11 * 2)) = g14 at hq ⊢
        clear q1 q2 hnk
        refine rw_iinc (pc := 82) (x := nI 2) (y := nI 3) (L' := [some (.inr (some 1)), some (.inl x), some (.inl (nI (f_L x))), some (.inl (nI 3))]) dL_init_82 (by decide) rfl (by decide) rfl ?_
        refine rw_goto (pc := 85) dL_init_85 (tgt := 54) rfl ?_
        refine rw_iload_n (pc := 54) dL_init_54 rfl ?_
        refine rw_iconst (pc := 55) (x := nI 3) dL_init_55 (by decide) ?_
        refine rw_icmpge (pc := 56) dL_init_56 (tgt := 88) rfl (fun c15 => ?_) (fun c15 => ?_)
        · skip
          replace c15 : 3 ≤ 3 := (nI_leI (a := 3) (b := 3) (by omega) (by omega)).mp c15
          exact rw_vret (pc := 88) dL_init_88 rfl ⟨rfl, hq⟩
        · skip
          replace c15 : ¬ (3 ≤ 3) := fun qz => c15 ((nI_leI (a := 3) (b := 3) (by omega) (by omega)).mpr qz)
          exact absurd (by decide) c15
theorem cM_init (G : mt_G) (h : ha_H) {h0 : ha_H} (hq0 : RQ 0 h0 h) (x : Int32) : rn_M G xM_init (1, 40, 2200) [.inr (some 62), .inl x] h (rn_v (fun h' => RE (f_L x) h0 h')) := by
  have hq := hq0
  refine rn_of (by decide +kernel) (Nat.le_of_ble_eq_true rfl) ?_
  show rn_W G xM_init (1, 40, 2200) 40 2200 0 [some (.inr (some 62)), some (.inl x), none] [] h _
  refine rw_aload_n (pc := 0) dM_init_0 rfl ?_
  refine rw_objInit (pc := 1) bw_655 bw_21 bw_22 dM_init_1 (Nat.le_of_ble_eq_true rfl) (Nat.le_of_ble_eq_true rfl) ?_
  refine rw_aload_n (pc := 4) dM_init_4 rfl ?_
  refine rw_iconst (pc := 5) (x := nI 4) dM_init_5 (by decide) ?_
  refine rw_newa (pc := 6) (at' := .boolean) (t := 1) (N := 4) (rc' := 39) (rs' := 2196) rfl (by decide) bw_789 rfl (fun _ _ h => h) dM_init_6 (by decide) (by decide) (by decide) rfl rfl ?_
  refine rw_putR (pc := 8) pfM_7_M (Or.inr ⟨_, rfl⟩) dM_init_8 ⟨by omega, by rw [hp_n_new]; have := hq.1; omega⟩ (by rw [hp_S_new, if_neg (by have := hq.1; omega)]; exact hq.2.2.1) ?_
  replace hq := rq_S (k := 0) hq rfl rfl (by decide)
  change RQ 1 h0 (hp_sR (hp_new h (.inl (1, 4))) 62 1 (some (hp_n h))) at hq
  generalize hp_sR (hp_new h (.inl (1, 4))) 62 1 (some (hp_n h)) = g1 at hq ⊢
  refine rw_aload_n (pc := 11) dM_init_11 rfl ?_
  refine rw_iconst (pc := 12) (x := nI 4) dM_init_12 (by decide) ?_
  refine rw_newa (pc := 13) (at' := .int) (t := 0) (N := 4) (rc' := 38) (rs' := 2192) rfl (by decide) bw_73 rfl (fun _ _ h => h) dM_init_13 (by decide) (by decide) (by decide) rfl rfl ?_
  refine rw_putR (pc := 15) pfM_13_M (Or.inr ⟨_, rfl⟩) dM_init_15 ⟨by omega, by rw [hp_n_new]; have := hq.1; omega⟩ (by rw [hp_S_new, if_neg (by have := hq.1; omega)]; exact hq.2.2.1) ?_
  replace hq := rq_S (k := 1) hq rfl rfl (by decide)
  change RQ 2 h0 (hp_sR (hp_new g1 (.inl (0, 4))) 62 2 (some (hp_n g1))) at hq
  generalize hp_sR (hp_new g1 (.inl (0, 4))) 62 2 (some (hp_n g1)) = g2 at hq ⊢
  refine rw_aload_n (pc := 18) dM_init_18 rfl ?_
  refine rw_bipush (pc := 19) (x := nI 16) dM_init_19 (by decide) ?_
  refine rw_newa (pc := 21) (at' := .int) (t := 0) (N := 16) (rc' := 37) (rs' := 2176) rfl (by decide) bw_73 rfl (fun _ _ h => h) dM_init_21 (by decide) (by decide) (by decide) rfl rfl ?_
  refine rw_putR (pc := 23) pfM_17_M (Or.inr ⟨_, rfl⟩) dM_init_23 ⟨by omega, by rw [hp_n_new]; have := hq.1; omega⟩ (by rw [hp_S_new, if_neg (by have := hq.1; omega)]; exact hq.2.2.1) ?_
  replace hq := rq_S (k := 2) hq rfl rfl (by decide)
  change RQ 3 h0 (hp_sR (hp_new g2 (.inl (0, 16))) 62 3 (some (hp_n g2))) at hq
  generalize hp_sR (hp_new g2 (.inl (0, 16))) 62 3 (some (hp_n g2)) = g3 at hq ⊢
  refine rw_aload_n (pc := 26) dM_init_26 rfl ?_
  refine rw_bipush (pc := 27) (x := nI 12) dM_init_27 (by decide) ?_
  refine rw_newa (pc := 29) (at' := .int) (t := 0) (N := 12) (rc' := 36) (rs' := 2164) rfl (by decide) bw_73 rfl (fun _ _ h => h) dM_init_29 (by decide) (by decide) (by decide) rfl rfl ?_
  refine rw_putR (pc := 31) pfM_20_M (Or.inr ⟨_, rfl⟩) dM_init_31 ⟨by omega, by rw [hp_n_new]; have := hq.1; omega⟩ (by rw [hp_S_new, if_neg (by have := hq.1; omega)]; exact hq.2.2.1) ?_
  replace hq := rq_S (k := 3) hq rfl rfl (by decide)
  change RQ 4 h0 (hp_sR (hp_new g3 (.inl (0, 12))) 62 4 (some (hp_n g3))) at hq
  generalize hp_sR (hp_new g3 (.inl (0, 12))) 62 4 (some (hp_n g3)) = g4 at hq ⊢
  refine rw_aload_n (pc := 34) dM_init_34 rfl ?_
  refine rw_bipush (pc := 35) (x := nI 12) dM_init_35 (by decide) ?_
  refine rw_newa (pc := 37) (at' := .int) (t := 0) (N := 12) (rc' := 35) (rs' := 2152) rfl (by decide) bw_73 rfl (fun _ _ h => h) dM_init_37 (by decide) (by decide) (by decide) rfl rfl ?_
  refine rw_putR (pc := 39) pfM_23_M (Or.inr ⟨_, rfl⟩) dM_init_39 ⟨by omega, by rw [hp_n_new]; have := hq.1; omega⟩ (by rw [hp_S_new, if_neg (by have := hq.1; omega)]; exact hq.2.2.1) ?_
  replace hq := rq_S (k := 4) hq rfl rfl (by decide)
  change RQ 5 h0 (hp_sR (hp_new g4 (.inl (0, 12))) 62 5 (some (hp_n g4))) at hq
  generalize hp_sR (hp_new g4 (.inl (0, 12))) 62 5 (some (hp_n g4)) = g5 at hq ⊢
  refine rw_aload_n (pc := 42) dM_init_42 rfl ?_
  refine rw_iconst (pc := 43) (x := nI 3) dM_init_43 (by decide) ?_
  refine rw_newa (pc := 44) (at' := .int) (t := 0) (N := 3) (rc' := 34) (rs' := 2149) rfl (by decide) bw_73 rfl (fun _ _ h => h) dM_init_44 (by decide) (by decide) (by decide) rfl rfl ?_
  refine rw_putR (pc := 46) pfM_26_M (Or.inr ⟨_, rfl⟩) dM_init_46 ⟨by omega, by rw [hp_n_new]; have := hq.1; omega⟩ (by rw [hp_S_new, if_neg (by have := hq.1; omega)]; exact hq.2.2.1) ?_
  replace hq := rq_S (k := 5) hq rfl rfl (by decide)
  change RQ 6 h0 (hp_sR (hp_new g5 (.inl (0, 3))) 62 7 (some (hp_n g5))) at hq
  generalize hp_sR (hp_new g5 (.inl (0, 3))) 62 7 (some (hp_n g5)) = g6 at hq ⊢
  refine rw_aload_n (pc := 49) dM_init_49 rfl ?_
  refine rw_iconst (pc := 50) (x := nI 3) dM_init_50 (by decide) ?_
  refine rw_newa (pc := 51) (at' := .int) (t := 0) (N := 3) (rc' := 33) (rs' := 2146) rfl (by decide) bw_73 rfl (fun _ _ h => h) dM_init_51 (by decide) (by decide) (by decide) rfl rfl ?_
  refine rw_putR (pc := 53) pfM_29_M (Or.inr ⟨_, rfl⟩) dM_init_53 ⟨by omega, by rw [hp_n_new]; have := hq.1; omega⟩ (by rw [hp_S_new, if_neg (by have := hq.1; omega)]; exact hq.2.2.1) ?_
  replace hq := rq_S (k := 6) hq rfl rfl (by decide)
  change RQ 7 h0 (hp_sR (hp_new g6 (.inl (0, 3))) 62 8 (some (hp_n g6))) at hq
  generalize hp_sR (hp_new g6 (.inl (0, 3))) 62 8 (some (hp_n g6)) = g7 at hq ⊢
  refine rw_aload_n (pc := 56) dM_init_56 rfl ?_
  refine rw_iconst (pc := 57) (x := nI 3) dM_init_57 (by decide) ?_
  refine rw_newa (pc := 58) (at' := .int) (t := 0) (N := 3) (rc' := 32) (rs' := 2143) rfl (by decide) bw_73 rfl (fun _ _ h => h) dM_init_58 (by decide) (by decide) (by decide) rfl rfl ?_
  refine rw_putR (pc := 60) pfM_32_M (Or.inr ⟨_, rfl⟩) dM_init_60 ⟨by omega, by rw [hp_n_new]; have := hq.1; omega⟩ (by rw [hp_S_new, if_neg (by have := hq.1; omega)]; exact hq.2.2.1) ?_
  replace hq := rq_S (k := 7) hq rfl rfl (by decide)
  change RQ 8 h0 (hp_sR (hp_new g7 (.inl (0, 3))) 62 9 (some (hp_n g7))) at hq
  generalize hp_sR (hp_new g7 (.inl (0, 3))) 62 9 (some (hp_n g7)) = g8 at hq ⊢
  refine rw_aload_n (pc := 63) dM_init_63 rfl ?_
  refine rw_iconst (pc := 64) (x := nI 3) dM_init_64 (by decide) ?_
  refine rw_newa (pc := 65) (at' := .int) (t := 0) (N := 3) (rc' := 31) (rs' := 2140) rfl (by decide) bw_73 rfl (fun _ _ h => h) dM_init_65 (by decide) (by decide) (by decide) rfl rfl ?_
  refine rw_putR (pc := 67) pfM_35_M (Or.inr ⟨_, rfl⟩) dM_init_67 ⟨by omega, by rw [hp_n_new]; have := hq.1; omega⟩ (by rw [hp_S_new, if_neg (by have := hq.1; omega)]; exact hq.2.2.1) ?_
  replace hq := rq_S (k := 8) hq rfl rfl (by decide)
  change RQ 9 h0 (hp_sR (hp_new g8 (.inl (0, 3))) 62 10 (some (hp_n g8))) at hq
  generalize hp_sR (hp_new g8 (.inl (0, 3))) 62 10 (some (hp_n g8)) = g9 at hq ⊢
  refine rw_aload_n (pc := 70) dM_init_70 rfl ?_
  refine rw_iconst (pc := 71) (x := nI 3) dM_init_71 (by decide) ?_
  refine rw_newa (pc := 72) (at' := .boolean) (t := 1) (N := 3) (rc' := 30) (rs' := 2137) rfl (by decide) bw_789 rfl (fun _ _ h => h) dM_init_72 (by decide) (by decide) (by decide) rfl rfl ?_
  refine rw_putR (pc := 74) pfM_38_M (Or.inr ⟨_, rfl⟩) dM_init_74 ⟨by omega, by rw [hp_n_new]; have := hq.1; omega⟩ (by rw [hp_S_new, if_neg (by have := hq.1; omega)]; exact hq.2.2.1) ?_
  replace hq := rq_S (k := 9) hq rfl rfl (by decide)
  change RQ 10 h0 (hp_sR (hp_new g9 (.inl (1, 3))) 62 11 (some (hp_n g9))) at hq
  generalize hp_sR (hp_new g9 (.inl (1, 3))) 62 11 (some (hp_n g9)) = g10 at hq ⊢
  refine rw_aload_n (pc := 77) dM_init_77 rfl ?_
  refine rw_bipush (pc := 78) (x := nI 12) dM_init_78 (by decide) ?_
  refine rw_newa (pc := 80) (at' := .int) (t := 0) (N := 12) (rc' := 29) (rs' := 2125) rfl (by decide) bw_73 rfl (fun _ _ h => h) dM_init_80 (by decide) (by decide) (by decide) rfl rfl ?_
  refine rw_putR (pc := 82) pfM_41_M (Or.inr ⟨_, rfl⟩) dM_init_82 ⟨by omega, by rw [hp_n_new]; have := hq.1; omega⟩ (by rw [hp_S_new, if_neg (by have := hq.1; omega)]; exact hq.2.2.1) ?_
  replace hq := rq_S (k := 10) hq rfl rfl (by decide)
  change RQ 11 h0 (hp_sR (hp_new g10 (.inl (0, 12))) 62 12 (some (hp_n g10))) at hq
  generalize hp_sR (hp_new g10 (.inl (0, 12))) 62 12 (some (hp_n g10)) = g11 at hq ⊢
  refine rw_aload_n (pc := 85) dM_init_85 rfl ?_
  refine rw_iconst (pc := 86) (x := nI 3) dM_init_86 (by decide) ?_
  refine rw_newa (pc := 87) (at' := .int) (t := 0) (N := 3) (rc' := 28) (rs' := 2122) rfl (by decide) bw_73 rfl (fun _ _ h => h) dM_init_87 (by decide) (by decide) (by decide) rfl rfl ?_
  refine rw_putR (pc := 89) pfM_44_M (Or.inr ⟨_, rfl⟩) dM_init_89 ⟨by omega, by rw [hp_n_new]; have := hq.1; omega⟩ (by rw [hp_S_new, if_neg (by have := hq.1; omega)]; exact hq.2.2.1) ?_
  replace hq := rq_S (k := 11) hq rfl rfl (by decide)
  change RQ 12 h0 (hp_sR (hp_new g11 (.inl (0, 3))) 62 13 (some (hp_n g11))) at hq
  generalize hp_sR (hp_new g11 (.inl (0, 3))) 62 13 (some (hp_n g11)) = g12 at hq ⊢
  refine rw_aload_n (pc := 92) dM_init_92 rfl ?_
  refine rw_iconst (pc := 93) (x := nI 3) dM_init_93 (by decide) ?_
  refine rw_newa (pc := 94) (at' := .int) (t := 0) (N := 3) (rc' := 27) (rs' := 2119) rfl (by decide) bw_73 rfl (fun _ _ h => h) dM_init_94 (by decide) (by decide) (by decide) rfl rfl ?_
  refine rw_putR (pc := 96) pfM_47_M (Or.inr ⟨_, rfl⟩) dM_init_96 ⟨by omega, by rw [hp_n_new]; have := hq.1; omega⟩ (by rw [hp_S_new, if_neg (by have := hq.1; omega)]; exact hq.2.2.1) ?_
  replace hq := rq_S (k := 12) hq rfl rfl (by decide)
  change RQ 13 h0 (hp_sR (hp_new g12 (.inl (0, 3))) 62 14 (some (hp_n g12))) at hq
  generalize hp_sR (hp_new g12 (.inl (0, 3))) 62 14 (some (hp_n g12)) = g13 at hq ⊢
  refine rw_aload_n (pc := 99) dM_init_99 rfl ?_
  refine rw_iconst (pc := 100) (x := nI 3) dM_init_100 (by decide) ?_
  refine rw_newa (pc := 101) (at' := .int) (t := 0) (N := 3) (rc' := 26) (rs' := 2116) rfl (by decide) bw_73 rfl (fun _ _ h => h) dM_init_101 (by decide) (by decide) (by decide) rfl rfl ?_
  refine rw_putR (pc := 103) pfM_50_M (Or.inr ⟨_, rfl⟩) dM_init_103 ⟨by omega, by rw [hp_n_new]; have := hq.1; omega⟩ (by rw [hp_S_new, if_neg (by have := hq.1; omega)]; exact hq.2.2.1) ?_
  replace hq := rq_S (k := 13) hq rfl rfl (by decide)
  change RQ 14 h0 (hp_sR (hp_new g13 (.inl (0, 3))) 62 15 (some (hp_n g13))) at hq
  generalize hp_sR (hp_new g13 (.inl (0, 3))) 62 15 (some (hp_n g13)) = g14 at hq ⊢
  refine rw_aload_n (pc := 106) dM_init_106 rfl ?_
  refine rw_iconst (pc := 107) (x := nI 3) dM_init_107 (by decide) ?_
  refine rw_newa (pc := 108) (at' := .int) (t := 0) (N := 3) (rc' := 25) (rs' := 2113) rfl (by decide) bw_73 rfl (fun _ _ h => h) dM_init_108 (by decide) (by decide) (by decide) rfl rfl ?_
  refine rw_putR (pc := 110) pfM_53_M (Or.inr ⟨_, rfl⟩) dM_init_110 ⟨by omega, by rw [hp_n_new]; have := hq.1; omega⟩ (by rw [hp_S_new, if_neg (by have := hq.1; omega)]; exact hq.2.2.1) ?_
  replace hq := rq_S (k := 14) hq rfl rfl (by decide)
  change RQ 15 h0 (hp_sR (hp_new g14 (.inl (0, 3))) 62 16 (some (hp_n g14))) at hq
  generalize hp_sR (hp_new g14 (.inl (0, 3))) 62 16 (some (hp_n g14)) = g15 at hq ⊢
  refine rw_aload_n (pc := 113) dM_init_113 rfl ?_
  refine rw_iconst (pc := 114) (x := nI 3) dM_init_114 (by decide) ?_
  refine rw_newa (pc := 115) (at' := .int) (t := 0) (N := 3) (rc' := 24) (rs' := 2110) rfl (by decide) bw_73 rfl (fun _ _ h => h) dM_init_115 (by decide) (by decide) (by decide) rfl rfl ?_
  refine rw_putR (pc := 117) pfM_56_M (Or.inr ⟨_, rfl⟩) dM_init_117 ⟨by omega, by rw [hp_n_new]; have := hq.1; omega⟩ (by rw [hp_S_new, if_neg (by have := hq.1; omega)]; exact hq.2.2.1) ?_
  replace hq := rq_S (k := 15) hq rfl rfl (by decide)
  change RQ 16 h0 (hp_sR (hp_new g15 (.inl (0, 3))) 62 18 (some (hp_n g15))) at hq
  generalize hp_sR (hp_new g15 (.inl (0, 3))) 62 18 (some (hp_n g15)) = g16 at hq ⊢
  refine rw_aload_n (pc := 120) dM_init_120 rfl ?_
  refine rw_bipush (pc := 121) (x := nI 12) dM_init_121 (by decide) ?_
  refine rw_newa (pc := 123) (at' := .int) (t := 0) (N := 12) (rc' := 23) (rs' := 2098) rfl (by decide) bw_73 rfl (fun _ _ h => h) dM_init_123 (by decide) (by decide) (by decide) rfl rfl ?_
  refine rw_putR (pc := 125) pfM_59_M (Or.inr ⟨_, rfl⟩) dM_init_125 ⟨by omega, by rw [hp_n_new]; have := hq.1; omega⟩ (by rw [hp_S_new, if_neg (by have := hq.1; omega)]; exact hq.2.2.1) ?_
  replace hq := rq_S (k := 16) hq rfl rfl (by decide)
  change RQ 17 h0 (hp_sR (hp_new g16 (.inl (0, 12))) 62 19 (some (hp_n g16))) at hq
  generalize hp_sR (hp_new g16 (.inl (0, 12))) 62 19 (some (hp_n g16)) = g17 at hq ⊢
  refine rw_aload_n (pc := 128) dM_init_128 rfl ?_
  refine rw_bipush (pc := 129) (x := nI 12) dM_init_129 (by decide) ?_
  refine rw_newa (pc := 131) (at' := .int) (t := 0) (N := 12) (rc' := 22) (rs' := 2086) rfl (by decide) bw_73 rfl (fun _ _ h => h) dM_init_131 (by decide) (by decide) (by decide) rfl rfl ?_
  refine rw_putR (pc := 133) pfM_62_M (Or.inr ⟨_, rfl⟩) dM_init_133 ⟨by omega, by rw [hp_n_new]; have := hq.1; omega⟩ (by rw [hp_S_new, if_neg (by have := hq.1; omega)]; exact hq.2.2.1) ?_
  replace hq := rq_S (k := 17) hq rfl rfl (by decide)
  change RQ 18 h0 (hp_sR (hp_new g17 (.inl (0, 12))) 62 20 (some (hp_n g17))) at hq
  generalize hp_sR (hp_new g17 (.inl (0, 12))) 62 20 (some (hp_n g17)) = g18 at hq ⊢
  refine rw_aload_n (pc := 136) dM_init_136 rfl ?_
  refine rw_bipush (pc := 137) (x := nI 12) dM_init_137 (by decide) ?_
  refine rw_newa (pc := 139) (at' := .boolean) (t := 1) (N := 12) (rc' := 21) (rs' := 2074) rfl (by decide) bw_789 rfl (fun _ _ h => h) dM_init_139 (by decide) (by decide) (by decide) rfl rfl ?_
  refine rw_putR (pc := 141) pfM_65_M (Or.inr ⟨_, rfl⟩) dM_init_141 ⟨by omega, by rw [hp_n_new]; have := hq.1; omega⟩ (by rw [hp_S_new, if_neg (by have := hq.1; omega)]; exact hq.2.2.1) ?_
  replace hq := rq_S (k := 18) hq rfl rfl (by decide)
  change RQ 19 h0 (hp_sR (hp_new g18 (.inl (1, 12))) 62 21 (some (hp_n g18))) at hq
  generalize hp_sR (hp_new g18 (.inl (1, 12))) 62 21 (some (hp_n g18)) = g19 at hq ⊢
  refine rw_aload_n (pc := 144) dM_init_144 rfl ?_
  refine rw_bipush (pc := 145) (x := nI 12) dM_init_145 (by decide) ?_
  refine rw_newa (pc := 147) (at' := .boolean) (t := 1) (N := 12) (rc' := 20) (rs' := 2062) rfl (by decide) bw_789 rfl (fun _ _ h => h) dM_init_147 (by decide) (by decide) (by decide) rfl rfl ?_
  refine rw_putR (pc := 149) pfM_68_M (Or.inr ⟨_, rfl⟩) dM_init_149 ⟨by omega, by rw [hp_n_new]; have := hq.1; omega⟩ (by rw [hp_S_new, if_neg (by have := hq.1; omega)]; exact hq.2.2.1) ?_
  replace hq := rq_S (k := 19) hq rfl rfl (by decide)
  change RQ 20 h0 (hp_sR (hp_new g19 (.inl (1, 12))) 62 22 (some (hp_n g19))) at hq
  generalize hp_sR (hp_new g19 (.inl (1, 12))) 62 22 (some (hp_n g19)) = g20 at hq ⊢
  refine rw_aload_n (pc := 152) dM_init_152 rfl ?_
  refine rw_bipush (pc := 153) (x := nI 48) dM_init_153 (by decide) ?_
  refine rw_newa (pc := 155) (at' := .int) (t := 0) (N := 48) (rc' := 19) (rs' := 2014) rfl (by decide) bw_73 rfl (fun _ _ h => h) dM_init_155 (by decide) (by decide) (by decide) rfl rfl ?_
  refine rw_putR (pc := 157) pfM_71_M (Or.inr ⟨_, rfl⟩) dM_init_157 ⟨by omega, by rw [hp_n_new]; have := hq.1; omega⟩ (by rw [hp_S_new, if_neg (by have := hq.1; omega)]; exact hq.2.2.1) ?_
  replace hq := rq_S (k := 20) hq rfl rfl (by decide)
  change RQ 21 h0 (hp_sR (hp_new g20 (.inl (0, 48))) 62 23 (some (hp_n g20))) at hq
  generalize hp_sR (hp_new g20 (.inl (0, 48))) 62 23 (some (hp_n g20)) = g21 at hq ⊢
  refine rw_aload_n (pc := 160) dM_init_160 rfl ?_
  refine rw_iconst (pc := 161) (x := nI 3) dM_init_161 (by decide) ?_
  refine rw_newa (pc := 162) (at' := .int) (t := 0) (N := 3) (rc' := 18) (rs' := 2011) rfl (by decide) bw_73 rfl (fun _ _ h => h) dM_init_162 (by decide) (by decide) (by decide) rfl rfl ?_
  refine rw_putR (pc := 164) pfM_74_M (Or.inr ⟨_, rfl⟩) dM_init_164 ⟨by omega, by rw [hp_n_new]; have := hq.1; omega⟩ (by rw [hp_S_new, if_neg (by have := hq.1; omega)]; exact hq.2.2.1) ?_
  replace hq := rq_S (k := 21) hq rfl rfl (by decide)
  change RQ 22 h0 (hp_sR (hp_new g21 (.inl (0, 3))) 62 24 (some (hp_n g21))) at hq
  generalize hp_sR (hp_new g21 (.inl (0, 3))) 62 24 (some (hp_n g21)) = g22 at hq ⊢
  refine rw_aload_n (pc := 167) dM_init_167 rfl ?_
  refine rw_bipush (pc := 168) (x := nI 18) dM_init_168 (by decide) ?_
  refine rw_newa (pc := 170) (at' := .int) (t := 0) (N := 18) (rc' := 17) (rs' := 1993) rfl (by decide) bw_73 rfl (fun _ _ h => h) dM_init_170 (by decide) (by decide) (by decide) rfl rfl ?_
  refine rw_putR (pc := 172) pfM_77_M (Or.inr ⟨_, rfl⟩) dM_init_172 ⟨by omega, by rw [hp_n_new]; have := hq.1; omega⟩ (by rw [hp_S_new, if_neg (by have := hq.1; omega)]; exact hq.2.2.1) ?_
  replace hq := rq_S (k := 22) hq rfl rfl (by decide)
  change RQ 23 h0 (hp_sR (hp_new g22 (.inl (0, 18))) 62 25 (some (hp_n g22))) at hq
  generalize hp_sR (hp_new g22 (.inl (0, 18))) 62 25 (some (hp_n g22)) = g23 at hq ⊢
  refine rw_aload_n (pc := 175) dM_init_175 rfl ?_
  refine rw_bipush (pc := 176) (x := nI 18) dM_init_176 (by decide) ?_
  refine rw_newa (pc := 178) (at' := .int) (t := 0) (N := 18) (rc' := 16) (rs' := 1975) rfl (by decide) bw_73 rfl (fun _ _ h => h) dM_init_178 (by decide) (by decide) (by decide) rfl rfl ?_
  refine rw_putR (pc := 180) pfM_80_M (Or.inr ⟨_, rfl⟩) dM_init_180 ⟨by omega, by rw [hp_n_new]; have := hq.1; omega⟩ (by rw [hp_S_new, if_neg (by have := hq.1; omega)]; exact hq.2.2.1) ?_
  replace hq := rq_S (k := 23) hq rfl rfl (by decide)
  change RQ 24 h0 (hp_sR (hp_new g23 (.inl (0, 18))) 62 26 (some (hp_n g23))) at hq
  generalize hp_sR (hp_new g23 (.inl (0, 18))) 62 26 (some (hp_n g23)) = g24 at hq ⊢
  refine rw_aload_n (pc := 183) dM_init_183 rfl ?_
  refine rw_iconst (pc := 184) (x := nI 3) dM_init_184 (by decide) ?_
  refine rw_newa (pc := 185) (at' := .int) (t := 0) (N := 3) (rc' := 15) (rs' := 1972) rfl (by decide) bw_73 rfl (fun _ _ h => h) dM_init_185 (by decide) (by decide) (by decide) rfl rfl ?_
  refine rw_putR (pc := 187) pfM_83_M (Or.inr ⟨_, rfl⟩) dM_init_187 ⟨by omega, by rw [hp_n_new]; have := hq.1; omega⟩ (by rw [hp_S_new, if_neg (by have := hq.1; omega)]; exact hq.2.2.1) ?_
  replace hq := rq_S (k := 24) hq rfl rfl (by decide)
  change RQ 25 h0 (hp_sR (hp_new g24 (.inl (0, 3))) 62 27 (some (hp_n g24))) at hq
  generalize hp_sR (hp_new g24 (.inl (0, 3))) 62 27 (some (hp_n g24)) = g25 at hq ⊢
  refine rw_aload_n (pc := 190) dM_init_190 rfl ?_
  refine rw_iconst (pc := 191) (x := nI 3) dM_init_191 (by decide) ?_
  refine rw_newa (pc := 192) (at' := .int) (t := 0) (N := 3) (rc' := 14) (rs' := 1969) rfl (by decide) bw_73 rfl (fun _ _ h => h) dM_init_192 (by decide) (by decide) (by decide) rfl rfl ?_
  refine rw_putR (pc := 194) pfM_86_M (Or.inr ⟨_, rfl⟩) dM_init_194 ⟨by omega, by rw [hp_n_new]; have := hq.1; omega⟩ (by rw [hp_S_new, if_neg (by have := hq.1; omega)]; exact hq.2.2.1) ?_
  replace hq := rq_S (k := 25) hq rfl rfl (by decide)
  change RQ 26 h0 (hp_sR (hp_new g25 (.inl (0, 3))) 62 28 (some (hp_n g25))) at hq
  generalize hp_sR (hp_new g25 (.inl (0, 3))) 62 28 (some (hp_n g25)) = g26 at hq ⊢
  refine rw_aload_n (pc := 197) dM_init_197 rfl ?_
  refine rw_iconst (pc := 198) (x := nI 3) dM_init_198 (by decide) ?_
  refine rw_newa (pc := 199) (at' := .int) (t := 0) (N := 3) (rc' := 13) (rs' := 1966) rfl (by decide) bw_73 rfl (fun _ _ h => h) dM_init_199 (by decide) (by decide) (by decide) rfl rfl ?_
  refine rw_putR (pc := 201) pfM_89_M (Or.inr ⟨_, rfl⟩) dM_init_201 ⟨by omega, by rw [hp_n_new]; have := hq.1; omega⟩ (by rw [hp_S_new, if_neg (by have := hq.1; omega)]; exact hq.2.2.1) ?_
  replace hq := rq_S (k := 26) hq rfl rfl (by decide)
  change RQ 27 h0 (hp_sR (hp_new g26 (.inl (0, 3))) 62 29 (some (hp_n g26))) at hq
  generalize hp_sR (hp_new g26 (.inl (0, 3))) 62 29 (some (hp_n g26)) = g27 at hq ⊢
  refine rw_aload_n (pc := 204) dM_init_204 rfl ?_
  refine rw_iconst (pc := 205) (x := nI 3) dM_init_205 (by decide) ?_
  refine rw_newa (pc := 206) (at' := .boolean) (t := 1) (N := 3) (rc' := 12) (rs' := 1963) rfl (by decide) bw_789 rfl (fun _ _ h => h) dM_init_206 (by decide) (by decide) (by decide) rfl rfl ?_
  refine rw_putR (pc := 208) pfM_92_M (Or.inr ⟨_, rfl⟩) dM_init_208 ⟨by omega, by rw [hp_n_new]; have := hq.1; omega⟩ (by rw [hp_S_new, if_neg (by have := hq.1; omega)]; exact hq.2.2.1) ?_
  replace hq := rq_S (k := 27) hq rfl rfl (by decide)
  change RQ 28 h0 (hp_sR (hp_new g27 (.inl (1, 3))) 62 30 (some (hp_n g27))) at hq
  generalize hp_sR (hp_new g27 (.inl (1, 3))) 62 30 (some (hp_n g27)) = g28 at hq ⊢
  refine rw_aload_n (pc := 211) dM_init_211 rfl ?_
  refine rw_iconst (pc := 212) (x := nI 3) dM_init_212 (by decide) ?_
  refine rw_newa (pc := 213) (at' := .int) (t := 0) (N := 3) (rc' := 11) (rs' := 1960) rfl (by decide) bw_73 rfl (fun _ _ h => h) dM_init_213 (by decide) (by decide) (by decide) rfl rfl ?_
  refine rw_putR (pc := 215) pfM_95_M (Or.inr ⟨_, rfl⟩) dM_init_215 ⟨by omega, by rw [hp_n_new]; have := hq.1; omega⟩ (by rw [hp_S_new, if_neg (by have := hq.1; omega)]; exact hq.2.2.1) ?_
  replace hq := rq_S (k := 28) hq rfl rfl (by decide)
  change RQ 29 h0 (hp_sR (hp_new g28 (.inl (0, 3))) 62 31 (some (hp_n g28))) at hq
  generalize hp_sR (hp_new g28 (.inl (0, 3))) 62 31 (some (hp_n g28)) = g29 at hq ⊢
  refine rw_aload_n (pc := 218) dM_init_218 rfl ?_
  refine rw_iconst (pc := 219) (x := nI 3) dM_init_219 (by decide) ?_
  refine rw_newa (pc := 220) (at' := .int) (t := 0) (N := 3) (rc' := 10) (rs' := 1957) rfl (by decide) bw_73 rfl (fun _ _ h => h) dM_init_220 (by decide) (by decide) (by decide) rfl rfl ?_
  refine rw_putR (pc := 222) pfM_98_M (Or.inr ⟨_, rfl⟩) dM_init_222 ⟨by omega, by rw [hp_n_new]; have := hq.1; omega⟩ (by rw [hp_S_new, if_neg (by have := hq.1; omega)]; exact hq.2.2.1) ?_
  replace hq := rq_S (k := 29) hq rfl rfl (by decide)
  change RQ 30 h0 (hp_sR (hp_new g29 (.inl (0, 3))) 62 32 (some (hp_n g29))) at hq
  generalize hp_sR (hp_new g29 (.inl (0, 3))) 62 32 (some (hp_n g29)) = g30 at hq ⊢
  refine rw_aload_n (pc := 225) dM_init_225 rfl ?_
  refine rw_iconst (pc := 226) (x := nI 3) dM_init_226 (by decide) ?_
  refine rw_newa (pc := 227) (at' := .int) (t := 0) (N := 3) (rc' := 9) (rs' := 1954) rfl (by decide) bw_73 rfl (fun _ _ h => h) dM_init_227 (by decide) (by decide) (by decide) rfl rfl ?_
  refine rw_putR (pc := 229) pfM_101_M (Or.inr ⟨_, rfl⟩) dM_init_229 ⟨by omega, by rw [hp_n_new]; have := hq.1; omega⟩ (by rw [hp_S_new, if_neg (by have := hq.1; omega)]; exact hq.2.2.1) ?_
  replace hq := rq_S (k := 30) hq rfl rfl (by decide)
  change RQ 31 h0 (hp_sR (hp_new g30 (.inl (0, 3))) 62 33 (some (hp_n g30))) at hq
  generalize hp_sR (hp_new g30 (.inl (0, 3))) 62 33 (some (hp_n g30)) = g31 at hq ⊢
  refine rw_aload_n (pc := 232) dM_init_232 rfl ?_
  refine rw_bipush (pc := 233) (x := nI 60) dM_init_233 (by decide) ?_
  refine rw_newa (pc := 235) (at' := .int) (t := 0) (N := 60) (rc' := 8) (rs' := 1894) rfl (by decide) bw_73 rfl (fun _ _ h => h) dM_init_235 (by decide) (by decide) (by decide) rfl rfl ?_
  refine rw_putR (pc := 237) pfM_104_M (Or.inr ⟨_, rfl⟩) dM_init_237 ⟨by omega, by rw [hp_n_new]; have := hq.1; omega⟩ (by rw [hp_S_new, if_neg (by have := hq.1; omega)]; exact hq.2.2.1) ?_
  replace hq := rq_S (k := 31) hq rfl rfl (by decide)
  change RQ 32 h0 (hp_sR (hp_new g31 (.inl (0, 60))) 62 35 (some (hp_n g31))) at hq
  generalize hp_sR (hp_new g31 (.inl (0, 60))) 62 35 (some (hp_n g31)) = g32 at hq ⊢
  refine rw_aload_n (pc := 240) dM_init_240 rfl ?_
  refine rw_bipush (pc := 241) (x := nI 60) dM_init_241 (by decide) ?_
  refine rw_newa (pc := 243) (at' := .int) (t := 0) (N := 60) (rc' := 7) (rs' := 1834) rfl (by decide) bw_73 rfl (fun _ _ h => h) dM_init_243 (by decide) (by decide) (by decide) rfl rfl ?_
  refine rw_putR (pc := 245) pfM_107_M (Or.inr ⟨_, rfl⟩) dM_init_245 ⟨by omega, by rw [hp_n_new]; have := hq.1; omega⟩ (by rw [hp_S_new, if_neg (by have := hq.1; omega)]; exact hq.2.2.1) ?_
  replace hq := rq_S (k := 32) hq rfl rfl (by decide)
  change RQ 33 h0 (hp_sR (hp_new g32 (.inl (0, 60))) 62 36 (some (hp_n g32))) at hq
  generalize hp_sR (hp_new g32 (.inl (0, 60))) 62 36 (some (hp_n g32)) = g33 at hq ⊢
  refine rw_aload_n (pc := 248) dM_init_248 rfl ?_
  refine rw_bipush (pc := 249) (x := nI 60) dM_init_249 (by decide) ?_
  refine rw_newa (pc := 251) (at' := .int) (t := 0) (N := 60) (rc' := 6) (rs' := 1774) rfl (by decide) bw_73 rfl (fun _ _ h => h) dM_init_251 (by decide) (by decide) (by decide) rfl rfl ?_
  refine rw_putR (pc := 253) pfM_110_M (Or.inr ⟨_, rfl⟩) dM_init_253 ⟨by omega, by rw [hp_n_new]; have := hq.1; omega⟩ (by rw [hp_S_new, if_neg (by have := hq.1; omega)]; exact hq.2.2.1) ?_
  replace hq := rq_S (k := 33) hq rfl rfl (by decide)
  change RQ 34 h0 (hp_sR (hp_new g33 (.inl (0, 60))) 62 37 (some (hp_n g33))) at hq
  generalize hp_sR (hp_new g33 (.inl (0, 60))) 62 37 (some (hp_n g33)) = g34 at hq ⊢
  refine rw_aload_n (pc := 256) dM_init_256 rfl ?_
  refine rw_bipush (pc := 257) (x := nI 60) dM_init_257 (by decide) ?_
  refine rw_newa (pc := 259) (at' := .int) (t := 0) (N := 60) (rc' := 5) (rs' := 1714) rfl (by decide) bw_73 rfl (fun _ _ h => h) dM_init_259 (by decide) (by decide) (by decide) rfl rfl ?_
  refine rw_putR (pc := 261) pfM_113_M (Or.inr ⟨_, rfl⟩) dM_init_261 ⟨by omega, by rw [hp_n_new]; have := hq.1; omega⟩ (by rw [hp_S_new, if_neg (by have := hq.1; omega)]; exact hq.2.2.1) ?_
  replace hq := rq_S (k := 34) hq rfl rfl (by decide)
  change RQ 35 h0 (hp_sR (hp_new g34 (.inl (0, 60))) 62 38 (some (hp_n g34))) at hq
  generalize hp_sR (hp_new g34 (.inl (0, 60))) 62 38 (some (hp_n g34)) = g35 at hq ⊢
  refine rw_aload_n (pc := 264) dM_init_264 rfl ?_
  refine rw_bipush (pc := 265) (x := nI 60) dM_init_265 (by decide) ?_
  refine rw_newa (pc := 267) (at' := .int) (t := 0) (N := 60) (rc' := 4) (rs' := 1654) rfl (by decide) bw_73 rfl (fun _ _ h => h) dM_init_267 (by decide) (by decide) (by decide) rfl rfl ?_
  refine rw_putR (pc := 269) pfM_116_M (Or.inr ⟨_, rfl⟩) dM_init_269 ⟨by omega, by rw [hp_n_new]; have := hq.1; omega⟩ (by rw [hp_S_new, if_neg (by have := hq.1; omega)]; exact hq.2.2.1) ?_
  replace hq := rq_S (k := 35) hq rfl rfl (by decide)
  change RQ 36 h0 (hp_sR (hp_new g35 (.inl (0, 60))) 62 39 (some (hp_n g35))) at hq
  generalize hp_sR (hp_new g35 (.inl (0, 60))) 62 39 (some (hp_n g35)) = g36 at hq ⊢
  refine rw_aload_n (pc := 272) dM_init_272 rfl ?_
  refine rw_bipush (pc := 273) (x := nI 60) dM_init_273 (by decide) ?_
  refine rw_newa (pc := 275) (at' := .boolean) (t := 1) (N := 60) (rc' := 3) (rs' := 1594) rfl (by decide) bw_789 rfl (fun _ _ h => h) dM_init_275 (by decide) (by decide) (by decide) rfl rfl ?_
  refine rw_putR (pc := 277) pfM_119_M (Or.inr ⟨_, rfl⟩) dM_init_277 ⟨by omega, by rw [hp_n_new]; have := hq.1; omega⟩ (by rw [hp_S_new, if_neg (by have := hq.1; omega)]; exact hq.2.2.1) ?_
  replace hq := rq_S (k := 36) hq rfl rfl (by decide)
  change RQ 37 h0 (hp_sR (hp_new g36 (.inl (1, 60))) 62 40 (some (hp_n g36))) at hq
  generalize hp_sR (hp_new g36 (.inl (1, 60))) 62 40 (some (hp_n g36)) = g37 at hq ⊢
  refine rw_aload_n (pc := 280) dM_init_280 rfl ?_
  refine rw_bipush (pc := 281) (x := nI 60) dM_init_281 (by decide) ?_
  refine rw_newa (pc := 283) (at' := .int) (t := 0) (N := 60) (rc' := 2) (rs' := 1534) rfl (by decide) bw_73 rfl (fun _ _ h => h) dM_init_283 (by decide) (by decide) (by decide) rfl rfl ?_
  refine rw_putR (pc := 285) pfM_122_M (Or.inr ⟨_, rfl⟩) dM_init_285 ⟨by omega, by rw [hp_n_new]; have := hq.1; omega⟩ (by rw [hp_S_new, if_neg (by have := hq.1; omega)]; exact hq.2.2.1) ?_
  replace hq := rq_S (k := 37) hq rfl rfl (by decide)
  change RQ 38 h0 (hp_sR (hp_new g37 (.inl (0, 60))) 62 41 (some (hp_n g37))) at hq
  generalize hp_sR (hp_new g37 (.inl (0, 60))) 62 41 (some (hp_n g37)) = g38 at hq ⊢
  refine rw_aload_n (pc := 288) dM_init_288 rfl ?_
  refine rw_bipush (pc := 289) (x := nI 60) dM_init_289 (by decide) ?_
  refine rw_newa (pc := 291) (at' := .int) (t := 0) (N := 60) (rc' := 1) (rs' := 1474) rfl (by decide) bw_73 rfl (fun _ _ h => h) dM_init_291 (by decide) (by decide) (by decide) rfl rfl ?_
  refine rw_putR (pc := 293) pfM_125_M (Or.inr ⟨_, rfl⟩) dM_init_293 ⟨by omega, by rw [hp_n_new]; have := hq.1; omega⟩ (by rw [hp_S_new, if_neg (by have := hq.1; omega)]; exact hq.2.2.1) ?_
  replace hq := rq_S (k := 38) hq rfl rfl (by decide)
  change RQ 39 h0 (hp_sR (hp_new g38 (.inl (0, 60))) 62 42 (some (hp_n g38))) at hq
  generalize hp_sR (hp_new g38 (.inl (0, 60))) 62 42 (some (hp_n g38)) = g39 at hq ⊢
  refine rw_aload_n (pc := 296) dM_init_296 rfl ?_
  refine rw_sipush (pc := 297) (x := nI 240) dM_init_297 (by decide) ?_
  refine rw_newa (pc := 300) (at' := .int) (t := 0) (N := 240) (rc' := 0) (rs' := 1234) rfl (by decide) bw_73 rfl (fun _ _ h => h) dM_init_300 (by decide) (by decide) (by decide) rfl rfl ?_
  refine rw_putR (pc := 302) pfM_128_M (Or.inr ⟨_, rfl⟩) dM_init_302 ⟨by omega, by rw [hp_n_new]; have := hq.1; omega⟩ (by rw [hp_S_new, if_neg (by have := hq.1; omega)]; exact hq.2.2.1) ?_
  replace hq := rq_S (k := 39) hq rfl rfl (by decide)
  change RQ 40 h0 (hp_sR (hp_new g39 (.inl (0, 240))) 62 43 (some (hp_n g39))) at hq
  generalize hp_sR (hp_new g39 (.inl (0, 240))) 62 43 (some (hp_n g39)) = g40 at hq ⊢
  refine rw_aload_n (pc := 305) dM_init_305 rfl ?_
  refine rw_iload_n (pc := 306) dM_init_306 rfl ?_
  refine rw_bipush (pc := 307) (x := nI 8) dM_init_307 (by decide) ?_
  refine rw_icmpge (pc := 309) dM_init_309 (tgt := 317) rfl (fun c41 => ?_) (fun c41 => ?_)
  · skip
    refine rw_iload_n (pc := 317) dM_init_317 rfl ?_
    refine rw_sipush (pc := 318) (x := nI 200) dM_init_318 (by decide) ?_
    refine rw_icmple (pc := 321) dM_init_321 (tgt := 330) rfl (fun c42 => ?_) (fun c42 => ?_)
    · skip
      refine rw_iload_n (pc := 330) dM_init_330 rfl ?_
      have hv : x = nI (f_L x) := by rw [← L_m x, if_neg (Int32.not_lt.mpr c41), if_neg (Int32.not_lt.mpr c42)]
      show rn_W G xM_init (1, 40, 2200) 0 1234 331 [some (.inr (some 62)), some (.inl x), none] [.inl x, .inr (some 62)] g40 _
      rw [show (.inl x : ha_V) = .inl (nI (f_L x)) from congrArg _ hv]
      refine rw_putI (pc := 331) pfM_131_M dM_init_331 ⟨by omega, by have := hq.1; omega⟩ hq.2.2.1 ?_
      refine rw_iconst (pc := 334) (x := nI 0) dM_init_334 (by decide) ?_
      refine rw_istore_n (pc := 335) (L' := [some (.inr (some 62)), some (.inl (nI (f_L x))), some (.inl (nI 0))]) dM_init_335 (by decide) rfl ?_
      refine rw_iload_n (pc := 336) dM_init_336 rfl ?_
      refine rw_iconst (pc := 337) (x := nI 3) dM_init_337 (by decide) ?_
      refine rw_icmpge (pc := 338) dM_init_338 (tgt := 354) rfl (fun c43 => ?_) (fun c43 => ?_)
      · skip
        replace c43 : 3 ≤ 0 := (nI_leI (a := 3) (b := 0) (by omega) (by omega)).mp c43
        exact absurd c43 (by decide)
      · skip
        replace c43 : ¬ (3 ≤ 0) := fun qz => c43 ((nI_leI (a := 3) (b := 0) (by omega) (by omega)).mpr qz)
        refine rw_aload_n (pc := 341) dM_init_341 rfl ?_
        refine rw_getR (pc := 342) (x := some 74) flM_44_M dM_init_342 ⟨by omega, by simp only [hp_n_sI]; have := hq.1; omega⟩ (by simp only [hp_S_sI]; exact hq.2.2.1) (by simp only [hp_R_sI]; exact (hq.2.2.2.1 (13, 74, 0, 3) (by decide)).1) ?_
        refine rw_iload_n (pc := 345) dM_init_345 rfl ?_
        refine rw_iconst (pc := 346) (x := (-1)) dM_init_346 (by decide) ?_
        refine rw_iast (pc := 347) (i := 0) dM_init_347 ⟨by omega, by simp only [hp_n_sI]; have := hq.1; omega⟩ (by simp only [hp_S_sI]; exact (hq.2.2.2.1 (13, 74, 0, 3) (by decide)).2) (ix_nI (by omega) (by decide)) ?_
        refine rw_iinc (pc := 348) (x := nI 0) (y := nI 1) (L' := [some (.inr (some 62)), some (.inl (nI (f_L x))), some (.inl (nI 1))]) dM_init_348 (by decide) rfl (by decide) rfl ?_
        refine rw_goto (pc := 351) dM_init_351 (tgt := 336) rfl ?_
        refine rw_iload_n (pc := 336) dM_init_336 rfl ?_
        refine rw_iconst (pc := 337) (x := nI 3) dM_init_337 (by decide) ?_
        refine rw_icmpge (pc := 338) dM_init_338 (tgt := 354) rfl (fun c44 => ?_) (fun c44 => ?_)
        · skip
          replace c44 : 3 ≤ 1 := (nI_leI (a := 3) (b := 1) (by omega) (by omega)).mp c44
          exact absurd c44 (by decide)
        · skip
          replace c44 : ¬ (3 ≤ 1) := fun qz => c44 ((nI_leI (a := 3) (b := 1) (by omega) (by omega)).mpr qz)
          refine rw_aload_n (pc := 341) dM_init_341 rfl ?_
          refine rw_getR (pc := 342) (x := some 74) flM_44_M dM_init_342 ⟨by omega, by simp only [hp_n_sI]; have := hq.1; omega⟩ (by simp only [hp_S_sI]; exact hq.2.2.1) (by simp only [hp_R_sI]; exact (hq.2.2.2.1 (13, 74, 0, 3) (by decide)).1) ?_
          refine rw_iload_n (pc := 345) dM_init_345 rfl ?_
          refine rw_iconst (pc := 346) (x := (-1)) dM_init_346 (by decide) ?_
          refine rw_iast (pc := 347) (i := 1) dM_init_347 ⟨by omega, by simp only [hp_n_sI]; have := hq.1; omega⟩ (by simp only [hp_S_sI]; exact (hq.2.2.2.1 (13, 74, 0, 3) (by decide)).2) (ix_nI (by omega) (by decide)) ?_
          refine rw_iinc (pc := 348) (x := nI 1) (y := nI 2) (L' := [some (.inr (some 62)), some (.inl (nI (f_L x))), some (.inl (nI 2))]) dM_init_348 (by decide) rfl (by decide) rfl ?_
          refine rw_goto (pc := 351) dM_init_351 (tgt := 336) rfl ?_
          refine rw_iload_n (pc := 336) dM_init_336 rfl ?_
          refine rw_iconst (pc := 337) (x := nI 3) dM_init_337 (by decide) ?_
          refine rw_icmpge (pc := 338) dM_init_338 (tgt := 354) rfl (fun c45 => ?_) (fun c45 => ?_)
          · skip
            replace c45 : 3 ≤ 2 := (nI_leI (a := 3) (b := 2) (by omega) (by omega)).mp c45
            exact absurd c45 (by decide)
          · skip
            replace c45 : ¬ (3 ≤ 2) := fun qz => c45 ((nI_leI (a := 3) (b := 2) (by omega) (by omega)).mpr qz)
            refine rw_aload_n (pc := 341) dM_init_341 rfl ?_
            refine rw_getR (pc := 342) (x := some 74) flM_44_M dM_init_342 ⟨by omega, by simp only [hp_n_sI]; have := hq.1; omega⟩ (by simp only [hp_S_sI]; exact hq.2.2.1) (by simp only [hp_R_sI]; exact (hq.2.2.2.1 (13, 74, 0, 3) (by decide)).1) ?_
            refine rw_iload_n (pc := 345) dM_init_345 rfl ?_
            refine rw_iconst (pc := 346) (x := (-1)) dM_init_346 (by decide) ?_
            refine rw_iast (pc := 347) (i := 2) dM_init_347 ⟨by omega, by simp only [hp_n_sI]; have := hq.1; omega⟩ (by simp only [hp_S_sI]; exact (hq.2.2.2.1 (13, 74, 0, 3) (by decide)).2) (ix_nI (by omega) (by decide)) ?_
            refine rw_iinc (pc := 348) (x := nI 2) (y := nI 3) (L' := [some (.inr (some 62)), some (.inl (nI (f_L x))), some (.inl (nI 3))]) dM_init_348 (by decide) rfl (by decide) rfl ?_
            refine rw_goto (pc := 351) dM_init_351 (tgt := 336) rfl ?_
            refine rw_iload_n (pc := 336) dM_init_336 rfl ?_
            refine rw_iconst (pc := 337) (x := nI 3) dM_init_337 (by decide) ?_
            refine rw_icmpge (pc := 338) dM_init_338 (tgt := 354) rfl (fun c46 => ?_) (fun c46 => ?_)
            · skip
              replace c46 : 3 ≤ 3 := (nI_leI (a := 3) (b := 3) (by omega) (by omega)).mp c46
              exact rw_vret (pc := 354) dM_init_354 rfl ⟨rfl, re_of hq⟩
            · skip
              replace c46 : ¬ (3 ≤ 3) := fun qz => c46 ((nI_leI (a := 3) (b := 3) (by omega) (by omega)).mpr qz)
              exact absurd (by decide) c46
    · skip
      refine rw_sipush (pc := 324) (x := nI 200) dM_init_324 (by decide) ?_
      refine rw_goto (pc := 327) dM_init_327 (tgt := 331) rfl ?_
      have hv : nI 200 = nI (f_L x) := by rw [← L_m x, if_neg (Int32.not_lt.mpr c41), if_pos (Int32.not_le.mp c42)]
      rw [hv]
      refine rw_putI (pc := 331) pfM_131_M dM_init_331 ⟨by omega, by have := hq.1; omega⟩ hq.2.2.1 ?_
      refine rw_iconst (pc := 334) (x := nI 0) dM_init_334 (by decide) ?_
      refine rw_istore_n (pc := 335) (L' := [some (.inr (some 62)), some (.inl x), some (.inl (nI 0))]) dM_init_335 (by decide) rfl ?_
      refine rw_iload_n (pc := 336) dM_init_336 rfl ?_
      refine rw_iconst (pc := 337) (x := nI 3) dM_init_337 (by decide) ?_
      refine rw_icmpge (pc := 338) dM_init_338 (tgt := 354) rfl (fun c47 => ?_) (fun c47 => ?_)
      · skip
        replace c47 : 3 ≤ 0 := (nI_leI (a := 3) (b := 0) (by omega) (by omega)).mp c47
        exact absurd c47 (by decide)
      · skip
        replace c47 : ¬ (3 ≤ 0) := fun qz => c47 ((nI_leI (a := 3) (b := 0) (by omega) (by omega)).mpr qz)
        refine rw_aload_n (pc := 341) dM_init_341 rfl ?_
        refine rw_getR (pc := 342) (x := some 74) flM_44_M dM_init_342 ⟨by omega, by simp only [hp_n_sI]; have := hq.1; omega⟩ (by simp only [hp_S_sI]; exact hq.2.2.1) (by simp only [hp_R_sI]; exact (hq.2.2.2.1 (13, 74, 0, 3) (by decide)).1) ?_
        refine rw_iload_n (pc := 345) dM_init_345 rfl ?_
        refine rw_iconst (pc := 346) (x := (-1)) dM_init_346 (by decide) ?_
        refine rw_iast (pc := 347) (i := 0) dM_init_347 ⟨by omega, by simp only [hp_n_sI]; have := hq.1; omega⟩ (by simp only [hp_S_sI]; exact (hq.2.2.2.1 (13, 74, 0, 3) (by decide)).2) (ix_nI (by omega) (by decide)) ?_
        refine rw_iinc (pc := 348) (x := nI 0) (y := nI 1) (L' := [some (.inr (some 62)), some (.inl x), some (.inl (nI 1))]) dM_init_348 (by decide) rfl (by decide) rfl ?_
        refine rw_goto (pc := 351) dM_init_351 (tgt := 336) rfl ?_
        refine rw_iload_n (pc := 336) dM_init_336 rfl ?_
        refine rw_iconst (pc := 337) (x := nI 3) dM_init_337 (by decide) ?_
        refine rw_icmpge (pc := 338) dM_init_338 (tgt := 354) rfl (fun c48 => ?_) (fun c48 => ?_)
        · skip
          replace c48 : 3 ≤ 1 := (nI_leI (a := 3) (b := 1) (by omega) (by omega)).mp c48
          exact absurd c48 (by decide)
        · skip
          replace c48 : ¬ (3 ≤ 1) := fun qz => c48 ((nI_leI (a := 3) (b := 1) (by omega) (by omega)).mpr qz)
          refine rw_aload_n (pc := 341) dM_init_341 rfl ?_
          refine rw_getR (pc := 342) (x := some 74) flM_44_M dM_init_342 ⟨by omega, by simp only [hp_n_sI]; have := hq.1; omega⟩ (by simp only [hp_S_sI]; exact hq.2.2.1) (by simp only [hp_R_sI]; exact (hq.2.2.2.1 (13, 74, 0, 3) (by decide)).1) ?_
          refine rw_iload_n (pc := 345) dM_init_345 rfl ?_
          refine rw_iconst (pc := 346) (x := (-1)) dM_init_346 (by decide) ?_
          refine rw_iast (pc := 347) (i := 1) dM_init_347 ⟨by omega, by simp only [hp_n_sI]; have := hq.1; omega⟩ (by simp only [hp_S_sI]; exact (hq.2.2.2.1 (13, 74, 0, 3) (by decide)).2) (ix_nI (by omega) (by decide)) ?_
          refine rw_iinc (pc := 348) (x := nI 1) (y := nI 2) (L' := [some (.inr (some 62)), some (.inl x), some (.inl (nI 2))]) dM_init_348 (by decide) rfl (by decide) rfl ?_
          refine rw_goto (pc := 351) dM_init_351 (tgt := 336) rfl ?_
          refine rw_iload_n (pc := 336) dM_init_336 rfl ?_
          refine rw_iconst (pc := 337) (x := nI 3) dM_init_337 (by decide) ?_
          refine rw_icmpge (pc := 338) dM_init_338 (tgt := 354) rfl (fun c49 => ?_) (fun c49 => ?_)
          · skip
            replace c49 : 3 ≤ 2 := (nI_leI (a := 3) (b := 2) (by omega) (by omega)).mp c49
            exact absurd c49 (by decide)
          · skip
            replace c49 : ¬ (3 ≤ 2) := fun qz => c49 ((nI_leI (a := 3) (b := 2) (by omega) (by omega)).mpr qz)
            refine rw_aload_n (pc := 341) dM_init_341 rfl ?_
            refine rw_getR (pc := 342) (x := some 74) flM_44_M dM_init_342 ⟨by omega, by simp only [hp_n_sI]; have := hq.1; omega⟩ (by simp only [hp_S_sI]; exact hq.2.2.1) (by simp only [hp_R_sI]; exact (hq.2.2.2.1 (13, 74, 0, 3) (by decide)).1) ?_
            refine rw_iload_n (pc := 345) dM_init_345 rfl ?_
            refine rw_iconst (pc := 346) (x := (-1)) dM_init_346 (by decide) ?_
            refine rw_iast (pc := 347) (i := 2) dM_init_347 ⟨by omega, by simp only [hp_n_sI]; have := hq.1; omega⟩ (by simp only [hp_S_sI]; exact (hq.2.2.2.1 (13, 74, 0, 3) (by decide)).2) (ix_nI (by omega) (by decide)) ?_
            refine rw_iinc (pc := 348) (x := nI 2) (y := nI 3) (L' := [some (.inr (some 62)), some (.inl x), some (.inl (nI 3))]) dM_init_348 (by decide) rfl (by decide) rfl ?_
            refine rw_goto (pc := 351) dM_init_351 (tgt := 336) rfl ?_
            refine rw_iload_n (pc := 336) dM_init_336 rfl ?_
            refine rw_iconst (pc := 337) (x := nI 3) dM_init_337 (by decide) ?_
            refine rw_icmpge (pc := 338) dM_init_338 (tgt := 354) rfl (fun c50 => ?_) (fun c50 => ?_)
            · skip
              replace c50 : 3 ≤ 3 := (nI_leI (a := 3) (b := 3) (by omega) (by omega)).mp c50
              exact rw_vret (pc := 354) dM_init_354 rfl ⟨rfl, re_of hq⟩
            · skip
              replace c50 : ¬ (3 ≤ 3) := fun qz => c50 ((nI_leI (a := 3) (b := 3) (by omega) (by omega)).mpr qz)
              exact absurd (by decide) c50
  · skip
    refine rw_bipush (pc := 312) (x := nI 8) dM_init_312 (by decide) ?_
    refine rw_goto (pc := 314) dM_init_314 (tgt := 331) rfl ?_
    have hv : nI 8 = nI (f_L x) := by rw [← L_m x, if_pos (Int32.not_le.mp c41)]
    rw [hv]
    refine rw_putI (pc := 331) pfM_131_M dM_init_331 ⟨by omega, by have := hq.1; omega⟩ hq.2.2.1 ?_
    refine rw_iconst (pc := 334) (x := nI 0) dM_init_334 (by decide) ?_
    refine rw_istore_n (pc := 335) (L' := [some (.inr (some 62)), some (.inl x), some (.inl (nI 0))]) dM_init_335 (by decide) rfl ?_
    refine rw_iload_n (pc := 336) dM_init_336 rfl ?_
    refine rw_iconst (pc := 337) (x := nI 3) dM_init_337 (by decide) ?_
    refine rw_icmpge (pc := 338) dM_init_338 (tgt := 354) rfl (fun c51 => ?_) (fun c51 => ?_)
    · skip
      replace c51 : 3 ≤ 0 := (nI_leI (a := 3) (b := 0) (by omega) (by omega)).mp c51
      exact absurd c51 (by decide)
    · skip
      replace c51 : ¬ (3 ≤ 0) := fun qz => c51 ((nI_leI (a := 3) (b := 0) (by omega) (by omega)).mpr qz)
      refine rw_aload_n (pc := 341) dM_init_341 rfl ?_
      refine rw_getR (pc := 342) (x := some 74) flM_44_M dM_init_342 ⟨by omega, by simp only [hp_n_sI]; have := hq.1; omega⟩ (by simp only [hp_S_sI]; exact hq.2.2.1) (by simp only [hp_R_sI]; exact (hq.2.2.2.1 (13, 74, 0, 3) (by decide)).1) ?_
      refine rw_iload_n (pc := 345) dM_init_345 rfl ?_
      refine rw_iconst (pc := 346) (x := (-1)) dM_init_346 (by decide) ?_
      refine rw_iast (pc := 347) (i := 0) dM_init_347 ⟨by omega, by simp only [hp_n_sI]; have := hq.1; omega⟩ (by simp only [hp_S_sI]; exact (hq.2.2.2.1 (13, 74, 0, 3) (by decide)).2) (ix_nI (by omega) (by decide)) ?_
      refine rw_iinc (pc := 348) (x := nI 0) (y := nI 1) (L' := [some (.inr (some 62)), some (.inl x), some (.inl (nI 1))]) dM_init_348 (by decide) rfl (by decide) rfl ?_
      refine rw_goto (pc := 351) dM_init_351 (tgt := 336) rfl ?_
      refine rw_iload_n (pc := 336) dM_init_336 rfl ?_
      refine rw_iconst (pc := 337) (x := nI 3) dM_init_337 (by decide) ?_
      refine rw_icmpge (pc := 338) dM_init_338 (tgt := 354) rfl (fun c52 => ?_) (fun c52 => ?_)
      · skip
        replace c52 : 3 ≤ 1 := (nI_leI (a := 3) (b := 1) (by omega) (by omega)).mp c52
        exact absurd c52 (by decide)
      · skip
        replace c52 : ¬ (3 ≤ 1) := fun qz => c52 ((nI_leI (a := 3) (b := 1) (by omega) (by omega)).mpr qz)
        refine rw_aload_n (pc := 341) dM_init_341 rfl ?_
        refine rw_getR (pc := 342) (x := some 74) flM_44_M dM_init_342 ⟨by omega, by simp only [hp_n_sI]; have := hq.1; omega⟩ (by simp only [hp_S_sI]; exact hq.2.2.1) (by simp only [hp_R_sI]; exact (hq.2.2.2.1 (13, 74, 0, 3) (by decide)).1) ?_
        refine rw_iload_n (pc := 345) dM_init_345 rfl ?_
        refine rw_iconst (pc := 346) (x := (-1)) dM_init_346 (by decide) ?_
        refine rw_iast (pc := 347) (i := 1) dM_init_347 ⟨by omega, by simp only [hp_n_sI]; have := hq.1; omega⟩ (by simp only [hp_S_sI]; exact (hq.2.2.2.1 (13, 74, 0, 3) (by decide)).2) (ix_nI (by omega) (by decide)) ?_
        refine rw_iinc (pc := 348) (x := nI 1) (y := nI 2) (L' := [some (.inr (some 62)), some (.inl x), some (.inl (nI 2))]) dM_init_348 (by decide) rfl (by decide) rfl ?_
        refine rw_goto (pc := 351) dM_init_351 (tgt := 336) rfl ?_
        refine rw_iload_n (pc := 336) dM_init_336 rfl ?_
        refine rw_iconst (pc := 337) (x := nI 3) dM_init_337 (by decide) ?_
        refine rw_icmpge (pc := 338) dM_init_338 (tgt := 354) rfl (fun c53 => ?_) (fun c53 => ?_)
        · skip
          replace c53 : 3 ≤ 2 := (nI_leI (a := 3) (b := 2) (by omega) (by omega)).mp c53
          exact absurd c53 (by decide)
        · skip
          replace c53 : ¬ (3 ≤ 2) := fun qz => c53 ((nI_leI (a := 3) (b := 2) (by omega) (by omega)).mpr qz)
          refine rw_aload_n (pc := 341) dM_init_341 rfl ?_
          refine rw_getR (pc := 342) (x := some 74) flM_44_M dM_init_342 ⟨by omega, by simp only [hp_n_sI]; have := hq.1; omega⟩ (by simp only [hp_S_sI]; exact hq.2.2.1) (by simp only [hp_R_sI]; exact (hq.2.2.2.1 (13, 74, 0, 3) (by decide)).1) ?_
          refine rw_iload_n (pc := 345) dM_init_345 rfl ?_
          refine rw_iconst (pc := 346) (x := (-1)) dM_init_346 (by decide) ?_
          refine rw_iast (pc := 347) (i := 2) dM_init_347 ⟨by omega, by simp only [hp_n_sI]; have := hq.1; omega⟩ (by simp only [hp_S_sI]; exact (hq.2.2.2.1 (13, 74, 0, 3) (by decide)).2) (ix_nI (by omega) (by decide)) ?_
          refine rw_iinc (pc := 348) (x := nI 2) (y := nI 3) (L' := [some (.inr (some 62)), some (.inl x), some (.inl (nI 3))]) dM_init_348 (by decide) rfl (by decide) rfl ?_
          refine rw_goto (pc := 351) dM_init_351 (tgt := 336) rfl ?_
          refine rw_iload_n (pc := 336) dM_init_336 rfl ?_
          refine rw_iconst (pc := 337) (x := nI 3) dM_init_337 (by decide) ?_
          refine rw_icmpge (pc := 338) dM_init_338 (tgt := 354) rfl (fun c54 => ?_) (fun c54 => ?_)
          · skip
            replace c54 : 3 ≤ 3 := (nI_leI (a := 3) (b := 3) (by omega) (by omega)).mp c54
            exact rw_vret (pc := 354) dM_init_354 rfl ⟨rfl, re_of hq⟩
          · skip
            replace c54 : ¬ (3 ≤ 3) := fun qz => c54 ((nI_leI (a := 3) (b := 3) (by omega) (by omega)).mpr qz)
            exact absurd (by decide) c54
