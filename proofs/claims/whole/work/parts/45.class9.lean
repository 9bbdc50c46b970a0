abbrev ab_5 : Type := List ab_M × (Nat → Nat → Nat) × (Nat → Nat → Int32) × (Nat → Option ab_M) × (Nat → List ab_M)
def f_fin (r : ab_M) (s : ab_5) : ab_5 := (f_send s.1 r, s.2.1, s.2.2.1, fu s.2.2.2.1 (am_c r) (some r), s.2.2.2.2)
def f_gR (sg : Bool) (pg : Nat → Nat → Int32) (md : Nat → Nat → Nat) (m : ab_M) : ab_M := f_rp 4 m (bif f_hl md (am_c m) (am_f m) then true else sg) (pg (am_f m))
def f_gr (L : Nat) (sn : Int32) (sg : Bool) (pg : Nat → Nat → Int32) (m : ab_M) (s : ab_5) : ab_5 := (f_send s.1 (f_gR sg pg s.2.1 m), fu2 s.2.1 (am_c m) (am_f m) (am_m m), fu2 s.2.2.1 (am_c m) (am_f m) (sn + nI L), fu s.2.2.2.1 (am_c m) (some (f_gR sg pg s.2.1 m)), s.2.2.2.2)
def fm_8 (c f : Nat) : ab_M := (8, c, f, nI 0, 0, false, 0, 0, fun _ => 0)
def f_r1 (md : Nat → Nat → Nat) (m : ab_M) (c : Nat) (n : List ab_M) : List ab_M := bif f_cf md m c then f_send n (fm_8 c (am_f m)) else n
def f_rc (md : Nat → Nat → Nat) (m : ab_M) (n : List ab_M) : List ab_M := f_r1 md m 2 (f_r1 md m 1 (f_r1 md m 0 n))
def f_wt (m : ab_M) (s : ab_5) : ab_5 := (f_rc s.2.1 m s.1, s.2.1, s.2.2.1, s.2.2.2.1, fu s.2.2.2.2 (am_f m) (f_add (s.2.2.2.2 (am_f m)) m))
def f_sl (L : Nat) (sn : Int32) (sg : Bool) (pg : Nat → Nat → Int32) (m : ab_M) (s : ab_5) : ab_5 :=
  bif f_hl s.2.1 (am_c m) (am_f m) then (if (s.2.2.2.2 (am_f m)).length ≤ 0 then (bif sg then (bif am_y m then (bif f_ca s.2.1 m then f_wt m s else f_gr L sn sg pg m s) else f_wt m s) else (bif f_ca s.2.1 m then f_wt m s else f_gr L sn sg pg m s)) else f_fin (f_rp 5 m false (fun _ => 0)) s)
  else bif sg then (bif am_y m then (bif f_ca s.2.1 m then f_wt m s else f_gr L sn sg pg m s) else f_wt m s) else (if (s.2.2.2.2 (am_f m)).length ≤ 0 then (bif f_ca s.2.1 m then f_wt m s else f_gr L sn sg pg m s) else f_wt m s)
theorem ok_cl {h : ha_H} {a : Nat} (q : 0 < hp_n h) : hp_ok (hp_cl h a) (hp_n h) := ⟨q, by rw [hp_n_cl]; omega⟩
theorem sh_cl {h : ha_H} {a : Nat} {s : (Nat × Nat) ⊕ Nat} (q : hp_S h a = s) : hp_S (hp_cl h a) (hp_n h) = s := by rw [hp_S_cl, if_pos rfl]; exact q
theorem cS_grant (G : mt_G) (h : ha_H) {L : Nat} {n : List ab_M} {su : Bool} {sn : Int32} {sg : Bool} {se : Int32} {pg : Nat → Nat → Int32} {md : Nat → Nat → Nat} {en : Nat → Nat → Int32} {sd : Nat → Option ab_M} {ln : Nat → List ab_M} {C : Nat → ab_C} (hc : CV L n su sn sg se pg md en sd ln C h) {i : Nat} {m : ab_M} (hm : cv_M h i m) (hk3 : am_k m ≤ 3) : rn_M G xS_grant (3, 2, 11) [.inr (some 4), .inr (some i)] h (rn_v (fun h' => CV L (f_gr L sn sg pg m (n, md, en, sd, ln)).1 su sn sg se pg (f_gr L sn sg pg m (n, md, en, sd, ln)).2.1 (f_gr L sn sg pg m (n, md, en, sd, ln)).2.2.1 (f_gr L sn sg pg m (n, md, en, sd, ln)).2.2.2.1 (f_gr L sn sg pg m (n, md, en, sd, ln)).2.2.2.2 C h' ∧ hp_le h h')) := by
  have hf := le_rf h
  have hl := hm.2.2.1.1
  have hf4 := hm.2.2.1.2
  have hq2 := (cm_q hm hk3).2.2.2.1
  refine rn_of (by decide +kernel) (Nat.le_of_ble_eq_true rfl) ?_
  show rn_W G xS_grant (3, 2, 11) 2 11 0 [some (.inr (some 4)), some (.inr (some i)), none, none, none] [] h _
  refine rw_aload_n (pc := 0) dS_grant_0 rfl ?_
  refine rw_getI (pc := 1) (x := nI (am_c m)) flS_75_R dS_grant_1 (cm_o hm) (cm_q hm hk3).2.1 hm.2.1.2.1 ?_
  refine rw_istore_n (pc := 4) (L' := [some (.inr (some 4)), some (.inr (some i)), some (.inl (nI (am_c m))), none, none]) dS_grant_4 (by decide) rfl ?_
  refine rw_aload_n (pc := 5) dS_grant_5 rfl ?_
  refine rw_getI (pc := 6) (x := nI (am_f m)) flS_111_R dS_grant_6 (cm_o hm) (cm_q hm hk3).2.1 hm.2.1.2.2.1 ?_
  refine rw_istore_n (pc := 9) (L' := [some (.inr (some 4)), some (.inr (some i)), some (.inl (nI (am_c m))), some (.inl (nI (am_f m))), none]) dS_grant_9 (by decide) rfl ?_
  refine rw_aload_n (pc := 10) dS_grant_10 rfl ?_
  refine rw_iload_n (pc := 11) dS_grant_11 rfl ?_
  refine rw_iload_n (pc := 12) dS_grant_12 rfl ?_
  refine rw_vi (pc := 13) (z' := (0, 0, 0)) (rc' := 2) (rs' := 11) (av := [.inl (nI (am_c m)), .inl (nI (am_f m))]) (st := []) (ci := 2) mlS_71 miS_hasLease rfl mvS_hasLease_S dS_grant_13 (cs_o hc (by omega) (by omega)) (cs_S4 hc) (cS_hasLease G _ hc (by omega) (by omega)) rfl rfl (Nat.le_of_ble_eq_true rfl) (by decide) rfl rfl (fun r1 h1 q1 => ?_)
  obtain ⟨rfl, rfl⟩ := q1
  refine rw_ifne (pc := 16) dS_grant_16 (tgt := 26) rfl (fun c2 => ?_) (fun c2 => ?_)
  · skip
    replace c2 : (f_hl md (am_c m) (am_f m)) = true := mb_T c2
    refine rw_iconst (pc := 26) (x := nI 1) dS_grant_26 (by decide) ?_
    refine rw_goto (pc := 27) dS_grant_27 (tgt := 31) rfl ?_
    refine rw_istore (pc := 31) (L' := [some (.inr (some 4)), some (.inr (some i)), some (.inl (nI (am_c m))), some (.inl (nI (am_f m))), some (.inl (nI 1))]) dS_grant_31 (by decide) rfl ?_
    refine rw_aload_n (pc := 33) dS_grant_33 rfl ?_
    refine rw_getR (pc := 34) (x := some 11) flS_22_S dS_grant_34 (cs_o hc (by omega) (by omega)) (cs_S4 hc) (cr_4_4 hc) ?_
    refine rw_iload_n (pc := 37) dS_grant_37 rfl ?_
    refine rw_aald (pc := 38) (v := some (12 + (am_c m))) (i := (am_c m)) (t := 9) rfl ⟨rfl, by decide⟩ dS_grant_38 (cs_o hc (by omega) (by omega)) (cs_S11 hc) (ix_nI (by omega) (by decide)) (cr_11 hc (by omega)) ?_
    refine rw_iload_n (pc := 39) dS_grant_39 rfl ?_
    refine rw_aload_n (pc := 40) dS_grant_40 rfl ?_
    refine rw_getI (pc := 41) (x := nI (am_m m)) flS_145_R dS_grant_41 (cm_o hm) (cm_q hm hk3).2.1 (cm_q hm hk3).2.2.1 ?_
    refine rw_iast (pc := 44) (i := (am_f m)) dS_grant_44 (cs_o hc (by omega) (by omega)) (cs_Smd hc (by omega)) (ix_nI (by omega) (by decide)) ?_
    replace hc := wv_md hc (i := (am_c m)) (j := (am_f m)) (by omega) (by omega) (am_m m) (by omega)
    replace hm := cm_le hm (le_sI (h := h) (A := (12 + (am_c m))) (k := (am_f m)) (v := (nI (am_m m))) (by omega))
    replace hf := le_tr hf (le_sI (h := h) (A := (12 + (am_c m))) (k := (am_f m)) (v := (nI (am_m m))) (by omega))
    generalize hp_sI h (12 + (am_c m)) (am_f m) (nI (am_m m)) = g3 at hc hf hm ⊢
    refine rw_aload_n (pc := 45) dS_grant_45 rfl ?_
    refine rw_getR (pc := 46) (x := some 15) flS_25_S dS_grant_46 (cs_o hc (by omega) (by omega)) (cs_S4 hc) (cr_4_5 hc) ?_
    refine rw_iload_n (pc := 49) dS_grant_49 rfl ?_
    refine rw_aald (pc := 50) (v := some (16 + (am_c m))) (i := (am_c m)) (t := 9) rfl ⟨rfl, by decide⟩ dS_grant_50 (cs_o hc (by omega) (by omega)) (cs_S15 hc) (ix_nI (by omega) (by decide)) (cr_15 hc (by omega)) ?_
    refine rw_iload_n (pc := 51) dS_grant_51 rfl ?_
    refine rw_aload_n (pc := 52) dS_grant_52 rfl ?_
    refine rw_getI (pc := 53) (x := sn) flS_38_S dS_grant_53 (cs_o hc (by omega) (by omega)) (cs_S4 hc) (cp_sn hc) ?_
    refine rw_aload_n (pc := 56) dS_grant_56 rfl ?_
    refine rw_getI (pc := 57) (x := nI L) flS_52_S dS_grant_57 (cs_o hc (by omega) (by omega)) (cs_S4 hc) (cp_L hc).1 ?_
    refine rw_iadd (pc := 60) (v := sn + (nI L)) dS_grant_60 rfl ?_
    refine rw_iast (pc := 61) (i := (am_f m)) dS_grant_61 (cs_o hc (by omega) (by omega)) (cs_Sen hc (by omega)) (ix_nI (by omega) (by decide)) ?_
    replace hc := wv_en hc (i := (am_c m)) (j := (am_f m)) (by omega) (by omega) (sn + (nI L))
    replace hm := cm_le hm (le_sI (h := g3) (A := (16 + (am_c m))) (k := (am_f m)) (v := (sn + (nI L))) (by omega))
    replace hf := le_tr hf (le_sI (h := g3) (A := (16 + (am_c m))) (k := (am_f m)) (v := (sn + (nI L))) (by omega))
    generalize hp_sI g3 (16 + (am_c m)) (am_f m) (sn + (nI L)) = g4 at hc hf hm ⊢
    refine rw_aload_n (pc := 62) dS_grant_62 rfl ?_
    refine rw_new (pc := 63) (rc' := 1) (rs' := 4) nnS_16 dS_grant_63 rfl rfl ?_
    have hcg := hc
    have hmg := hm
    replace hc := cv_gr hc (gx_new (s := .inr 8) (gx_rf g4))
    replace hm := cm_le hm (gx_le (gx_new (s := .inr 8) (gx_rf g4)))
    refine rw_dup (pc := 66) dS_grant_66 ?_
    refine rw_iconst (pc := 67) (x := nI 4) dS_grant_67 (by decide) ?_
    refine rw_aload_n (pc := 68) dS_grant_68 rfl ?_
    refine rw_iload (pc := 69) dS_grant_69 rfl ?_
    refine rw_aload_n (pc := 71) dS_grant_71 rfl ?_
    refine rw_getR (pc := 72) (x := some 5) flS_11_S dS_grant_72 (cs_o hc (by omega) (by omega)) (cs_S4 hc) (cr_4_2 hc) ?_
    refine rw_iload_n (pc := 75) dS_grant_75 rfl ?_
    refine rw_aald (pc := 76) (v := some (6 + (am_f m))) (i := (am_f m)) (t := 9) rfl ⟨rfl, by decide⟩ dS_grant_76 (cs_o hc (by omega) (by omega)) (cs_S5 hc) (ix_nI (by omega) (by decide)) (cr_5 hc (by omega)) ?_
    refine rw_clone (pc := 77) (rc' := 0) (rs' := 0) bw_480 bw_481 bw_482 bw_483 bw_484 nw_24 dS_grant_77 (cs_o hc (by omega) (by omega)) (cs_Spg hc (by omega)) (by decide) (Nat.le_of_ble_eq_true rfl) rfl rfl ?_
    have hS0 : hp_S (hp_new g4 (.inr 8)) (6 + (am_f m)) = .inl (0, 4) := cs_Spg hc (by omega)
    have hn0 : 0 < hp_n (hp_new g4 (.inr 8)) := by have := cs_n hc; omega
    replace hc := cv_gr hc (gx_cl (b := (6 + (am_f m))) (gx_rf (hp_new g4 (.inr 8))))
    replace hm := cm_le hm (gx_le (gx_cl (b := (6 + (am_f m))) (gx_rf (hp_new g4 (.inr 8)))))
    have ho8 : hp_ok (hp_cl (hp_new g4 (.inr 8)) (6 + (am_f m))) (hp_n g4) := ⟨by have := cs_n hcg; omega, by rw [hp_n_cl, hp_n_new]; omega⟩
    have hs8 : hp_S (hp_cl (hp_new g4 (.inr 8)) (6 + (am_f m))) (hp_n g4) = .inr 8 := by rw [hp_S_cl, if_neg (by rw [hp_n_new]; omega)]; exact sh_nw
    refine rw_castA (pc := 80) (n := 4) bw_486 dS_grant_80 (ok_cl hn0) (sh_cl hS0) ?_
    refine rw_iv (pc := 83) (z' := (2, 0, 0)) (rc' := 0) (rs' := 0) (av := [.inl (nI 4), .inr (some i), .inl (nI 1), .inr (some (hp_n (hp_new g4 (.inr 8))))]) (st := [.inr (some (hp_n g4)), .inr (some 4)]) mlS_117 miP_init rfl rfl dS_grant_83 (cP_init G _ ho8 hs8 (cm_o hm) (cm_q hm hk3).2.1 (by have := hmg.1.2; omega) hm.2.1.2.1 hm.2.1.2.2.1 hm.2.1.2.2.2 (cm_q hm hk3).2.2.1 (nI 4) true (some (hp_n (hp_new g4 (.inr 8))))) rfl rfl (Nat.le_of_ble_eq_true rfl) (by decide) rfl rfl (fun h5 q5 => ?_)
    obtain rfl := q5
    obtain ⟨hg, hr⟩ := mk_rg (m := m) (b := true) hcg hmg.2.2.1 hq2
    replace hc := cv_gr hcg hg
    replace hm := cm_le hmg (gx_le hg)
    replace hf := le_tr hf (gx_le hg)
    clear hg hcg hmg
    clear ho8 hs8 hS0 hn0
    generalize hr_8 (hp_cl (hp_new g4 (.inr 8)) (6 + (am_f m))) (hp_n g4) (nI 4) (nI (am_c m)) (nI (am_f m)) (am_n m) (nI (am_m m)) true (some (hp_n (hp_new g4 (.inr 8)))) = g6 at hc hm hf hr ⊢
    generalize hp_n g4 = i6 at hr ⊢
    refine rw_vv (pc := 86) (z' := (1, 0, 0)) (rc' := 0) (rs' := 0) (av := [.inr (some i6)]) (st := []) (ci := 2) mlS_120 miS_finish rfl mvS_finish_S dS_grant_86 (cs_o hc (by omega) (by omega)) (cs_S4 hc) (cS_finish G _ hc hr (Nat.le_of_ble_eq_true rfl) (Nat.le_of_ble_eq_true rfl)) rfl rfl (Nat.le_of_ble_eq_true rfl) (by decide) rfl rfl (fun h7 q7 => ?_)
    obtain ⟨hc, hf1⟩ := q7
    replace hm := cm_le hm hf1
    replace hr := cm_le hr hf1
    replace hf := le_tr hf hf1
    have hF : f_gr L sn sg pg m (n, md, en, sd, ln) = (f_send n (f_rp 4 m true (pg (am_f m))), fu2 md (am_c m) (am_f m) (am_m m), fu2 en (am_c m) (am_f m) (sn + (nI L)), fu sd (am_c m) (some (f_rp 4 m true (pg (am_f m)))), ln) := by unfold f_gr; simp [c2, f_gR]
    rw [hF]
    exact rw_vret (pc := 89) dS_grant_89 rfl ⟨rfl, hc, hf⟩
  · skip
    replace c2 : (f_hl md (am_c m) (am_f m)) = false := (m_bi0 _).mp c2
    refine rw_aload_n (pc := 19) dS_grant_19 rfl ?_
    refine rw_getI (pc := 20) (x := m_bi sg) flS_42_S dS_grant_20 (cs_o hc (by omega) (by omega)) (cs_S4 hc) (cp_sg hc) ?_
    refine rw_ifeq (pc := 23) dS_grant_23 (tgt := 30) rfl (fun c8 => ?_) (fun c8 => ?_)
    · skip
      replace c8 : sg = false := (m_bi0 _).mp c8
      refine rw_iconst (pc := 30) (x := nI 0) dS_grant_30 (by decide) ?_
      refine rw_istore (pc := 31) (L' := [some (.inr (some 4)), some (.inr (some i)), some (.inl (nI (am_c m))), some (.inl (nI (am_f m))), some (.inl (nI 0))]) dS_grant_31 (by decide) rfl ?_
      refine rw_aload_n (pc := 33) dS_grant_33 rfl ?_
      refine rw_getR (pc := 34) (x := some 11) flS_22_S dS_grant_34 (cs_o hc (by omega) (by omega)) (cs_S4 hc) (cr_4_4 hc) ?_
      refine rw_iload_n (pc := 37) dS_grant_37 rfl ?_
      refine rw_aald (pc := 38) (v := some (12 + (am_c m))) (i := (am_c m)) (t := 9) rfl ⟨rfl, by decide⟩ dS_grant_38 (cs_o hc (by omega) (by omega)) (cs_S11 hc) (ix_nI (by omega) (by decide)) (cr_11 hc (by omega)) ?_
      refine rw_iload_n (pc := 39) dS_grant_39 rfl ?_
      refine rw_aload_n (pc := 40) dS_grant_40 rfl ?_
      refine rw_getI (pc := 41) (x := nI (am_m m)) flS_145_R dS_grant_41 (cm_o hm) (cm_q hm hk3).2.1 (cm_q hm hk3).2.2.1 ?_
      refine rw_iast (pc := 44) (i := (am_f m)) dS_grant_44 (cs_o hc (by omega) (by omega)) (cs_Smd hc (by omega)) (ix_nI (by omega) (by decide)) ?_
      replace hc := wv_md hc (i := (am_c m)) (j := (am_f m)) (by omega) (by omega) (am_m m) (by omega)
      replace hm := cm_le hm (le_sI (h := h) (A := (12 + (am_c m))) (k := (am_f m)) (v := (nI (am_m m))) (by omega))
      replace hf := le_tr hf (le_sI (h := h) (A := (12 + (am_c m))) (k := (am_f m)) (v := (nI (am_m m))) (by omega))
      generalize hp_sI h (12 + (am_c m)) (am_f m) (nI (am_m m)) = g9 at hc hf hm ⊢
      refine rw_aload_n (pc := 45) dS_grant_45 rfl ?_
      refine rw_getR (pc := 46) (x := some 15) flS_25_S dS_grant_46 (cs_o hc (by omega) (by omega)) (cs_S4 hc) (cr_4_5 hc) ?_
      refine rw_iload_n (pc := 49) dS_grant_49 rfl ?_
      refine rw_aald (pc := 50) (v := some (16 + (am_c m))) (i := (am_c m)) (t := 9) rfl ⟨rfl, by decide⟩ dS_grant_50 (cs_o hc (by omega) (by omega)) (cs_S15 hc) (ix_nI (by omega) (by decide)) (cr_15 hc (by omega)) ?_
      refine rw_iload_n (pc := 51) dS_grant_51 rfl ?_
      refine rw_aload_n (pc := 52) dS_grant_52 rfl ?_
      refine rw_getI (pc := 53) (x := sn) flS_38_S dS_grant_53 (cs_o hc (by omega) (by omega)) (cs_S4 hc) (cp_sn hc) ?_
      refine rw_aload_n (pc := 56) dS_grant_56 rfl ?_
      refine rw_getI (pc := 57) (x := nI L) flS_52_S dS_grant_57 (cs_o hc (by omega) (by omega)) (cs_S4 hc) (cp_L hc).1 ?_
      refine rw_iadd (pc := 60) (v := sn + (nI L)) dS_grant_60 rfl ?_
      refine rw_iast (pc := 61) (i := (am_f m)) dS_grant_61 (cs_o hc (by omega) (by omega)) (cs_Sen hc (by omega)) (ix_nI (by omega) (by decide)) ?_
      replace hc := wv_en hc (i := (am_c m)) (j := (am_f m)) (by omega) (by omega) (sn + (nI L))
      replace hm := cm_le hm (le_sI (h := g9) (A := (16 + (am_c m))) (k := (am_f m)) (v := (sn + (nI L))) (by omega))
      replace hf := le_tr hf (le_sI (h := g9) (A := (16 + (am_c m))) (k := (am_f m)) (v := (sn + (nI L))) (by omega))
      generalize hp_sI g9 (16 + (am_c m)) (am_f m) (sn + (nI L)) = g10 at hc hf hm ⊢
      refine rw_aload_n (pc := 62) dS_grant_62 rfl ?_
      refine rw_new (pc := 63) (rc' := 1) (rs' := 4) nnS_16 dS_grant_63 rfl rfl ?_
      have hcg := hc
      have hmg := hm
      replace hc := cv_gr hc (gx_new (s := .inr 8) (gx_rf g10))
      replace hm := cm_le hm (gx_le (gx_new (s := .inr 8) (gx_rf g10)))
      refine rw_dup (pc := 66) dS_grant_66 ?_
      refine rw_iconst (pc := 67) (x := nI 4) dS_grant_67 (by decide) ?_
      refine rw_aload_n (pc := 68) dS_grant_68 rfl ?_
      refine rw_iload (pc := 69) dS_grant_69 rfl ?_
      refine rw_aload_n (pc := 71) dS_grant_71 rfl ?_
      refine rw_getR (pc := 72) (x := some 5) flS_11_S dS_grant_72 (cs_o hc (by omega) (by omega)) (cs_S4 hc) (cr_4_2 hc) ?_
      refine rw_iload_n (pc := 75) dS_grant_75 rfl ?_
      refine rw_aald (pc := 76) (v := some (6 + (am_f m))) (i := (am_f m)) (t := 9) rfl ⟨rfl, by decide⟩ dS_grant_76 (cs_o hc (by omega) (by omega)) (cs_S5 hc) (ix_nI (by omega) (by decide)) (cr_5 hc (by omega)) ?_
      refine rw_clone (pc := 77) (rc' := 0) (rs' := 0) bw_480 bw_481 bw_482 bw_483 bw_484 nw_24 dS_grant_77 (cs_o hc (by omega) (by omega)) (cs_Spg hc (by omega)) (by decide) (Nat.le_of_ble_eq_true rfl) rfl rfl ?_
      have hS0 : hp_S (hp_new g10 (.inr 8)) (6 + (am_f m)) = .inl (0, 4) := cs_Spg hc (by omega)
      have hn0 : 0 < hp_n (hp_new g10 (.inr 8)) := by have := cs_n hc; omega
      replace hc := cv_gr hc (gx_cl (b := (6 + (am_f m))) (gx_rf (hp_new g10 (.inr 8))))
      replace hm := cm_le hm (gx_le (gx_cl (b := (6 + (am_f m))) (gx_rf (hp_new g10 (.inr 8)))))
      have ho8 : hp_ok (hp_cl (hp_new g10 (.inr 8)) (6 + (am_f m))) (hp_n g10) := ⟨by have := cs_n hcg; omega, by rw [hp_n_cl, hp_n_new]; omega⟩
      have hs8 : hp_S (hp_cl (hp_new g10 (.inr 8)) (6 + (am_f m))) (hp_n g10) = .inr 8 := by rw [hp_S_cl, if_neg (by rw [hp_n_new]; omega)]; exact sh_nw
      refine rw_castA (pc := 80) (n := 4) bw_486 dS_grant_80 (ok_cl hn0) (sh_cl hS0) ?_
      refine rw_iv (pc := 83) (z' := (2, 0, 0)) (rc' := 0) (rs' := 0) (av := [.inl (nI 4), .inr (some i), .inl (nI 0), .inr (some (hp_n (hp_new g10 (.inr 8))))]) (st := [.inr (some (hp_n g10)), .inr (some 4)]) mlS_117 miP_init rfl rfl dS_grant_83 (cP_init G _ ho8 hs8 (cm_o hm) (cm_q hm hk3).2.1 (by have := hmg.1.2; omega) hm.2.1.2.1 hm.2.1.2.2.1 hm.2.1.2.2.2 (cm_q hm hk3).2.2.1 (nI 4) false (some (hp_n (hp_new g10 (.inr 8))))) rfl rfl (Nat.le_of_ble_eq_true rfl) (by decide) rfl rfl (fun h11 q11 => ?_)
      obtain rfl := q11
      obtain ⟨hg, hr⟩ := mk_rg (m := m) (b := false) hcg hmg.2.2.1 hq2
      replace hc := cv_gr hcg hg
      replace hm := cm_le hmg (gx_le hg)
      replace hf := le_tr hf (gx_le hg)
      clear hg hcg hmg
      clear ho8 hs8 hS0 hn0
      generalize hr_8 (hp_cl (hp_new g10 (.inr 8)) (6 + (am_f m))) (hp_n g10) (nI 4) (nI (am_c m)) (nI (am_f m)) (am_n m) (nI (am_m m)) false (some (hp_n (hp_new g10 (.inr 8)))) = g12 at hc hm hf hr ⊢
      generalize hp_n g10 = i12 at hr ⊢
      refine rw_vv (pc := 86) (z' := (1, 0, 0)) (rc' := 0) (rs' := 0) (av := [.inr (some i12)]) (st := []) (ci := 2) mlS_120 miS_finish rfl mvS_finish_S dS_grant_86 (cs_o hc (by omega) (by omega)) (cs_S4 hc) (cS_finish G _ hc hr (Nat.le_of_ble_eq_true rfl) (Nat.le_of_ble_eq_true rfl)) rfl rfl (Nat.le_of_ble_eq_true rfl) (by decide) rfl rfl (fun h13 q13 => ?_)
      obtain ⟨hc, hf1⟩ := q13
      replace hm := cm_le hm hf1
      replace hr := cm_le hr hf1
      replace hf := le_tr hf hf1
      have hF : f_gr L sn sg pg m (n, md, en, sd, ln) = (f_send n (f_rp 4 m false (pg (am_f m))), fu2 md (am_c m) (am_f m) (am_m m), fu2 en (am_c m) (am_f m) (sn + (nI L)), fu sd (am_c m) (some (f_rp 4 m false (pg (am_f m)))), ln) := by unfold f_gr; simp [c2, c8, f_gR]
      rw [hF]
      exact rw_vret (pc := 89) dS_grant_89 rfl ⟨rfl, hc, hf⟩
    · skip
      replace c8 : sg = true := mb_T c8
      refine rw_iconst (pc := 26) (x := nI 1) dS_grant_26 (by decide) ?_
      refine rw_goto (pc := 27) dS_grant_27 (tgt := 31) rfl ?_
      refine rw_istore (pc := 31) (L' := [some (.inr (some 4)), some (.inr (some i)), some (.inl (nI (am_c m))), some (.inl (nI (am_f m))), some (.inl (nI 1))]) dS_grant_31 (by decide) rfl ?_
      refine rw_aload_n (pc := 33) dS_grant_33 rfl ?_
      refine rw_getR (pc := 34) (x := some 11) flS_22_S dS_grant_34 (cs_o hc (by omega) (by omega)) (cs_S4 hc) (cr_4_4 hc) ?_
      refine rw_iload_n (pc := 37) dS_grant_37 rfl ?_
      refine rw_aald (pc := 38) (v := some (12 + (am_c m))) (i := (am_c m)) (t := 9) rfl ⟨rfl, by decide⟩ dS_grant_38 (cs_o hc (by omega) (by omega)) (cs_S11 hc) (ix_nI (by omega) (by decide)) (cr_11 hc (by omega)) ?_
      refine rw_iload_n (pc := 39) dS_grant_39 rfl ?_
      refine rw_aload_n (pc := 40) dS_grant_40 rfl ?_
      refine rw_getI (pc := 41) (x := nI (am_m m)) flS_145_R dS_grant_41 (cm_o hm) (cm_q hm hk3).2.1 (cm_q hm hk3).2.2.1 ?_
      refine rw_iast (pc := 44) (i := (am_f m)) dS_grant_44 (cs_o hc (by omega) (by omega)) (cs_Smd hc (by omega)) (ix_nI (by omega) (by decide)) ?_
      replace hc := wv_md hc (i := (am_c m)) (j := (am_f m)) (by omega) (by omega) (am_m m) (by omega)
      replace hm := cm_le hm (le_sI (h := h) (A := (12 + (am_c m))) (k := (am_f m)) (v := (nI (am_m m))) (by omega))
      replace hf := le_tr hf (le_sI (h := h) (A := (12 + (am_c m))) (k := (am_f m)) (v := (nI (am_m m))) (by omega))
      generalize hp_sI h (12 + (am_c m)) (am_f m) (nI (am_m m)) = g14 at hc hf hm ⊢
      refine rw_aload_n (pc := 45) dS_grant_45 rfl ?_
      refine rw_getR (pc := 46) (x := some 15) flS_25_S dS_grant_46 (cs_o hc (by omega) (by omega)) (cs_S4 hc) (cr_4_5 hc) ?_
      refine rw_iload_n (pc := 49) dS_grant_49 rfl ?_
      refine rw_aald (pc := 50) (v := some (16 + (am_c m))) (i := (am_c m)) (t := 9) rfl ⟨rfl, by decide⟩ dS_grant_50 (cs_o hc (by omega) (by omega)) (cs_S15 hc) (ix_nI (by omega) (by decide)) (cr_15 hc (by omega)) ?_
      refine rw_iload_n (pc := 51) dS_grant_51 rfl ?_
      refine rw_aload_n (pc := 52) dS_grant_52 rfl ?_
      refine rw_getI (pc := 53) (x := sn) flS_38_S dS_grant_53 (cs_o hc (by omega) (by omega)) (cs_S4 hc) (cp_sn hc) ?_
      refine rw_aload_n (pc := 56) dS_grant_56 rfl ?_
      refine rw_getI (pc := 57) (x := nI L) flS_52_S dS_grant_57 (cs_o hc (by omega) (by omega)) (cs_S4 hc) (cp_L hc).1 ?_
      refine rw_iadd (pc := 60) (v := sn + (nI L)) dS_grant_60 rfl ?_
      refine rw_iast (pc := 61) (i := (am_f m)) dS_grant_61 (cs_o hc (by omega) (by omega)) (cs_Sen hc (by omega)) (ix_nI (by omega) (by decide)) ?_
      replace hc := wv_en hc (i := (am_c m)) (j := (am_f m)) (by omega) (by omega) (sn + (nI L))
      replace hm := cm_le hm (le_sI (h := g14) (A := (16 + (am_c m))) (k := (am_f m)) (v := (sn + (nI L))) (by omega))
      replace hf := le_tr hf (le_sI (h := g14) (A := (16 + (am_c m))) (k := (am_f m)) (v := (sn + (nI L))) (by omega))
      generalize hp_sI g14 (16 + (am_c m)) (am_f m) (sn + (nI L)) = g15 at hc hf hm ⊢
      refine rw_aload_n (pc := 62) dS_grant_62 rfl ?_
      refine rw_new (pc := 63) (rc' := 1) (rs' := 4) nnS_16 dS_grant_63 rfl rfl ?_
      have hcg := hc
      have hmg := hm
      replace hc := cv_gr hc (gx_new (s := .inr 8) (gx_rf g15))
      replace hm := cm_le hm (gx_le (gx_new (s := .inr 8) (gx_rf g15)))
      refine rw_dup (pc := 66) dS_grant_66 ?_
      refine rw_iconst (pc := 67) (x := nI 4) dS_grant_67 (by decide) ?_
      refine rw_aload_n (pc := 68) dS_grant_68 rfl ?_
      refine rw_iload (pc := 69) dS_grant_69 rfl ?_
      refine rw_aload_n (pc := 71) dS_grant_71 rfl ?_
      refine rw_getR (pc := 72) (x := some 5) flS_11_S dS_grant_72 (cs_o hc (by omega) (by omega)) (cs_S4 hc) (cr_4_2 hc) ?_
      refine rw_iload_n (pc := 75) dS_grant_75 rfl ?_
      refine rw_aald (pc := 76) (v := some (6 + (am_f m))) (i := (am_f m)) (t := 9) rfl ⟨rfl, by decide⟩ dS_grant_76 (cs_o hc (by omega) (by omega)) (cs_S5 hc) (ix_nI (by omega) (by decide)) (cr_5 hc (by omega)) ?_
      refine rw_clone (pc := 77) (rc' := 0) (rs' := 0) bw_480 bw_481 bw_482 bw_483 bw_484 nw_24 dS_grant_77 (cs_o hc (by omega) (by omega)) (cs_Spg hc (by omega)) (by decide) (Nat.le_of_ble_eq_true rfl) rfl rfl ?_
      have hS0 : hp_S (hp_new g15 (.inr 8)) (6 + (am_f m)) = .inl (0, 4) := cs_Spg hc (by omega)
      have hn0 : 0 < hp_n (hp_new g15 (.inr 8)) := by have := cs_n hc; omega
      replace hc := cv_gr hc (gx_cl (b := (6 + (am_f m))) (gx_rf (hp_new g15 (.inr 8))))
      replace hm := cm_le hm (gx_le (gx_cl (b := (6 + (am_f m))) (gx_rf (hp_new g15 (.inr 8)))))
      have ho8 : hp_ok (hp_cl (hp_new g15 (.inr 8)) (6 + (am_f m))) (hp_n g15) := ⟨by have := cs_n hcg; omega, by rw [hp_n_cl, hp_n_new]; omega⟩
      have hs8 : hp_S (hp_cl (hp_new g15 (.inr 8)) (6 + (am_f m))) (hp_n g15) = .inr 8 := by rw [hp_S_cl, if_neg (by rw [hp_n_new]; omega)]; exact sh_nw
      refine rw_castA (pc := 80) (n := 4) bw_486 dS_grant_80 (ok_cl hn0) (sh_cl hS0) ?_
      refine rw_iv (pc := 83) (z' := (2, 0, 0)) (rc' := 0) (rs' := 0) (av := [.inl (nI 4), .inr (some i), .inl (nI 1), .inr (some (hp_n (hp_new g15 (.inr 8))))]) (st := [.inr (some (hp_n g15)), .inr (some 4)]) mlS_117 miP_init rfl rfl dS_grant_83 (cP_init G _ ho8 hs8 (cm_o hm) (cm_q hm hk3).2.1 (by have := hmg.1.2; omega) hm.2.1.2.1 hm.2.1.2.2.1 hm.2.1.2.2.2 (cm_q hm hk3).2.2.1 (nI 4) true (some (hp_n (hp_new g15 (.inr 8))))) rfl rfl (Nat.le_of_ble_eq_true rfl) (by decide) rfl rfl (fun h16 q16 => ?_)
      obtain rfl := q16
      obtain ⟨hg, hr⟩ := mk_rg (m := m) (b := true) hcg hmg.2.2.1 hq2
      replace hc := cv_gr hcg hg
      replace hm := cm_le hmg (gx_le hg)
      replace hf := le_tr hf (gx_le hg)
      clear hg hcg hmg
      clear ho8 hs8 hS0 hn0
      generalize hr_8 (hp_cl (hp_new g15 (.inr 8)) (6 + (am_f m))) (hp_n g15) (nI 4) (nI (am_c m)) (nI (am_f m)) (am_n m) (nI (am_m m)) true (some (hp_n (hp_new g15 (.inr 8)))) = g17 at hc hm hf hr ⊢
      generalize hp_n g15 = i17 at hr ⊢
      refine rw_vv (pc := 86) (z' := (1, 0, 0)) (rc' := 0) (rs' := 0) (av := [.inr (some i17)]) (st := []) (ci := 2) mlS_120 miS_finish rfl mvS_finish_S dS_grant_86 (cs_o hc (by omega) (by omega)) (cs_S4 hc) (cS_finish G _ hc hr (Nat.le_of_ble_eq_true rfl) (Nat.le_of_ble_eq_true rfl)) rfl rfl (Nat.le_of_ble_eq_true rfl) (by decide) rfl rfl (fun h18 q18 => ?_)
      obtain ⟨hc, hf1⟩ := q18
      replace hm := cm_le hm hf1
      replace hr := cm_le hr hf1
      replace hf := le_tr hf hf1
      have hF : f_gr L sn sg pg m (n, md, en, sd, ln) = (f_send n (f_rp 4 m true (pg (am_f m))), fu2 md (am_c m) (am_f m) (am_m m), fu2 en (am_c m) (am_f m) (sn + (nI L)), fu sd (am_c m) (some (f_rp 4 m true (pg (am_f m)))), ln) := by unfold f_gr; simp [c2, c8, f_gR]
      rw [hF]
      exact rw_vret (pc := 89) dS_grant_89 rfl ⟨rfl, hc, hf⟩
def f_ss (pg : Nat → Nat → Int32) (m : ab_M) (s : ab_5) : (Nat → Nat → Int32) × ab_5 := if s.2.1 (am_c m) (am_f m) = 2 then (fu2 pg (am_f m) (am_p m) (am_v m), f_fin (f_rp 6 m false (fun _ => 0)) s) else (pg, f_fin (f_rp 7 m false (fun _ => 0)) s)
def f_sr (m : ab_M) (s : ab_5) : ab_5 := f_fin (f_rp 6 m false (fun _ => 0)) (s.1, fu2 s.2.1 (am_c m) (am_f m) 0, s.2.2)
theorem cS_serveStore (G : mt_G) (h : ha_H) {L : Nat} {n : List ab_M} {su : Bool} {sn : Int32} {sg : Bool} {se : Int32} {pg : Nat → Nat → Int32} {md : Nat → Nat → Nat} {en : Nat → Nat → Int32} {sd : Nat → Option ab_M} {ln : Nat → List ab_M} {C : Nat → ab_C} (hc : CV L n su sn sg se pg md en sd ln C h) {i : Nat} {m : ab_M} (hm : cv_M h i m) (hk3 : am_k m ≤ 3) : rn_M G xS_serveStore (3, 1, 7) [.inr (some 4), .inr (some i)] h (rn_v (fun h' => CV L (f_ss pg m (n, md, en, sd, ln)).2.1 su sn sg se (f_ss pg m (n, md, en, sd, ln)).1 (f_ss pg m (n, md, en, sd, ln)).2.2.1 (f_ss pg m (n, md, en, sd, ln)).2.2.2.1 (f_ss pg m (n, md, en, sd, ln)).2.2.2.2.1 (f_ss pg m (n, md, en, sd, ln)).2.2.2.2.2 C h' ∧ hp_le h h')) := by
  have hf := le_rf h
  have hl := hm.2.2.1.1
  have hf4 := hm.2.2.1.2
  have hq2 := (cm_q hm hk3).2.2.2.1
  have hm2 := (cp_md hc _ _ hl hf4).2
  have hp4 := (cm_q hm hk3).2.2.2.2.2.2.1
  refine rn_of (by decide +kernel) (Nat.le_of_ble_eq_true rfl) ?_
  show rn_W G xS_serveStore (3, 1, 7) 1 7 0 [some (.inr (some 4)), some (.inr (some i)), none] [] h _
  refine rw_aload_n (pc := 0) dS_serveStore_0 rfl ?_
  refine rw_getR (pc := 1) (x := some 11) flS_22_S dS_serveStore_1 (cs_o hc (by omega) (by omega)) (cs_S4 hc) (cr_4_4 hc) ?_
  refine rw_aload_n (pc := 4) dS_serveStore_4 rfl ?_
  refine rw_getI (pc := 5) (x := nI (am_c m)) flS_75_R dS_serveStore_5 (cm_o hm) (cm_q hm hk3).2.1 hm.2.1.2.1 ?_
  refine rw_aald (pc := 8) (v := some (12 + (am_c m))) (i := (am_c m)) (t := 9) rfl ⟨rfl, by decide⟩ dS_serveStore_8 (cs_o hc (by omega) (by omega)) (cs_S11 hc) (ix_nI (by omega) (by decide)) (cr_11 hc (by omega)) ?_
  refine rw_aload_n (pc := 9) dS_serveStore_9 rfl ?_
  refine rw_getI (pc := 10) (x := nI (am_f m)) flS_111_R dS_serveStore_10 (cm_o hm) (cm_q hm hk3).2.1 hm.2.1.2.2.1 ?_
  refine rw_iald (pc := 13) (v := nI (md (am_c m) (am_f m))) (i := (am_f m)) dS_serveStore_13 (cs_o hc (by omega) (by omega)) (cs_Smd hc (by omega)) (ix_nI (by omega) (by decide)) ((cp_md hc) _ _ (by omega) (by omega)).1 ?_
  refine rw_iconst (pc := 14) (x := nI 2) dS_serveStore_14 (by decide) ?_
  refine rw_icmpne (pc := 15) dS_serveStore_15 (tgt := 22) rfl (fun c1 => ?_) (fun c1 => ?_)
  · skip
    replace c1 : ¬ ((md (am_c m) (am_f m)) = 2) := fun qz => c1 ((nI_eq (a := (md (am_c m) (am_f m))) (b := 2) (by omega) (by omega)).mpr qz)
    refine rw_iconst (pc := 22) (x := nI 0) dS_serveStore_22 (by decide) ?_
    refine rw_istore_n (pc := 23) (L' := [some (.inr (some 4)), some (.inr (some i)), some (.inl (nI 0))]) dS_serveStore_23 (by decide) rfl ?_
    refine rw_iload_n (pc := 24) dS_serveStore_24 rfl ?_
    refine rw_ifeq (pc := 25) dS_serveStore_25 (tgt := 46) rfl (fun c2 => ?_) (fun c2 => ?_)
    · skip
      replace c2 : 0 = 0 := (nI_eq (a := 0) (b := 0) (by omega) (by omega)).mp c2
      refine rw_aload_n (pc := 46) dS_serveStore_46 rfl ?_
      refine rw_new (pc := 47) (rc' := 0) (rs' := 0) nnS_16 dS_serveStore_47 rfl rfl ?_
      have hcg := hc
      have hmg := hm
      replace hc := cv_gr hc (gx_new (s := .inr 8) (gx_rf h))
      replace hm := cm_le hm (gx_le (gx_new (s := .inr 8) (gx_rf h)))
      refine rw_dup (pc := 50) dS_serveStore_50 ?_
      refine rw_iload_n (pc := 51) dS_serveStore_51 rfl ?_
      refine rw_ifeq (pc := 52) dS_serveStore_52 (tgt := 60) rfl (fun c3 => ?_) (fun c3 => ?_)
      · skip
        replace c3 : 0 = 0 := (nI_eq (a := 0) (b := 0) (by omega) (by omega)).mp c3
        refine rw_bipush (pc := 60) (x := nI 7) dS_serveStore_60 (by decide) ?_
        refine rw_aload_n (pc := 62) dS_serveStore_62 rfl ?_
        refine rw_iconst (pc := 63) (x := nI 0) dS_serveStore_63 (by decide) ?_
        refine rw_null (pc := 64) dS_serveStore_64 ?_
        refine rw_iv (pc := 65) (z' := (2, 0, 0)) (rc' := 0) (rs' := 0) (av := [.inl (nI 7), .inr (some i), .inl (nI 0), .inr none]) (st := [.inr (some (hp_n h)), .inr (some 4)]) mlS_117 miP_init rfl rfl dS_serveStore_65 (cP_init G _ (ok_nw (by have := cs_n hcg; omega)) sh_nw (cm_o hm) (cm_q hm hk3).2.1 (by have := hmg.1.2; omega) hm.2.1.2.1 hm.2.1.2.2.1 hm.2.1.2.2.2 (cm_q hm hk3).2.2.1 (nI 7) false none) rfl rfl (Nat.le_of_ble_eq_true rfl) (by decide) rfl rfl (fun h4 q4 => ?_)
        obtain rfl := q4
        obtain ⟨hg, hr⟩ := mk_rp (h := h) (k := 7) (m := m) (b := false) (cs_n hcg) hmg.2.2.1 hq2 (by decide) (by decide)
        replace hc := cv_gr hcg hg
        replace hm := cm_le hmg (gx_le hg)
        replace hf := le_tr hf (gx_le hg)
        clear hg hcg hmg
        generalize hr_8 (hp_new h (.inr 8)) (hp_n h) (nI 7) (nI (am_c m)) (nI (am_f m)) (am_n m) (nI (am_m m)) false none = g5 at hc hm hf hr ⊢
        generalize hp_n h = i5 at hr ⊢
        refine rw_vv (pc := 68) (z' := (1, 0, 0)) (rc' := 0) (rs' := 0) (av := [.inr (some i5)]) (st := []) (ci := 2) mlS_120 miS_finish rfl mvS_finish_S dS_serveStore_68 (cs_o hc (by omega) (by omega)) (cs_S4 hc) (cS_finish G _ hc hr (Nat.le_of_ble_eq_true rfl) (Nat.le_of_ble_eq_true rfl)) rfl rfl (Nat.le_of_ble_eq_true rfl) (by decide) rfl rfl (fun h6 q6 => ?_)
        obtain ⟨hc, hf1⟩ := q6
        replace hm := cm_le hm hf1
        replace hr := cm_le hr hf1
        replace hf := le_tr hf hf1
        have hF : f_ss pg m (n, md, en, sd, ln) = (pg, (f_send n (f_rp 7 m false (fun _ => 0)), md, en, fu sd (am_c m) (some (f_rp 7 m false (fun _ => 0))), ln)) := by unfold f_ss f_fin; simp [c1]; try rfl
        rw [hF]
        exact rw_vret (pc := 71) dS_serveStore_71 rfl ⟨rfl, hc, hf⟩
      · skip
        replace c3 : ¬ (0 = 0) := fun qz => c3 ((nI_eq (a := 0) (b := 0) (by omega) (by omega)).mpr qz)
        exact absurd (by decide) c3
    · skip
      replace c2 : ¬ (0 = 0) := fun qz => c2 ((nI_eq (a := 0) (b := 0) (by omega) (by omega)).mpr qz)
      exact absurd (by decide) c2
  · skip
    replace c1 : (md (am_c m) (am_f m)) = 2 := (nI_eq (a := (md (am_c m) (am_f m))) (b := 2) (by omega) (by omega)).mp c1
    refine rw_iconst (pc := 18) (x := nI 1) dS_serveStore_18 (by decide) ?_
    refine rw_goto (pc := 19) dS_serveStore_19 (tgt := 23) rfl ?_
    refine rw_istore_n (pc := 23) (L' := [some (.inr (some 4)), some (.inr (some i)), some (.inl (nI 1))]) dS_serveStore_23 (by decide) rfl ?_
    refine rw_iload_n (pc := 24) dS_serveStore_24 rfl ?_
    refine rw_ifeq (pc := 25) dS_serveStore_25 (tgt := 46) rfl (fun c7 => ?_) (fun c7 => ?_)
    · skip
      replace c7 : 1 = 0 := (nI_eq (a := 1) (b := 0) (by omega) (by omega)).mp c7
      exact absurd c7 (by decide)
    · skip
      replace c7 : ¬ (1 = 0) := fun qz => c7 ((nI_eq (a := 1) (b := 0) (by omega) (by omega)).mpr qz)
      refine rw_aload_n (pc := 28) dS_serveStore_28 rfl ?_
      refine rw_getR (pc := 29) (x := some 5) flS_11_S dS_serveStore_29 (cs_o hc (by omega) (by omega)) (cs_S4 hc) (cr_4_2 hc) ?_
      refine rw_aload_n (pc := 32) dS_serveStore_32 rfl ?_
      refine rw_getI (pc := 33) (x := nI (am_f m)) flS_111_R dS_serveStore_33 (cm_o hm) (cm_q hm hk3).2.1 hm.2.1.2.2.1 ?_
      refine rw_aald (pc := 36) (v := some (6 + (am_f m))) (i := (am_f m)) (t := 9) rfl ⟨rfl, by decide⟩ dS_serveStore_36 (cs_o hc (by omega) (by omega)) (cs_S5 hc) (ix_nI (by omega) (by decide)) (cr_5 hc (by omega)) ?_
      refine rw_aload_n (pc := 37) dS_serveStore_37 rfl ?_
      refine rw_getI (pc := 38) (x := nI (am_p m)) flS_139_R dS_serveStore_38 (cm_o hm) (cm_q hm hk3).2.1 (cm_q hm hk3).2.2.2.2.2.1 ?_
      refine rw_aload_n (pc := 41) dS_serveStore_41 rfl ?_
      refine rw_getI (pc := 42) (x := am_v m) flS_142_R dS_serveStore_42 (cm_o hm) (cm_q hm hk3).2.1 (cm_q hm hk3).2.2.2.2.2.2.2 ?_
      refine rw_iast (pc := 45) (i := (am_p m)) dS_serveStore_45 (cs_o hc (by omega) (by omega)) (cs_Spg hc (by omega)) (ix_nI (by omega) (by decide)) ?_
      replace hc := wv_pg hc (i := (am_f m)) (j := (am_p m)) (by omega) (by omega) (am_v m)
      replace hm := cm_le hm (le_sI (h := h) (A := (6 + (am_f m))) (k := (am_p m)) (v := (am_v m)) (by omega))
      replace hf := le_tr hf (le_sI (h := h) (A := (6 + (am_f m))) (k := (am_p m)) (v := (am_v m)) (by omega))
      generalize hp_sI h (6 + (am_f m)) (am_p m) (am_v m) = g8 at hc hf hm ⊢
      refine rw_aload_n (pc := 46) dS_serveStore_46 rfl ?_
      refine rw_new (pc := 47) (rc' := 0) (rs' := 0) nnS_16 dS_serveStore_47 rfl rfl ?_
      have hcg := hc
      have hmg := hm
      replace hc := cv_gr hc (gx_new (s := .inr 8) (gx_rf g8))
      replace hm := cm_le hm (gx_le (gx_new (s := .inr 8) (gx_rf g8)))
      refine rw_dup (pc := 50) dS_serveStore_50 ?_
      refine rw_iload_n (pc := 51) dS_serveStore_51 rfl ?_
      refine rw_ifeq (pc := 52) dS_serveStore_52 (tgt := 60) rfl (fun c9 => ?_) (fun c9 => ?_)
      · skip
        replace c9 : 1 = 0 := (nI_eq (a := 1) (b := 0) (by omega) (by omega)).mp c9
        exact absurd c9 (by decide)
      · skip
        replace c9 : ¬ (1 = 0) := fun qz => c9 ((nI_eq (a := 1) (b := 0) (by omega) (by omega)).mpr qz)
        refine rw_bipush (pc := 55) (x := nI 6) dS_serveStore_55 (by decide) ?_
        refine rw_goto (pc := 57) dS_serveStore_57 (tgt := 62) rfl ?_
        refine rw_aload_n (pc := 62) dS_serveStore_62 rfl ?_
        refine rw_iconst (pc := 63) (x := nI 0) dS_serveStore_63 (by decide) ?_
        refine rw_null (pc := 64) dS_serveStore_64 ?_
        refine rw_iv (pc := 65) (z' := (2, 0, 0)) (rc' := 0) (rs' := 0) (av := [.inl (nI 6), .inr (some i), .inl (nI 0), .inr none]) (st := [.inr (some (hp_n g8)), .inr (some 4)]) mlS_117 miP_init rfl rfl dS_serveStore_65 (cP_init G _ (ok_nw (by have := cs_n hcg; omega)) sh_nw (cm_o hm) (cm_q hm hk3).2.1 (by have := hmg.1.2; omega) hm.2.1.2.1 hm.2.1.2.2.1 hm.2.1.2.2.2 (cm_q hm hk3).2.2.1 (nI 6) false none) rfl rfl (Nat.le_of_ble_eq_true rfl) (by decide) rfl rfl (fun h10 q10 => ?_)
        obtain rfl := q10
        obtain ⟨hg, hr⟩ := mk_rp (h := g8) (k := 6) (m := m) (b := false) (cs_n hcg) hmg.2.2.1 hq2 (by decide) (by decide)
        replace hc := cv_gr hcg hg
        replace hm := cm_le hmg (gx_le hg)
        replace hf := le_tr hf (gx_le hg)
        clear hg hcg hmg
        generalize hr_8 (hp_new g8 (.inr 8)) (hp_n g8) (nI 6) (nI (am_c m)) (nI (am_f m)) (am_n m) (nI (am_m m)) false none = g11 at hc hm hf hr ⊢
        generalize hp_n g8 = i11 at hr ⊢
        refine rw_vv (pc := 68) (z' := (1, 0, 0)) (rc' := 0) (rs' := 0) (av := [.inr (some i11)]) (st := []) (ci := 2) mlS_120 miS_finish rfl mvS_finish_S dS_serveStore_68 (cs_o hc (by omega) (by omega)) (cs_S4 hc) (cS_finish G _ hc hr (Nat.le_of_ble_eq_true rfl) (Nat.le_of_ble_eq_true rfl)) rfl rfl (Nat.le_of_ble_eq_true rfl) (by decide) rfl rfl (fun h12 q12 => ?_)
        obtain ⟨hc, hf1⟩ := q12
        replace hm := cm_le hm hf1
        replace hr := cm_le hr hf1
        replace hf := le_tr hf hf1
        have hF : f_ss pg m (n, md, en, sd, ln) = (fu2 pg (am_f m) (am_p m) (am_v m), (f_send n (f_rp 6 m false (fun _ => 0)), md, en, fu sd (am_c m) (some (f_rp 6 m false (fun _ => 0))), ln)) := by unfold f_ss f_fin; simp [c1]; try rfl
        rw [hF]
        exact rw_vret (pc := 71) dS_serveStore_71 rfl ⟨rfl, hc, hf⟩
theorem cS_serveRelease (G : mt_G) (h : ha_H) {L : Nat} {n : List ab_M} {su : Bool} {sn : Int32} {sg : Bool} {se : Int32} {pg : Nat → Nat → Int32} {md : Nat → Nat → Nat} {en : Nat → Nat → Int32} {sd : Nat → Option ab_M} {ln : Nat → List ab_M} {C : Nat → ab_C} (hc : CV L n su sn sg se pg md en sd ln C h) {i : Nat} {m : ab_M} (hm : cv_M h i m) (hk3 : am_k m ≤ 3) : rn_M G xS_serveRelease (3, 1, 7) [.inr (some 4), .inr (some i)] h (rn_v (fun h' => CV L (f_sr m (n, md, en, sd, ln)).1 su sn sg se pg (f_sr m (n, md, en, sd, ln)).2.1 (f_sr m (n, md, en, sd, ln)).2.2.1 (f_sr m (n, md, en, sd, ln)).2.2.2.1 (f_sr m (n, md, en, sd, ln)).2.2.2.2 C h' ∧ hp_le h h')) := by
  have hf := le_rf h
  have hl := hm.2.2.1.1
  have hf4 := hm.2.2.1.2
  have hq2 := (cm_q hm hk3).2.2.2.1
  refine rn_of (by decide +kernel) (Nat.le_of_ble_eq_true rfl) ?_
  show rn_W G xS_serveRelease (3, 1, 7) 1 7 0 [some (.inr (some 4)), some (.inr (some i))] [] h _
  refine rw_aload_n (pc := 0) dS_serveRelease_0 rfl ?_
  refine rw_getR (pc := 1) (x := some 11) flS_22_S dS_serveRelease_1 (cs_o hc (by omega) (by omega)) (cs_S4 hc) (cr_4_4 hc) ?_
  refine rw_aload_n (pc := 4) dS_serveRelease_4 rfl ?_
  refine rw_getI (pc := 5) (x := nI (am_c m)) flS_75_R dS_serveRelease_5 (cm_o hm) (cm_q hm hk3).2.1 hm.2.1.2.1 ?_
  refine rw_aald (pc := 8) (v := some (12 + (am_c m))) (i := (am_c m)) (t := 9) rfl ⟨rfl, by decide⟩ dS_serveRelease_8 (cs_o hc (by omega) (by omega)) (cs_S11 hc) (ix_nI (by omega) (by decide)) (cr_11 hc (by omega)) ?_
  refine rw_aload_n (pc := 9) dS_serveRelease_9 rfl ?_
  refine rw_getI (pc := 10) (x := nI (am_f m)) flS_111_R dS_serveRelease_10 (cm_o hm) (cm_q hm hk3).2.1 hm.2.1.2.2.1 ?_
  refine rw_iconst (pc := 13) (x := nI 0) dS_serveRelease_13 (by decide) ?_
  refine rw_iast (pc := 14) (i := (am_f m)) dS_serveRelease_14 (cs_o hc (by omega) (by omega)) (cs_Smd hc (by omega)) (ix_nI (by omega) (by decide)) ?_
  replace hc := wv_md hc (i := (am_c m)) (j := (am_f m)) (by omega) (by omega) 0 (by omega)
  replace hm := cm_le hm (le_sI (h := h) (A := (12 + (am_c m))) (k := (am_f m)) (v := (nI 0)) (by omega))
  replace hf := le_tr hf (le_sI (h := h) (A := (12 + (am_c m))) (k := (am_f m)) (v := (nI 0)) (by omega))
  generalize hp_sI h (12 + (am_c m)) (am_f m) (nI 0) = g1 at hc hf hm ⊢
  refine rw_aload_n (pc := 15) dS_serveRelease_15 rfl ?_
  refine rw_new (pc := 16) (rc' := 0) (rs' := 0) nnS_16 dS_serveRelease_16 rfl rfl ?_
  have hcg := hc
  have hmg := hm
  replace hc := cv_gr hc (gx_new (s := .inr 8) (gx_rf g1))
  replace hm := cm_le hm (gx_le (gx_new (s := .inr 8) (gx_rf g1)))
  refine rw_dup (pc := 19) dS_serveRelease_19 ?_
  refine rw_bipush (pc := 20) (x := nI 6) dS_serveRelease_20 (by decide) ?_
  refine rw_aload_n (pc := 22) dS_serveRelease_22 rfl ?_
  refine rw_iconst (pc := 23) (x := nI 0) dS_serveRelease_23 (by decide) ?_
  refine rw_null (pc := 24) dS_serveRelease_24 ?_
  refine rw_iv (pc := 25) (z' := (2, 0, 0)) (rc' := 0) (rs' := 0) (av := [.inl (nI 6), .inr (some i), .inl (nI 0), .inr none]) (st := [.inr (some (hp_n g1)), .inr (some 4)]) mlS_117 miP_init rfl rfl dS_serveRelease_25 (cP_init G _ (ok_nw (by have := cs_n hcg; omega)) sh_nw (cm_o hm) (cm_q hm hk3).2.1 (by have := hmg.1.2; omega) hm.2.1.2.1 hm.2.1.2.2.1 hm.2.1.2.2.2 (cm_q hm hk3).2.2.1 (nI 6) false none) rfl rfl (Nat.le_of_ble_eq_true rfl) (by decide) rfl rfl (fun h2 q2 => ?_)
  obtain rfl := q2
  obtain ⟨hg, hr⟩ := mk_rp (h := g1) (k := 6) (m := m) (b := false) (cs_n hcg) hmg.2.2.1 hq2 (by decide) (by decide)
  replace hc := cv_gr hcg hg
  replace hm := cm_le hmg (gx_le hg)
  replace hf := le_tr hf (gx_le hg)
  clear hg hcg hmg
  generalize hr_8 (hp_new g1 (.inr 8)) (hp_n g1) (nI 6) (nI (am_c m)) (nI (am_f m)) (am_n m) (nI (am_m m)) false none = g3 at hc hm hf hr ⊢
  generalize hp_n g1 = i3 at hr ⊢
  refine rw_vv (pc := 28) (z' := (1, 0, 0)) (rc' := 0) (rs' := 0) (av := [.inr (some i3)]) (st := []) (ci := 2) mlS_120 miS_finish rfl mvS_finish_S dS_serveRelease_28 (cs_o hc (by omega) (by omega)) (cs_S4 hc) (cS_finish G _ hc hr (Nat.le_of_ble_eq_true rfl) (Nat.le_of_ble_eq_true rfl)) rfl rfl (Nat.le_of_ble_eq_true rfl) (by decide) rfl rfl (fun h4 q4 => ?_)
  obtain ⟨hc, hf1⟩ := q4
  replace hm := cm_le hm hf1
  replace hr := cm_le hr hf1
  replace hf := le_tr hf hf1
  exact rw_vret (pc := 31) dS_serveRelease_31 rfl ⟨rfl, hc, hf⟩
theorem cS_recallConflicting (G : mt_G) (h : ha_H) {L : Nat} {n : List ab_M} {su : Bool} {sn : Int32} {sg : Bool} {se : Int32} {pg : Nat → Nat → Int32} {md : Nat → Nat → Nat} {en : Nat → Nat → Int32} {sd : Nat → Option ab_M} {ln : Nat → List ab_M} {C : Nat → ab_C} (hc : CV L n su sn sg se pg md en sd ln C h) {i : Nat} {m : ab_M} (hm : cv_M h i m) (hk3 : am_k m ≤ 3) : rn_M G xS_recallConflicting (2, 3, 12) [.inr (some 4), .inr (some i)] h (rn_v (fun h' => CV L (f_rc md m n) su sn sg se pg md en sd ln C h' ∧ hp_le h h')) := by
  have hf := le_rf h
  have hl := hm.2.2.1.1
  have hf4 := hm.2.2.1.2
  have hq2 := (cm_q hm hk3).2.2.2.1
  refine rn_of (by decide +kernel) (Nat.le_of_ble_eq_true rfl) ?_
  show rn_W G xS_recallConflicting (2, 3, 12) 3 12 0 [some (.inr (some 4)), some (.inr (some i)), none] [] h _
  refine rw_iconst (pc := 0) (x := nI 0) dS_recallConflicting_0 (by decide) ?_
  refine rw_istore_n (pc := 1) (L' := [some (.inr (some 4)), some (.inr (some i)), some (.inl (nI 0))]) dS_recallConflicting_1 (by decide) rfl ?_
  refine rw_iload_n (pc := 2) dS_recallConflicting_2 rfl ?_
  refine rw_iconst (pc := 3) (x := nI 3) dS_recallConflicting_3 (by decide) ?_
  refine rw_icmpge (pc := 4) dS_recallConflicting_4 (tgt := 45) rfl (fun c1 => ?_) (fun c1 => ?_)
  · skip
    replace c1 : 3 ≤ 0 := (nI_leI (a := 3) (b := 0) (by omega) (by omega)).mp c1
    exact absurd c1 (by decide)
  · skip
    replace c1 : ¬ (3 ≤ 0) := fun qz => c1 ((nI_leI (a := 3) (b := 0) (by omega) (by omega)).mpr qz)
    refine rw_aload_n (pc := 7) dS_recallConflicting_7 rfl ?_
    refine rw_aload_n (pc := 8) dS_recallConflicting_8 rfl ?_
    refine rw_iload_n (pc := 9) dS_recallConflicting_9 rfl ?_
    refine rw_vi (pc := 10) (z' := (1, 0, 0)) (rc' := 3) (rs' := 12) (av := [.inr (some i), .inl (nI 0)]) (st := []) (ci := 2) mlS_155 miS_conflicts rfl mvS_conflicts_S dS_recallConflicting_10 (cs_o hc (by omega) (by omega)) (cs_S4 hc) (cS_conflicts G _ hc hm hk3 (by omega)) rfl rfl (Nat.le_of_ble_eq_true rfl) (by decide) rfl rfl (fun r2 h2 q2 => ?_)
    obtain ⟨rfl, rfl⟩ := q2
    refine rw_ifeq (pc := 13) dS_recallConflicting_13 (tgt := 39) rfl (fun c3 => ?_) (fun c3 => ?_)
    · skip
      replace c3 : (f_cf md m 0) = false := (m_bi0 _).mp c3
      refine rw_iinc (pc := 39) (x := nI 0) (y := nI 1) (L' := [some (.inr (some 4)), some (.inr (some i)), some (.inl (nI 1))]) dS_recallConflicting_39 (by decide) rfl (by decide) rfl ?_
      refine rw_goto (pc := 42) dS_recallConflicting_42 (tgt := 2) rfl ?_
      refine rw_iload_n (pc := 2) dS_recallConflicting_2 rfl ?_
      refine rw_iconst (pc := 3) (x := nI 3) dS_recallConflicting_3 (by decide) ?_
      refine rw_icmpge (pc := 4) dS_recallConflicting_4 (tgt := 45) rfl (fun c4 => ?_) (fun c4 => ?_)
      · skip
        replace c4 : 3 ≤ 1 := (nI_leI (a := 3) (b := 1) (by omega) (by omega)).mp c4
        exact absurd c4 (by decide)
      · skip
        replace c4 : ¬ (3 ≤ 1) := fun qz => c4 ((nI_leI (a := 3) (b := 1) (by omega) (by omega)).mpr qz)
        refine rw_aload_n (pc := 7) dS_recallConflicting_7 rfl ?_
        refine rw_aload_n (pc := 8) dS_recallConflicting_8 rfl ?_
        refine rw_iload_n (pc := 9) dS_recallConflicting_9 rfl ?_
        refine rw_vi (pc := 10) (z' := (1, 0, 0)) (rc' := 3) (rs' := 12) (av := [.inr (some i), .inl (nI 1)]) (st := []) (ci := 2) mlS_155 miS_conflicts rfl mvS_conflicts_S dS_recallConflicting_10 (cs_o hc (by omega) (by omega)) (cs_S4 hc) (cS_conflicts G _ hc hm hk3 (by omega)) rfl rfl (Nat.le_of_ble_eq_true rfl) (by decide) rfl rfl (fun r5 h5 q5 => ?_)
        obtain ⟨rfl, rfl⟩ := q5
        refine rw_ifeq (pc := 13) dS_recallConflicting_13 (tgt := 39) rfl (fun c6 => ?_) (fun c6 => ?_)
        · skip
          replace c6 : (f_cf md m 1) = false := (m_bi0 _).mp c6
          refine rw_iinc (pc := 39) (x := nI 1) (y := nI 2) (L' := [some (.inr (some 4)), some (.inr (some i)), some (.inl (nI 2))]) dS_recallConflicting_39 (by decide) rfl (by decide) rfl ?_
          refine rw_goto (pc := 42) dS_recallConflicting_42 (tgt := 2) rfl ?_
          refine rw_iload_n (pc := 2) dS_recallConflicting_2 rfl ?_
          refine rw_iconst (pc := 3) (x := nI 3) dS_recallConflicting_3 (by decide) ?_
          refine rw_icmpge (pc := 4) dS_recallConflicting_4 (tgt := 45) rfl (fun c7 => ?_) (fun c7 => ?_)
          · skip
            replace c7 : 3 ≤ 2 := (nI_leI (a := 3) (b := 2) (by omega) (by omega)).mp c7
            exact absurd c7 (by decide)
          · skip
            replace c7 : ¬ (3 ≤ 2) := fun qz => c7 ((nI_leI (a := 3) (b := 2) (by omega) (by omega)).mpr qz)
            refine rw_aload_n (pc := 7) dS_recallConflicting_7 rfl ?_
            refine rw_aload_n (pc := 8) dS_recallConflicting_8 rfl ?_
            refine rw_iload_n (pc := 9) dS_recallConflicting_9 rfl ?_
            refine rw_vi (pc := 10) (z' := (1, 0, 0)) (rc' := 3) (rs' := 12) (av := [.inr (some i), .inl (nI 2)]) (st := []) (ci := 2) mlS_155 miS_conflicts rfl mvS_conflicts_S dS_recallConflicting_10 (cs_o hc (by omega) (by omega)) (cs_S4 hc) (cS_conflicts G _ hc hm hk3 (by omega)) rfl rfl (Nat.le_of_ble_eq_true rfl) (by decide) rfl rfl (fun r8 h8 q8 => ?_)
            obtain ⟨rfl, rfl⟩ := q8
            refine rw_ifeq (pc := 13) dS_recallConflicting_13 (tgt := 39) rfl (fun c9 => ?_) (fun c9 => ?_)
            · skip
              replace c9 : (f_cf md m 2) = false := (m_bi0 _).mp c9
              refine rw_iinc (pc := 39) (x := nI 2) (y := nI 3) (L' := [some (.inr (some 4)), some (.inr (some i)), some (.inl (nI 3))]) dS_recallConflicting_39 (by decide) rfl (by decide) rfl ?_
              refine rw_goto (pc := 42) dS_recallConflicting_42 (tgt := 2) rfl ?_
              refine rw_iload_n (pc := 2) dS_recallConflicting_2 rfl ?_
              refine rw_iconst (pc := 3) (x := nI 3) dS_recallConflicting_3 (by decide) ?_
              refine rw_icmpge (pc := 4) dS_recallConflicting_4 (tgt := 45) rfl (fun c10 => ?_) (fun c10 => ?_)
              · skip
                replace c10 : 3 ≤ 3 := (nI_leI (a := 3) (b := 3) (by omega) (by omega)).mp c10
                have hF : f_rc md m n = n := by unfold f_rc f_r1; simp only [c3, c6, c9, cond_true, cond_false]
                rw [hF]
                exact rw_vret (pc := 45) dS_recallConflicting_45 rfl ⟨rfl, hc, hf⟩
              · skip
                replace c10 : ¬ (3 ≤ 3) := fun qz => c10 ((nI_leI (a := 3) (b := 3) (by omega) (by omega)).mpr qz)
                exact absurd (by decide) c10
            · skip
              replace c9 : (f_cf md m 2) = true := mb_T c9
              refine rw_aload_n (pc := 16) dS_recallConflicting_16 rfl ?_
              refine rw_getR (pc := 17) (x := some 2) flS_48_S dS_recallConflicting_17 (cs_o hc (by omega) (by omega)) (cs_S4 hc) (cr_4_0 hc) ?_
              refine rw_new (pc := 20) (rc' := 2) (rs' := 8) nnS_159 dS_recallConflicting_20 rfl rfl ?_
              have hcg := hc
              have hmg := hm
              replace hc := cv_gr hc (gx_new (s := .inr 6) (gx_rf h))
              replace hm := cm_le hm (gx_le (gx_new (s := .inr 6) (gx_rf h)))
              refine rw_dup (pc := 23) dS_recallConflicting_23 ?_
              refine rw_bipush (pc := 24) (x := nI 8) dS_recallConflicting_24 (by decide) ?_
              refine rw_iload_n (pc := 26) dS_recallConflicting_26 rfl ?_
              refine rw_aload_n (pc := 27) dS_recallConflicting_27 rfl ?_
              refine rw_getI (pc := 28) (x := nI (am_f m)) flS_111_R dS_recallConflicting_28 (cm_o hm) (cm_q hm hk3).2.1 hm.2.1.2.2.1 ?_
              refine rw_iconst (pc := 31) (x := nI 0) dS_recallConflicting_31 (by decide) ?_
              refine rw_iv (pc := 32) (z' := (1, 0, 0)) (rc' := 2) (rs' := 8) (av := [.inl (nI 8), .inl (nI 2), .inl (nI (am_f m)), .inl (nI 0)]) (st := [.inr (some (hp_n h)), .inr (some 2)]) mlS_161 miG_init rfl rfl dS_recallConflicting_32 (cG_initG G _ (ok_nw (by have := cs_n hcg; omega)) sh_nw _ _ _ _) rfl rfl (Nat.le_of_ble_eq_true rfl) (by decide) rfl rfl (fun h11 q11 => ?_)
              obtain rfl := q11
              obtain ⟨hg, hr⟩ := mk_rc (h := h) (c := 2) (f := am_f m) (cs_n hcg) (by decide) hf4
              replace hc := cv_gr hcg hg
              replace hm := cm_le hmg (gx_le hg)
              replace hf := le_tr hf (gx_le hg)
              clear hg hcg hmg
              generalize hm_4 (hp_new h (.inr 6)) (hp_n h) (nI 8) (nI 2) (nI (am_f m)) (nI 0) = g12 at hc hm hf hr ⊢
              generalize hp_n h = i12 at hr ⊢
              refine rw_vi (pc := 35) (z' := (0, 0, 0)) (rc' := 2) (rs' := 8) (av := [.inr (some i12)]) (st := []) (ci := 1) mlS_84 miN_send rfl mvN_send_N dS_recallConflicting_35 (cs_o hc (by omega) (by omega)) (cs_S2 hc) (cN_send G _ hc hr) rfl rfl (Nat.le_of_ble_eq_true rfl) (by decide) rfl rfl (fun r13 h13 q13 => ?_)
              obtain ⟨rfl, hc, hf1⟩ := q13
              replace hm := cm_le hm hf1
              replace hr := cm_le hr hf1
              replace hf := le_tr hf hf1
              clear hr
              refine rw_pop (pc := 38) dS_recallConflicting_38 ?_
              refine rw_iinc (pc := 39) (x := nI 2) (y := nI 3) (L' := [some (.inr (some 4)), some (.inr (some i)), some (.inl (nI 3))]) dS_recallConflicting_39 (by decide) rfl (by decide) rfl ?_
              refine rw_goto (pc := 42) dS_recallConflicting_42 (tgt := 2) rfl ?_
              refine rw_iload_n (pc := 2) dS_recallConflicting_2 rfl ?_
              refine rw_iconst (pc := 3) (x := nI 3) dS_recallConflicting_3 (by decide) ?_
              refine rw_icmpge (pc := 4) dS_recallConflicting_4 (tgt := 45) rfl (fun c14 => ?_) (fun c14 => ?_)
              · skip
                replace c14 : 3 ≤ 3 := (nI_leI (a := 3) (b := 3) (by omega) (by omega)).mp c14
                have hF : f_rc md m n = f_send n (fm_8 2 (am_f m)) := by unfold f_rc f_r1; simp only [c3, c6, c9, cond_true, cond_false]
                rw [hF]
                exact rw_vret (pc := 45) dS_recallConflicting_45 rfl ⟨rfl, hc, hf⟩
              · skip
                replace c14 : ¬ (3 ≤ 3) := fun qz => c14 ((nI_leI (a := 3) (b := 3) (by omega) (by omega)).mpr qz)
                exact absurd (by decide) c14
        · skip
          replace c6 : (f_cf md m 1) = true := mb_T c6
          refine rw_aload_n (pc := 16) dS_recallConflicting_16 rfl ?_
          refine rw_getR (pc := 17) (x := some 2) flS_48_S dS_recallConflicting_17 (cs_o hc (by omega) (by omega)) (cs_S4 hc) (cr_4_0 hc) ?_
          refine rw_new (pc := 20) (rc' := 2) (rs' := 8) nnS_159 dS_recallConflicting_20 rfl rfl ?_
          have hcg := hc
          have hmg := hm
          replace hc := cv_gr hc (gx_new (s := .inr 6) (gx_rf h))
          replace hm := cm_le hm (gx_le (gx_new (s := .inr 6) (gx_rf h)))
          refine rw_dup (pc := 23) dS_recallConflicting_23 ?_
          refine rw_bipush (pc := 24) (x := nI 8) dS_recallConflicting_24 (by decide) ?_
          refine rw_iload_n (pc := 26) dS_recallConflicting_26 rfl ?_
          refine rw_aload_n (pc := 27) dS_recallConflicting_27 rfl ?_
          refine rw_getI (pc := 28) (x := nI (am_f m)) flS_111_R dS_recallConflicting_28 (cm_o hm) (cm_q hm hk3).2.1 hm.2.1.2.2.1 ?_
          refine rw_iconst (pc := 31) (x := nI 0) dS_recallConflicting_31 (by decide) ?_
          refine rw_iv (pc := 32) (z' := (1, 0, 0)) (rc' := 2) (rs' := 8) (av := [.inl (nI 8), .inl (nI 1), .inl (nI (am_f m)), .inl (nI 0)]) (st := [.inr (some (hp_n h)), .inr (some 2)]) mlS_161 miG_init rfl rfl dS_recallConflicting_32 (cG_initG G _ (ok_nw (by have := cs_n hcg; omega)) sh_nw _ _ _ _) rfl rfl (Nat.le_of_ble_eq_true rfl) (by decide) rfl rfl (fun h15 q15 => ?_)
          obtain rfl := q15
          obtain ⟨hg, hr⟩ := mk_rc (h := h) (c := 1) (f := am_f m) (cs_n hcg) (by decide) hf4
          replace hc := cv_gr hcg hg
          replace hm := cm_le hmg (gx_le hg)
          replace hf := le_tr hf (gx_le hg)
          clear hg hcg hmg
          generalize hm_4 (hp_new h (.inr 6)) (hp_n h) (nI 8) (nI 1) (nI (am_f m)) (nI 0) = g16 at hc hm hf hr ⊢
          generalize hp_n h = i16 at hr ⊢
          refine rw_vi (pc := 35) (z' := (0, 0, 0)) (rc' := 2) (rs' := 8) (av := [.inr (some i16)]) (st := []) (ci := 1) mlS_84 miN_send rfl mvN_send_N dS_recallConflicting_35 (cs_o hc (by omega) (by omega)) (cs_S2 hc) (cN_send G _ hc hr) rfl rfl (Nat.le_of_ble_eq_true rfl) (by decide) rfl rfl (fun r17 h17 q17 => ?_)
          obtain ⟨rfl, hc, hf1⟩ := q17
          replace hm := cm_le hm hf1
          replace hr := cm_le hr hf1
          replace hf := le_tr hf hf1
          clear hr
          refine rw_pop (pc := 38) dS_recallConflicting_38 ?_
          refine rw_iinc (pc := 39) (x := nI 1) (y := nI 2) (L' := [some (.inr (some 4)), some (.inr (some i)), some (.inl (nI 2))]) dS_recallConflicting_39 (by decide) rfl (by decide) rfl ?_
          refine rw_goto (pc := 42) dS_recallConflicting_42 (tgt := 2) rfl ?_
          refine rw_iload_n (pc := 2) dS_recallConflicting_2 rfl ?_
          refine rw_iconst (pc := 3) (x := nI 3) dS_recallConflicting_3 (by decide) ?_
          refine rw_icmpge (pc := 4) dS_recallConflicting_4 (tgt := 45) rfl (fun c18 => ?_) (fun c18 => ?_)
          · skip
            replace c18 : 3 ≤ 2 := (nI_leI (a := 3) (b := 2) (by omega) (by omega)).mp c18
            exact absurd c18 (by decide)
          · skip
            replace c18 : ¬ (3 ≤ 2) := fun qz => c18 ((nI_leI (a := 3) (b := 2) (by omega) (by omega)).mpr qz)
            refine rw_aload_n (pc := 7) dS_recallConflicting_7 rfl ?_
            refine rw_aload_n (pc := 8) dS_recallConflicting_8 rfl ?_
            refine rw_iload_n (pc := 9) dS_recallConflicting_9 rfl ?_
            refine rw_vi (pc := 10) (z' := (1, 0, 0)) (rc' := 2) (rs' := 8) (av := [.inr (some i), .inl (nI 2)]) (st := []) (ci := 2) mlS_155 miS_conflicts rfl mvS_conflicts_S dS_recallConflicting_10 (cs_o hc (by omega) (by omega)) (cs_S4 hc) (cS_conflicts G _ hc hm hk3 (by omega)) rfl rfl (Nat.le_of_ble_eq_true rfl) (by decide) rfl rfl (fun r19 h19 q19 => ?_)
            obtain ⟨rfl, rfl⟩ := q19
            refine rw_ifeq (pc := 13) dS_recallConflicting_13 (tgt := 39) rfl (fun c20 => ?_) (fun c20 => ?_)
            · skip
              replace c20 : (f_cf md m 2) = false := (m_bi0 _).mp c20
              refine rw_iinc (pc := 39) (x := nI 2) (y := nI 3) (L' := [some (.inr (some 4)), some (.inr (some i)), some (.inl (nI 3))]) dS_recallConflicting_39 (by decide) rfl (by decide) rfl ?_
              refine rw_goto (pc := 42) dS_recallConflicting_42 (tgt := 2) rfl ?_
              refine rw_iload_n (pc := 2) dS_recallConflicting_2 rfl ?_
              refine rw_iconst (pc := 3) (x := nI 3) dS_recallConflicting_3 (by decide) ?_
              refine rw_icmpge (pc := 4) dS_recallConflicting_4 (tgt := 45) rfl (fun c21 => ?_) (fun c21 => ?_)
              · skip
                replace c21 : 3 ≤ 3 := (nI_leI (a := 3) (b := 3) (by omega) (by omega)).mp c21
                have hF : f_rc md m n = f_send n (fm_8 1 (am_f m)) := by unfold f_rc f_r1; simp only [c3, c6, c20, cond_true, cond_false]
                rw [hF]
                exact rw_vret (pc := 45) dS_recallConflicting_45 rfl ⟨rfl, hc, hf⟩
              · skip
                replace c21 : ¬ (3 ≤ 3) := fun qz => c21 ((nI_leI (a := 3) (b := 3) (by omega) (by omega)).mpr qz)
                exact absurd (by decide) c21
            · skip
              replace c20 : (f_cf md m 2) = true := mb_T c20
              refine rw_aload_n (pc := 16) dS_recallConflicting_16 rfl ?_
              refine rw_getR (pc := 17) (x := some 2) flS_48_S dS_recallConflicting_17 (cs_o hc (by omega) (by omega)) (cs_S4 hc) (cr_4_0 hc) ?_
              refine rw_new (pc := 20) (rc' := 1) (rs' := 4) nnS_159 dS_recallConflicting_20 rfl rfl ?_
              have hcg := hc
              have hmg := hm
              replace hc := cv_gr hc (gx_new (s := .inr 6) (gx_rf h17))
              replace hm := cm_le hm (gx_le (gx_new (s := .inr 6) (gx_rf h17)))
              refine rw_dup (pc := 23) dS_recallConflicting_23 ?_
              refine rw_bipush (pc := 24) (x := nI 8) dS_recallConflicting_24 (by decide) ?_
              refine rw_iload_n (pc := 26) dS_recallConflicting_26 rfl ?_
              refine rw_aload_n (pc := 27) dS_recallConflicting_27 rfl ?_
              refine rw_getI (pc := 28) (x := nI (am_f m)) flS_111_R dS_recallConflicting_28 (cm_o hm) (cm_q hm hk3).2.1 hm.2.1.2.2.1 ?_
              refine rw_iconst (pc := 31) (x := nI 0) dS_recallConflicting_31 (by decide) ?_
              refine rw_iv (pc := 32) (z' := (1, 0, 0)) (rc' := 1) (rs' := 4) (av := [.inl (nI 8), .inl (nI 2), .inl (nI (am_f m)), .inl (nI 0)]) (st := [.inr (some (hp_n h17)), .inr (some 2)]) mlS_161 miG_init rfl rfl dS_recallConflicting_32 (cG_initG G _ (ok_nw (by have := cs_n hcg; omega)) sh_nw _ _ _ _) rfl rfl (Nat.le_of_ble_eq_true rfl) (by decide) rfl rfl (fun h22 q22 => ?_)
              obtain rfl := q22
              obtain ⟨hg, hr⟩ := mk_rc (h := h17) (c := 2) (f := am_f m) (cs_n hcg) (by decide) hf4
              replace hc := cv_gr hcg hg
              replace hm := cm_le hmg (gx_le hg)
              replace hf := le_tr hf (gx_le hg)
              clear hg hcg hmg
              generalize hm_4 (hp_new h17 (.inr 6)) (hp_n h17) (nI 8) (nI 2) (nI (am_f m)) (nI 0) = g23 at hc hm hf hr ⊢
              generalize hp_n h17 = i23 at hr ⊢
              refine rw_vi (pc := 35) (z' := (0, 0, 0)) (rc' := 1) (rs' := 4) (av := [.inr (some i23)]) (st := []) (ci := 1) mlS_84 miN_send rfl mvN_send_N dS_recallConflicting_35 (cs_o hc (by omega) (by omega)) (cs_S2 hc) (cN_send G _ hc hr) rfl rfl (Nat.le_of_ble_eq_true rfl) (by decide) rfl rfl (fun r24 h24 q24 => ?_)
              obtain ⟨rfl, hc, hf1⟩ := q24
              replace hm := cm_le hm hf1
              replace hr := cm_le hr hf1
              replace hf := le_tr hf hf1
              clear hr
              refine rw_pop (pc := 38) dS_recallConflicting_38 ?_
              refine rw_iinc (pc := 39) (x := nI 2) (y := nI 3) (L' := [some (.inr (some 4)), some (.inr (some i)), some (.inl (nI 3))]) dS_recallConflicting_39 (by decide) rfl (by decide) rfl ?_
              refine rw_goto (pc := 42) dS_recallConflicting_42 (tgt := 2) rfl ?_
              refine rw_iload_n (pc := 2) dS_recallConflicting_2 rfl ?_
              refine rw_iconst (pc := 3) (x := nI 3) dS_recallConflicting_3 (by decide) ?_
              refine rw_icmpge (pc := 4) dS_recallConflicting_4 (tgt := 45) rfl (fun c25 => ?_) (fun c25 => ?_)
              · skip
                replace c25 : 3 ≤ 3 := (nI_leI (a := 3) (b := 3) (by omega) (by omega)).mp c25
                have hF : f_rc md m n = f_send (f_send n (fm_8 1 (am_f m))) (fm_8 2 (am_f m)) := by unfold f_rc f_r1; simp only [c3, c6, c20, cond_true, cond_false]
                rw [hF]
                exact rw_vret (pc := 45) dS_recallConflicting_45 rfl ⟨rfl, hc, hf⟩
              · skip
                replace c25 : ¬ (3 ≤ 3) := fun qz => c25 ((nI_leI (a := 3) (b := 3) (by omega) (by omega)).mpr qz)
                exact absurd (by decide) c25
    · skip
      replace c3 : (f_cf md m 0) = true := mb_T c3
      refine rw_aload_n (pc := 16) dS_recallConflicting_16 rfl ?_
      refine rw_getR (pc := 17) (x := some 2) flS_48_S dS_recallConflicting_17 (cs_o hc (by omega) (by omega)) (cs_S4 hc) (cr_4_0 hc) ?_
      refine rw_new (pc := 20) (rc' := 2) (rs' := 8) nnS_159 dS_recallConflicting_20 rfl rfl ?_
      have hcg := hc
      have hmg := hm
      replace hc := cv_gr hc (gx_new (s := .inr 6) (gx_rf h))
      replace hm := cm_le hm (gx_le (gx_new (s := .inr 6) (gx_rf h)))
      refine rw_dup (pc := 23) dS_recallConflicting_23 ?_
      refine rw_bipush (pc := 24) (x := nI 8) dS_recallConflicting_24 (by decide) ?_
      refine rw_iload_n (pc := 26) dS_recallConflicting_26 rfl ?_
      refine rw_aload_n (pc := 27) dS_recallConflicting_27 rfl ?_
      refine rw_getI (pc := 28) (x := nI (am_f m)) flS_111_R dS_recallConflicting_28 (cm_o hm) (cm_q hm hk3).2.1 hm.2.1.2.2.1 ?_
      refine rw_iconst (pc := 31) (x := nI 0) dS_recallConflicting_31 (by decide) ?_
      refine rw_iv (pc := 32) (z' := (1, 0, 0)) (rc' := 2) (rs' := 8) (av := [.inl (nI 8), .inl (nI 0), .inl (nI (am_f m)), .inl (nI 0)]) (st := [.inr (some (hp_n h)), .inr (some 2)]) mlS_161 miG_init rfl rfl dS_recallConflicting_32 (cG_initG G _ (ok_nw (by have := cs_n hcg; omega)) sh_nw _ _ _ _) rfl rfl (Nat.le_of_ble_eq_true rfl) (by decide) rfl rfl (fun h26 q26 => ?_)
      obtain rfl := q26
      obtain ⟨hg, hr⟩ := mk_rc (h := h) (c := 0) (f := am_f m) (cs_n hcg) (by decide) hf4
      replace hc := cv_gr hcg hg
      replace hm := cm_le hmg (gx_le hg)
      replace hf := le_tr hf (gx_le hg)
      clear hg hcg hmg
      generalize hm_4 (hp_new h (.inr 6)) (hp_n h) (nI 8) (nI 0) (nI (am_f m)) (nI 0) = g27 at hc hm hf hr ⊢
      generalize hp_n h = i27 at hr ⊢
      refine rw_vi (pc := 35) (z' := (0, 0, 0)) (rc' := 2) (rs' := 8) (av := [.inr (some i27)]) (st := []) (ci := 1) mlS_84 miN_send rfl mvN_send_N dS_recallConflicting_35 (cs_o hc (by omega) (by omega)) (cs_S2 hc) (cN_send G _ hc hr) rfl rfl (Nat.le_of_ble_eq_true rfl) (by decide) rfl rfl (fun r28 h28 q28 => ?_)
      obtain ⟨rfl, hc, hf1⟩ := q28
      replace hm := cm_le hm hf1
      replace hr := cm_le hr hf1
      replace hf := le_tr hf hf1
      clear hr
      refine rw_pop (pc := 38) dS_recallConflicting_38 ?_
      refine rw_iinc (pc := 39) (x := nI 0) (y := nI 1) (L' := [some (.inr (some 4)), some (.inr (some i)), some (.inl (nI 1))]) dS_recallConflicting_39 (by decide) rfl (by decide) rfl ?_
      refine rw_goto (pc := 42) dS_recallConflicting_42 (tgt := 2) rfl ?_
      refine rw_iload_n (pc := 2) dS_recallConflicting_2 rfl ?_
      refine rw_iconst (pc := 3) (x := nI 3) dS_recallConflicting_3 (by decide) ?_
      refine rw_icmpge (pc := 4) dS_recallConflicting_4 (tgt := 45) rfl (fun c29 => ?_) (fun c29 => ?_)
      · skip
        replace c29 : 3 ≤ 1 := (nI_leI (a := 3) (b := 1) (by omega) (by omega)).mp c29
        exact absurd c29 (by decide)
      · skip
        replace c29 : ¬ (3 ≤ 1) := fun qz => c29 ((nI_leI (a := 3) (b := 1) (by omega) (by omega)).mpr qz)
        refine rw_aload_n (pc := 7) dS_recallConflicting_7 rfl ?_
        refine rw_aload_n (pc := 8) dS_recallConflicting_8 rfl ?_
        refine rw_iload_n (pc := 9) dS_recallConflicting_9 rfl ?_
        refine rw_vi (pc := 10) (z' := (1, 0, 0)) (rc' := 2) (rs' := 8) (av := [.inr (some i), .inl (nI 1)]) (st := []) (ci := 2) mlS_155 miS_conflicts rfl mvS_conflicts_S dS_recallConflicting_10 (cs_o hc (by omega) (by omega)) (cs_S4 hc) (cS_conflicts G _ hc hm hk3 (by omega)) rfl rfl (Nat.le_of_ble_eq_true rfl) (by decide) rfl rfl (fun r30 h30 q30 => ?_)
        obtain ⟨rfl, rfl⟩ := q30
        refine rw_ifeq (pc := 13) dS_recallConflicting_13 (tgt := 39) rfl (fun c31 => ?_) (fun c31 => ?_)
        · skip
          replace c31 : (f_cf md m 1) = false := (m_bi0 _).mp c31
          refine rw_iinc (pc := 39) (x := nI 1) (y := nI 2) (L' := [some (.inr (some 4)), some (.inr (some i)), some (.inl (nI 2))]) dS_recallConflicting_39 (by decide) rfl (by decide) rfl ?_
          refine rw_goto (pc := 42) dS_recallConflicting_42 (tgt := 2) rfl ?_
          refine rw_iload_n (pc := 2) dS_recallConflicting_2 rfl ?_
          refine rw_iconst (pc := 3) (x := nI 3) dS_recallConflicting_3 (by decide) ?_
          refine rw_icmpge (pc := 4) dS_recallConflicting_4 (tgt := 45) rfl (fun c32 => ?_) (fun c32 => ?_)
          · skip
            replace c32 : 3 ≤ 2 := (nI_leI (a := 3) (b := 2) (by omega) (by omega)).mp c32
            exact absurd c32 (by decide)
          · skip
            replace c32 : ¬ (3 ≤ 2) := fun qz => c32 ((nI_leI (a := 3) (b := 2) (by omega) (by omega)).mpr qz)
            refine rw_aload_n (pc := 7) dS_recallConflicting_7 rfl ?_
            refine rw_aload_n (pc := 8) dS_recallConflicting_8 rfl ?_
            refine rw_iload_n (pc := 9) dS_recallConflicting_9 rfl ?_
            refine rw_vi (pc := 10) (z' := (1, 0, 0)) (rc' := 2) (rs' := 8) (av := [.inr (some i), .inl (nI 2)]) (st := []) (ci := 2) mlS_155 miS_conflicts rfl mvS_conflicts_S dS_recallConflicting_10 (cs_o hc (by omega) (by omega)) (cs_S4 hc) (cS_conflicts G _ hc hm hk3 (by omega)) rfl rfl (Nat.le_of_ble_eq_true rfl) (by decide) rfl rfl (fun r33 h33 q33 => ?_)
            obtain ⟨rfl, rfl⟩ := q33
            refine rw_ifeq (pc := 13) dS_recallConflicting_13 (tgt := 39) rfl (fun c34 => ?_) (fun c34 => ?_)
            · skip
              replace c34 : (f_cf md m 2) = false := (m_bi0 _).mp c34
              refine rw_iinc (pc := 39) (x := nI 2) (y := nI 3) (L' := [some (.inr (some 4)), some (.inr (some i)), some (.inl (nI 3))]) dS_recallConflicting_39 (by decide) rfl (by decide) rfl ?_
              refine rw_goto (pc := 42) dS_recallConflicting_42 (tgt := 2) rfl ?_
              refine rw_iload_n (pc := 2) dS_recallConflicting_2 rfl ?_
              refine rw_iconst (pc := 3) (x := nI 3) dS_recallConflicting_3 (by decide) ?_
              refine rw_icmpge (pc := 4) dS_recallConflicting_4 (tgt := 45) rfl (fun c35 => ?_) (fun c35 => ?_)
              · skip
                replace c35 : 3 ≤ 3 := (nI_leI (a := 3) (b := 3) (by omega) (by omega)).mp c35
                have hF : f_rc md m n = f_send n (fm_8 0 (am_f m)) := by unfold f_rc f_r1; simp only [c3, c31, c34, cond_true, cond_false]
                rw [hF]
                exact rw_vret (pc := 45) dS_recallConflicting_45 rfl ⟨rfl, hc, hf⟩
              · skip
                replace c35 : ¬ (3 ≤ 3) := fun qz => c35 ((nI_leI (a := 3) (b := 3) (by omega) (by omega)).mpr qz)
                exact absurd (by decide) c35
            · skip
              replace c34 : (f_cf md m 2) = true := mb_T c34
              refine rw_aload_n (pc := 16) dS_recallConflicting_16 rfl ?_
              refine rw_getR (pc := 17) (x := some 2) flS_48_S dS_recallConflicting_17 (cs_o hc (by omega) (by omega)) (cs_S4 hc) (cr_4_0 hc) ?_
              refine rw_new (pc := 20) (rc' := 1) (rs' := 4) nnS_159 dS_recallConflicting_20 rfl rfl ?_
              have hcg := hc
              have hmg := hm
              replace hc := cv_gr hc (gx_new (s := .inr 6) (gx_rf h28))
              replace hm := cm_le hm (gx_le (gx_new (s := .inr 6) (gx_rf h28)))
              refine rw_dup (pc := 23) dS_recallConflicting_23 ?_
              refine rw_bipush (pc := 24) (x := nI 8) dS_recallConflicting_24 (by decide) ?_
              refine rw_iload_n (pc := 26) dS_recallConflicting_26 rfl ?_
              refine rw_aload_n (pc := 27) dS_recallConflicting_27 rfl ?_
              refine rw_getI (pc := 28) (x := nI (am_f m)) flS_111_R dS_recallConflicting_28 (cm_o hm) (cm_q hm hk3).2.1 hm.2.1.2.2.1 ?_
              refine rw_iconst (pc := 31) (x := nI 0) dS_recallConflicting_31 (by decide) ?_
              refine rw_iv (pc := 32) (z' := (1, 0, 0)) (rc' := 1) (rs' := 4) (av := [.inl (nI 8), .inl (nI 2), .inl (nI (am_f m)), .inl (nI 0)]) (st := [.inr (some (hp_n h28)), .inr (some 2)]) mlS_161 miG_init rfl rfl dS_recallConflicting_32 (cG_initG G _ (ok_nw (by have := cs_n hcg; omega)) sh_nw _ _ _ _) rfl rfl (Nat.le_of_ble_eq_true rfl) (by decide) rfl rfl (fun h36 q36 => ?_)
              obtain rfl := q36
              obtain ⟨hg, hr⟩ := mk_rc (h := h28) (c := 2) (f := am_f m) (cs_n hcg) (by decide) hf4
              replace hc := cv_gr hcg hg
              replace hm := cm_le hmg (gx_le hg)
              replace hf := le_tr hf (gx_le hg)
              clear hg hcg hmg
              generalize hm_4 (hp_new h28 (.inr 6)) (hp_n h28) (nI 8) (nI 2) (nI (am_f m)) (nI 0) = g37 at hc hm hf hr ⊢
              generalize hp_n h28 = i37 at hr ⊢
              refine rw_vi (pc := 35) (z' := (0, 0, 0)) (rc' := 1) (rs' := 4) (av := [.inr (some i37)]) (st := []) (ci := 1) mlS_84 miN_send rfl mvN_send_N dS_recallConflicting_35 (cs_o hc (by omega) (by omega)) (cs_S2 hc) (cN_send G _ hc hr) rfl rfl (Nat.le_of_ble_eq_true rfl) (by decide) rfl rfl (fun r38 h38 q38 => ?_)
              obtain ⟨rfl, hc, hf1⟩ := q38
              replace hm := cm_le hm hf1
              replace hr := cm_le hr hf1
              replace hf := le_tr hf hf1
              clear hr
              refine rw_pop (pc := 38) dS_recallConflicting_38 ?_
              refine rw_iinc (pc := 39) (x := nI 2) (y := nI 3) (L' := [some (.inr (some 4)), some (.inr (some i)), some (.inl (nI 3))]) dS_recallConflicting_39 (by decide) rfl (by decide) rfl ?_
              refine rw_goto (pc := 42) dS_recallConflicting_42 (tgt := 2) rfl ?_
              refine rw_iload_n (pc := 2) dS_recallConflicting_2 rfl ?_
              refine rw_iconst (pc := 3) (x := nI 3) dS_recallConflicting_3 (by decide) ?_
              refine rw_icmpge (pc := 4) dS_recallConflicting_4 (tgt := 45) rfl (fun c39 => ?_) (fun c39 => ?_)
              · skip
                replace c39 : 3 ≤ 3 := (nI_leI (a := 3) (b := 3) (by omega) (by omega)).mp c39
                have hF : f_rc md m n = f_send (f_send n (fm_8 0 (am_f m))) (fm_8 2 (am_f m)) := by unfold f_rc f_r1; simp only [c3, c31, c34, cond_true, cond_false]
                rw [hF]
                exact rw_vret (pc := 45) dS_recallConflicting_45 rfl ⟨rfl, hc, hf⟩
              · skip
                replace c39 : ¬ (3 ≤ 3) := fun qz => c39 ((nI_leI (a := 3) (b := 3) (by omega) (by omega)).mpr qz)
                exact absurd (by decide) c39
        · skip
          replace c31 : (f_cf md m 1) = true := mb_T c31
          refine rw_aload_n (pc := 16) dS_recallConflicting_16 rfl ?_
          refine rw_getR (pc := 17) (x := some 2) flS_48_S dS_recallConflicting_17 (cs_o hc (by omega) (by omega)) (cs_S4 hc) (cr_4_0 hc) ?_
          refine rw_new (pc := 20) (rc' := 1) (rs' := 4) nnS_159 dS_recallConflicting_20 rfl rfl ?_
          have hcg := hc
          have hmg := hm
          replace hc := cv_gr hc (gx_new (s := .inr 6) (gx_rf h28))
          replace hm := cm_le hm (gx_le (gx_new (s := .inr 6) (gx_rf h28)))
          refine rw_dup (pc := 23) dS_recallConflicting_23 ?_
          refine rw_bipush (pc := 24) (x := nI 8) dS_recallConflicting_24 (by decide) ?_
          refine rw_iload_n (pc := 26) dS_recallConflicting_26 rfl ?_
          refine rw_aload_n (pc := 27) dS_recallConflicting_27 rfl ?_
          refine rw_getI (pc := 28) (x := nI (am_f m)) flS_111_R dS_recallConflicting_28 (cm_o hm) (cm_q hm hk3).2.1 hm.2.1.2.2.1 ?_
          refine rw_iconst (pc := 31) (x := nI 0) dS_recallConflicting_31 (by decide) ?_
          refine rw_iv (pc := 32) (z' := (1, 0, 0)) (rc' := 1) (rs' := 4) (av := [.inl (nI 8), .inl (nI 1), .inl (nI (am_f m)), .inl (nI 0)]) (st := [.inr (some (hp_n h28)), .inr (some 2)]) mlS_161 miG_init rfl rfl dS_recallConflicting_32 (cG_initG G _ (ok_nw (by have := cs_n hcg; omega)) sh_nw _ _ _ _) rfl rfl (Nat.le_of_ble_eq_true rfl) (by decide) rfl rfl (fun h40 q40 => ?_)
          obtain rfl := q40
          obtain ⟨hg, hr⟩ := mk_rc (h := h28) (c := 1) (f := am_f m) (cs_n hcg) (by decide) hf4
          replace hc := cv_gr hcg hg
          replace hm := cm_le hmg (gx_le hg)
          replace hf := le_tr hf (gx_le hg)
          clear hg hcg hmg
          generalize hm_4 (hp_new h28 (.inr 6)) (hp_n h28) (nI 8) (nI 1) (nI (am_f m)) (nI 0) = g41 at hc hm hf hr ⊢
          generalize hp_n h28 = i41 at hr ⊢
          refine rw_vi (pc := 35) (z' := (0, 0, 0)) (rc' := 1) (rs' := 4) (av := [.inr (some i41)]) (st := []) (ci := 1) mlS_84 miN_send rfl mvN_send_N dS_recallConflicting_35 (cs_o hc (by omega) (by omega)) (cs_S2 hc) (cN_send G _ hc hr) rfl rfl (Nat.le_of_ble_eq_true rfl) (by decide) rfl rfl (fun r42 h42 q42 => ?_)
          obtain ⟨rfl, hc, hf1⟩ := q42
          replace hm := cm_le hm hf1
          replace hr := cm_le hr hf1
          replace hf := le_tr hf hf1
          clear hr
          refine rw_pop (pc := 38) dS_recallConflicting_38 ?_
          refine rw_iinc (pc := 39) (x := nI 1) (y := nI 2) (L' := [some (.inr (some 4)), some (.inr (some i)), some (.inl (nI 2))]) dS_recallConflicting_39 (by decide) rfl (by decide) rfl ?_
          refine rw_goto (pc := 42) dS_recallConflicting_42 (tgt := 2) rfl ?_
          refine rw_iload_n (pc := 2) dS_recallConflicting_2 rfl ?_
          refine rw_iconst (pc := 3) (x := nI 3) dS_recallConflicting_3 (by decide) ?_
          refine rw_icmpge (pc := 4) dS_recallConflicting_4 (tgt := 45) rfl (fun c43 => ?_) (fun c43 => ?_)
          · skip
            replace c43 : 3 ≤ 2 := (nI_leI (a := 3) (b := 2) (by omega) (by omega)).mp c43
            exact absurd c43 (by decide)
          · skip
            replace c43 : ¬ (3 ≤ 2) := fun qz => c43 ((nI_leI (a := 3) (b := 2) (by omega) (by omega)).mpr qz)
            refine rw_aload_n (pc := 7) dS_recallConflicting_7 rfl ?_
            refine rw_aload_n (pc := 8) dS_recallConflicting_8 rfl ?_
            refine rw_iload_n (pc := 9) dS_recallConflicting_9 rfl ?_
            refine rw_vi (pc := 10) (z' := (1, 0, 0)) (rc' := 1) (rs' := 4) (av := [.inr (some i), .inl (nI 2)]) (st := []) (ci := 2) mlS_155 miS_conflicts rfl mvS_conflicts_S dS_recallConflicting_10 (cs_o hc (by omega) (by omega)) (cs_S4 hc) (cS_conflicts G _ hc hm hk3 (by omega)) rfl rfl (Nat.le_of_ble_eq_true rfl) (by decide) rfl rfl (fun r44 h44 q44 => ?_)
            obtain ⟨rfl, rfl⟩ := q44
            refine rw_ifeq (pc := 13) dS_recallConflicting_13 (tgt := 39) rfl (fun c45 => ?_) (fun c45 => ?_)
            · skip
              replace c45 : (f_cf md m 2) = false := (m_bi0 _).mp c45
              refine rw_iinc (pc := 39) (x := nI 2) (y := nI 3) (L' := [some (.inr (some 4)), some (.inr (some i)), some (.inl (nI 3))]) dS_recallConflicting_39 (by decide) rfl (by decide) rfl ?_
              refine rw_goto (pc := 42) dS_recallConflicting_42 (tgt := 2) rfl ?_
              refine rw_iload_n (pc := 2) dS_recallConflicting_2 rfl ?_
              refine rw_iconst (pc := 3) (x := nI 3) dS_recallConflicting_3 (by decide) ?_
              refine rw_icmpge (pc := 4) dS_recallConflicting_4 (tgt := 45) rfl (fun c46 => ?_) (fun c46 => ?_)
              · skip
                replace c46 : 3 ≤ 3 := (nI_leI (a := 3) (b := 3) (by omega) (by omega)).mp c46
                have hF : f_rc md m n = f_send (f_send n (fm_8 0 (am_f m))) (fm_8 1 (am_f m)) := by unfold f_rc f_r1; simp only [c3, c31, c45, cond_true, cond_false]
                rw [hF]
                exact rw_vret (pc := 45) dS_recallConflicting_45 rfl ⟨rfl, hc, hf⟩
              · skip
                replace c46 : ¬ (3 ≤ 3) := fun qz => c46 ((nI_leI (a := 3) (b := 3) (by omega) (by omega)).mpr qz)
                exact absurd (by decide) c46
            · skip
              replace c45 : (f_cf md m 2) = true := mb_T c45
              refine rw_aload_n (pc := 16) dS_recallConflicting_16 rfl ?_
              refine rw_getR (pc := 17) (x := some 2) flS_48_S dS_recallConflicting_17 (cs_o hc (by omega) (by omega)) (cs_S4 hc) (cr_4_0 hc) ?_
              refine rw_new (pc := 20) (rc' := 0) (rs' := 0) nnS_159 dS_recallConflicting_20 rfl rfl ?_
              have hcg := hc
              have hmg := hm
              replace hc := cv_gr hc (gx_new (s := .inr 6) (gx_rf h42))
              replace hm := cm_le hm (gx_le (gx_new (s := .inr 6) (gx_rf h42)))
              refine rw_dup (pc := 23) dS_recallConflicting_23 ?_
              refine rw_bipush (pc := 24) (x := nI 8) dS_recallConflicting_24 (by decide) ?_
              refine rw_iload_n (pc := 26) dS_recallConflicting_26 rfl ?_
              refine rw_aload_n (pc := 27) dS_recallConflicting_27 rfl ?_
              refine rw_getI (pc := 28) (x := nI (am_f m)) flS_111_R dS_recallConflicting_28 (cm_o hm) (cm_q hm hk3).2.1 hm.2.1.2.2.1 ?_
              refine rw_iconst (pc := 31) (x := nI 0) dS_recallConflicting_31 (by decide) ?_
              refine rw_iv (pc := 32) (z' := (1, 0, 0)) (rc' := 0) (rs' := 0) (av := [.inl (nI 8), .inl (nI 2), .inl (nI (am_f m)), .inl (nI 0)]) (st := [.inr (some (hp_n h42)), .inr (some 2)]) mlS_161 miG_init rfl rfl dS_recallConflicting_32 (cG_initG G _ (ok_nw (by have := cs_n hcg; omega)) sh_nw _ _ _ _) rfl rfl (Nat.le_of_ble_eq_true rfl) (by decide) rfl rfl (fun h47 q47 => ?_)
              obtain rfl := q47
              obtain ⟨hg, hr⟩ := mk_rc (h := h42) (c := 2) (f := am_f m) (cs_n hcg) (by decide) hf4
              replace hc := cv_gr hcg hg
              replace hm := cm_le hmg (gx_le hg)
              replace hf := le_tr hf (gx_le hg)
              clear hg hcg hmg
              generalize hm_4 (hp_new h42 (.inr 6)) (hp_n h42) (nI 8) (nI 2) (nI (am_f m)) (nI 0) = g48 at hc hm hf hr ⊢
              generalize hp_n h42 = i48 at hr ⊢
              refine rw_vi (pc := 35) (z' := (0, 0, 0)) (rc' := 0) (rs' := 0) (av := [.inr (some i48)]) (st := []) (ci := 1) mlS_84 miN_send rfl mvN_send_N dS_recallConflicting_35 (cs_o hc (by omega) (by omega)) (cs_S2 hc) (cN_send G _ hc hr) rfl rfl (Nat.le_of_ble_eq_true rfl) (by decide) rfl rfl (fun r49 h49 q49 => ?_)
              obtain ⟨rfl, hc, hf1⟩ := q49
              replace hm := cm_le hm hf1
              replace hr := cm_le hr hf1
              replace hf := le_tr hf hf1
              clear hr
              refine rw_pop (pc := 38) dS_recallConflicting_38 ?_
              refine rw_iinc (pc := 39) (x := nI 2) (y := nI 3) (L' := [some (.inr (some 4)), some (.inr (some i)), some (.inl (nI 3))]) dS_recallConflicting_39 (by decide) rfl (by decide) rfl ?_
              refine rw_goto (pc := 42) dS_recallConflicting_42 (tgt := 2) rfl ?_
              refine rw_iload_n (pc := 2) dS_recallConflicting_2 rfl ?_
              refine rw_iconst (pc := 3) (x := nI 3) dS_recallConflicting_3 (by decide) ?_
              refine rw_icmpge (pc := 4) dS_recallConflicting_4 (tgt := 45) rfl (fun c50 => ?_) (fun c50 => ?_)
              · skip
                replace c50 : 3 ≤ 3 := (nI_leI (a := 3) (b := 3) (by omega) (by omega)).mp c50
                have hF : f_rc md m n = f_send (f_send (f_send n (fm_8 0 (am_f m))) (fm_8 1 (am_f m))) (fm_8 2 (am_f m)) := by unfold f_rc f_r1; simp only [c3, c31, c45, cond_true, cond_false]
                rw [hF]
                exact rw_vret (pc := 45) dS_recallConflicting_45 rfl ⟨rfl, hc, hf⟩
              · skip
                replace c50 : ¬ (3 ≤ 3) := fun qz => c50 ((nI_leI (a := 3) (b := 3) (by omega) (by omega)).mpr qz)
                exact absurd (by decide) c50
theorem cS_serveLease (G : mt_G) (h : ha_H) {L : Nat} {n : List ab_M} {su : Bool} {sn : Int32} {sg : Bool} {se : Int32} {pg : Nat → Nat → Int32} {md : Nat → Nat → Nat} {en : Nat → Nat → Int32} {sd : Nat → Option ab_M} {ln : Nat → List ab_M} {C : Nat → ab_C} (hc : CV L n su sn sg se pg md en sd ln C h) {i : Nat} {m : ab_M} (hm : cv_M h i m) (hk1 : am_k m = 1) : rn_M G xS_serveLease (4, 3, 12) [.inr (some 4), .inr (some i)] h (rn_v (fun h' => CV L (f_sl L sn sg pg m (n, md, en, sd, ln)).1 su sn sg se pg (f_sl L sn sg pg m (n, md, en, sd, ln)).2.1 (f_sl L sn sg pg m (n, md, en, sd, ln)).2.2.1 (f_sl L sn sg pg m (n, md, en, sd, ln)).2.2.2.1 (f_sl L sn sg pg m (n, md, en, sd, ln)).2.2.2.2 C h' ∧ hp_le h h')) := by
  have hf := le_rf h
  have hk3 : am_k m ≤ 3 := by omega
  have hl := hm.2.2.1.1
  have hf4 := hm.2.2.1.2
  have hq2 := (cm_q hm hk3).2.2.2.1
  have hl3 := (cp_ln hc _ hf4).2.1
  refine rn_of (by decide +kernel) (Nat.le_of_ble_eq_true rfl) ?_
  show rn_W G xS_serveLease (4, 3, 12) 3 12 0 [some (.inr (some 4)), some (.inr (some i)), none, none, none, none] [] h _
  refine rw_aload_n (pc := 0) dS_serveLease_0 rfl ?_
  refine rw_getR (pc := 1) (x := some 19) flS_30_S dS_serveLease_1 (cs_o hc (by omega) (by omega)) (cs_S4 hc) (cr_4_6 hc) ?_
  refine rw_aload_n (pc := 4) dS_serveLease_4 rfl ?_
  refine rw_getI (pc := 5) (x := nI (am_f m)) flS_111_R dS_serveLease_5 (cm_o hm) (cm_q hm hk3).2.1 hm.2.1.2.2.1 ?_
  refine rw_aald (pc := 8) (v := some (20 + 2 * (am_f m))) (i := (am_f m)) (t := 4) rfl ⟨rfl, by decide⟩ dS_serveLease_8 (cs_o hc (by omega) (by omega)) (cs_S19 hc) (ix_nI (by omega) (by decide)) (cr_19 hc (by omega)) ?_
  refine rw_astore_n (pc := 9) (L' := [some (.inr (some 4)), some (.inr (some i)), some (.inr (some (20 + 2 * (am_f m)))), none, none, none]) dS_serveLease_9 (by decide) rfl ?_
  refine rw_aload_n (pc := 10) dS_serveLease_10 rfl ?_
  refine rw_getI (pc := 11) (x := nI ((ln (am_f m)).length)) flS_114_Q dS_serveLease_11 (cs_o hc (by omega) (by omega)) (cs_SQ hc (by omega)) ((cp_ln hc) (am_f m) (by omega)).1 ?_
  refine rw_ifle (pc := 14) dS_serveLease_14 (tgt := 21) rfl (fun c1 => ?_) (fun c1 => ?_)
  · skip
    replace c1 : ((ln (am_f m)).length) ≤ 0 := (nI_leI (a := ((ln (am_f m)).length)) (b := 0) (by omega) (by omega)).mp c1
    refine rw_iconst (pc := 21) (x := nI 0) dS_serveLease_21 (by decide) ?_
    refine rw_istore_n (pc := 22) (L' := [some (.inr (some 4)), some (.inr (some i)), some (.inr (some (20 + 2 * (am_f m)))), some (.inl (nI 0)), none, none]) dS_serveLease_22 (by decide) rfl ?_
    refine rw_aload_n (pc := 23) dS_serveLease_23 rfl ?_
    refine rw_aload_n (pc := 24) dS_serveLease_24 rfl ?_
    refine rw_getI (pc := 25) (x := nI (am_c m)) flS_75_R dS_serveLease_25 (cm_o hm) (cm_q hm hk3).2.1 hm.2.1.2.1 ?_
    refine rw_aload_n (pc := 28) dS_serveLease_28 rfl ?_
    refine rw_getI (pc := 29) (x := nI (am_f m)) flS_111_R dS_serveLease_29 (cm_o hm) (cm_q hm hk3).2.1 hm.2.1.2.2.1 ?_
    refine rw_vi (pc := 32) (z' := (0, 0, 0)) (rc' := 3) (rs' := 12) (av := [.inl (nI (am_c m)), .inl (nI (am_f m))]) (st := []) (ci := 2) mlS_71 miS_hasLease rfl mvS_hasLease_S dS_serveLease_32 (cs_o hc (by omega) (by omega)) (cs_S4 hc) (cS_hasLease G _ hc (by omega) (by omega)) rfl rfl (Nat.le_of_ble_eq_true rfl) (by decide) rfl rfl (fun r2 h2 q2 => ?_)
    obtain ⟨rfl, rfl⟩ := q2
    refine rw_istore (pc := 35) (L' := [some (.inr (some 4)), some (.inr (some i)), some (.inr (some (20 + 2 * (am_f m)))), some (.inl (nI 0)), some (.inl (m_bi (f_hl md (am_c m) (am_f m)))), none]) dS_serveLease_35 (by decide) rfl ?_
    refine rw_iload (pc := 37) dS_serveLease_37 rfl ?_
    refine rw_ifeq (pc := 39) dS_serveLease_39 (tgt := 62) rfl (fun c3 => ?_) (fun c3 => ?_)
    · skip
      replace c3 : (f_hl md (am_c m) (am_f m)) = false := (m_bi0 _).mp c3
      refine rw_aload_n (pc := 62) dS_serveLease_62 rfl ?_
      refine rw_getI (pc := 63) (x := m_bi sg) flS_42_S dS_serveLease_63 (cs_o hc (by omega) (by omega)) (cs_S4 hc) (cp_sg hc) ?_
      refine rw_ifeq (pc := 66) dS_serveLease_66 (tgt := 76) rfl (fun c4 => ?_) (fun c4 => ?_)
      · skip
        replace c4 : sg = false := (m_bi0 _).mp c4
        refine rw_iload (pc := 76) dS_serveLease_76 rfl ?_
        refine rw_ifne (pc := 78) dS_serveLease_78 (tgt := 85) rfl (fun c5 => ?_) (fun c5 => ?_)
        · skip
          replace c5 : (f_hl md (am_c m) (am_f m)) = true := mb_T c5
          exact absurd (c3.symm.trans c5) (by decide)
        · skip
          replace c5 : (f_hl md (am_c m) (am_f m)) = false := (m_bi0 _).mp c5
          refine rw_iload_n (pc := 81) dS_serveLease_81 rfl ?_
          refine rw_ifne (pc := 82) dS_serveLease_82 (tgt := 89) rfl (fun c6 => ?_) (fun c6 => ?_)
          · skip
            replace c6 : ¬ (0 = 0) := fun qz => c6 ((nI_eq (a := 0) (b := 0) (by omega) (by omega)).mpr qz)
            exact absurd (by decide) c6
          · skip
            replace c6 : 0 = 0 := (nI_eq (a := 0) (b := 0) (by omega) (by omega)).mp c6
            refine rw_iconst (pc := 85) (x := nI 1) dS_serveLease_85 (by decide) ?_
            refine rw_goto (pc := 86) dS_serveLease_86 (tgt := 90) rfl ?_
            refine rw_istore (pc := 90) (L' := [some (.inr (some 4)), some (.inr (some i)), some (.inr (some (20 + 2 * (am_f m)))), some (.inl (nI 0)), some (.inl (m_bi (f_hl md (am_c m) (am_f m)))), some (.inl (nI 1))]) dS_serveLease_90 (by decide) rfl ?_
            refine rw_iload (pc := 92) dS_serveLease_92 rfl ?_
            refine rw_ifeq (pc := 94) dS_serveLease_94 (tgt := 113) rfl (fun c7 => ?_) (fun c7 => ?_)
            · skip
              replace c7 : 1 = 0 := (nI_eq (a := 1) (b := 0) (by omega) (by omega)).mp c7
              exact absurd c7 (by decide)
            · skip
              replace c7 : ¬ (1 = 0) := fun qz => c7 ((nI_eq (a := 1) (b := 0) (by omega) (by omega)).mpr qz)
              refine rw_aload_n (pc := 97) dS_serveLease_97 rfl ?_
              refine rw_aload_n (pc := 98) dS_serveLease_98 rfl ?_
              refine rw_vi (pc := 99) (z' := (2, 0, 0)) (rc' := 3) (rs' := 12) (av := [.inr (some i)]) (st := []) (ci := 2) mlS_127 miS_conflictsWithAny rfl mvS_conflictsWithAny_S dS_serveLease_99 (cs_o hc (by omega) (by omega)) (cs_S4 hc) (cS_conflictsWithAny G _ hc hm hk3) rfl rfl (Nat.le_of_ble_eq_true rfl) (by decide) rfl rfl (fun r8 h8 q8 => ?_)
              obtain ⟨rfl, rfl⟩ := q8
              refine rw_ifne (pc := 102) dS_serveLease_102 (tgt := 113) rfl (fun c9 => ?_) (fun c9 => ?_)
              · skip
                replace c9 : (f_ca md m) = true := mb_T c9
                refine rw_aload_n (pc := 113) dS_serveLease_113 rfl ?_
                refine rw_aload_n (pc := 114) dS_serveLease_114 rfl ?_
                refine rw_vv (pc := 115) (z' := (0, 0, 0)) (rc' := 3) (rs' := 12) (av := [.inr (some i)]) (st := []) (ci := 3) mlS_133 miQ_add rfl mvQ_add_Q dS_serveLease_115 (cs_o hc (by omega) (by omega)) (cs_SQ hc (by omega)) (cQ_add G _ hc hf4 hm hk1) rfl rfl (Nat.le_of_ble_eq_true rfl) (by decide) rfl rfl (fun h10 q10 => ?_)
                obtain ⟨hc, hf1⟩ := q10
                replace hm := cm_le hm hf1
                replace hf := le_tr hf hf1
                refine rw_aload_n (pc := 118) dS_serveLease_118 rfl ?_
                refine rw_aload_n (pc := 119) dS_serveLease_119 rfl ?_
                refine rw_vv (pc := 120) (z' := (2, 3, 12)) (rc' := 0) (rs' := 0) (av := [.inr (some i)]) (st := []) (ci := 2) mlS_136 miS_recallConflicting rfl mvS_recallConflicting_S dS_serveLease_120 (cs_o hc (by omega) (by omega)) (cs_S4 hc) (cS_recallConflicting G _ hc hm hk3) rfl rfl (Nat.le_of_ble_eq_true rfl) (by decide) rfl rfl (fun h11 q11 => ?_)
                obtain ⟨hc, hf1⟩ := q11
                replace hm := cm_le hm hf1
                replace hf := le_tr hf hf1
                have hF : f_sl L sn sg pg m (n, md, en, sd, ln) = (f_rc md m n, md, en, sd, fu ln (am_f m) (f_add (ln (am_f m)) m)) := by unfold f_sl; simp only [c1, c3, c4, c9, cond_true, cond_false, if_true, if_false]; try rfl
                rw [hF]
                exact rw_vret (pc := 123) dS_serveLease_123 rfl ⟨rfl, hc, hf⟩
              · skip
                replace c9 : (f_ca md m) = false := (m_bi0 _).mp c9
                refine rw_aload_n (pc := 105) dS_serveLease_105 rfl ?_
                refine rw_aload_n (pc := 106) dS_serveLease_106 rfl ?_
                refine rw_vv (pc := 107) (z' := (3, 2, 11)) (rc' := 1) (rs' := 1) (av := [.inr (some i)]) (st := []) (ci := 2) mlS_130 miS_grant rfl mvS_grant_S dS_serveLease_107 (cs_o hc (by omega) (by omega)) (cs_S4 hc) (cS_grant G _ hc hm hk3) rfl rfl (Nat.le_of_ble_eq_true rfl) (by decide) rfl rfl (fun h12 q12 => ?_)
                obtain ⟨hc, hf1⟩ := q12
                replace hm := cm_le hm hf1
                replace hf := le_tr hf hf1
                refine rw_goto (pc := 110) dS_serveLease_110 (tgt := 123) rfl ?_
                have hF : f_sl L sn sg pg m (n, md, en, sd, ln) = ((f_gr L sn sg pg m (n, md, en, sd, ln)).1, (f_gr L sn sg pg m (n, md, en, sd, ln)).2.1, (f_gr L sn sg pg m (n, md, en, sd, ln)).2.2.1, (f_gr L sn sg pg m (n, md, en, sd, ln)).2.2.2.1, (f_gr L sn sg pg m (n, md, en, sd, ln)).2.2.2.2) := by unfold f_sl; simp only [c1, c3, c4, c9, cond_true, cond_false, if_true, if_false]; try rfl
                rw [hF]
                exact rw_vret (pc := 123) dS_serveLease_123 rfl ⟨rfl, hc, hf⟩
      · skip
        replace c4 : sg = true := mb_T c4
        refine rw_aload_n (pc := 69) dS_serveLease_69 rfl ?_
        refine rw_getI (pc := 70) (x := m_bi (am_y m)) flS_124_R dS_serveLease_70 (cm_o hm) (cm_q hm hk3).2.1 (cm_q hm hk3).2.2.2.2.1 ?_
        refine rw_goto (pc := 73) dS_serveLease_73 (tgt := 90) rfl ?_
        refine rw_istore (pc := 90) (L' := [some (.inr (some 4)), some (.inr (some i)), some (.inr (some (20 + 2 * (am_f m)))), some (.inl (nI 0)), some (.inl (m_bi (f_hl md (am_c m) (am_f m)))), some (.inl (m_bi (am_y m)))]) dS_serveLease_90 (by decide) rfl ?_
        refine rw_iload (pc := 92) dS_serveLease_92 rfl ?_
        refine rw_ifeq (pc := 94) dS_serveLease_94 (tgt := 113) rfl (fun c13 => ?_) (fun c13 => ?_)
        · skip
          replace c13 : (am_y m) = false := (m_bi0 _).mp c13
          refine rw_aload_n (pc := 113) dS_serveLease_113 rfl ?_
          refine rw_aload_n (pc := 114) dS_serveLease_114 rfl ?_
          refine rw_vv (pc := 115) (z' := (0, 0, 0)) (rc' := 3) (rs' := 12) (av := [.inr (some i)]) (st := []) (ci := 3) mlS_133 miQ_add rfl mvQ_add_Q dS_serveLease_115 (cs_o hc (by omega) (by omega)) (cs_SQ hc (by omega)) (cQ_add G _ hc hf4 hm hk1) rfl rfl (Nat.le_of_ble_eq_true rfl) (by decide) rfl rfl (fun h14 q14 => ?_)
          obtain ⟨hc, hf1⟩ := q14
          replace hm := cm_le hm hf1
          replace hf := le_tr hf hf1
          refine rw_aload_n (pc := 118) dS_serveLease_118 rfl ?_
          refine rw_aload_n (pc := 119) dS_serveLease_119 rfl ?_
          refine rw_vv (pc := 120) (z' := (2, 3, 12)) (rc' := 0) (rs' := 0) (av := [.inr (some i)]) (st := []) (ci := 2) mlS_136 miS_recallConflicting rfl mvS_recallConflicting_S dS_serveLease_120 (cs_o hc (by omega) (by omega)) (cs_S4 hc) (cS_recallConflicting G _ hc hm hk3) rfl rfl (Nat.le_of_ble_eq_true rfl) (by decide) rfl rfl (fun h15 q15 => ?_)
          obtain ⟨hc, hf1⟩ := q15
          replace hm := cm_le hm hf1
          replace hf := le_tr hf hf1
          have hF : f_sl L sn sg pg m (n, md, en, sd, ln) = (f_rc md m n, md, en, sd, fu ln (am_f m) (f_add (ln (am_f m)) m)) := by unfold f_sl; simp only [c1, c3, c4, c13, cond_true, cond_false, if_true, if_false]; try rfl
          rw [hF]
          exact rw_vret (pc := 123) dS_serveLease_123 rfl ⟨rfl, hc, hf⟩
        · skip
          replace c13 : (am_y m) = true := mb_T c13
          refine rw_aload_n (pc := 97) dS_serveLease_97 rfl ?_
          refine rw_aload_n (pc := 98) dS_serveLease_98 rfl ?_
          refine rw_vi (pc := 99) (z' := (2, 0, 0)) (rc' := 3) (rs' := 12) (av := [.inr (some i)]) (st := []) (ci := 2) mlS_127 miS_conflictsWithAny rfl mvS_conflictsWithAny_S dS_serveLease_99 (cs_o hc (by omega) (by omega)) (cs_S4 hc) (cS_conflictsWithAny G _ hc hm hk3) rfl rfl (Nat.le_of_ble_eq_true rfl) (by decide) rfl rfl (fun r16 h16 q16 => ?_)
          obtain ⟨rfl, rfl⟩ := q16
          refine rw_ifne (pc := 102) dS_serveLease_102 (tgt := 113) rfl (fun c17 => ?_) (fun c17 => ?_)
          · skip
            replace c17 : (f_ca md m) = true := mb_T c17
            refine rw_aload_n (pc := 113) dS_serveLease_113 rfl ?_
            refine rw_aload_n (pc := 114) dS_serveLease_114 rfl ?_
            refine rw_vv (pc := 115) (z' := (0, 0, 0)) (rc' := 3) (rs' := 12) (av := [.inr (some i)]) (st := []) (ci := 3) mlS_133 miQ_add rfl mvQ_add_Q dS_serveLease_115 (cs_o hc (by omega) (by omega)) (cs_SQ hc (by omega)) (cQ_add G _ hc hf4 hm hk1) rfl rfl (Nat.le_of_ble_eq_true rfl) (by decide) rfl rfl (fun h18 q18 => ?_)
            obtain ⟨hc, hf1⟩ := q18
            replace hm := cm_le hm hf1
            replace hf := le_tr hf hf1
            refine rw_aload_n (pc := 118) dS_serveLease_118 rfl ?_
            refine rw_aload_n (pc := 119) dS_serveLease_119 rfl ?_
            refine rw_vv (pc := 120) (z' := (2, 3, 12)) (rc' := 0) (rs' := 0) (av := [.inr (some i)]) (st := []) (ci := 2) mlS_136 miS_recallConflicting rfl mvS_recallConflicting_S dS_serveLease_120 (cs_o hc (by omega) (by omega)) (cs_S4 hc) (cS_recallConflicting G _ hc hm hk3) rfl rfl (Nat.le_of_ble_eq_true rfl) (by decide) rfl rfl (fun h19 q19 => ?_)
            obtain ⟨hc, hf1⟩ := q19
            replace hm := cm_le hm hf1
            replace hf := le_tr hf hf1
            have hF : f_sl L sn sg pg m (n, md, en, sd, ln) = (f_rc md m n, md, en, sd, fu ln (am_f m) (f_add (ln (am_f m)) m)) := by unfold f_sl; simp only [c1, c3, c4, c13, c17, cond_true, cond_false, if_true, if_false]; try rfl
            rw [hF]
            exact rw_vret (pc := 123) dS_serveLease_123 rfl ⟨rfl, hc, hf⟩
          · skip
            replace c17 : (f_ca md m) = false := (m_bi0 _).mp c17
            refine rw_aload_n (pc := 105) dS_serveLease_105 rfl ?_
            refine rw_aload_n (pc := 106) dS_serveLease_106 rfl ?_
            refine rw_vv (pc := 107) (z' := (3, 2, 11)) (rc' := 1) (rs' := 1) (av := [.inr (some i)]) (st := []) (ci := 2) mlS_130 miS_grant rfl mvS_grant_S dS_serveLease_107 (cs_o hc (by omega) (by omega)) (cs_S4 hc) (cS_grant G _ hc hm hk3) rfl rfl (Nat.le_of_ble_eq_true rfl) (by decide) rfl rfl (fun h20 q20 => ?_)
            obtain ⟨hc, hf1⟩ := q20
            replace hm := cm_le hm hf1
            replace hf := le_tr hf hf1
            refine rw_goto (pc := 110) dS_serveLease_110 (tgt := 123) rfl ?_
            have hF : f_sl L sn sg pg m (n, md, en, sd, ln) = ((f_gr L sn sg pg m (n, md, en, sd, ln)).1, (f_gr L sn sg pg m (n, md, en, sd, ln)).2.1, (f_gr L sn sg pg m (n, md, en, sd, ln)).2.2.1, (f_gr L sn sg pg m (n, md, en, sd, ln)).2.2.2.1, (f_gr L sn sg pg m (n, md, en, sd, ln)).2.2.2.2) := by unfold f_sl; simp only [c1, c3, c4, c13, c17, cond_true, cond_false, if_true, if_false]; try rfl
            rw [hF]
            exact rw_vret (pc := 123) dS_serveLease_123 rfl ⟨rfl, hc, hf⟩
    · skip
      replace c3 : (f_hl md (am_c m) (am_f m)) = true := mb_T c3
      refine rw_iload_n (pc := 42) dS_serveLease_42 rfl ?_
      refine rw_ifeq (pc := 43) dS_serveLease_43 (tgt := 62) rfl (fun c21 => ?_) (fun c21 => ?_)
      · skip
        replace c21 : 0 = 0 := (nI_eq (a := 0) (b := 0) (by omega) (by omega)).mp c21
        refine rw_aload_n (pc := 62) dS_serveLease_62 rfl ?_
        refine rw_getI (pc := 63) (x := m_bi sg) flS_42_S dS_serveLease_63 (cs_o hc (by omega) (by omega)) (cs_S4 hc) (cp_sg hc) ?_
        refine rw_ifeq (pc := 66) dS_serveLease_66 (tgt := 76) rfl (fun c22 => ?_) (fun c22 => ?_)
        · skip
          replace c22 : sg = false := (m_bi0 _).mp c22
          refine rw_iload (pc := 76) dS_serveLease_76 rfl ?_
          refine rw_ifne (pc := 78) dS_serveLease_78 (tgt := 85) rfl (fun c23 => ?_) (fun c23 => ?_)
          · skip
            replace c23 : (f_hl md (am_c m) (am_f m)) = true := mb_T c23
            refine rw_iconst (pc := 85) (x := nI 1) dS_serveLease_85 (by decide) ?_
            refine rw_goto (pc := 86) dS_serveLease_86 (tgt := 90) rfl ?_
            refine rw_istore (pc := 90) (L' := [some (.inr (some 4)), some (.inr (some i)), some (.inr (some (20 + 2 * (am_f m)))), some (.inl (nI 0)), some (.inl (m_bi (f_hl md (am_c m) (am_f m)))), some (.inl (nI 1))]) dS_serveLease_90 (by decide) rfl ?_
            refine rw_iload (pc := 92) dS_serveLease_92 rfl ?_
            refine rw_ifeq (pc := 94) dS_serveLease_94 (tgt := 113) rfl (fun c24 => ?_) (fun c24 => ?_)
            · skip
              replace c24 : 1 = 0 := (nI_eq (a := 1) (b := 0) (by omega) (by omega)).mp c24
              exact absurd c24 (by decide)
            · skip
              replace c24 : ¬ (1 = 0) := fun qz => c24 ((nI_eq (a := 1) (b := 0) (by omega) (by omega)).mpr qz)
              refine rw_aload_n (pc := 97) dS_serveLease_97 rfl ?_
              refine rw_aload_n (pc := 98) dS_serveLease_98 rfl ?_
              refine rw_vi (pc := 99) (z' := (2, 0, 0)) (rc' := 3) (rs' := 12) (av := [.inr (some i)]) (st := []) (ci := 2) mlS_127 miS_conflictsWithAny rfl mvS_conflictsWithAny_S dS_serveLease_99 (cs_o hc (by omega) (by omega)) (cs_S4 hc) (cS_conflictsWithAny G _ hc hm hk3) rfl rfl (Nat.le_of_ble_eq_true rfl) (by decide) rfl rfl (fun r25 h25 q25 => ?_)
              obtain ⟨rfl, rfl⟩ := q25
              refine rw_ifne (pc := 102) dS_serveLease_102 (tgt := 113) rfl (fun c26 => ?_) (fun c26 => ?_)
              · skip
                replace c26 : (f_ca md m) = true := mb_T c26
                refine rw_aload_n (pc := 113) dS_serveLease_113 rfl ?_
                refine rw_aload_n (pc := 114) dS_serveLease_114 rfl ?_
                refine rw_vv (pc := 115) (z' := (0, 0, 0)) (rc' := 3) (rs' := 12) (av := [.inr (some i)]) (st := []) (ci := 3) mlS_133 miQ_add rfl mvQ_add_Q dS_serveLease_115 (cs_o hc (by omega) (by omega)) (cs_SQ hc (by omega)) (cQ_add G _ hc hf4 hm hk1) rfl rfl (Nat.le_of_ble_eq_true rfl) (by decide) rfl rfl (fun h27 q27 => ?_)
                obtain ⟨hc, hf1⟩ := q27
                replace hm := cm_le hm hf1
                replace hf := le_tr hf hf1
                refine rw_aload_n (pc := 118) dS_serveLease_118 rfl ?_
                refine rw_aload_n (pc := 119) dS_serveLease_119 rfl ?_
                refine rw_vv (pc := 120) (z' := (2, 3, 12)) (rc' := 0) (rs' := 0) (av := [.inr (some i)]) (st := []) (ci := 2) mlS_136 miS_recallConflicting rfl mvS_recallConflicting_S dS_serveLease_120 (cs_o hc (by omega) (by omega)) (cs_S4 hc) (cS_recallConflicting G _ hc hm hk3) rfl rfl (Nat.le_of_ble_eq_true rfl) (by decide) rfl rfl (fun h28 q28 => ?_)
                obtain ⟨hc, hf1⟩ := q28
                replace hm := cm_le hm hf1
                replace hf := le_tr hf hf1
                have hF : f_sl L sn sg pg m (n, md, en, sd, ln) = (f_rc md m n, md, en, sd, fu ln (am_f m) (f_add (ln (am_f m)) m)) := by unfold f_sl; simp only [c1, c3, c22, c26, cond_true, cond_false, if_true, if_false]; try rfl
                rw [hF]
                exact rw_vret (pc := 123) dS_serveLease_123 rfl ⟨rfl, hc, hf⟩
              · skip
                replace c26 : (f_ca md m) = false := (m_bi0 _).mp c26
                refine rw_aload_n (pc := 105) dS_serveLease_105 rfl ?_
                refine rw_aload_n (pc := 106) dS_serveLease_106 rfl ?_
                refine rw_vv (pc := 107) (z' := (3, 2, 11)) (rc' := 1) (rs' := 1) (av := [.inr (some i)]) (st := []) (ci := 2) mlS_130 miS_grant rfl mvS_grant_S dS_serveLease_107 (cs_o hc (by omega) (by omega)) (cs_S4 hc) (cS_grant G _ hc hm hk3) rfl rfl (Nat.le_of_ble_eq_true rfl) (by decide) rfl rfl (fun h29 q29 => ?_)
                obtain ⟨hc, hf1⟩ := q29
                replace hm := cm_le hm hf1
                replace hf := le_tr hf hf1
                refine rw_goto (pc := 110) dS_serveLease_110 (tgt := 123) rfl ?_
                have hF : f_sl L sn sg pg m (n, md, en, sd, ln) = ((f_gr L sn sg pg m (n, md, en, sd, ln)).1, (f_gr L sn sg pg m (n, md, en, sd, ln)).2.1, (f_gr L sn sg pg m (n, md, en, sd, ln)).2.2.1, (f_gr L sn sg pg m (n, md, en, sd, ln)).2.2.2.1, (f_gr L sn sg pg m (n, md, en, sd, ln)).2.2.2.2) := by unfold f_sl; simp only [c1, c3, c22, c26, cond_true, cond_false, if_true, if_false]; try rfl
                rw [hF]
                exact rw_vret (pc := 123) dS_serveLease_123 rfl ⟨rfl, hc, hf⟩
          · skip
            replace c23 : (f_hl md (am_c m) (am_f m)) = false := (m_bi0 _).mp c23
            exact absurd (c3.symm.trans c23) (by decide)
        · skip
          replace c22 : sg = true := mb_T c22
          refine rw_aload_n (pc := 69) dS_serveLease_69 rfl ?_
          refine rw_getI (pc := 70) (x := m_bi (am_y m)) flS_124_R dS_serveLease_70 (cm_o hm) (cm_q hm hk3).2.1 (cm_q hm hk3).2.2.2.2.1 ?_
          refine rw_goto (pc := 73) dS_serveLease_73 (tgt := 90) rfl ?_
          refine rw_istore (pc := 90) (L' := [some (.inr (some 4)), some (.inr (some i)), some (.inr (some (20 + 2 * (am_f m)))), some (.inl (nI 0)), some (.inl (m_bi (f_hl md (am_c m) (am_f m)))), some (.inl (m_bi (am_y m)))]) dS_serveLease_90 (by decide) rfl ?_
          refine rw_iload (pc := 92) dS_serveLease_92 rfl ?_
          refine rw_ifeq (pc := 94) dS_serveLease_94 (tgt := 113) rfl (fun c30 => ?_) (fun c30 => ?_)
          · skip
            replace c30 : (am_y m) = false := (m_bi0 _).mp c30
            refine rw_aload_n (pc := 113) dS_serveLease_113 rfl ?_
            refine rw_aload_n (pc := 114) dS_serveLease_114 rfl ?_
            refine rw_vv (pc := 115) (z' := (0, 0, 0)) (rc' := 3) (rs' := 12) (av := [.inr (some i)]) (st := []) (ci := 3) mlS_133 miQ_add rfl mvQ_add_Q dS_serveLease_115 (cs_o hc (by omega) (by omega)) (cs_SQ hc (by omega)) (cQ_add G _ hc hf4 hm hk1) rfl rfl (Nat.le_of_ble_eq_true rfl) (by decide) rfl rfl (fun h31 q31 => ?_)
            obtain ⟨hc, hf1⟩ := q31
            replace hm := cm_le hm hf1
            replace hf := le_tr hf hf1
            refine rw_aload_n (pc := 118) dS_serveLease_118 rfl ?_
            refine rw_aload_n (pc := 119) dS_serveLease_119 rfl ?_
            refine rw_vv (pc := 120) (z' := (2, 3, 12)) (rc' := 0) (rs' := 0) (av := [.inr (some i)]) (st := []) (ci := 2) mlS_136 miS_recallConflicting rfl mvS_recallConflicting_S dS_serveLease_120 (cs_o hc (by omega) (by omega)) (cs_S4 hc) (cS_recallConflicting G _ hc hm hk3) rfl rfl (Nat.le_of_ble_eq_true rfl) (by decide) rfl rfl (fun h32 q32 => ?_)
            obtain ⟨hc, hf1⟩ := q32
            replace hm := cm_le hm hf1
            replace hf := le_tr hf hf1
            have hF : f_sl L sn sg pg m (n, md, en, sd, ln) = (f_rc md m n, md, en, sd, fu ln (am_f m) (f_add (ln (am_f m)) m)) := by unfold f_sl; simp only [c1, c3, c22, c30, cond_true, cond_false, if_true, if_false]; try rfl
            rw [hF]
            exact rw_vret (pc := 123) dS_serveLease_123 rfl ⟨rfl, hc, hf⟩
          · skip
            replace c30 : (am_y m) = true := mb_T c30
            refine rw_aload_n (pc := 97) dS_serveLease_97 rfl ?_
            refine rw_aload_n (pc := 98) dS_serveLease_98 rfl ?_
            refine rw_vi (pc := 99) (z' := (2, 0, 0)) (rc' := 3) (rs' := 12) (av := [.inr (some i)]) (st := []) (ci := 2) mlS_127 miS_conflictsWithAny rfl mvS_conflictsWithAny_S dS_serveLease_99 (cs_o hc (by omega) (by omega)) (cs_S4 hc) (cS_conflictsWithAny G _ hc hm hk3) rfl rfl (Nat.le_of_ble_eq_true rfl) (by decide) rfl rfl (fun r33 h33 q33 => ?_)
            obtain ⟨rfl, rfl⟩ := q33
            refine rw_ifne (pc := 102) dS_serveLease_102 (tgt := 113) rfl (fun c34 => ?_) (fun c34 => ?_)
            · skip
              replace c34 : (f_ca md m) = true := mb_T c34
              refine rw_aload_n (pc := 113) dS_serveLease_113 rfl ?_
              refine rw_aload_n (pc := 114) dS_serveLease_114 rfl ?_
              refine rw_vv (pc := 115) (z' := (0, 0, 0)) (rc' := 3) (rs' := 12) (av := [.inr (some i)]) (st := []) (ci := 3) mlS_133 miQ_add rfl mvQ_add_Q dS_serveLease_115 (cs_o hc (by omega) (by omega)) (cs_SQ hc (by omega)) (cQ_add G _ hc hf4 hm hk1) rfl rfl (Nat.le_of_ble_eq_true rfl) (by decide) rfl rfl (fun h35 q35 => ?_)
              obtain ⟨hc, hf1⟩ := q35
              replace hm := cm_le hm hf1
              replace hf := le_tr hf hf1
              refine rw_aload_n (pc := 118) dS_serveLease_118 rfl ?_
              refine rw_aload_n (pc := 119) dS_serveLease_119 rfl ?_
              refine rw_vv (pc := 120) (z' := (2, 3, 12)) (rc' := 0) (rs' := 0) (av := [.inr (some i)]) (st := []) (ci := 2) mlS_136 miS_recallConflicting rfl mvS_recallConflicting_S dS_serveLease_120 (cs_o hc (by omega) (by omega)) (cs_S4 hc) (cS_recallConflicting G _ hc hm hk3) rfl rfl (Nat.le_of_ble_eq_true rfl) (by decide) rfl rfl (fun h36 q36 => ?_)
              obtain ⟨hc, hf1⟩ := q36
              replace hm := cm_le hm hf1
              replace hf := le_tr hf hf1
              have hF : f_sl L sn sg pg m (n, md, en, sd, ln) = (f_rc md m n, md, en, sd, fu ln (am_f m) (f_add (ln (am_f m)) m)) := by unfold f_sl; simp only [c1, c3, c22, c30, c34, cond_true, cond_false, if_true, if_false]; try rfl
              rw [hF]
              exact rw_vret (pc := 123) dS_serveLease_123 rfl ⟨rfl, hc, hf⟩
            · skip
              replace c34 : (f_ca md m) = false := (m_bi0 _).mp c34
              refine rw_aload_n (pc := 105) dS_serveLease_105 rfl ?_
              refine rw_aload_n (pc := 106) dS_serveLease_106 rfl ?_
              refine rw_vv (pc := 107) (z' := (3, 2, 11)) (rc' := 1) (rs' := 1) (av := [.inr (some i)]) (st := []) (ci := 2) mlS_130 miS_grant rfl mvS_grant_S dS_serveLease_107 (cs_o hc (by omega) (by omega)) (cs_S4 hc) (cS_grant G _ hc hm hk3) rfl rfl (Nat.le_of_ble_eq_true rfl) (by decide) rfl rfl (fun h37 q37 => ?_)
              obtain ⟨hc, hf1⟩ := q37
              replace hm := cm_le hm hf1
              replace hf := le_tr hf hf1
              refine rw_goto (pc := 110) dS_serveLease_110 (tgt := 123) rfl ?_
              have hF : f_sl L sn sg pg m (n, md, en, sd, ln) = ((f_gr L sn sg pg m (n, md, en, sd, ln)).1, (f_gr L sn sg pg m (n, md, en, sd, ln)).2.1, (f_gr L sn sg pg m (n, md, en, sd, ln)).2.2.1, (f_gr L sn sg pg m (n, md, en, sd, ln)).2.2.2.1, (f_gr L sn sg pg m (n, md, en, sd, ln)).2.2.2.2) := by unfold f_sl; simp only [c1, c3, c22, c30, c34, cond_true, cond_false, if_true, if_false]; try rfl
              rw [hF]
              exact rw_vret (pc := 123) dS_serveLease_123 rfl ⟨rfl, hc, hf⟩
      · skip
        replace c21 : ¬ (0 = 0) := fun qz => c21 ((nI_eq (a := 0) (b := 0) (by omega) (by omega)).mpr qz)
        exact absurd (by decide) c21
  · skip
    replace c1 : ¬ (((ln (am_f m)).length) ≤ 0) := fun qz => c1 ((nI_leI (a := ((ln (am_f m)).length)) (b := 0) (by omega) (by omega)).mpr qz)
    refine rw_iconst (pc := 17) (x := nI 1) dS_serveLease_17 (by decide) ?_
    refine rw_goto (pc := 18) dS_serveLease_18 (tgt := 22) rfl ?_
    refine rw_istore_n (pc := 22) (L' := [some (.inr (some 4)), some (.inr (some i)), some (.inr (some (20 + 2 * (am_f m)))), some (.inl (nI 1)), none, none]) dS_serveLease_22 (by decide) rfl ?_
    refine rw_aload_n (pc := 23) dS_serveLease_23 rfl ?_
    refine rw_aload_n (pc := 24) dS_serveLease_24 rfl ?_
    refine rw_getI (pc := 25) (x := nI (am_c m)) flS_75_R dS_serveLease_25 (cm_o hm) (cm_q hm hk3).2.1 hm.2.1.2.1 ?_
    refine rw_aload_n (pc := 28) dS_serveLease_28 rfl ?_
    refine rw_getI (pc := 29) (x := nI (am_f m)) flS_111_R dS_serveLease_29 (cm_o hm) (cm_q hm hk3).2.1 hm.2.1.2.2.1 ?_
    refine rw_vi (pc := 32) (z' := (0, 0, 0)) (rc' := 3) (rs' := 12) (av := [.inl (nI (am_c m)), .inl (nI (am_f m))]) (st := []) (ci := 2) mlS_71 miS_hasLease rfl mvS_hasLease_S dS_serveLease_32 (cs_o hc (by omega) (by omega)) (cs_S4 hc) (cS_hasLease G _ hc (by omega) (by omega)) rfl rfl (Nat.le_of_ble_eq_true rfl) (by decide) rfl rfl (fun r38 h38 q38 => ?_)
    obtain ⟨rfl, rfl⟩ := q38
    refine rw_istore (pc := 35) (L' := [some (.inr (some 4)), some (.inr (some i)), some (.inr (some (20 + 2 * (am_f m)))), some (.inl (nI 1)), some (.inl (m_bi (f_hl md (am_c m) (am_f m)))), none]) dS_serveLease_35 (by decide) rfl ?_
    refine rw_iload (pc := 37) dS_serveLease_37 rfl ?_
    refine rw_ifeq (pc := 39) dS_serveLease_39 (tgt := 62) rfl (fun c39 => ?_) (fun c39 => ?_)
    · skip
      replace c39 : (f_hl md (am_c m) (am_f m)) = false := (m_bi0 _).mp c39
      refine rw_aload_n (pc := 62) dS_serveLease_62 rfl ?_
      refine rw_getI (pc := 63) (x := m_bi sg) flS_42_S dS_serveLease_63 (cs_o hc (by omega) (by omega)) (cs_S4 hc) (cp_sg hc) ?_
      refine rw_ifeq (pc := 66) dS_serveLease_66 (tgt := 76) rfl (fun c40 => ?_) (fun c40 => ?_)
      · skip
        replace c40 : sg = false := (m_bi0 _).mp c40
        refine rw_iload (pc := 76) dS_serveLease_76 rfl ?_
        refine rw_ifne (pc := 78) dS_serveLease_78 (tgt := 85) rfl (fun c41 => ?_) (fun c41 => ?_)
        · skip
          replace c41 : (f_hl md (am_c m) (am_f m)) = true := mb_T c41
          exact absurd (c39.symm.trans c41) (by decide)
        · skip
          replace c41 : (f_hl md (am_c m) (am_f m)) = false := (m_bi0 _).mp c41
          refine rw_iload_n (pc := 81) dS_serveLease_81 rfl ?_
          refine rw_ifne (pc := 82) dS_serveLease_82 (tgt := 89) rfl (fun c42 => ?_) (fun c42 => ?_)
          · skip
            replace c42 : ¬ (1 = 0) := fun qz => c42 ((nI_eq (a := 1) (b := 0) (by omega) (by omega)).mpr qz)
            refine rw_iconst (pc := 89) (x := nI 0) dS_serveLease_89 (by decide) ?_
            refine rw_istore (pc := 90) (L' := [some (.inr (some 4)), some (.inr (some i)), some (.inr (some (20 + 2 * (am_f m)))), some (.inl (nI 1)), some (.inl (m_bi (f_hl md (am_c m) (am_f m)))), some (.inl (nI 0))]) dS_serveLease_90 (by decide) rfl ?_
            refine rw_iload (pc := 92) dS_serveLease_92 rfl ?_
            refine rw_ifeq (pc := 94) dS_serveLease_94 (tgt := 113) rfl (fun c43 => ?_) (fun c43 => ?_)
            · skip
              replace c43 : 0 = 0 := (nI_eq (a := 0) (b := 0) (by omega) (by omega)).mp c43
              refine rw_aload_n (pc := 113) dS_serveLease_113 rfl ?_
              refine rw_aload_n (pc := 114) dS_serveLease_114 rfl ?_
              refine rw_vv (pc := 115) (z' := (0, 0, 0)) (rc' := 3) (rs' := 12) (av := [.inr (some i)]) (st := []) (ci := 3) mlS_133 miQ_add rfl mvQ_add_Q dS_serveLease_115 (cs_o hc (by omega) (by omega)) (cs_SQ hc (by omega)) (cQ_add G _ hc hf4 hm hk1) rfl rfl (Nat.le_of_ble_eq_true rfl) (by decide) rfl rfl (fun h44 q44 => ?_)
              obtain ⟨hc, hf1⟩ := q44
              replace hm := cm_le hm hf1
              replace hf := le_tr hf hf1
              refine rw_aload_n (pc := 118) dS_serveLease_118 rfl ?_
              refine rw_aload_n (pc := 119) dS_serveLease_119 rfl ?_
              refine rw_vv (pc := 120) (z' := (2, 3, 12)) (rc' := 0) (rs' := 0) (av := [.inr (some i)]) (st := []) (ci := 2) mlS_136 miS_recallConflicting rfl mvS_recallConflicting_S dS_serveLease_120 (cs_o hc (by omega) (by omega)) (cs_S4 hc) (cS_recallConflicting G _ hc hm hk3) rfl rfl (Nat.le_of_ble_eq_true rfl) (by decide) rfl rfl (fun h45 q45 => ?_)
              obtain ⟨hc, hf1⟩ := q45
              replace hm := cm_le hm hf1
              replace hf := le_tr hf hf1
              have hF : f_sl L sn sg pg m (n, md, en, sd, ln) = (f_rc md m n, md, en, sd, fu ln (am_f m) (f_add (ln (am_f m)) m)) := by unfold f_sl; simp only [c1, c39, c40, cond_true, cond_false, if_true, if_false]; try rfl
              rw [hF]
              exact rw_vret (pc := 123) dS_serveLease_123 rfl ⟨rfl, hc, hf⟩
            · skip
              replace c43 : ¬ (0 = 0) := fun qz => c43 ((nI_eq (a := 0) (b := 0) (by omega) (by omega)).mpr qz)
              exact absurd (by decide) c43
          · skip
            replace c42 : 1 = 0 := (nI_eq (a := 1) (b := 0) (by omega) (by omega)).mp c42
            exact absurd c42 (by decide)
      · skip
        replace c40 : sg = true := mb_T c40
        refine rw_aload_n (pc := 69) dS_serveLease_69 rfl ?_
        refine rw_getI (pc := 70) (x := m_bi (am_y m)) flS_124_R dS_serveLease_70 (cm_o hm) (cm_q hm hk3).2.1 (cm_q hm hk3).2.2.2.2.1 ?_
        refine rw_goto (pc := 73) dS_serveLease_73 (tgt := 90) rfl ?_
        refine rw_istore (pc := 90) (L' := [some (.inr (some 4)), some (.inr (some i)), some (.inr (some (20 + 2 * (am_f m)))), some (.inl (nI 1)), some (.inl (m_bi (f_hl md (am_c m) (am_f m)))), some (.inl (m_bi (am_y m)))]) dS_serveLease_90 (by decide) rfl ?_
        refine rw_iload (pc := 92) dS_serveLease_92 rfl ?_
        refine rw_ifeq (pc := 94) dS_serveLease_94 (tgt := 113) rfl (fun c46 => ?_) (fun c46 => ?_)
        · skip
          replace c46 : (am_y m) = false := (m_bi0 _).mp c46
          refine rw_aload_n (pc := 113) dS_serveLease_113 rfl ?_
          refine rw_aload_n (pc := 114) dS_serveLease_114 rfl ?_
          refine rw_vv (pc := 115) (z' := (0, 0, 0)) (rc' := 3) (rs' := 12) (av := [.inr (some i)]) (st := []) (ci := 3) mlS_133 miQ_add rfl mvQ_add_Q dS_serveLease_115 (cs_o hc (by omega) (by omega)) (cs_SQ hc (by omega)) (cQ_add G _ hc hf4 hm hk1) rfl rfl (Nat.le_of_ble_eq_true rfl) (by decide) rfl rfl (fun h47 q47 => ?_)
          obtain ⟨hc, hf1⟩ := q47
          replace hm := cm_le hm hf1
          replace hf := le_tr hf hf1
          refine rw_aload_n (pc := 118) dS_serveLease_118 rfl ?_
          refine rw_aload_n (pc := 119) dS_serveLease_119 rfl ?_
          refine rw_vv (pc := 120) (z' := (2, 3, 12)) (rc' := 0) (rs' := 0) (av := [.inr (some i)]) (st := []) (ci := 2) mlS_136 miS_recallConflicting rfl mvS_recallConflicting_S dS_serveLease_120 (cs_o hc (by omega) (by omega)) (cs_S4 hc) (cS_recallConflicting G _ hc hm hk3) rfl rfl (Nat.le_of_ble_eq_true rfl) (by decide) rfl rfl (fun h48 q48 => ?_)
          obtain ⟨hc, hf1⟩ := q48
          replace hm := cm_le hm hf1
          replace hf := le_tr hf hf1
          have hF : f_sl L sn sg pg m (n, md, en, sd, ln) = (f_rc md m n, md, en, sd, fu ln (am_f m) (f_add (ln (am_f m)) m)) := by unfold f_sl; simp only [c1, c39, c40, c46, cond_true, cond_false, if_true, if_false]; try rfl
          rw [hF]
          exact rw_vret (pc := 123) dS_serveLease_123 rfl ⟨rfl, hc, hf⟩
        · skip
          replace c46 : (am_y m) = true := mb_T c46
          refine rw_aload_n (pc := 97) dS_serveLease_97 rfl ?_
          refine rw_aload_n (pc := 98) dS_serveLease_98 rfl ?_
          refine rw_vi (pc := 99) (z' := (2, 0, 0)) (rc' := 3) (rs' := 12) (av := [.inr (some i)]) (st := []) (ci := 2) mlS_127 miS_conflictsWithAny rfl mvS_conflictsWithAny_S dS_serveLease_99 (cs_o hc (by omega) (by omega)) (cs_S4 hc) (cS_conflictsWithAny G _ hc hm hk3) rfl rfl (Nat.le_of_ble_eq_true rfl) (by decide) rfl rfl (fun r49 h49 q49 => ?_)
          obtain ⟨rfl, rfl⟩ := q49
          refine rw_ifne (pc := 102) dS_serveLease_102 (tgt := 113) rfl (fun c50 => ?_) (fun c50 => ?_)
          · skip
            replace c50 : (f_ca md m) = true := mb_T c50
            refine rw_aload_n (pc := 113) dS_serveLease_113 rfl ?_
            refine rw_aload_n (pc := 114) dS_serveLease_114 rfl ?_
            refine rw_vv (pc := 115) (z' := (0, 0, 0)) (rc' := 3) (rs' := 12) (av := [.inr (some i)]) (st := []) (ci := 3) mlS_133 miQ_add rfl mvQ_add_Q dS_serveLease_115 (cs_o hc (by omega) (by omega)) (cs_SQ hc (by omega)) (cQ_add G _ hc hf4 hm hk1) rfl rfl (Nat.le_of_ble_eq_true rfl) (by decide) rfl rfl (fun h51 q51 => ?_)
            obtain ⟨hc, hf1⟩ := q51
            replace hm := cm_le hm hf1
            replace hf := le_tr hf hf1
            refine rw_aload_n (pc := 118) dS_serveLease_118 rfl ?_
            refine rw_aload_n (pc := 119) dS_serveLease_119 rfl ?_
            refine rw_vv (pc := 120) (z' := (2, 3, 12)) (rc' := 0) (rs' := 0) (av := [.inr (some i)]) (st := []) (ci := 2) mlS_136 miS_recallConflicting rfl mvS_recallConflicting_S dS_serveLease_120 (cs_o hc (by omega) (by omega)) (cs_S4 hc) (cS_recallConflicting G _ hc hm hk3) rfl rfl (Nat.le_of_ble_eq_true rfl) (by decide) rfl rfl (fun h52 q52 => ?_)
            obtain ⟨hc, hf1⟩ := q52
            replace hm := cm_le hm hf1
            replace hf := le_tr hf hf1
            have hF : f_sl L sn sg pg m (n, md, en, sd, ln) = (f_rc md m n, md, en, sd, fu ln (am_f m) (f_add (ln (am_f m)) m)) := by unfold f_sl; simp only [c1, c39, c40, c46, c50, cond_true, cond_false, if_true, if_false]; try rfl
            rw [hF]
            exact rw_vret (pc := 123) dS_serveLease_123 rfl ⟨rfl, hc, hf⟩
          · skip
            replace c50 : (f_ca md m) = false := (m_bi0 _).mp c50
            refine rw_aload_n (pc := 105) dS_serveLease_105 rfl ?_
            refine rw_aload_n (pc := 106) dS_serveLease_106 rfl ?_
            refine rw_vv (pc := 107) (z' := (3, 2, 11)) (rc' := 1) (rs' := 1) (av := [.inr (some i)]) (st := []) (ci := 2) mlS_130 miS_grant rfl mvS_grant_S dS_serveLease_107 (cs_o hc (by omega) (by omega)) (cs_S4 hc) (cS_grant G _ hc hm hk3) rfl rfl (Nat.le_of_ble_eq_true rfl) (by decide) rfl rfl (fun h53 q53 => ?_)
            obtain ⟨hc, hf1⟩ := q53
            replace hm := cm_le hm hf1
            replace hf := le_tr hf hf1
            refine rw_goto (pc := 110) dS_serveLease_110 (tgt := 123) rfl ?_
            have hF : f_sl L sn sg pg m (n, md, en, sd, ln) = ((f_gr L sn sg pg m (n, md, en, sd, ln)).1, (f_gr L sn sg pg m (n, md, en, sd, ln)).2.1, (f_gr L sn sg pg m (n, md, en, sd, ln)).2.2.1, (f_gr L sn sg pg m (n, md, en, sd, ln)).2.2.2.1, (f_gr L sn sg pg m (n, md, en, sd, ln)).2.2.2.2) := by unfold f_sl; simp only [c1, c39, c40, c46, c50, cond_true, cond_false, if_true, if_false]; try rfl
            rw [hF]
            exact rw_vret (pc := 123) dS_serveLease_123 rfl ⟨rfl, hc, hf⟩
    · skip
      replace c39 : (f_hl md (am_c m) (am_f m)) = true := mb_T c39
      refine rw_iload_n (pc := 42) dS_serveLease_42 rfl ?_
      refine rw_ifeq (pc := 43) dS_serveLease_43 (tgt := 62) rfl (fun c54 => ?_) (fun c54 => ?_)
      · skip
        replace c54 : 1 = 0 := (nI_eq (a := 1) (b := 0) (by omega) (by omega)).mp c54
        exact absurd c54 (by decide)
      · skip
        replace c54 : ¬ (1 = 0) := fun qz => c54 ((nI_eq (a := 1) (b := 0) (by omega) (by omega)).mpr qz)
        refine rw_aload_n (pc := 46) dS_serveLease_46 rfl ?_
        refine rw_new (pc := 47) (rc' := 2) (rs' := 5) nnS_16 dS_serveLease_47 rfl rfl ?_
        have hcg := hc
        have hmg := hm
        replace hc := cv_gr hc (gx_new (s := .inr 8) (gx_rf h))
        replace hm := cm_le hm (gx_le (gx_new (s := .inr 8) (gx_rf h)))
        refine rw_dup (pc := 50) dS_serveLease_50 ?_
        refine rw_iconst (pc := 51) (x := nI 5) dS_serveLease_51 (by decide) ?_
        refine rw_aload_n (pc := 52) dS_serveLease_52 rfl ?_
        refine rw_iconst (pc := 53) (x := nI 0) dS_serveLease_53 (by decide) ?_
        refine rw_null (pc := 54) dS_serveLease_54 ?_
        refine rw_iv (pc := 55) (z' := (2, 0, 0)) (rc' := 2) (rs' := 5) (av := [.inl (nI 5), .inr (some i), .inl (nI 0), .inr none]) (st := [.inr (some (hp_n h)), .inr (some 4)]) mlS_117 miP_init rfl rfl dS_serveLease_55 (cP_init G _ (ok_nw (by have := cs_n hcg; omega)) sh_nw (cm_o hm) (cm_q hm hk3).2.1 (by have := hmg.1.2; omega) hm.2.1.2.1 hm.2.1.2.2.1 hm.2.1.2.2.2 (cm_q hm hk3).2.2.1 (nI 5) false none) rfl rfl (Nat.le_of_ble_eq_true rfl) (by decide) rfl rfl (fun h55 q55 => ?_)
        obtain rfl := q55
        obtain ⟨hg, hr⟩ := mk_rp (h := h) (k := 5) (m := m) (b := false) (cs_n hcg) hmg.2.2.1 hq2 (by decide) (by decide)
        replace hc := cv_gr hcg hg
        replace hm := cm_le hmg (gx_le hg)
        replace hf := le_tr hf (gx_le hg)
        clear hg hcg hmg
        generalize hr_8 (hp_new h (.inr 8)) (hp_n h) (nI 5) (nI (am_c m)) (nI (am_f m)) (am_n m) (nI (am_m m)) false none = g56 at hc hm hf hr ⊢
        generalize hp_n h = i56 at hr ⊢
        refine rw_vv (pc := 58) (z' := (1, 0, 0)) (rc' := 2) (rs' := 5) (av := [.inr (some i56)]) (st := []) (ci := 2) mlS_120 miS_finish rfl mvS_finish_S dS_serveLease_58 (cs_o hc (by omega) (by omega)) (cs_S4 hc) (cS_finish G _ hc hr (Nat.le_of_ble_eq_true rfl) (Nat.le_of_ble_eq_true rfl)) rfl rfl (Nat.le_of_ble_eq_true rfl) (by decide) rfl rfl (fun h57 q57 => ?_)
        obtain ⟨hc, hf1⟩ := q57
        replace hm := cm_le hm hf1
        replace hr := cm_le hr hf1
        replace hf := le_tr hf hf1
        have hF : f_sl L sn sg pg m (n, md, en, sd, ln) = (f_send n (f_rp 5 m false (fun _ => 0)), md, en, fu sd (am_c m) (some (f_rp 5 m false (fun _ => 0))), ln) := by unfold f_sl; simp only [c1, c39, cond_true, cond_false, if_true, if_false]; try rfl
        rw [hF]
        exact rw_vret (pc := 61) dS_serveLease_61 rfl ⟨rfl, hc, hf⟩
