def f_sv (L : Nat) (sn : Int32) (sg : Bool) (pg : Nat → Nat → Int32) (m : ab_M) (s : ab_5) : (Nat → Nat → Int32) × ab_5 := if am_k m = 1 then (pg, f_sl L sn sg pg m s) else if am_k m = 2 then f_ss pg m s else (pg, f_sr m s)
def f_lo (c : Nat) (s : ab_5) : ab_5 := (s.1, s.2.1, s.2.2.1, s.2.2.2.1, fun f => f_out (s.2.2.2.2 f) c)
def f_r2 (L : Nat) (sn : Int32) (sg : Bool) (pg : Nat → Nat → Int32) (m : ab_M) (s : ab_5) : (Nat → Nat → Int32) × ab_5 := bif f_wa s.2.2.2.2 m then (pg, s) else f_sv L sn sg pg m (f_lo (am_c m) s)
def f_rb (L : Nat) (sn : Int32) (sg : Bool) (pg : Nat → Nat → Int32) (m : ab_M) (s : ab_5) : (Nat → Nat → Int32) × ab_5 := match s.2.2.2.1 (am_c m) with
  | none => f_r2 L sn sg pg m s
  | some r => if am_n m = am_n r then (pg, (f_send s.1 r, s.2)) else if am_n r < am_n m then f_r2 L sn sg pg m s else (pg, s)
def f_li (L : Nat) (sn : Int32) (sg : Bool) (pg : Nat → Nat → Int32) (f : Nat) : Nat → ab_5 → ab_5
  | 0, s => s
  | k + 1, s => match s.2.2.2.2 f with
    | [] => s
    | m :: _ => bif f_ca s.2.1 m then s else f_li L sn sg pg f k (f_gr L sn sg pg m (s.1, s.2.1, s.2.2.1, s.2.2.2.1, fu s.2.2.2.2 f (f_out (s.2.2.2.2 f) (am_c m))))
def f_go (L : Nat) (sn : Int32) (sg : Bool) (pg : Nat → Nat → Int32) (s : ab_5) : ab_5 := f_li L sn sg pg 3 3 (f_li L sn sg pg 2 3 (f_li L sn sg pg 1 3 (f_li L sn sg pg 0 3 s)))
def f_gt (L : Nat) (sn : Int32) (sg : Bool) (pg : Nat → Nat → Int32) (s : ab_5) : ab_5 := bif sg then s else f_go L sn sg pg s
def f_el (sn : Int32) (md : Nat → Nat → Nat) (en : Nat → Nat → Int32) : Nat → Nat → Nat := fun c f => if en c f ≤ sn then 0 else md c f
abbrev ab_7 : Type := Int32 × Bool × ab_5
def ft_1 (L : Nat) (se : Int32) (pg : Nat → Nat → Int32) (w : ab_7) : ab_7 := (w.1 + nI 1, (if se ≤ w.1 + nI 1 then false else w.2.1), f_gt L (w.1 + nI 1) (if se ≤ w.1 + nI 1 then false else w.2.1) pg (w.2.2.1, f_el (w.1 + nI 1) w.2.2.2.1 w.2.2.2.2.1, w.2.2.2.2))
def ft_n (L : Nat) (se : Int32) (pg : Nat → Nat → Int32) : Nat → ab_7 → ab_7
  | 0, w => w
  | k + 1, w => ft_n L se pg k (ft_1 L se pg w)
def f_rQ (su : Bool) (L : Nat) (sn : Int32) (sg : Bool) (pg : Nat → Nat → Int32) (m : ab_M) (s : ab_5) : (Nat → Nat → Int32) × ab_5 := bif su then ((f_rb L sn sg pg m s).1, f_gt L sn sg (f_rb L sn sg pg m s).1 (f_rb L sn sg pg m s).2) else (pg, s)
def f_lc (L : Nat) (sn : Int32) (sg : Bool) (pg : Nat → Nat → Int32) (f : Nat) : Nat → ab_5 → Nat
  | 0, _ => 0
  | k + 1, s => match s.2.2.2.2 f with
    | [] => 0
    | m :: _ => bif f_ca s.2.1 m then 0 else f_lc L sn sg pg f k (f_gr L sn sg pg m (s.1, s.2.1, s.2.2.1, s.2.2.2.1, fu s.2.2.2.2 f (f_out (s.2.2.2.2 f) (am_c m)))) + 1
def f_gc (L : Nat) (sn : Int32) (sg : Bool) (pg : Nat → Nat → Int32) (s : ab_5) : Nat := f_lc L sn sg pg 3 3 (f_li L sn sg pg 2 3 (f_li L sn sg pg 1 3 (f_li L sn sg pg 0 3 s))) + f_lc L sn sg pg 2 3 (f_li L sn sg pg 1 3 (f_li L sn sg pg 0 3 s)) + f_lc L sn sg pg 1 3 (f_li L sn sg pg 0 3 s) + f_lc L sn sg pg 0 3 s
def f_gk (L : Nat) (sn : Int32) (sg : Bool) (pg : Nat → Nat → Int32) (s : ab_5) : Nat := bif sg then 0 else f_gc L sn sg pg s
def f_W (s : ab_5) : Nat := (s.2.2.2.2 0).length + (s.2.2.2.2 1).length + (s.2.2.2.2 2).length + (s.2.2.2.2 3).length
theorem rn_eq {G : mt_G} {X : mt_X} {z : Nat × Nat × Nat} {rc rs rc' rs' pc : Nat} {L : List (Option ha_V)} {st : List ha_V} {h : ha_H} {post : Option ha_V → ha_H → Prop} (e1 : rc = rc') (e2 : rs = rs') (H : rn_W G X z rc' rs' pc L st h post) : rn_W G X z rc rs pc L st h post := by
  subst e1
  subst e2
  exact H
theorem lc_W {L : Nat} {sn : Int32} {sg : Bool} {pg : Nat → Nat → Int32} {f : Nat} (hf : f < 4) : ∀ (k : Nat) (s : ab_5), f_lc L sn sg pg f k s + f_W (f_li L sn sg pg f k s) = f_W s
  | 0, s => Nat.zero_add _
  | k + 1, s => by
    unfold f_lc f_li
    cases e : s.2.2.2.2 f with
    | nil => exact Nat.zero_add _
    | cons m l =>
      show (bif f_ca s.2.1 m then 0 else f_lc L sn sg pg f k (f_gr L sn sg pg m (s.1, s.2.1, s.2.2.1, s.2.2.2.1, fu s.2.2.2.2 f (f_out (m :: l) (am_c m)))) + 1) + f_W (bif f_ca s.2.1 m then s else f_li L sn sg pg f k (f_gr L sn sg pg m (s.1, s.2.1, s.2.2.1, s.2.2.2.1, fu s.2.2.2.2 f (f_out (m :: l) (am_c m))))) = f_W s
      cases f_ca s.2.1 m
      · have I := lc_W (L := L) (sn := sn) (sg := sg) (pg := pg) hf k (f_gr L sn sg pg m (s.1, s.2.1, s.2.2.1, s.2.2.2.1, fu s.2.2.2.2 f (f_out (m :: l) (am_c m))))
        have ef : f_out (m :: l) (am_c m) = l := if_pos rfl
        have eW : f_W (f_gr L sn sg pg m (s.1, s.2.1, s.2.2.1, s.2.2.2.1, fu s.2.2.2.2 f (f_out (m :: l) (am_c m)))) + 1 = f_W s := by
          rw [ef]
          show (fu s.2.2.2.2 f l 0).length + (fu s.2.2.2.2 f l 1).length + (fu s.2.2.2.2 f l 2).length + (fu s.2.2.2.2 f l 3).length + 1 = f_W s
          have el : (s.2.2.2.2 f).length = l.length + 1 := by rw [e]; rfl
          unfold f_W
          rcases (by omega : f = 0 ∨ f = 1 ∨ f = 2 ∨ f = 3) with rfl | rfl | rfl | rfl <;> simp [fu] <;> omega
        simp only [cond_false]
        omega
      · simp only [cond_true]
        exact Nat.zero_add _
theorem gk_W {L : Nat} {sn : Int32} {sg : Bool} {pg : Nat → Nat → Int32} (s : ab_5) : f_gk L sn sg pg s + f_W (f_gt L sn sg pg s) = f_W s := by
  unfold f_gk f_gt
  cases sg
  · simp only [cond_false]
    unfold f_gc f_go
    have a0 := lc_W (L := L) (sn := sn) (sg := false) (pg := pg) (f := 0) (by omega) 3 s
    generalize f_li L sn false pg 0 3 s = s1 at a0 ⊢
    have a1 := lc_W (L := L) (sn := sn) (sg := false) (pg := pg) (f := 1) (by omega) 3 s1
    generalize f_li L sn false pg 1 3 s1 = s2 at a1 ⊢
    have a2 := lc_W (L := L) (sn := sn) (sg := false) (pg := pg) (f := 2) (by omega) 3 s2
    generalize f_li L sn false pg 2 3 s2 = s3 at a2 ⊢
    have a3 := lc_W (L := L) (sn := sn) (sg := false) (pg := pg) (f := 3) (by omega) 3 s3
    omega
  · simp only [cond_true]
    exact Nat.zero_add _
theorem W_12 {L : Nat} {n : List ab_M} {su : Bool} {sn : Int32} {sg : Bool} {se : Int32} {pg : Nat → Nat → Int32} {md : Nat → Nat → Nat} {en : Nat → Nat → Int32} {sd : Nat → Option ab_M} {ln : Nat → List ab_M} {C : Nat → ab_C} {h : ha_H} (hc : CV L n su sn sg se pg md en sd ln C h) : f_W (n, md, en, sd, ln) ≤ 12 := by
  have a0 := (cp_ln hc 0 (by omega)).2.1
  have a1 := (cp_ln hc 1 (by omega)).2.1
  have a2 := (cp_ln hc 2 (by omega)).2.1
  have a3 := (cp_ln hc 3 (by omega)).2.1
  show (ln 0).length + (ln 1).length + (ln 2).length + (ln 3).length ≤ 12
  omega
theorem gk_12 {L : Nat} {n : List ab_M} {su : Bool} {sn : Int32} {sg : Bool} {se : Int32} {pg : Nat → Nat → Int32} {md : Nat → Nat → Nat} {en : Nat → Nat → Int32} {sd : Nat → Option ab_M} {ln : Nat → List ab_M} {C : Nat → ab_C} {h : ha_H} (hc : CV L n su sn sg se pg md en sd ln C h) (pg' : Nat → Nat → Int32) : f_gk L sn sg pg' (n, md, en, sd, ln) ≤ 12 := by
  have := gk_W (L := L) (sn := sn) (sg := sg) (pg := pg') (n, md, en, sd, ln)
  have := W_12 hc
  omega
theorem hd_n {l : List ab_M} (e : l.head? = none) : l = [] := by
  cases l with
  | nil => rfl
  | cons a t => cases e
theorem hd_s {l : List ab_M} {m : ab_M} (e : l.head? = some m) : ∃ t, l = m :: t := by
  cases l with
  | nil => cases e
  | cons a t => cases e; exact ⟨t, rfl⟩
theorem cS_gtL (G : mt_G) (h0 : ha_H) {L : Nat} {su : Bool} {sn : Int32} {sg : Bool} {se : Int32} {pg : Nat → Nat → Int32} {C : Nat → ab_C} {f : Nat} (hf4 : f < 4) {zc zs rc rs : Nat} {post : Option ha_V → ha_H → Prop} : ∀ (k i : Nat) (_ : i + k = 3) (x : Option ha_V) (s : ab_5) (h : ha_H), CV L s.1 su sn sg se pg s.2.1 s.2.2.1 s.2.2.2.1 s.2.2.2.2 C h → hp_le h0 h → (∀ (y : Option ha_V) (j : Nat) (h' : ha_H), CV L (f_li L sn sg pg f k s).1 su sn sg se pg (f_li L sn sg pg f k s).2.1 (f_li L sn sg pg f k s).2.2.1 (f_li L sn sg pg f k s).2.2.2.1 (f_li L sn sg pg f k s).2.2.2.2 C h' → hp_le h0 h' → rn_W G xS_goThroughLines (4, zc, zs) rc rs 71 [some (.inr (some 4)), some (.inl (nI f)), some (.inl (nI j)), y] [] h' post) → rn_W G xS_goThroughLines (4, zc, zs) (rc + 2 * f_lc L sn sg pg f k s) (rs + 11 * f_lc L sn sg pg f k s) 17 [some (.inr (some 4)), some (.inl (nI f)), some (.inl (nI i)), x] [] h post
  | 0, i, hik, x, s, h, hc, hf, hp => by
    have hi : i = 3 := by omega
    subst hi
    refine rn_eq (rc' := rc) (rs' := rs) rfl rfl ?_
    refine rw_iload_n (pc := 17) dS_goThroughLines_17 rfl ?_
    refine rw_iconst (pc := 18) (x := nI 3) dS_goThroughLines_18 (by decide) ?_
    refine rw_icmpge (pc := 19) dS_goThroughLines_19 (tgt := 71) rfl (fun c1 => ?_) (fun c1 => ?_)
    · skip
      replace c1 : 3 ≤ 3 := (nI_leI (a := 3) (b := 3) (by omega) (by omega)).mp c1
      exact hp _ 3 _ hc hf
    · skip
      replace c1 : ¬ (3 ≤ 3) := fun qz => c1 ((nI_leI (a := 3) (b := 3) (by omega) (by omega)).mpr qz)
      exact absurd (by decide) c1
  | k + 1, i, hik, x, s, h, hc, hf, hp => by
    have hi3 : i < 3 := by omega
    refine rw_iload_n (pc := 17) dS_goThroughLines_17 rfl ?_
    refine rw_iconst (pc := 18) (x := nI 3) dS_goThroughLines_18 (by decide) ?_
    refine rw_icmpge (pc := 19) dS_goThroughLines_19 (tgt := 71) rfl (fun c2 => ?_) (fun c2 => ?_)
    · skip
      replace c2 : 3 ≤ i := (nI_leI (a := 3) (b := i) (by omega) (by omega)).mp c2
      omega
    · skip
      replace c2 : ¬ (3 ≤ i) := fun qz => c2 ((nI_leI (a := 3) (b := i) (by omega) (by omega)).mpr qz)
      refine rw_aload_n (pc := 22) dS_goThroughLines_22 rfl ?_
      refine rw_getR (pc := 23) (x := some 19) flS_30_S dS_goThroughLines_23 (cs_o hc (by omega) (by omega)) (cs_S4 hc) (cr_4_6 hc) ?_
      refine rw_iload_n (pc := 26) dS_goThroughLines_26 rfl ?_
      refine rw_aald (pc := 27) (v := some (20 + 2 * f)) (i := f) (t := 4) rfl ⟨rfl, by decide⟩ dS_goThroughLines_27 (cs_o hc (by omega) (by omega)) (cs_S19 hc) (ix_nI (by omega) (by decide)) (cr_19 hc (by omega)) ?_
      refine rw_vr (pc := 28) (z' := (0, 0, 0)) (rc' := (rc + 2 * f_lc L sn sg pg f (k + 1) s)) (rs' := (rs + 11 * f_lc L sn sg pg f (k + 1) s)) (av := []) (st := []) (ci := 3) mlS_164 miQ_first rfl mvQ_first_Q dS_goThroughLines_28 (cs_o hc (by omega) (by omega)) (cs_SQ hc (by omega)) (cQ_first G _ hc (by omega)) rfl rfl (Nat.le_of_ble_eq_true rfl) (Nat.le_of_ble_eq_true rfl) rfl rfl (fun r3 h3 q3 => ?_)
      obtain ⟨rfl, q3⟩ := q3
      rcases q3 with ⟨e1, rfl⟩ | ⟨m, j, e1, rfl, k1, k2, hm⟩
      · skip
        have e2 := hd_n e1
        refine rw_astore_n (pc := 31) (L' := [some (.inr (some 4)), some (.inl (nI f)), some (.inl (nI i)), some (.inr none)]) dS_goThroughLines_31 (by decide) rfl ?_
        refine rw_aload_n (pc := 32) dS_goThroughLines_32 rfl ?_
        refine rw_ifnull (pc := 33) dS_goThroughLines_33 (tgt := 71) rfl (fun c4 => ?_) (fun rc4 c4 => ?_)
        · skip
          have hF : f_li L sn sg pg f (k + 1) s = s := by unfold f_li; rw [e2]
          have hL : f_lc L sn sg pg f (k + 1) s = 0 := by unfold f_lc; rw [e2]
          rw [hL]
          rw [hF] at hp
          exact hp _ i _ hc hf
        · skip
          cases c4
      · skip
        obtain ⟨tl, e2⟩ := hd_s e1
        have hk3 : am_k m ≤ 3 := by omega
        have hl := hm.2.2.1.1
        have hf4m := hm.2.2.1.2
        refine rw_astore_n (pc := 31) (L' := [some (.inr (some 4)), some (.inl (nI f)), some (.inl (nI i)), some (.inr (some j))]) dS_goThroughLines_31 (by decide) rfl ?_
        refine rw_aload_n (pc := 32) dS_goThroughLines_32 rfl ?_
        refine rw_ifnull (pc := 33) dS_goThroughLines_33 (tgt := 71) rfl (fun c5 => ?_) (fun rc5 c5 => ?_)
        · skip
          cases c5
        · skip
          refine rw_aload_n (pc := 36) dS_goThroughLines_36 rfl ?_
          refine rw_aload_n (pc := 37) dS_goThroughLines_37 rfl ?_
          refine rw_vi (pc := 38) (z' := (2, 0, 0)) (rc' := (rc + 2 * f_lc L sn sg pg f (k + 1) s)) (rs' := (rs + 11 * f_lc L sn sg pg f (k + 1) s)) (av := [.inr (some j)]) (st := []) (ci := 2) mlS_127 miS_conflictsWithAny rfl mvS_conflictsWithAny_S dS_goThroughLines_38 (cs_o hc (by omega) (by omega)) (cs_S4 hc) (cS_conflictsWithAny G _ hc hm hk3) rfl rfl (Nat.le_of_ble_eq_true rfl) (Nat.le_of_ble_eq_true rfl) rfl rfl (fun r6 h6 q6 => ?_)
          obtain ⟨rfl, rfl⟩ := q6
          refine rw_ifeq (pc := 41) dS_goThroughLines_41 (tgt := 47) rfl (fun c7 => ?_) (fun c7 => ?_)
          · skip
            replace c7 : (f_ca s.2.1 m) = false := (m_bi0 _).mp c7
            have hcf := c7
            have hcl : f_lc L sn sg pg f (k + 1) s = f_lc L sn sg pg f k (f_gr L sn sg pg m (s.1, s.2.1, s.2.2.1, s.2.2.2.1, fu s.2.2.2.2 f (f_out (s.2.2.2.2 f) (am_c m)))) + 1 := by
              show (match s.2.2.2.2 f with | [] => 0 | m :: _ => bif f_ca s.2.1 m then 0 else f_lc L sn sg pg f k (f_gr L sn sg pg m (s.1, s.2.1, s.2.2.1, s.2.2.2.1, fu s.2.2.2.2 f (f_out (s.2.2.2.2 f) (am_c m)))) + 1) = _
              rw [e2]
              show (bif f_ca s.2.1 m then 0 else f_lc L sn sg pg f k (f_gr L sn sg pg m (s.1, s.2.1, s.2.2.1, s.2.2.2.1, fu s.2.2.2.2 f (f_out (m :: tl) (am_c m)))) + 1) = _
              rw [hcf]; rfl
            refine rw_aload_n (pc := 47) dS_goThroughLines_47 rfl ?_
            refine rw_getR (pc := 48) (x := some 19) flS_30_S dS_goThroughLines_48 (cs_o hc (by omega) (by omega)) (cs_S4 hc) (cr_4_6 hc) ?_
            refine rw_iload_n (pc := 51) dS_goThroughLines_51 rfl ?_
            refine rw_aald (pc := 52) (v := some (20 + 2 * f)) (i := f) (t := 4) rfl ⟨rfl, by decide⟩ dS_goThroughLines_52 (cs_o hc (by omega) (by omega)) (cs_S19 hc) (ix_nI (by omega) (by decide)) (cr_19 hc (by omega)) ?_
            refine rw_aload_n (pc := 53) dS_goThroughLines_53 rfl ?_
            refine rw_getI (pc := 54) (x := nI (am_c m)) flS_75_R dS_goThroughLines_54 (cm_o hm) (cm_q hm hk3).2.1 hm.2.1.2.1 ?_
            refine rw_vv (pc := 57) (z' := (1, 0, 0)) (rc' := (rc + 2 * f_lc L sn sg pg f (k + 1) s)) (rs' := (rs + 11 * f_lc L sn sg pg f (k + 1) s)) (av := [.inl (nI (am_c m))]) (st := []) (ci := 3) mlS_168 miQ_takeOut rfl mvQ_takeOut_Q dS_goThroughLines_57 (cs_o hc (by omega) (by omega)) (cs_SQ hc (by omega)) (cQ_takeOut G _ hc (f := f) (by omega) hl) rfl rfl (Nat.le_of_ble_eq_true rfl) (Nat.le_of_ble_eq_true rfl) rfl rfl (fun h8 q8 => ?_)
            obtain ⟨hc, hf1⟩ := q8
            replace hm := cm_le hm hf1
            replace hf := le_tr hf hf1
            refine rw_aload_n (pc := 60) dS_goThroughLines_60 rfl ?_
            refine rw_aload_n (pc := 61) dS_goThroughLines_61 rfl ?_
            refine rw_vv (pc := 62) (z' := (3, 2, 11)) (rc' := rc + 2 * f_lc L sn sg pg f k (f_gr L sn sg pg m (s.1, s.2.1, s.2.2.1, s.2.2.2.1, fu s.2.2.2.2 f (f_out (s.2.2.2.2 f) (am_c m))))) (rs' := rs + 11 * f_lc L sn sg pg f k (f_gr L sn sg pg m (s.1, s.2.1, s.2.2.1, s.2.2.2.1, fu s.2.2.2.2 f (f_out (s.2.2.2.2 f) (am_c m))))) (av := [.inr (some j)]) (st := []) (ci := 2) mlS_130 miS_grant rfl mvS_grant_S dS_goThroughLines_62 (cs_o hc (by omega) (by omega)) (cs_S4 hc) (cS_grant G _ hc hm hk3) rfl rfl (Nat.le_of_ble_eq_true rfl) (Nat.le_of_ble_eq_true rfl) (by show _ + 2 = _; rw [hcl]; omega) (by show _ + 11 = _; rw [hcl]; omega) (fun h9 q9 => ?_)
            obtain ⟨hc, hf1⟩ := q9
            replace hm := cm_le hm hf1
            replace hf := le_tr hf hf1
            refine rw_iinc (pc := 65) (x := nI i) (y := nI (i + 1)) (L' := [some (.inr (some 4)), some (.inl (nI f)), some (.inl (nI (i + 1))), some (.inr (some j))]) dS_goThroughLines_65 (by decide) rfl (nI_add _ 1) rfl ?_
            refine rw_goto (pc := 68) dS_goThroughLines_68 (tgt := 17) rfl ?_
            have hF : f_li L sn sg pg f (k + 1) s = f_li L sn sg pg f k (f_gr L sn sg pg m (s.1, s.2.1, s.2.2.1, s.2.2.2.1, fu s.2.2.2.2 f (f_out (s.2.2.2.2 f) (am_c m)))) := by
              show (match s.2.2.2.2 f with | [] => s | m :: _ => bif f_ca s.2.1 m then s else f_li L sn sg pg f k (f_gr L sn sg pg m (s.1, s.2.1, s.2.2.1, s.2.2.2.1, fu s.2.2.2.2 f (f_out (s.2.2.2.2 f) (am_c m))))) = _
              rw [e2]
              show (bif f_ca s.2.1 m then s else f_li L sn sg pg f k (f_gr L sn sg pg m (s.1, s.2.1, s.2.2.1, s.2.2.2.1, fu s.2.2.2.2 f (f_out (m :: tl) (am_c m))))) = _
              rw [hcf]; rfl
            rw [hF] at hp
            exact cS_gtL G h0 hf4 k (i + 1) (by omega) _ (f_gr L sn sg pg m (s.1, s.2.1, s.2.2.1, s.2.2.2.1, fu s.2.2.2.2 f (f_out (s.2.2.2.2 f) (am_c m)))) _ hc hf hp
          · skip
            replace c7 : (f_ca s.2.1 m) = true := mb_T c7
            refine rw_goto (pc := 44) dS_goThroughLines_44 (tgt := 71) rfl ?_
            have hF : f_li L sn sg pg f (k + 1) s = s := by unfold f_li; rw [e2]; show (bif f_ca s.2.1 m then s else _) = s; rw [c7]; rfl
            have hL : f_lc L sn sg pg f (k + 1) s = 0 := by unfold f_lc; rw [e2]; show (bif f_ca s.2.1 m then 0 else _) = 0; rw [c7]; rfl
            rw [hL]
            rw [hF] at hp
            exact hp _ i _ hc hf
theorem cS_goThroughLines (G : mt_G) (h : ha_H) {L : Nat} {n : List ab_M} {su : Bool} {sn : Int32} {sg : Bool} {se : Int32} {pg : Nat → Nat → Int32} {md : Nat → Nat → Nat} {en : Nat → Nat → Int32} {sd : Nat → Option ab_M} {ln : Nat → List ab_M} {C : Nat → ab_C} (hc : CV L n su sn sg se pg md en sd ln C h) : rn_M G xS_goThroughLines (4, 2 * (f_gk L sn sg pg (n, md, en, sd, ln)), 11 * (f_gk L sn sg pg (n, md, en, sd, ln))) [.inr (some 4)] h (rn_v (fun h' => CV L (f_gt L sn sg pg (n, md, en, sd, ln)).1 su sn sg se pg (f_gt L sn sg pg (n, md, en, sd, ln)).2.1 (f_gt L sn sg pg (n, md, en, sd, ln)).2.2.1 (f_gt L sn sg pg (n, md, en, sd, ln)).2.2.2.1 (f_gt L sn sg pg (n, md, en, sd, ln)).2.2.2.2 C h' ∧ hp_le h h')) := by
  have hf := le_rf h
  refine rn_of (by decide +kernel) (Nat.le_of_ble_eq_true rfl) ?_
  show rn_W G xS_goThroughLines (4, 2 * (f_gk L sn sg pg (n, md, en, sd, ln)), 11 * (f_gk L sn sg pg (n, md, en, sd, ln))) (2 * (f_gk L sn sg pg (n, md, en, sd, ln))) (11 * (f_gk L sn sg pg (n, md, en, sd, ln))) 0 [some (.inr (some 4)), none, none, none] [] h _
  refine rw_aload_n (pc := 0) dS_goThroughLines_0 rfl ?_
  refine rw_getI (pc := 1) (x := m_bi sg) flS_42_S dS_goThroughLines_1 (cs_o hc (by omega) (by omega)) (cs_S4 hc) (cp_sg hc) ?_
  refine rw_ifeq (pc := 4) dS_goThroughLines_4 (tgt := 8) rfl (fun c1 => ?_) (fun c1 => ?_)
  · skip
    replace c1 : sg = false := (m_bi0 _).mp c1
    refine rw_iconst (pc := 8) (x := nI 0) dS_goThroughLines_8 (by decide) ?_
    refine rw_istore_n (pc := 9) (L' := [some (.inr (some 4)), some (.inl (nI 0)), none, none]) dS_goThroughLines_9 (by decide) rfl ?_
    refine rw_iload_n (pc := 10) dS_goThroughLines_10 rfl ?_
    refine rw_iconst (pc := 11) (x := nI 4) dS_goThroughLines_11 (by decide) ?_
    refine rw_icmpge (pc := 12) dS_goThroughLines_12 (tgt := 77) rfl (fun c2 => ?_) (fun c2 => ?_)
    · skip
      replace c2 : 4 ≤ 0 := (nI_leI (a := 4) (b := 0) (by omega) (by omega)).mp c2
      exact absurd c2 (by decide)
    · skip
      replace c2 : ¬ (4 ≤ 0) := fun qz => c2 ((nI_leI (a := 4) (b := 0) (by omega) (by omega)).mpr qz)
      refine rw_iconst (pc := 15) (x := nI 0) dS_goThroughLines_15 (by decide) ?_
      refine rw_istore_n (pc := 16) (L' := [some (.inr (some 4)), some (.inl (nI 0)), some (.inl (nI 0)), none]) dS_goThroughLines_16 (by decide) rfl ?_
      refine rn_eq (rc' := 2 * (f_lc L sn sg pg 3 3 (f_li L sn sg pg 2 3 (f_li L sn sg pg 1 3 (f_li L sn sg pg 0 3 (n, md, en, sd, ln)))) + f_lc L sn sg pg 2 3 (f_li L sn sg pg 1 3 (f_li L sn sg pg 0 3 (n, md, en, sd, ln))) + f_lc L sn sg pg 1 3 (f_li L sn sg pg 0 3 (n, md, en, sd, ln))) + 2 * (f_lc L sn sg pg 0 3 (n, md, en, sd, ln))) (rs' := 11 * (f_lc L sn sg pg 3 3 (f_li L sn sg pg 2 3 (f_li L sn sg pg 1 3 (f_li L sn sg pg 0 3 (n, md, en, sd, ln)))) + f_lc L sn sg pg 2 3 (f_li L sn sg pg 1 3 (f_li L sn sg pg 0 3 (n, md, en, sd, ln))) + f_lc L sn sg pg 1 3 (f_li L sn sg pg 0 3 (n, md, en, sd, ln))) + 11 * (f_lc L sn sg pg 0 3 (n, md, en, sd, ln))) (by unfold f_gk f_gc; rw [c1]; simp only [cond_false]; omega) (by unfold f_gk f_gc; rw [c1]; simp only [cond_false]; omega) (cS_gtL G h (by omega) 3 0 rfl _ (n, md, en, sd, ln) _ hc hf (fun y3 j3 g3 hc hf => ?_))
      refine rw_iinc (pc := 71) (x := nI 0) (y := nI 1) (L' := [some (.inr (some 4)), some (.inl (nI 1)), some (.inl (nI j3)), y3]) dS_goThroughLines_71 (by decide) rfl (by decide) rfl ?_
      refine rw_goto (pc := 74) dS_goThroughLines_74 (tgt := 10) rfl ?_
      refine rw_iload_n (pc := 10) dS_goThroughLines_10 rfl ?_
      refine rw_iconst (pc := 11) (x := nI 4) dS_goThroughLines_11 (by decide) ?_
      refine rw_icmpge (pc := 12) dS_goThroughLines_12 (tgt := 77) rfl (fun c4 => ?_) (fun c4 => ?_)
      · skip
        replace c4 : 4 ≤ 1 := (nI_leI (a := 4) (b := 1) (by omega) (by omega)).mp c4
        exact absurd c4 (by decide)
      · skip
        replace c4 : ¬ (4 ≤ 1) := fun qz => c4 ((nI_leI (a := 4) (b := 1) (by omega) (by omega)).mpr qz)
        refine rw_iconst (pc := 15) (x := nI 0) dS_goThroughLines_15 (by decide) ?_
        refine rw_istore_n (pc := 16) (L' := [some (.inr (some 4)), some (.inl (nI 1)), some (.inl (nI 0)), y3]) dS_goThroughLines_16 (by decide) rfl ?_
        refine rn_eq (rc' := 2 * (f_lc L sn sg pg 3 3 (f_li L sn sg pg 2 3 (f_li L sn sg pg 1 3 (f_li L sn sg pg 0 3 (n, md, en, sd, ln)))) + f_lc L sn sg pg 2 3 (f_li L sn sg pg 1 3 (f_li L sn sg pg 0 3 (n, md, en, sd, ln)))) + 2 * (f_lc L sn sg pg 1 3 (f_li L sn sg pg 0 3 (n, md, en, sd, ln)))) (rs' := 11 * (f_lc L sn sg pg 3 3 (f_li L sn sg pg 2 3 (f_li L sn sg pg 1 3 (f_li L sn sg pg 0 3 (n, md, en, sd, ln)))) + f_lc L sn sg pg 2 3 (f_li L sn sg pg 1 3 (f_li L sn sg pg 0 3 (n, md, en, sd, ln)))) + 11 * (f_lc L sn sg pg 1 3 (f_li L sn sg pg 0 3 (n, md, en, sd, ln)))) (by omega) (by omega) (cS_gtL G h (by omega) 3 0 rfl _ (f_li L sn sg pg 0 3 (n, md, en, sd, ln)) _ hc hf (fun y5 j5 g5 hc hf => ?_))
        refine rw_iinc (pc := 71) (x := nI 1) (y := nI 2) (L' := [some (.inr (some 4)), some (.inl (nI 2)), some (.inl (nI j5)), y5]) dS_goThroughLines_71 (by decide) rfl (by decide) rfl ?_
        refine rw_goto (pc := 74) dS_goThroughLines_74 (tgt := 10) rfl ?_
        refine rw_iload_n (pc := 10) dS_goThroughLines_10 rfl ?_
        refine rw_iconst (pc := 11) (x := nI 4) dS_goThroughLines_11 (by decide) ?_
        refine rw_icmpge (pc := 12) dS_goThroughLines_12 (tgt := 77) rfl (fun c6 => ?_) (fun c6 => ?_)
        · skip
          replace c6 : 4 ≤ 2 := (nI_leI (a := 4) (b := 2) (by omega) (by omega)).mp c6
          exact absurd c6 (by decide)
        · skip
          replace c6 : ¬ (4 ≤ 2) := fun qz => c6 ((nI_leI (a := 4) (b := 2) (by omega) (by omega)).mpr qz)
          refine rw_iconst (pc := 15) (x := nI 0) dS_goThroughLines_15 (by decide) ?_
          refine rw_istore_n (pc := 16) (L' := [some (.inr (some 4)), some (.inl (nI 2)), some (.inl (nI 0)), y5]) dS_goThroughLines_16 (by decide) rfl ?_
          refine rn_eq (rc' := 2 * (f_lc L sn sg pg 3 3 (f_li L sn sg pg 2 3 (f_li L sn sg pg 1 3 (f_li L sn sg pg 0 3 (n, md, en, sd, ln))))) + 2 * (f_lc L sn sg pg 2 3 (f_li L sn sg pg 1 3 (f_li L sn sg pg 0 3 (n, md, en, sd, ln))))) (rs' := 11 * (f_lc L sn sg pg 3 3 (f_li L sn sg pg 2 3 (f_li L sn sg pg 1 3 (f_li L sn sg pg 0 3 (n, md, en, sd, ln))))) + 11 * (f_lc L sn sg pg 2 3 (f_li L sn sg pg 1 3 (f_li L sn sg pg 0 3 (n, md, en, sd, ln))))) (by omega) (by omega) (cS_gtL G h (by omega) 3 0 rfl _ (f_li L sn sg pg 1 3 (f_li L sn sg pg 0 3 (n, md, en, sd, ln))) _ hc hf (fun y7 j7 g7 hc hf => ?_))
          refine rw_iinc (pc := 71) (x := nI 2) (y := nI 3) (L' := [some (.inr (some 4)), some (.inl (nI 3)), some (.inl (nI j7)), y7]) dS_goThroughLines_71 (by decide) rfl (by decide) rfl ?_
          refine rw_goto (pc := 74) dS_goThroughLines_74 (tgt := 10) rfl ?_
          refine rw_iload_n (pc := 10) dS_goThroughLines_10 rfl ?_
          refine rw_iconst (pc := 11) (x := nI 4) dS_goThroughLines_11 (by decide) ?_
          refine rw_icmpge (pc := 12) dS_goThroughLines_12 (tgt := 77) rfl (fun c8 => ?_) (fun c8 => ?_)
          · skip
            replace c8 : 4 ≤ 3 := (nI_leI (a := 4) (b := 3) (by omega) (by omega)).mp c8
            exact absurd c8 (by decide)
          · skip
            replace c8 : ¬ (4 ≤ 3) := fun qz => c8 ((nI_leI (a := 4) (b := 3) (by omega) (by omega)).mpr qz)
            refine rw_iconst (pc := 15) (x := nI 0) dS_goThroughLines_15 (by decide) ?_
            refine rw_istore_n (pc := 16) (L' := [some (.inr (some 4)), some (.inl (nI 3)), some (.inl (nI 0)), y7]) dS_goThroughLines_16 (by decide) rfl ?_
            refine rn_eq (rc' := 2 * (0) + 2 * (f_lc L sn sg pg 3 3 (f_li L sn sg pg 2 3 (f_li L sn sg pg 1 3 (f_li L sn sg pg 0 3 (n, md, en, sd, ln)))))) (rs' := 11 * (0) + 11 * (f_lc L sn sg pg 3 3 (f_li L sn sg pg 2 3 (f_li L sn sg pg 1 3 (f_li L sn sg pg 0 3 (n, md, en, sd, ln)))))) (by omega) (by omega) (cS_gtL G h (by omega) 3 0 rfl _ (f_li L sn sg pg 2 3 (f_li L sn sg pg 1 3 (f_li L sn sg pg 0 3 (n, md, en, sd, ln)))) _ hc hf (fun y9 j9 g9 hc hf => ?_))
            refine rw_iinc (pc := 71) (x := nI 3) (y := nI 4) (L' := [some (.inr (some 4)), some (.inl (nI 4)), some (.inl (nI j9)), y9]) dS_goThroughLines_71 (by decide) rfl (by decide) rfl ?_
            refine rw_goto (pc := 74) dS_goThroughLines_74 (tgt := 10) rfl ?_
            refine rw_iload_n (pc := 10) dS_goThroughLines_10 rfl ?_
            refine rw_iconst (pc := 11) (x := nI 4) dS_goThroughLines_11 (by decide) ?_
            refine rw_icmpge (pc := 12) dS_goThroughLines_12 (tgt := 77) rfl (fun c10 => ?_) (fun c10 => ?_)
            · skip
              replace c10 : 4 ≤ 4 := (nI_leI (a := 4) (b := 4) (by omega) (by omega)).mp c10
              have hF : f_gt L sn sg pg (n, md, en, sd, ln) = f_li L sn sg pg 3 3 (f_li L sn sg pg 2 3 (f_li L sn sg pg 1 3 (f_li L sn sg pg 0 3 (n, md, en, sd, ln)))) := by unfold f_gt f_go; rw [c1]; rfl
              rw [hF]
              exact rw_vret (pc := 77) dS_goThroughLines_77 rfl ⟨rfl, hc, hf⟩
            · skip
              replace c10 : ¬ (4 ≤ 4) := fun qz => c10 ((nI_leI (a := 4) (b := 4) (by omega) (by omega)).mpr qz)
              exact absurd (by decide) c10
  · skip
    replace c1 : sg = true := mb_T c1
    have hF : f_gt L sn sg pg (n, md, en, sd, ln) = (n, md, en, sd, ln) := by unfold f_gt; rw [c1]; rfl
    rw [hF]
    exact rw_vret (pc := 7) dS_goThroughLines_7 rfl ⟨rfl, hc, hf⟩
def f_e1 (sn : Int32) (en : Nat → Nat → Int32) (c f : Nat) (md : Nat → Nat → Nat) : Nat → Nat → Nat := fu2 md c f (if en c f ≤ sn then 0 else md c f)
theorem fu2_id {α : Type} (g : Nat → Nat → α) (i j : Nat) : fu2 g i j (g i j) = g := by
  funext x y
  unfold fu2
  by_cases e : x = i ∧ y = j
  · rw [if_pos e, e.1, e.2]
  · rw [if_neg e]
theorem cS_elS (G : mt_G) (h0 h : ha_H) {L : Nat} {n : List ab_M} {su : Bool} {sn : Int32} {sg : Bool} {se : Int32} {pg : Nat → Nat → Int32} {md : Nat → Nat → Nat} {en : Nat → Nat → Int32} {sd : Nat → Option ab_M} {ln : Nat → List ab_M} {C : Nat → ab_C} (hc : CV L n su sn sg se pg md en sd ln C h) (hf : hp_le h0 h) {c f : Nat} (hl : c < 3) (hf4 : f < 4) {post : Option ha_V → ha_H → Prop} (hp : ∀ h', CV L n su sn sg se pg (f_e1 sn en c f md) en sd ln C h' → hp_le h0 h' → rn_W G xS_endLeases (0, 0, 0) 0 0 38 [some (.inr (some 4)), some (.inl (nI c)), some (.inl (nI f))] [] h' post) : rn_W G xS_endLeases (0, 0, 0) 0 0 14 [some (.inr (some 4)), some (.inl (nI c)), some (.inl (nI f))] [] h post := by
  have hm2 := (cp_md hc c f hl hf4).2
  refine rw_aload_n (pc := 14) dS_endLeases_14 rfl ?_
  refine rw_getR (pc := 15) (x := some 15) flS_25_S dS_endLeases_15 (cs_o hc (by omega) (by omega)) (cs_S4 hc) (cr_4_5 hc) ?_
  refine rw_iload_n (pc := 18) dS_endLeases_18 rfl ?_
  refine rw_aald (pc := 19) (v := some (16 + c)) (i := c) (t := 9) rfl ⟨rfl, by decide⟩ dS_endLeases_19 (cs_o hc (by omega) (by omega)) (cs_S15 hc) (ix_nI (by omega) (by decide)) (cr_15 hc (by omega)) ?_
  refine rw_iload_n (pc := 20) dS_endLeases_20 rfl ?_
  refine rw_iald (pc := 21) (v := en c f) (i := f) dS_endLeases_21 (cs_o hc (by omega) (by omega)) (cs_Sen hc (by omega)) (ix_nI (by omega) (by decide)) ((cp_en hc) _ _ (by omega) (by omega)) ?_
  refine rw_aload_n (pc := 22) dS_endLeases_22 rfl ?_
  refine rw_getI (pc := 23) (x := sn) flS_38_S dS_endLeases_23 (cs_o hc (by omega) (by omega)) (cs_S4 hc) (cp_sn hc) ?_
  refine rw_icmpgt (pc := 26) dS_endLeases_26 (tgt := 38) rfl (fun c1 => ?_) (fun c1 => ?_)
  · skip
    have hE : f_e1 sn en c f md = md := by unfold f_e1; rw [if_neg (Int32.not_le.mpr c1)]; exact fu2_id md c f
    rw [hE] at hp
    exact hp _ hc hf
  · skip
    refine rw_aload_n (pc := 29) dS_endLeases_29 rfl ?_
    refine rw_getR (pc := 30) (x := some 11) flS_22_S dS_endLeases_30 (cs_o hc (by omega) (by omega)) (cs_S4 hc) (cr_4_4 hc) ?_
    refine rw_iload_n (pc := 33) dS_endLeases_33 rfl ?_
    refine rw_aald (pc := 34) (v := some (12 + c)) (i := c) (t := 9) rfl ⟨rfl, by decide⟩ dS_endLeases_34 (cs_o hc (by omega) (by omega)) (cs_S11 hc) (ix_nI (by omega) (by decide)) (cr_11 hc (by omega)) ?_
    refine rw_iload_n (pc := 35) dS_endLeases_35 rfl ?_
    refine rw_iconst (pc := 36) (x := nI 0) dS_endLeases_36 (by decide) ?_
    refine rw_iast (pc := 37) (i := f) dS_endLeases_37 (cs_o hc (by omega) (by omega)) (cs_Smd hc (by omega)) (ix_nI (by omega) (by decide)) ?_
    replace hc := wv_md hc (i := c) (j := f) (by omega) (by omega) 0 (by omega)
    replace hf := le_tr hf (le_sI (h := h) (A := (12 + c)) (k := f) (v := (nI 0)) (by omega))
    generalize hp_sI h (12 + c) f (nI 0) = g2 at hc hf ⊢
    have hE : f_e1 sn en c f md = fu2 md c f 0 := by unfold f_e1; rw [if_pos (Int32.not_lt.mp c1)]
    rw [hE] at hp
    exact hp _ hc hf
theorem cS_endLeases (G : mt_G) (h : ha_H) {L : Nat} {n : List ab_M} {su : Bool} {sn : Int32} {sg : Bool} {se : Int32} {pg : Nat → Nat → Int32} {md : Nat → Nat → Nat} {en : Nat → Nat → Int32} {sd : Nat → Option ab_M} {ln : Nat → List ab_M} {C : Nat → ab_C} (hc : CV L n su sn sg se pg md en sd ln C h) : rn_M G xS_endLeases (0, 0, 0) [.inr (some 4)] h (rn_v (fun h' => CV L n su sn sg se pg (f_el sn md en) en sd ln C h' ∧ hp_le h h')) := by
  have hf := le_rf h
  refine rn_of (by decide +kernel) (Nat.le_of_ble_eq_true rfl) ?_
  show rn_W G xS_endLeases (0, 0, 0) 0 0 0 [some (.inr (some 4)), none, none] [] h _
  refine rw_iconst (pc := 0) (x := nI 0) dS_endLeases_0 (by decide) ?_
  refine rw_istore_n (pc := 1) (L' := [some (.inr (some 4)), some (.inl (nI 0)), none]) dS_endLeases_1 (by decide) rfl ?_
  refine rw_iload_n (pc := 2) dS_endLeases_2 rfl ?_
  refine rw_iconst (pc := 3) (x := nI 3) dS_endLeases_3 (by decide) ?_
  refine rw_icmpge (pc := 4) dS_endLeases_4 (tgt := 50) rfl (fun c1 => ?_) (fun c1 => ?_)
  · skip
    replace c1 : 3 ≤ 0 := (nI_leI (a := 3) (b := 0) (by omega) (by omega)).mp c1
    exact absurd c1 (by decide)
  · skip
    replace c1 : ¬ (3 ≤ 0) := fun qz => c1 ((nI_leI (a := 3) (b := 0) (by omega) (by omega)).mpr qz)
    refine rw_iconst (pc := 7) (x := nI 0) dS_endLeases_7 (by decide) ?_
    refine rw_istore_n (pc := 8) (L' := [some (.inr (some 4)), some (.inl (nI 0)), some (.inl (nI 0))]) dS_endLeases_8 (by decide) rfl ?_
    refine rw_iload_n (pc := 9) dS_endLeases_9 rfl ?_
    refine rw_iconst (pc := 10) (x := nI 4) dS_endLeases_10 (by decide) ?_
    refine rw_icmpge (pc := 11) dS_endLeases_11 (tgt := 44) rfl (fun c2 => ?_) (fun c2 => ?_)
    · skip
      replace c2 : 4 ≤ 0 := (nI_leI (a := 4) (b := 0) (by omega) (by omega)).mp c2
      exact absurd c2 (by decide)
    · skip
      replace c2 : ¬ (4 ≤ 0) := fun qz => c2 ((nI_leI (a := 4) (b := 0) (by omega) (by omega)).mpr qz)
      refine cS_elS G h _ hc hf (c := 0) (f := 0) (by omega) (by omega) (fun g3 hc hf => ?_)
      refine rw_iinc (pc := 38) (x := nI 0) (y := nI 1) (L' := [some (.inr (some 4)), some (.inl (nI 0)), some (.inl (nI 1))]) dS_endLeases_38 (by decide) rfl (by decide) rfl ?_
      refine rw_goto (pc := 41) dS_endLeases_41 (tgt := 9) rfl ?_
      refine rw_iload_n (pc := 9) dS_endLeases_9 rfl ?_
      refine rw_iconst (pc := 10) (x := nI 4) dS_endLeases_10 (by decide) ?_
      refine rw_icmpge (pc := 11) dS_endLeases_11 (tgt := 44) rfl (fun c4 => ?_) (fun c4 => ?_)
      · skip
        replace c4 : 4 ≤ 1 := (nI_leI (a := 4) (b := 1) (by omega) (by omega)).mp c4
        exact absurd c4 (by decide)
      · skip
        replace c4 : ¬ (4 ≤ 1) := fun qz => c4 ((nI_leI (a := 4) (b := 1) (by omega) (by omega)).mpr qz)
        refine cS_elS G h _ hc hf (c := 0) (f := 1) (by omega) (by omega) (fun g5 hc hf => ?_)
        refine rw_iinc (pc := 38) (x := nI 1) (y := nI 2) (L' := [some (.inr (some 4)), some (.inl (nI 0)), some (.inl (nI 2))]) dS_endLeases_38 (by decide) rfl (by decide) rfl ?_
        refine rw_goto (pc := 41) dS_endLeases_41 (tgt := 9) rfl ?_
        refine rw_iload_n (pc := 9) dS_endLeases_9 rfl ?_
        refine rw_iconst (pc := 10) (x := nI 4) dS_endLeases_10 (by decide) ?_
        refine rw_icmpge (pc := 11) dS_endLeases_11 (tgt := 44) rfl (fun c6 => ?_) (fun c6 => ?_)
        · skip
          replace c6 : 4 ≤ 2 := (nI_leI (a := 4) (b := 2) (by omega) (by omega)).mp c6
          exact absurd c6 (by decide)
        · skip
          replace c6 : ¬ (4 ≤ 2) := fun qz => c6 ((nI_leI (a := 4) (b := 2) (by omega) (by omega)).mpr qz)
          refine cS_elS G h _ hc hf (c := 0) (f := 2) (by omega) (by omega) (fun g7 hc hf => ?_)
          refine rw_iinc (pc := 38) (x := nI 2) (y := nI 3) (L' := [some (.inr (some 4)), some (.inl (nI 0)), some (.inl (nI 3))]) dS_endLeases_38 (by decide) rfl (by decide) rfl ?_
          refine rw_goto (pc := 41) dS_endLeases_41 (tgt := 9) rfl ?_
          refine rw_iload_n (pc := 9) dS_endLeases_9 rfl ?_
          refine rw_iconst (pc := 10) (x := nI 4) dS_endLeases_10 (by decide) ?_
          refine rw_icmpge (pc := 11) dS_endLeases_11 (tgt := 44) rfl (fun c8 => ?_) (fun c8 => ?_)
          · skip
            replace c8 : 4 ≤ 3 := (nI_leI (a := 4) (b := 3) (by omega) (by omega)).mp c8
            exact absurd c8 (by decide)
          · skip
            replace c8 : ¬ (4 ≤ 3) := fun qz => c8 ((nI_leI (a := 4) (b := 3) (by omega) (by omega)).mpr qz)
            refine cS_elS G h _ hc hf (c := 0) (f := 3) (by omega) (by omega) (fun g9 hc hf => ?_)
            refine rw_iinc (pc := 38) (x := nI 3) (y := nI 4) (L' := [some (.inr (some 4)), some (.inl (nI 0)), some (.inl (nI 4))]) dS_endLeases_38 (by decide) rfl (by decide) rfl ?_
            refine rw_goto (pc := 41) dS_endLeases_41 (tgt := 9) rfl ?_
            refine rw_iload_n (pc := 9) dS_endLeases_9 rfl ?_
            refine rw_iconst (pc := 10) (x := nI 4) dS_endLeases_10 (by decide) ?_
            refine rw_icmpge (pc := 11) dS_endLeases_11 (tgt := 44) rfl (fun c10 => ?_) (fun c10 => ?_)
            · skip
              replace c10 : 4 ≤ 4 := (nI_leI (a := 4) (b := 4) (by omega) (by omega)).mp c10
              refine rw_iinc (pc := 44) (x := nI 0) (y := nI 1) (L' := [some (.inr (some 4)), some (.inl (nI 1)), some (.inl (nI 4))]) dS_endLeases_44 (by decide) rfl (by decide) rfl ?_
              refine rw_goto (pc := 47) dS_endLeases_47 (tgt := 2) rfl ?_
              refine rw_iload_n (pc := 2) dS_endLeases_2 rfl ?_
              refine rw_iconst (pc := 3) (x := nI 3) dS_endLeases_3 (by decide) ?_
              refine rw_icmpge (pc := 4) dS_endLeases_4 (tgt := 50) rfl (fun c11 => ?_) (fun c11 => ?_)
              · skip
                replace c11 : 3 ≤ 1 := (nI_leI (a := 3) (b := 1) (by omega) (by omega)).mp c11
                exact absurd c11 (by decide)
              · skip
                replace c11 : ¬ (3 ≤ 1) := fun qz => c11 ((nI_leI (a := 3) (b := 1) (by omega) (by omega)).mpr qz)
                refine rw_iconst (pc := 7) (x := nI 0) dS_endLeases_7 (by decide) ?_
                refine rw_istore_n (pc := 8) (L' := [some (.inr (some 4)), some (.inl (nI 1)), some (.inl (nI 0))]) dS_endLeases_8 (by decide) rfl ?_
                refine rw_iload_n (pc := 9) dS_endLeases_9 rfl ?_
                refine rw_iconst (pc := 10) (x := nI 4) dS_endLeases_10 (by decide) ?_
                refine rw_icmpge (pc := 11) dS_endLeases_11 (tgt := 44) rfl (fun c12 => ?_) (fun c12 => ?_)
                · skip
                  replace c12 : 4 ≤ 0 := (nI_leI (a := 4) (b := 0) (by omega) (by omega)).mp c12
                  exact absurd c12 (by decide)
                · skip
                  replace c12 : ¬ (4 ≤ 0) := fun qz => c12 ((nI_leI (a := 4) (b := 0) (by omega) (by omega)).mpr qz)
                  refine cS_elS G h _ hc hf (c := 1) (f := 0) (by omega) (by omega) (fun g13 hc hf => ?_)
                  refine rw_iinc (pc := 38) (x := nI 0) (y := nI 1) (L' := [some (.inr (some 4)), some (.inl (nI 1)), some (.inl (nI 1))]) dS_endLeases_38 (by decide) rfl (by decide) rfl ?_
                  refine rw_goto (pc := 41) dS_endLeases_41 (tgt := 9) rfl ?_
                  refine rw_iload_n (pc := 9) dS_endLeases_9 rfl ?_
                  refine rw_iconst (pc := 10) (x := nI 4) dS_endLeases_10 (by decide) ?_
                  refine rw_icmpge (pc := 11) dS_endLeases_11 (tgt := 44) rfl (fun c14 => ?_) (fun c14 => ?_)
                  · skip
                    replace c14 : 4 ≤ 1 := (nI_leI (a := 4) (b := 1) (by omega) (by omega)).mp c14
                    exact absurd c14 (by decide)
                  · skip
                    replace c14 : ¬ (4 ≤ 1) := fun qz => c14 ((nI_leI (a := 4) (b := 1) (by omega) (by omega)).mpr qz)
                    refine cS_elS G h _ hc hf (c := 1) (f := 1) (by omega) (by omega) (fun g15 hc hf => ?_)
                    refine rw_iinc (pc := 38) (x := nI 1) (y := nI 2) (L' := [some (.inr (some 4)), some (.inl (nI 1)), some (.inl (nI 2))]) dS_endLeases_38 (by decide) rfl (by decide) rfl ?_
                    refine rw_goto (pc := 41) dS_endLeases_41 (tgt := 9) rfl ?_
                    refine rw_iload_n (pc := 9) dS_endLeases_9 rfl ?_
                    refine rw_iconst (pc := 10) (x := nI 4) dS_endLeases_10 (by decide) ?_
                    refine rw_icmpge (pc := 11) dS_endLeases_11 (tgt := 44) rfl (fun c16 => ?_) (fun c16 => ?_)
                    · skip
                      replace c16 : 4 ≤ 2 := (nI_leI (a := 4) (b := 2) (by omega) (by omega)).mp c16
                      exact absurd c16 (by decide)
                    · skip
                      replace c16 : ¬ (4 ≤ 2) := fun qz => c16 ((nI_leI (a := 4) (b := 2) (by omega) (by omega)).mpr qz)
                      refine cS_elS G h _ hc hf (c := 1) (f := 2) (by omega) (by omega) (fun g17 hc hf => ?_)
                      refine rw_iinc (pc := 38) (x := nI 2) (y := nI 3) (L' := [some (.inr (some 4)), some (.inl (nI 1)), some (.inl (nI 3))]) dS_endLeases_38 (by decide) rfl (by decide) rfl ?_
                      refine rw_goto (pc := 41) dS_endLeases_41 (tgt := 9) rfl ?_
                      refine rw_iload_n (pc := 9) dS_endLeases_9 rfl ?_
                      refine rw_iconst (pc := 10) (x := nI 4) dS_endLeases_10 (by decide) ?_
                      refine rw_icmpge (pc := 11) dS_endLeases_11 (tgt := 44) rfl (fun c18 => ?_) (fun c18 => ?_)
                      · skip
                        replace c18 : 4 ≤ 3 := (nI_leI (a := 4) (b := 3) (by omega) (by omega)).mp c18
                        exact absurd c18 (by decide)
                      · skip
                        replace c18 : ¬ (4 ≤ 3) := fun qz => c18 ((nI_leI (a := 4) (b := 3) (by omega) (by omega)).mpr qz)
                        refine cS_elS G h _ hc hf (c := 1) (f := 3) (by omega) (by omega) (fun g19 hc hf => ?_)
                        refine rw_iinc (pc := 38) (x := nI 3) (y := nI 4) (L' := [some (.inr (some 4)), some (.inl (nI 1)), some (.inl (nI 4))]) dS_endLeases_38 (by decide) rfl (by decide) rfl ?_
                        refine rw_goto (pc := 41) dS_endLeases_41 (tgt := 9) rfl ?_
                        refine rw_iload_n (pc := 9) dS_endLeases_9 rfl ?_
                        refine rw_iconst (pc := 10) (x := nI 4) dS_endLeases_10 (by decide) ?_
                        refine rw_icmpge (pc := 11) dS_endLeases_11 (tgt := 44) rfl (fun c20 => ?_) (fun c20 => ?_)
                        · skip
                          replace c20 : 4 ≤ 4 := (nI_leI (a := 4) (b := 4) (by omega) (by omega)).mp c20
                          refine rw_iinc (pc := 44) (x := nI 1) (y := nI 2) (L' := [some (.inr (some 4)), some (.inl (nI 2)), some (.inl (nI 4))]) dS_endLeases_44 (by decide) rfl (by decide) rfl ?_
                          refine rw_goto (pc := 47) dS_endLeases_47 (tgt := 2) rfl ?_
                          refine rw_iload_n (pc := 2) dS_endLeases_2 rfl ?_
                          refine rw_iconst (pc := 3) (x := nI 3) dS_endLeases_3 (by decide) ?_
                          refine rw_icmpge (pc := 4) dS_endLeases_4 (tgt := 50) rfl (fun c21 => ?_) (fun c21 => ?_)
                          · skip
                            replace c21 : 3 ≤ 2 := (nI_leI (a := 3) (b := 2) (by omega) (by omega)).mp c21
                            exact absurd c21 (by decide)
                          · skip
                            replace c21 : ¬ (3 ≤ 2) := fun qz => c21 ((nI_leI (a := 3) (b := 2) (by omega) (by omega)).mpr qz)
                            refine rw_iconst (pc := 7) (x := nI 0) dS_endLeases_7 (by decide) ?_
                            refine rw_istore_n (pc := 8) (L' := [some (.inr (some 4)), some (.inl (nI 2)), some (.inl (nI 0))]) dS_endLeases_8 (by decide) rfl ?_
                            refine rw_iload_n (pc := 9) dS_endLeases_9 rfl ?_
                            refine rw_iconst (pc := 10) (x := nI 4) dS_endLeases_10 (by decide) ?_
                            refine rw_icmpge (pc := 11) dS_endLeases_11 (tgt := 44) rfl (fun c22 => ?_) (fun c22 => ?_)
                            · skip
                              replace c22 : 4 ≤ 0 := (nI_leI (a := 4) (b := 0) (by omega) (by omega)).mp c22
                              exact absurd c22 (by decide)
                            · skip
                              replace c22 : ¬ (4 ≤ 0) := fun qz => c22 ((nI_leI (a := 4) (b := 0) (by omega) (by omega)).mpr qz)
                              refine cS_elS G h _ hc hf (c := 2) (f := 0) (by omega) (by omega) (fun g23 hc hf => ?_)
                              refine rw_iinc (pc := 38) (x := nI 0) (y := nI 1) (L' := [some (.inr (some 4)), some (.inl (nI 2)), some (.inl (nI 1))]) dS_endLeases_38 (by decide) rfl (by decide) rfl ?_
                              refine rw_goto (pc := 41) dS_endLeases_41 (tgt := 9) rfl ?_
                              refine rw_iload_n (pc := 9) dS_endLeases_9 rfl ?_
                              refine rw_iconst (pc := 10) (x := nI 4) dS_endLeases_10 (by decide) ?_
                              refine rw_icmpge (pc := 11) dS_endLeases_11 (tgt := 44) rfl (fun c24 => ?_) (fun c24 => ?_)
                              · skip
                                replace c24 : 4 ≤ 1 := (nI_leI (a := 4) (b := 1) (by omega) (by omega)).mp c24
                                exact absurd c24 (by decide)
                              · skip
                                replace c24 : ¬ (4 ≤ 1) := fun qz => c24 ((nI_leI (a := 4) (b := 1) (by omega) (by omega)).mpr qz)
                                refine cS_elS G h _ hc hf (c := 2) (f := 1) (by omega) (by omega) (fun g25 hc hf => ?_)
                                refine rw_iinc (pc := 38) (x := nI 1) (y := nI 2) (L' := [some (.inr (some 4)), some (.inl (nI 2)), some (.inl (nI 2))]) dS_endLeases_38 (by decide) rfl (by decide) rfl ?_
                                refine rw_goto (pc := 41) dS_endLeases_41 (tgt := 9) rfl ?_
                                refine rw_iload_n (pc := 9) dS_endLeases_9 rfl ?_
                                refine rw_iconst (pc := 10) (x := nI 4) dS_endLeases_10 (by decide) ?_
                                refine rw_icmpge (pc := 11) dS_endLeases_11 (tgt := 44) rfl (fun c26 => ?_) (fun c26 => ?_)
                                · skip
                                  replace c26 : 4 ≤ 2 := (nI_leI (a := 4) (b := 2) (by omega) (by omega)).mp c26
                                  exact absurd c26 (by decide)
                                · skip
                                  replace c26 : ¬ (4 ≤ 2) := fun qz => c26 ((nI_leI (a := 4) (b := 2) (by omega) (by omega)).mpr qz)
                                  refine cS_elS G h _ hc hf (c := 2) (f := 2) (by omega) (by omega) (fun g27 hc hf => ?_)
                                  refine rw_iinc (pc := 38) (x := nI 2) (y := nI 3) (L' := [some (.inr (some 4)), some (.inl (nI 2)), some (.inl (nI 3))]) dS_endLeases_38 (by decide) rfl (by decide) rfl ?_
                                  refine rw_goto (pc := 41) dS_endLeases_41 (tgt := 9) rfl ?_
                                  refine rw_iload_n (pc := 9) dS_endLeases_9 rfl ?_
                                  refine rw_iconst (pc := 10) (x := nI 4) dS_endLeases_10 (by decide) ?_
                                  refine rw_icmpge (pc := 11) dS_endLeases_11 (tgt := 44) rfl (fun c28 => ?_) (fun c28 => ?_)
                                  · skip
                                    replace c28 : 4 ≤ 3 := (nI_leI (a := 4) (b := 3) (by omega) (by omega)).mp c28
                                    exact absurd c28 (by decide)
                                  · skip
                                    replace c28 : ¬ (4 ≤ 3) := fun qz => c28 ((nI_leI (a := 4) (b := 3) (by omega) (by omega)).mpr qz)
                                    refine cS_elS G h _ hc hf (c := 2) (f := 3) (by omega) (by omega) (fun g29 hc hf => ?_)
                                    refine rw_iinc (pc := 38) (x := nI 3) (y := nI 4) (L' := [some (.inr (some 4)), some (.inl (nI 2)), some (.inl (nI 4))]) dS_endLeases_38 (by decide) rfl (by decide) rfl ?_
                                    refine rw_goto (pc := 41) dS_endLeases_41 (tgt := 9) rfl ?_
                                    refine rw_iload_n (pc := 9) dS_endLeases_9 rfl ?_
                                    refine rw_iconst (pc := 10) (x := nI 4) dS_endLeases_10 (by decide) ?_
                                    refine rw_icmpge (pc := 11) dS_endLeases_11 (tgt := 44) rfl (fun c30 => ?_) (fun c30 => ?_)
                                    · skip
                                      replace c30 : 4 ≤ 4 := (nI_leI (a := 4) (b := 4) (by omega) (by omega)).mp c30
                                      refine rw_iinc (pc := 44) (x := nI 2) (y := nI 3) (L' := [some (.inr (some 4)), some (.inl (nI 3)), some (.inl (nI 4))]) dS_endLeases_44 (by decide) rfl (by decide) rfl ?_
                                      refine rw_goto (pc := 47) dS_endLeases_47 (tgt := 2) rfl ?_
                                      refine rw_iload_n (pc := 2) dS_endLeases_2 rfl ?_
                                      refine rw_iconst (pc := 3) (x := nI 3) dS_endLeases_3 (by decide) ?_
                                      refine rw_icmpge (pc := 4) dS_endLeases_4 (tgt := 50) rfl (fun c31 => ?_) (fun c31 => ?_)
                                      · skip
                                        replace c31 : 3 ≤ 3 := (nI_leI (a := 3) (b := 3) (by omega) (by omega)).mp c31
                                        refine rw_vret (pc := 50) dS_endLeases_50 rfl ⟨rfl, cv_mdx hc (fun c f h1 h2 => ?_), hf⟩
                                        rcases (by omega : c = 0 ∨ c = 1 ∨ c = 2) with rfl | rfl | rfl <;> rcases (by omega : f = 0 ∨ f = 1 ∨ f = 2 ∨ f = 3) with rfl | rfl | rfl | rfl <;> simp [f_e1, f_el, fu2]
                                      · skip
                                        replace c31 : ¬ (3 ≤ 3) := fun qz => c31 ((nI_leI (a := 3) (b := 3) (by omega) (by omega)).mpr qz)
                                        exact absurd (by decide) c31
                                    · skip
                                      replace c30 : ¬ (4 ≤ 4) := fun qz => c30 ((nI_leI (a := 4) (b := 4) (by omega) (by omega)).mpr qz)
                                      exact absurd (by decide) c30
                        · skip
                          replace c20 : ¬ (4 ≤ 4) := fun qz => c20 ((nI_leI (a := 4) (b := 4) (by omega) (by omega)).mpr qz)
                          exact absurd (by decide) c20
            · skip
              replace c10 : ¬ (4 ≤ 4) := fun qz => c10 ((nI_leI (a := 4) (b := 4) (by omega) (by omega)).mpr qz)
              exact absurd (by decide) c10
theorem cS_advL (G : mt_G) (h0 : ha_H) {L : Nat} {su : Bool} {se : Int32} {pg : Nat → Nat → Int32} {C : Nat → ab_C} {k : Nat} (hk : k ≤ 100) {zc zs : Nat} : ∀ (d i : Nat) (_ : i + d = k) (w : ab_7) (h : ha_H) (rc rs : Nat), CV L w.2.2.1 su w.1 w.2.1 se pg w.2.2.2.1 w.2.2.2.2.1 w.2.2.2.2.2.1 w.2.2.2.2.2.2 C h → hp_le h0 h → 2 * f_W w.2.2 ≤ rc → 11 * f_W w.2.2 ≤ rs → rn_W G xS_advance (5, zc, zs) rc rs 2 [some (.inr (some 4)), some (.inl (nI k)), some (.inl (nI i))] [] h (rn_v (fun h' => CV L ((ft_n L se pg d w).2.2.1) su ((ft_n L se pg d w).1) ((ft_n L se pg d w).2.1) se pg ((ft_n L se pg d w).2.2.2.1) ((ft_n L se pg d w).2.2.2.2.1) ((ft_n L se pg d w).2.2.2.2.2.1) ((ft_n L se pg d w).2.2.2.2.2.2) C h' ∧ hp_le h0 h'))
  | 0, i, hik, w, h, rc, rs, hc, hf, hw1, hw2 => by
    have hi : i = k := by omega
    subst hi
    refine rw_iload_n (pc := 2) dS_advance_2 rfl ?_
    refine rw_iload_n (pc := 3) dS_advance_3 rfl ?_
    refine rw_icmpge (pc := 4) dS_advance_4 (tgt := 47) rfl (fun c1 => ?_) (fun c1 => ?_)
    · skip
      replace c1 : i ≤ i := (nI_leI (a := i) (b := i) (by omega) (by omega)).mp c1
      exact rw_vret (pc := 47) dS_advance_47 rfl ⟨rfl, hc, hf⟩
    · skip
      replace c1 : ¬ (i ≤ i) := fun qz => c1 ((nI_leI (a := i) (b := i) (by omega) (by omega)).mpr qz)
      exact absurd (Nat.le_refl _) c1
  | d + 1, i, hik, w, h, rc, rs, hc, hf, hw1, hw2 => by
    have hik' : i < k := by omega
    refine rw_iload_n (pc := 2) dS_advance_2 rfl ?_
    refine rw_iload_n (pc := 3) dS_advance_3 rfl ?_
    refine rw_icmpge (pc := 4) dS_advance_4 (tgt := 47) rfl (fun c1 => ?_) (fun c1 => ?_)
    · skip
      replace c1 : k ≤ i := (nI_leI (a := k) (b := i) (by omega) (by omega)).mp c1
      omega
    · skip
      replace c1 : ¬ (k ≤ i) := fun qz => c1 ((nI_leI (a := k) (b := i) (by omega) (by omega)).mpr qz)
      refine rw_aload_n (pc := 7) dS_advance_7 rfl ?_
      refine rw_dup (pc := 8) dS_advance_8 ?_
      refine rw_getI (pc := 9) (x := w.1) flS_38_S dS_advance_9 (cs_o hc (by omega) (by omega)) (cs_S4 hc) (cp_sn hc) ?_
      refine rw_iconst (pc := 12) (x := nI 1) dS_advance_12 (by decide) ?_
      refine rw_iadd (pc := 13) (v := w.1 + (nI 1)) dS_advance_13 rfl ?_
      refine rw_putI (pc := 14) pfS_38_S dS_advance_14 (cs_o hc (by omega) (by omega)) (cs_S4 hc) ?_
      replace hc := wv_sn hc (w.1 + (nI 1))
      replace hf := le_tr hf (le_sI (h := h) (A := 4) (k := 8) (v := (w.1 + (nI 1))) (by omega))
      generalize hp_sI h 4 8 (w.1 + (nI 1)) = g2 at hc hf ⊢
      refine rw_aload_n (pc := 17) dS_advance_17 rfl ?_
      refine rw_vv (pc := 18) (z' := (0, 0, 0)) (rc' := rc) (rs' := rs) (av := []) (st := []) (ci := 2) mlS_65 miS_endLeases rfl mvS_endLeases_S dS_advance_18 (cs_o hc (by omega) (by omega)) (cs_S4 hc) (cS_endLeases G _ hc) rfl rfl (Nat.le_of_ble_eq_true rfl) (Nat.le_of_ble_eq_true rfl) rfl rfl (fun h3 q3 => ?_)
      obtain ⟨hc, hf1⟩ := q3
      replace hf := le_tr hf hf1
      refine rw_aload_n (pc := 21) dS_advance_21 rfl ?_
      refine rw_getI (pc := 22) (x := w.1 + (nI 1)) flS_38_S dS_advance_22 (cs_o hc (by omega) (by omega)) (cs_S4 hc) (cp_sn hc) ?_
      refine rw_aload_n (pc := 25) dS_advance_25 rfl ?_
      refine rw_getI (pc := 26) (x := se) flS_45_S dS_advance_26 (cs_o hc (by omega) (by omega)) (cs_S4 hc) (cp_se hc) ?_
      refine rw_icmplt (pc := 29) dS_advance_29 (tgt := 37) rfl (fun c4 => ?_) (fun c4 => ?_)
      · skip
        refine rw_aload_n (pc := 37) dS_advance_37 rfl ?_
        have hg0 := gk_W (L := L) (sn := w.1 + (nI 1)) (sg := w.2.1) (pg := pg) (w.2.2.1, f_el (w.1 + (nI 1)) w.2.2.2.1 w.2.2.2.2.1, w.2.2.2.2.1, w.2.2.2.2.2.1, w.2.2.2.2.2.2)
        have hw3 : f_W (w.2.2.1, f_el (w.1 + (nI 1)) w.2.2.2.1 w.2.2.2.2.1, w.2.2.2.2.1, w.2.2.2.2.2.1, w.2.2.2.2.2.2) = f_W w.2.2 := rfl
        refine rw_vv (pc := 38) (z' := (4, 2 * (f_gk L (w.1 + (nI 1)) w.2.1 pg (w.2.2.1, f_el (w.1 + (nI 1)) w.2.2.2.1 w.2.2.2.2.1, w.2.2.2.2.1, w.2.2.2.2.2.1, w.2.2.2.2.2.2)), 11 * (f_gk L (w.1 + (nI 1)) w.2.1 pg (w.2.2.1, f_el (w.1 + (nI 1)) w.2.2.2.1 w.2.2.2.2.1, w.2.2.2.2.1, w.2.2.2.2.2.1, w.2.2.2.2.2.2)))) (rc' := (rc - 2 * (f_gk L (w.1 + (nI 1)) w.2.1 pg (w.2.2.1, f_el (w.1 + (nI 1)) w.2.2.2.1 w.2.2.2.2.1, w.2.2.2.2.1, w.2.2.2.2.2.1, w.2.2.2.2.2.2)))) (rs' := (rs - 11 * (f_gk L (w.1 + (nI 1)) w.2.1 pg (w.2.2.1, f_el (w.1 + (nI 1)) w.2.2.2.1 w.2.2.2.2.1, w.2.2.2.2.1, w.2.2.2.2.2.1, w.2.2.2.2.2.2)))) (av := []) (st := []) (ci := 2) mlS_68 miS_goThroughLines rfl mvS_goThroughLines_S dS_advance_38 (cs_o hc (by omega) (by omega)) (cs_S4 hc) (cS_goThroughLines G _ hc) rfl rfl (Nat.le_of_ble_eq_true rfl) (Nat.le_of_ble_eq_true rfl) (Nat.sub_add_cancel (by omega)) (Nat.sub_add_cancel (by omega)) (fun h5 q5 => ?_)
        obtain ⟨hc, hf1⟩ := q5
        replace hf := le_tr hf hf1
        refine rw_iinc (pc := 41) (x := nI i) (y := nI (i + 1)) (L' := [some (.inr (some 4)), some (.inl (nI k)), some (.inl (nI (i + 1)))]) dS_advance_41 (by decide) rfl (nI_add _ 1) rfl ?_
        refine rw_goto (pc := 44) dS_advance_44 (tgt := 2) rfl ?_
        have hT : ft_1 L se pg w = (w.1 + (nI 1), w.2.1, f_gt L (w.1 + (nI 1)) w.2.1 pg (w.2.2.1, f_el (w.1 + (nI 1)) w.2.2.2.1 w.2.2.2.2.1, w.2.2.2.2.1, w.2.2.2.2.2.1, w.2.2.2.2.2.2)) := by unfold ft_1; rw [if_neg (Int32.not_le.mpr c4)]
        have hI := cS_advL G h0 (L := L) (su := su) (se := se) (pg := pg) (C := C) hk (zc := zc) (zs := zs) d (i + 1) (by omega) (ft_1 L se pg w) _ ((rc - 2 * (f_gk L (w.1 + (nI 1)) w.2.1 pg (w.2.2.1, f_el (w.1 + (nI 1)) w.2.2.2.1 w.2.2.2.2.1, w.2.2.2.2.1, w.2.2.2.2.2.1, w.2.2.2.2.2.2)))) ((rs - 11 * (f_gk L (w.1 + (nI 1)) w.2.1 pg (w.2.2.1, f_el (w.1 + (nI 1)) w.2.2.2.1 w.2.2.2.2.1, w.2.2.2.2.1, w.2.2.2.2.2.1, w.2.2.2.2.2.2)))) (by rw [hT]; exact hc) hf (by rw [hT]; show 2 * f_W (f_gt L (w.1 + (nI 1)) w.2.1 pg (w.2.2.1, f_el (w.1 + (nI 1)) w.2.2.2.1 w.2.2.2.2.1, w.2.2.2.2.1, w.2.2.2.2.2.1, w.2.2.2.2.2.2)) ≤ _; omega) (by rw [hT]; show 11 * f_W (f_gt L (w.1 + (nI 1)) w.2.1 pg (w.2.2.1, f_el (w.1 + (nI 1)) w.2.2.2.1 w.2.2.2.2.1, w.2.2.2.2.1, w.2.2.2.2.2.1, w.2.2.2.2.2.2)) ≤ _; omega)
        exact hI
      · skip
        refine rw_aload_n (pc := 32) dS_advance_32 rfl ?_
        refine rw_iconst (pc := 33) (x := nI 0) dS_advance_33 (by decide) ?_
        refine rw_putZ (pc := 34) pfS_42_S dS_advance_34 (cs_o hc (by omega) (by omega)) (cs_S4 hc) (Or.inl rfl) ?_
        replace hc := wv_sg hc false
        replace hf := le_tr hf (le_sI (h := h3) (A := 4) (k := 9) (v := (m_bi false)) (by omega))
        show rn_W G xS_advance (5, zc, zs) rc rs 37 [some (.inr (some 4)), some (.inl (nI k)), some (.inl (nI i))] [] (hp_sI h3 4 9 (m_bi false)) _
        generalize hp_sI h3 4 9 (m_bi false) = g6 at hc hf ⊢
        refine rw_aload_n (pc := 37) dS_advance_37 rfl ?_
        have hg0 := gk_W (L := L) (sn := w.1 + (nI 1)) (sg := false) (pg := pg) (w.2.2.1, f_el (w.1 + (nI 1)) w.2.2.2.1 w.2.2.2.2.1, w.2.2.2.2.1, w.2.2.2.2.2.1, w.2.2.2.2.2.2)
        have hw3 : f_W (w.2.2.1, f_el (w.1 + (nI 1)) w.2.2.2.1 w.2.2.2.2.1, w.2.2.2.2.1, w.2.2.2.2.2.1, w.2.2.2.2.2.2) = f_W w.2.2 := rfl
        refine rw_vv (pc := 38) (z' := (4, 2 * (f_gk L (w.1 + (nI 1)) false pg (w.2.2.1, f_el (w.1 + (nI 1)) w.2.2.2.1 w.2.2.2.2.1, w.2.2.2.2.1, w.2.2.2.2.2.1, w.2.2.2.2.2.2)), 11 * (f_gk L (w.1 + (nI 1)) false pg (w.2.2.1, f_el (w.1 + (nI 1)) w.2.2.2.1 w.2.2.2.2.1, w.2.2.2.2.1, w.2.2.2.2.2.1, w.2.2.2.2.2.2)))) (rc' := (rc - 2 * (f_gk L (w.1 + (nI 1)) false pg (w.2.2.1, f_el (w.1 + (nI 1)) w.2.2.2.1 w.2.2.2.2.1, w.2.2.2.2.1, w.2.2.2.2.2.1, w.2.2.2.2.2.2)))) (rs' := (rs - 11 * (f_gk L (w.1 + (nI 1)) false pg (w.2.2.1, f_el (w.1 + (nI 1)) w.2.2.2.1 w.2.2.2.2.1, w.2.2.2.2.1, w.2.2.2.2.2.1, w.2.2.2.2.2.2)))) (av := []) (st := []) (ci := 2) mlS_68 miS_goThroughLines rfl mvS_goThroughLines_S dS_advance_38 (cs_o hc (by omega) (by omega)) (cs_S4 hc) (cS_goThroughLines G _ hc) rfl rfl (Nat.le_of_ble_eq_true rfl) (Nat.le_of_ble_eq_true rfl) (Nat.sub_add_cancel (by omega)) (Nat.sub_add_cancel (by omega)) (fun h7 q7 => ?_)
        obtain ⟨hc, hf1⟩ := q7
        replace hf := le_tr hf hf1
        refine rw_iinc (pc := 41) (x := nI i) (y := nI (i + 1)) (L' := [some (.inr (some 4)), some (.inl (nI k)), some (.inl (nI (i + 1)))]) dS_advance_41 (by decide) rfl (nI_add _ 1) rfl ?_
        refine rw_goto (pc := 44) dS_advance_44 (tgt := 2) rfl ?_
        have hT : ft_1 L se pg w = (w.1 + (nI 1), false, f_gt L (w.1 + (nI 1)) false pg (w.2.2.1, f_el (w.1 + (nI 1)) w.2.2.2.1 w.2.2.2.2.1, w.2.2.2.2.1, w.2.2.2.2.2.1, w.2.2.2.2.2.2)) := by unfold ft_1; rw [if_pos (Int32.not_lt.mp c4)]
        have hI := cS_advL G h0 (L := L) (su := su) (se := se) (pg := pg) (C := C) hk (zc := zc) (zs := zs) d (i + 1) (by omega) (ft_1 L se pg w) _ ((rc - 2 * (f_gk L (w.1 + (nI 1)) false pg (w.2.2.1, f_el (w.1 + (nI 1)) w.2.2.2.1 w.2.2.2.2.1, w.2.2.2.2.1, w.2.2.2.2.2.1, w.2.2.2.2.2.2)))) ((rs - 11 * (f_gk L (w.1 + (nI 1)) false pg (w.2.2.1, f_el (w.1 + (nI 1)) w.2.2.2.1 w.2.2.2.2.1, w.2.2.2.2.1, w.2.2.2.2.2.1, w.2.2.2.2.2.2)))) (by rw [hT]; exact hc) hf (by rw [hT]; show 2 * f_W (f_gt L (w.1 + (nI 1)) false pg (w.2.2.1, f_el (w.1 + (nI 1)) w.2.2.2.1 w.2.2.2.2.1, w.2.2.2.2.1, w.2.2.2.2.2.1, w.2.2.2.2.2.2)) ≤ _; omega) (by rw [hT]; show 11 * f_W (f_gt L (w.1 + (nI 1)) false pg (w.2.2.1, f_el (w.1 + (nI 1)) w.2.2.2.1 w.2.2.2.2.1, w.2.2.2.2.1, w.2.2.2.2.2.1, w.2.2.2.2.2.2)) ≤ _; omega)
        exact hI
theorem cS_advance (G : mt_G) (h : ha_H) {L : Nat} {n : List ab_M} {su : Bool} {sn : Int32} {sg : Bool} {se : Int32} {pg : Nat → Nat → Int32} {md : Nat → Nat → Nat} {en : Nat → Nat → Int32} {sd : Nat → Option ab_M} {ln : Nat → List ab_M} {C : Nat → ab_C} (hc : CV L n su sn sg se pg md en sd ln C h) {k : Nat} (hk : k ≤ 100) : rn_M G xS_advance (5, 24, 132) [.inr (some 4), .inl (nI k)] h (rn_v (fun h' => CV L ((ft_n L se pg k (sn, sg, n, md, en, sd, ln)).2.2.1) su ((ft_n L se pg k (sn, sg, n, md, en, sd, ln)).1) ((ft_n L se pg k (sn, sg, n, md, en, sd, ln)).2.1) se pg ((ft_n L se pg k (sn, sg, n, md, en, sd, ln)).2.2.2.1) ((ft_n L se pg k (sn, sg, n, md, en, sd, ln)).2.2.2.2.1) ((ft_n L se pg k (sn, sg, n, md, en, sd, ln)).2.2.2.2.2.1) ((ft_n L se pg k (sn, sg, n, md, en, sd, ln)).2.2.2.2.2.2) C h' ∧ hp_le h h')) := by
  have hf := le_rf h
  refine rn_of (by decide +kernel) (Nat.le_of_ble_eq_true rfl) ?_
  show rn_W G xS_advance (5, 24, 132) 24 132 0 [some (.inr (some 4)), some (.inl (nI k)), none] [] h _
  refine rw_iconst (pc := 0) (x := nI 0) dS_advance_0 (by decide) ?_
  refine rw_istore_n (pc := 1) (L' := [some (.inr (some 4)), some (.inl (nI k)), some (.inl (nI 0))]) dS_advance_1 (by decide) rfl ?_
  exact cS_advL G h hk k 0 (by omega) (sn, sg, n, md, en, sd, ln) _ _ _ hc hf (by have := W_12 hc; show 2 * f_W (n, md, en, sd, ln) ≤ 24; omega) (by have := W_12 hc; show 11 * f_W (n, md, en, sd, ln) ≤ 132; omega)
theorem f_r2u (L : Nat) (sn : Int32) (sg : Bool) (pg : Nat → Nat → Int32) (m : ab_M) (s : ab_5) : f_r2 L sn sg pg m s = bif f_wa s.2.2.2.2 m then (pg, s) else if am_k m = 1 then (pg, f_sl L sn sg pg m (f_lo (am_c m) s)) else if am_k m = 2 then f_ss pg m (f_lo (am_c m) s) else (pg, f_sr m (f_lo (am_c m) s)) := rfl
theorem cS_requestArrives0 (G : mt_G) (h : ha_H) {L : Nat} {n : List ab_M} {su : Bool} {sn : Int32} {sg : Bool} {se : Int32} {pg : Nat → Nat → Int32} {md : Nat → Nat → Nat} {en : Nat → Nat → Int32} {sd : Nat → Option ab_M} {ln : Nat → List ab_M} {C : Nat → ab_C} (hc : CV L n su sn sg se pg md en sd ln C h) {i : Nat} {m : ab_M} (hm : cv_M h i m) (hk3 : am_k m ≤ 3) (hes : sd (am_c m) = none) : rn_M G xS_requestArrives (5, 27, 144) [.inr (some 4), .inr (some i)] h (rn_v (fun h' => CV L (f_rQ su L sn sg pg m (n, md, en, sd, ln)).2.1 su sn sg se (f_rQ su L sn sg pg m (n, md, en, sd, ln)).1 (f_rQ su L sn sg pg m (n, md, en, sd, ln)).2.2.1 (f_rQ su L sn sg pg m (n, md, en, sd, ln)).2.2.2.1 (f_rQ su L sn sg pg m (n, md, en, sd, ln)).2.2.2.2.1 (f_rQ su L sn sg pg m (n, md, en, sd, ln)).2.2.2.2.2 C h' ∧ hp_le h h')) := by
  have hf := le_rf h
  have hl := hm.2.2.1.1
  have hf4 := hm.2.2.1.2
  have hq2 := (cm_q hm hk3).2.2.2.1
  have hr0 : hp_R h 10 (am_c m) = none := by have q := cp_sd hc _ hl; rw [hes] at q; exact co_N q
  refine rn_of (by decide +kernel) (Nat.le_of_ble_eq_true rfl) ?_
  show rn_W G xS_requestArrives (5, 27, 144) 27 144 0 [some (.inr (some 4)), some (.inr (some i)), none] [] h _
  refine rw_aload_n (pc := 0) dS_requestArrives_0 rfl ?_
  refine rw_getI (pc := 1) (x := m_bi su) flS_34_S dS_requestArrives_1 (cs_o hc (by omega) (by omega)) (cs_S4 hc) (cp_su hc) ?_
  refine rw_ifne (pc := 4) dS_requestArrives_4 (tgt := 8) rfl (fun c1 => ?_) (fun c1 => ?_)
  · skip
    replace c1 : su = true := mb_T c1
    refine rw_aload_n (pc := 8) dS_requestArrives_8 rfl ?_
    refine rw_getR (pc := 9) (x := some 10) flS_18_S dS_requestArrives_9 (cs_o hc (by omega) (by omega)) (cs_S4 hc) (cr_4_3 hc) ?_
    refine rw_aload_n (pc := 12) dS_requestArrives_12 rfl ?_
    refine rw_getI (pc := 13) (x := nI (am_c m)) flS_75_R dS_requestArrives_13 (cm_o hm) (cm_q hm hk3).2.1 hm.2.1.2.1 ?_
    refine rw_aald (pc := 16) (v := none) (i := (am_c m)) (t := 3) rfl ⟨rfl, by decide⟩ dS_requestArrives_16 (cs_o hc (by omega) (by omega)) (cs_S10 hc) (ix_nI (by omega) (by decide)) hr0 ?_
    refine rw_astore_n (pc := 17) (L' := [some (.inr (some 4)), some (.inr (some i)), some (.inr none)]) dS_requestArrives_17 (by decide) rfl ?_
    refine rw_aload_n (pc := 18) dS_requestArrives_18 rfl ?_
    refine rw_ifnull (pc := 19) dS_requestArrives_19 (tgt := 45) rfl (fun c2 => ?_) (fun rc2 c2 => ?_)
    · skip
      refine rw_aload_n (pc := 45) dS_requestArrives_45 rfl ?_
      refine rw_ifnull (pc := 46) dS_requestArrives_46 (tgt := 60) rfl (fun c3 => ?_) (fun rc3 c3 => ?_)
      · skip
        refine rw_aload_n (pc := 60) dS_requestArrives_60 rfl ?_
        refine rw_aload_n (pc := 61) dS_requestArrives_61 rfl ?_
        refine rw_vi (pc := 62) (z' := (2, 0, 0)) (rc' := 27) (rs' := 144) (av := [.inr (some i)]) (st := []) (ci := 2) mlS_90 miS_waitsAlready rfl mvS_waitsAlready_S dS_requestArrives_62 (cs_o hc (by omega) (by omega)) (cs_S4 hc) (cS_waitsAlready G _ hc hm hk3) rfl rfl (Nat.le_of_ble_eq_true rfl) (by decide) rfl rfl (fun r4 h4 q4 => ?_)
        obtain ⟨rfl, rfl⟩ := q4
        refine rw_ifne (pc := 65) dS_requestArrives_65 (tgt := 113) rfl (fun c5 => ?_) (fun c5 => ?_)
        · skip
          replace c5 : (f_wa ln m) = true := mb_T c5
          refine rw_aload_n (pc := 113) dS_requestArrives_113 rfl ?_
          have hg1 := gk_12 hc pg
          refine rw_vv (pc := 114) (z' := (4, 2 * (f_gk L sn sg pg (n, md, en, sd, ln)), 11 * (f_gk L sn sg pg (n, md, en, sd, ln)))) (rc' := (27 - 2 * (f_gk L sn sg pg (n, md, en, sd, ln)))) (rs' := (144 - 11 * (f_gk L sn sg pg (n, md, en, sd, ln)))) (av := []) (st := []) (ci := 2) mlS_68 miS_goThroughLines rfl mvS_goThroughLines_S dS_requestArrives_114 (cs_o hc (by omega) (by omega)) (cs_S4 hc) (cS_goThroughLines G _ hc) rfl rfl (Nat.le_of_ble_eq_true rfl) (Nat.le_of_ble_eq_true rfl) (Nat.sub_add_cancel (by omega)) (Nat.sub_add_cancel (by omega)) (fun h6 q6 => ?_)
          obtain ⟨hc, hf1⟩ := q6
          replace hm := cm_le hm hf1
          replace hf := le_tr hf hf1
          have hF : f_rQ su L sn sg pg m (n, md, en, sd, ln) = (pg, f_gt L sn sg pg (n, md, en, sd, ln)) := by
            have hB : f_rb L sn sg pg m (n, md, en, sd, ln) = (pg, (n, md, en, sd, ln)) := by
              unfold f_rb
              show (match sd (am_c m) with | none => f_r2 L sn sg pg m (n, md, en, sd, ln) | some r => if am_n m = am_n r then (pg, (f_send n r, md, en, sd, ln)) else if am_n r < am_n m then f_r2 L sn sg pg m (n, md, en, sd, ln) else (pg, (n, md, en, sd, ln))) = _
              rw [hes]
              simp only [f_r2u, f_lo, (show ¬ ((2 : Nat) = 1) by decide), c1, c5, cond_true, cond_false, if_true, if_false]
              try rfl
            unfold f_rQ
            rw [hB, c1]
            rfl
          rw [hF]
          exact rw_vret (pc := 117) dS_requestArrives_117 rfl ⟨rfl, hc, hf⟩
        · skip
          replace c5 : (f_wa ln m) = false := (m_bi0 _).mp c5
          refine rw_aload_n (pc := 68) dS_requestArrives_68 rfl ?_
          refine rw_aload_n (pc := 69) dS_requestArrives_69 rfl ?_
          refine rw_getI (pc := 70) (x := nI (am_c m)) flS_75_R dS_requestArrives_70 (cm_o hm) (cm_q hm hk3).2.1 hm.2.1.2.1 ?_
          refine rw_vv (pc := 73) (z' := (2, 0, 0)) (rc' := 27) (rs' := 144) (av := [.inl (nI (am_c m))]) (st := []) (ci := 2) mlS_94 miS_takeOutOfLines rfl mvS_takeOutOfLines_S dS_requestArrives_73 (cs_o hc (by omega) (by omega)) (cs_S4 hc) (cS_takeOutOfLines G _ hc hl) rfl rfl (Nat.le_of_ble_eq_true rfl) (Nat.le_of_ble_eq_true rfl) rfl rfl (fun h7 q7 => ?_)
          obtain ⟨hc, hf1⟩ := q7
          replace hm := cm_le hm hf1
          replace hf := le_tr hf hf1
          refine rw_aload_n (pc := 76) dS_requestArrives_76 rfl ?_
          refine rw_getI (pc := 77) (x := nI (am_k m)) flS_98_R dS_requestArrives_77 (cm_o hm) (cm_q hm hk3).2.1 hm.2.1.1 ?_
          refine rw_iconst (pc := 80) (x := nI 1) dS_requestArrives_80 (by decide) ?_
          refine rw_icmpne (pc := 81) dS_requestArrives_81 (tgt := 92) rfl (fun c8 => ?_) (fun c8 => ?_)
          · skip
            replace c8 : ¬ ((am_k m) = 1) := fun qz => c8 ((nI_eq (a := (am_k m)) (b := 1) (by omega) (by omega)).mpr qz)
            refine rw_aload_n (pc := 92) dS_requestArrives_92 rfl ?_
            refine rw_getI (pc := 93) (x := nI (am_k m)) flS_98_R dS_requestArrives_93 (cm_o hm) (cm_q hm hk3).2.1 hm.2.1.1 ?_
            refine rw_iconst (pc := 96) (x := nI 2) dS_requestArrives_96 (by decide) ?_
            refine rw_icmpne (pc := 97) dS_requestArrives_97 (tgt := 108) rfl (fun c9 => ?_) (fun c9 => ?_)
            · skip
              replace c9 : ¬ ((am_k m) = 2) := fun qz => c9 ((nI_eq (a := (am_k m)) (b := 2) (by omega) (by omega)).mpr qz)
              refine rw_aload_n (pc := 108) dS_requestArrives_108 rfl ?_
              refine rw_aload_n (pc := 109) dS_requestArrives_109 rfl ?_
              refine rw_vv (pc := 110) (z' := (3, 1, 7)) (rc' := 26) (rs' := 137) (av := [.inr (some i)]) (st := []) (ci := 2) mlS_108 miS_serveRelease rfl mvS_serveRelease_S dS_requestArrives_110 (cs_o hc (by omega) (by omega)) (cs_S4 hc) (cS_serveRelease G _ hc hm hk3) rfl rfl (Nat.le_of_ble_eq_true rfl) (Nat.le_of_ble_eq_true rfl) rfl rfl (fun h10 q10 => ?_)
              obtain ⟨hc, hf1⟩ := q10
              replace hm := cm_le hm hf1
              replace hf := le_tr hf hf1
              refine rw_aload_n (pc := 113) dS_requestArrives_113 rfl ?_
              have hg1 := gk_12 hc pg
              refine rw_vv (pc := 114) (z' := (4, 2 * (f_gk L sn sg pg ((f_sr m (n, md, en, sd, fun f => f_out (ln f) (am_c m))).1, (f_sr m (n, md, en, sd, fun f => f_out (ln f) (am_c m))).2.1, (f_sr m (n, md, en, sd, fun f => f_out (ln f) (am_c m))).2.2.1, (f_sr m (n, md, en, sd, fun f => f_out (ln f) (am_c m))).2.2.2.1, (f_sr m (n, md, en, sd, fun f => f_out (ln f) (am_c m))).2.2.2.2)), 11 * (f_gk L sn sg pg ((f_sr m (n, md, en, sd, fun f => f_out (ln f) (am_c m))).1, (f_sr m (n, md, en, sd, fun f => f_out (ln f) (am_c m))).2.1, (f_sr m (n, md, en, sd, fun f => f_out (ln f) (am_c m))).2.2.1, (f_sr m (n, md, en, sd, fun f => f_out (ln f) (am_c m))).2.2.2.1, (f_sr m (n, md, en, sd, fun f => f_out (ln f) (am_c m))).2.2.2.2)))) (rc' := (26 - 2 * (f_gk L sn sg pg ((f_sr m (n, md, en, sd, fun f => f_out (ln f) (am_c m))).1, (f_sr m (n, md, en, sd, fun f => f_out (ln f) (am_c m))).2.1, (f_sr m (n, md, en, sd, fun f => f_out (ln f) (am_c m))).2.2.1, (f_sr m (n, md, en, sd, fun f => f_out (ln f) (am_c m))).2.2.2.1, (f_sr m (n, md, en, sd, fun f => f_out (ln f) (am_c m))).2.2.2.2)))) (rs' := (137 - 11 * (f_gk L sn sg pg ((f_sr m (n, md, en, sd, fun f => f_out (ln f) (am_c m))).1, (f_sr m (n, md, en, sd, fun f => f_out (ln f) (am_c m))).2.1, (f_sr m (n, md, en, sd, fun f => f_out (ln f) (am_c m))).2.2.1, (f_sr m (n, md, en, sd, fun f => f_out (ln f) (am_c m))).2.2.2.1, (f_sr m (n, md, en, sd, fun f => f_out (ln f) (am_c m))).2.2.2.2)))) (av := []) (st := []) (ci := 2) mlS_68 miS_goThroughLines rfl mvS_goThroughLines_S dS_requestArrives_114 (cs_o hc (by omega) (by omega)) (cs_S4 hc) (cS_goThroughLines G _ hc) rfl rfl (Nat.le_of_ble_eq_true rfl) (Nat.le_of_ble_eq_true rfl) (Nat.sub_add_cancel (by omega)) (Nat.sub_add_cancel (by omega)) (fun h11 q11 => ?_)
              obtain ⟨hc, hf1⟩ := q11
              replace hm := cm_le hm hf1
              replace hf := le_tr hf hf1
              have hF : f_rQ su L sn sg pg m (n, md, en, sd, ln) = (pg, f_gt L sn sg pg ((f_sr m (n, md, en, sd, fun f => f_out (ln f) (am_c m))).1, (f_sr m (n, md, en, sd, fun f => f_out (ln f) (am_c m))).2.1, (f_sr m (n, md, en, sd, fun f => f_out (ln f) (am_c m))).2.2.1, (f_sr m (n, md, en, sd, fun f => f_out (ln f) (am_c m))).2.2.2.1, (f_sr m (n, md, en, sd, fun f => f_out (ln f) (am_c m))).2.2.2.2)) := by
                have hB : f_rb L sn sg pg m (n, md, en, sd, ln) = (pg, ((f_sr m (n, md, en, sd, fun f => f_out (ln f) (am_c m))).1, (f_sr m (n, md, en, sd, fun f => f_out (ln f) (am_c m))).2.1, (f_sr m (n, md, en, sd, fun f => f_out (ln f) (am_c m))).2.2.1, (f_sr m (n, md, en, sd, fun f => f_out (ln f) (am_c m))).2.2.2.1, (f_sr m (n, md, en, sd, fun f => f_out (ln f) (am_c m))).2.2.2.2)) := by
                  unfold f_rb
                  show (match sd (am_c m) with | none => f_r2 L sn sg pg m (n, md, en, sd, ln) | some r => if am_n m = am_n r then (pg, (f_send n r, md, en, sd, ln)) else if am_n r < am_n m then f_r2 L sn sg pg m (n, md, en, sd, ln) else (pg, (n, md, en, sd, ln))) = _
                  rw [hes]
                  simp only [f_r2u, f_lo, (show ¬ ((2 : Nat) = 1) by decide), c1, c5, c8, c9, cond_true, cond_false, if_true, if_false]
                  try rfl
                unfold f_rQ
                rw [hB, c1]
                rfl
              rw [hF]
              exact rw_vret (pc := 117) dS_requestArrives_117 rfl ⟨rfl, hc, hf⟩
            · skip
              replace c9 : (am_k m) = 2 := (nI_eq (a := (am_k m)) (b := 2) (by omega) (by omega)).mp c9
              refine rw_aload_n (pc := 100) dS_requestArrives_100 rfl ?_
              refine rw_aload_n (pc := 101) dS_requestArrives_101 rfl ?_
              refine rw_vv (pc := 102) (z' := (3, 1, 7)) (rc' := 26) (rs' := 137) (av := [.inr (some i)]) (st := []) (ci := 2) mlS_105 miS_serveStore rfl mvS_serveStore_S dS_requestArrives_102 (cs_o hc (by omega) (by omega)) (cs_S4 hc) (cS_serveStore G _ hc hm hk3) rfl rfl (Nat.le_of_ble_eq_true rfl) (Nat.le_of_ble_eq_true rfl) rfl rfl (fun h12 q12 => ?_)
              obtain ⟨hc, hf1⟩ := q12
              replace hm := cm_le hm hf1
              replace hf := le_tr hf hf1
              refine rw_goto (pc := 105) dS_requestArrives_105 (tgt := 113) rfl ?_
              refine rw_aload_n (pc := 113) dS_requestArrives_113 rfl ?_
              have hg1 := gk_12 hc ((f_ss pg m (n, md, en, sd, fun f => f_out (ln f) (am_c m))).1)
              refine rw_vv (pc := 114) (z' := (4, 2 * (f_gk L sn sg ((f_ss pg m (n, md, en, sd, fun f => f_out (ln f) (am_c m))).1) ((f_ss pg m (n, md, en, sd, fun f => f_out (ln f) (am_c m))).2.1, (f_ss pg m (n, md, en, sd, fun f => f_out (ln f) (am_c m))).2.2.1, (f_ss pg m (n, md, en, sd, fun f => f_out (ln f) (am_c m))).2.2.2.1, (f_ss pg m (n, md, en, sd, fun f => f_out (ln f) (am_c m))).2.2.2.2.1, (f_ss pg m (n, md, en, sd, fun f => f_out (ln f) (am_c m))).2.2.2.2.2)), 11 * (f_gk L sn sg ((f_ss pg m (n, md, en, sd, fun f => f_out (ln f) (am_c m))).1) ((f_ss pg m (n, md, en, sd, fun f => f_out (ln f) (am_c m))).2.1, (f_ss pg m (n, md, en, sd, fun f => f_out (ln f) (am_c m))).2.2.1, (f_ss pg m (n, md, en, sd, fun f => f_out (ln f) (am_c m))).2.2.2.1, (f_ss pg m (n, md, en, sd, fun f => f_out (ln f) (am_c m))).2.2.2.2.1, (f_ss pg m (n, md, en, sd, fun f => f_out (ln f) (am_c m))).2.2.2.2.2)))) (rc' := (26 - 2 * (f_gk L sn sg ((f_ss pg m (n, md, en, sd, fun f => f_out (ln f) (am_c m))).1) ((f_ss pg m (n, md, en, sd, fun f => f_out (ln f) (am_c m))).2.1, (f_ss pg m (n, md, en, sd, fun f => f_out (ln f) (am_c m))).2.2.1, (f_ss pg m (n, md, en, sd, fun f => f_out (ln f) (am_c m))).2.2.2.1, (f_ss pg m (n, md, en, sd, fun f => f_out (ln f) (am_c m))).2.2.2.2.1, (f_ss pg m (n, md, en, sd, fun f => f_out (ln f) (am_c m))).2.2.2.2.2)))) (rs' := (137 - 11 * (f_gk L sn sg ((f_ss pg m (n, md, en, sd, fun f => f_out (ln f) (am_c m))).1) ((f_ss pg m (n, md, en, sd, fun f => f_out (ln f) (am_c m))).2.1, (f_ss pg m (n, md, en, sd, fun f => f_out (ln f) (am_c m))).2.2.1, (f_ss pg m (n, md, en, sd, fun f => f_out (ln f) (am_c m))).2.2.2.1, (f_ss pg m (n, md, en, sd, fun f => f_out (ln f) (am_c m))).2.2.2.2.1, (f_ss pg m (n, md, en, sd, fun f => f_out (ln f) (am_c m))).2.2.2.2.2)))) (av := []) (st := []) (ci := 2) mlS_68 miS_goThroughLines rfl mvS_goThroughLines_S dS_requestArrives_114 (cs_o hc (by omega) (by omega)) (cs_S4 hc) (cS_goThroughLines G _ hc) rfl rfl (Nat.le_of_ble_eq_true rfl) (Nat.le_of_ble_eq_true rfl) (Nat.sub_add_cancel (by omega)) (Nat.sub_add_cancel (by omega)) (fun h13 q13 => ?_)
              obtain ⟨hc, hf1⟩ := q13
              replace hm := cm_le hm hf1
              replace hf := le_tr hf hf1
              have hF : f_rQ su L sn sg pg m (n, md, en, sd, ln) = ((f_ss pg m (n, md, en, sd, fun f => f_out (ln f) (am_c m))).1, f_gt L sn sg ((f_ss pg m (n, md, en, sd, fun f => f_out (ln f) (am_c m))).1) ((f_ss pg m (n, md, en, sd, fun f => f_out (ln f) (am_c m))).2.1, (f_ss pg m (n, md, en, sd, fun f => f_out (ln f) (am_c m))).2.2.1, (f_ss pg m (n, md, en, sd, fun f => f_out (ln f) (am_c m))).2.2.2.1, (f_ss pg m (n, md, en, sd, fun f => f_out (ln f) (am_c m))).2.2.2.2.1, (f_ss pg m (n, md, en, sd, fun f => f_out (ln f) (am_c m))).2.2.2.2.2)) := by
                have hB : f_rb L sn sg pg m (n, md, en, sd, ln) = ((f_ss pg m (n, md, en, sd, fun f => f_out (ln f) (am_c m))).1, ((f_ss pg m (n, md, en, sd, fun f => f_out (ln f) (am_c m))).2.1, (f_ss pg m (n, md, en, sd, fun f => f_out (ln f) (am_c m))).2.2.1, (f_ss pg m (n, md, en, sd, fun f => f_out (ln f) (am_c m))).2.2.2.1, (f_ss pg m (n, md, en, sd, fun f => f_out (ln f) (am_c m))).2.2.2.2.1, (f_ss pg m (n, md, en, sd, fun f => f_out (ln f) (am_c m))).2.2.2.2.2)) := by
                  unfold f_rb
                  show (match sd (am_c m) with | none => f_r2 L sn sg pg m (n, md, en, sd, ln) | some r => if am_n m = am_n r then (pg, (f_send n r, md, en, sd, ln)) else if am_n r < am_n m then f_r2 L sn sg pg m (n, md, en, sd, ln) else (pg, (n, md, en, sd, ln))) = _
                  rw [hes]
                  simp only [f_r2u, f_lo, (show ¬ ((2 : Nat) = 1) by decide), c1, c5, c8, c9, cond_true, cond_false, if_true, if_false]
                  try rfl
                unfold f_rQ
                rw [hB, c1]
                rfl
              rw [hF]
              exact rw_vret (pc := 117) dS_requestArrives_117 rfl ⟨rfl, hc, hf⟩
          · skip
            replace c8 : (am_k m) = 1 := (nI_eq (a := (am_k m)) (b := 1) (by omega) (by omega)).mp c8
            refine rw_aload_n (pc := 84) dS_requestArrives_84 rfl ?_
            refine rw_aload_n (pc := 85) dS_requestArrives_85 rfl ?_
            refine rw_vv (pc := 86) (z' := (4, 3, 12)) (rc' := 24) (rs' := 132) (av := [.inr (some i)]) (st := []) (ci := 2) mlS_101 miS_serveLease rfl mvS_serveLease_S dS_requestArrives_86 (cs_o hc (by omega) (by omega)) (cs_S4 hc) (cS_serveLease G _ hc hm c8) rfl rfl (Nat.le_of_ble_eq_true rfl) (Nat.le_of_ble_eq_true rfl) rfl rfl (fun h14 q14 => ?_)
            obtain ⟨hc, hf1⟩ := q14
            replace hm := cm_le hm hf1
            replace hf := le_tr hf hf1
            refine rw_goto (pc := 89) dS_requestArrives_89 (tgt := 113) rfl ?_
            refine rw_aload_n (pc := 113) dS_requestArrives_113 rfl ?_
            have hg1 := gk_12 hc pg
            refine rw_vv (pc := 114) (z' := (4, 2 * (f_gk L sn sg pg ((f_sl L sn sg pg m (n, md, en, sd, fun f => f_out (ln f) (am_c m))).1, (f_sl L sn sg pg m (n, md, en, sd, fun f => f_out (ln f) (am_c m))).2.1, (f_sl L sn sg pg m (n, md, en, sd, fun f => f_out (ln f) (am_c m))).2.2.1, (f_sl L sn sg pg m (n, md, en, sd, fun f => f_out (ln f) (am_c m))).2.2.2.1, (f_sl L sn sg pg m (n, md, en, sd, fun f => f_out (ln f) (am_c m))).2.2.2.2)), 11 * (f_gk L sn sg pg ((f_sl L sn sg pg m (n, md, en, sd, fun f => f_out (ln f) (am_c m))).1, (f_sl L sn sg pg m (n, md, en, sd, fun f => f_out (ln f) (am_c m))).2.1, (f_sl L sn sg pg m (n, md, en, sd, fun f => f_out (ln f) (am_c m))).2.2.1, (f_sl L sn sg pg m (n, md, en, sd, fun f => f_out (ln f) (am_c m))).2.2.2.1, (f_sl L sn sg pg m (n, md, en, sd, fun f => f_out (ln f) (am_c m))).2.2.2.2)))) (rc' := (24 - 2 * (f_gk L sn sg pg ((f_sl L sn sg pg m (n, md, en, sd, fun f => f_out (ln f) (am_c m))).1, (f_sl L sn sg pg m (n, md, en, sd, fun f => f_out (ln f) (am_c m))).2.1, (f_sl L sn sg pg m (n, md, en, sd, fun f => f_out (ln f) (am_c m))).2.2.1, (f_sl L sn sg pg m (n, md, en, sd, fun f => f_out (ln f) (am_c m))).2.2.2.1, (f_sl L sn sg pg m (n, md, en, sd, fun f => f_out (ln f) (am_c m))).2.2.2.2)))) (rs' := (132 - 11 * (f_gk L sn sg pg ((f_sl L sn sg pg m (n, md, en, sd, fun f => f_out (ln f) (am_c m))).1, (f_sl L sn sg pg m (n, md, en, sd, fun f => f_out (ln f) (am_c m))).2.1, (f_sl L sn sg pg m (n, md, en, sd, fun f => f_out (ln f) (am_c m))).2.2.1, (f_sl L sn sg pg m (n, md, en, sd, fun f => f_out (ln f) (am_c m))).2.2.2.1, (f_sl L sn sg pg m (n, md, en, sd, fun f => f_out (ln f) (am_c m))).2.2.2.2)))) (av := []) (st := []) (ci := 2) mlS_68 miS_goThroughLines rfl mvS_goThroughLines_S dS_requestArrives_114 (cs_o hc (by omega) (by omega)) (cs_S4 hc) (cS_goThroughLines G _ hc) rfl rfl (Nat.le_of_ble_eq_true rfl) (Nat.le_of_ble_eq_true rfl) (Nat.sub_add_cancel (by omega)) (Nat.sub_add_cancel (by omega)) (fun h15 q15 => ?_)
            obtain ⟨hc, hf1⟩ := q15
            replace hm := cm_le hm hf1
            replace hf := le_tr hf hf1
            have hF : f_rQ su L sn sg pg m (n, md, en, sd, ln) = (pg, f_gt L sn sg pg ((f_sl L sn sg pg m (n, md, en, sd, fun f => f_out (ln f) (am_c m))).1, (f_sl L sn sg pg m (n, md, en, sd, fun f => f_out (ln f) (am_c m))).2.1, (f_sl L sn sg pg m (n, md, en, sd, fun f => f_out (ln f) (am_c m))).2.2.1, (f_sl L sn sg pg m (n, md, en, sd, fun f => f_out (ln f) (am_c m))).2.2.2.1, (f_sl L sn sg pg m (n, md, en, sd, fun f => f_out (ln f) (am_c m))).2.2.2.2)) := by
              have hB : f_rb L sn sg pg m (n, md, en, sd, ln) = (pg, ((f_sl L sn sg pg m (n, md, en, sd, fun f => f_out (ln f) (am_c m))).1, (f_sl L sn sg pg m (n, md, en, sd, fun f => f_out (ln f) (am_c m))).2.1, (f_sl L sn sg pg m (n, md, en, sd, fun f => f_out (ln f) (am_c m))).2.2.1, (f_sl L sn sg pg m (n, md, en, sd, fun f => f_out (ln f) (am_c m))).2.2.2.1, (f_sl L sn sg pg m (n, md, en, sd, fun f => f_out (ln f) (am_c m))).2.2.2.2)) := by
                unfold f_rb
                show (match sd (am_c m) with | none => f_r2 L sn sg pg m (n, md, en, sd, ln) | some r => if am_n m = am_n r then (pg, (f_send n r, md, en, sd, ln)) else if am_n r < am_n m then f_r2 L sn sg pg m (n, md, en, sd, ln) else (pg, (n, md, en, sd, ln))) = _
                rw [hes]
                simp only [f_r2u, f_lo, (show ¬ ((2 : Nat) = 1) by decide), c1, c5, c8, cond_true, cond_false, if_true, if_false]
                try rfl
              unfold f_rQ
              rw [hB, c1]
              rfl
            rw [hF]
            exact rw_vret (pc := 117) dS_requestArrives_117 rfl ⟨rfl, hc, hf⟩
      · skip
        cases c3
    · skip
      cases c2
  · skip
    replace c1 : su = false := (m_bi0 _).mp c1
    have hF : f_rQ su L sn sg pg m (n, md, en, sd, ln) = (pg, (n, md, en, sd, ln)) := by unfold f_rQ; rw [c1]; rfl
    rw [hF]
    exact rw_vret (pc := 7) dS_requestArrives_7 rfl ⟨rfl, hc, hf⟩
theorem cS_requestArrives1 (G : mt_G) (h : ha_H) {L : Nat} {n : List ab_M} {su : Bool} {sn : Int32} {sg : Bool} {se : Int32} {pg : Nat → Nat → Int32} {md : Nat → Nat → Nat} {en : Nat → Nat → Int32} {sd : Nat → Option ab_M} {ln : Nat → List ab_M} {C : Nat → ab_C} (hc : CV L n su sn sg se pg md en sd ln C h) {i : Nat} {m : ab_M} (hm : cv_M h i m) (hk3 : am_k m ≤ 3) {p : ab_M} (hes : sd (am_c m) = some p) : rn_M G xS_requestArrives (5, 27, 144) [.inr (some 4), .inr (some i)] h (rn_v (fun h' => CV L (f_rQ su L sn sg pg m (n, md, en, sd, ln)).2.1 su sn sg se (f_rQ su L sn sg pg m (n, md, en, sd, ln)).1 (f_rQ su L sn sg pg m (n, md, en, sd, ln)).2.2.1 (f_rQ su L sn sg pg m (n, md, en, sd, ln)).2.2.2.1 (f_rQ su L sn sg pg m (n, md, en, sd, ln)).2.2.2.2.1 (f_rQ su L sn sg pg m (n, md, en, sd, ln)).2.2.2.2.2 C h' ∧ hp_le h h')) := by
  have hf := le_rf h
  have hl := hm.2.2.1.1
  have hf4 := hm.2.2.1.2
  have hq2 := (cm_q hm hk3).2.2.2.1
  obtain ⟨ip, hr0, hp4, hp7, hpm⟩ : ∃ i, hp_R h 10 (am_c m) = some i ∧ 4 ≤ am_k p ∧ am_k p ≤ 7 ∧ cv_M h i p := by have q := cp_sd hc _ hl; rw [hes] at q; exact co_Sm q
  refine rn_of (by decide +kernel) (Nat.le_of_ble_eq_true rfl) ?_
  show rn_W G xS_requestArrives (5, 27, 144) 27 144 0 [some (.inr (some 4)), some (.inr (some i)), none] [] h _
  refine rw_aload_n (pc := 0) dS_requestArrives_0 rfl ?_
  refine rw_getI (pc := 1) (x := m_bi su) flS_34_S dS_requestArrives_1 (cs_o hc (by omega) (by omega)) (cs_S4 hc) (cp_su hc) ?_
  refine rw_ifne (pc := 4) dS_requestArrives_4 (tgt := 8) rfl (fun c1 => ?_) (fun c1 => ?_)
  · skip
    replace c1 : su = true := mb_T c1
    refine rw_aload_n (pc := 8) dS_requestArrives_8 rfl ?_
    refine rw_getR (pc := 9) (x := some 10) flS_18_S dS_requestArrives_9 (cs_o hc (by omega) (by omega)) (cs_S4 hc) (cr_4_3 hc) ?_
    refine rw_aload_n (pc := 12) dS_requestArrives_12 rfl ?_
    refine rw_getI (pc := 13) (x := nI (am_c m)) flS_75_R dS_requestArrives_13 (cm_o hm) (cm_q hm hk3).2.1 hm.2.1.2.1 ?_
    refine rw_aald (pc := 16) (v := some ip) (i := (am_c m)) (t := 3) rfl ⟨rfl, by decide⟩ dS_requestArrives_16 (cs_o hc (by omega) (by omega)) (cs_S10 hc) (ix_nI (by omega) (by decide)) hr0 ?_
    refine rw_astore_n (pc := 17) (L' := [some (.inr (some 4)), some (.inr (some i)), some (.inr (some ip))]) dS_requestArrives_17 (by decide) rfl ?_
    refine rw_aload_n (pc := 18) dS_requestArrives_18 rfl ?_
    refine rw_ifnull (pc := 19) dS_requestArrives_19 (tgt := 45) rfl (fun c2 => ?_) (fun rc2 c2 => ?_)
    · skip
      cases c2
    · skip
      refine rw_aload_n (pc := 22) dS_requestArrives_22 rfl ?_
      refine rw_getI (pc := 23) (x := am_n m) flS_80_R dS_requestArrives_23 (cm_o hm) (cm_q hm hk3).2.1 hm.2.1.2.2.2 ?_
      refine rw_aload_n (pc := 26) dS_requestArrives_26 rfl ?_
      refine rw_getI (pc := 27) (x := am_n p) flS_83_P dS_requestArrives_27 (cm_o hpm) (cm_p hpm hp4 hp7).2.1 hpm.2.1.2.2.2 ?_
      refine rw_icmpne (pc := 30) dS_requestArrives_30 (tgt := 45) rfl (fun c3 => ?_) (fun c3 => ?_)
      · skip
        refine rw_aload_n (pc := 45) dS_requestArrives_45 rfl ?_
        refine rw_ifnull (pc := 46) dS_requestArrives_46 (tgt := 60) rfl (fun c4 => ?_) (fun rc4 c4 => ?_)
        · skip
          cases c4
        · skip
          refine rw_aload_n (pc := 49) dS_requestArrives_49 rfl ?_
          refine rw_getI (pc := 50) (x := am_n m) flS_80_R dS_requestArrives_50 (cm_o hm) (cm_q hm hk3).2.1 hm.2.1.2.2.2 ?_
          refine rw_aload_n (pc := 53) dS_requestArrives_53 rfl ?_
          refine rw_getI (pc := 54) (x := am_n p) flS_83_P dS_requestArrives_54 (cm_o hpm) (cm_p hpm hp4 hp7).2.1 hpm.2.1.2.2.2 ?_
          refine rw_icmple (pc := 57) dS_requestArrives_57 (tgt := 113) rfl (fun c5 => ?_) (fun c5 => ?_)
          · skip
            replace c5 : ¬ am_n p < am_n m := Int32.not_lt.mpr c5
            refine rw_aload_n (pc := 113) dS_requestArrives_113 rfl ?_
            have hg1 := gk_12 hc pg
            refine rw_vv (pc := 114) (z' := (4, 2 * (f_gk L sn sg pg (n, md, en, sd, ln)), 11 * (f_gk L sn sg pg (n, md, en, sd, ln)))) (rc' := (27 - 2 * (f_gk L sn sg pg (n, md, en, sd, ln)))) (rs' := (144 - 11 * (f_gk L sn sg pg (n, md, en, sd, ln)))) (av := []) (st := []) (ci := 2) mlS_68 miS_goThroughLines rfl mvS_goThroughLines_S dS_requestArrives_114 (cs_o hc (by omega) (by omega)) (cs_S4 hc) (cS_goThroughLines G _ hc) rfl rfl (Nat.le_of_ble_eq_true rfl) (Nat.le_of_ble_eq_true rfl) (Nat.sub_add_cancel (by omega)) (Nat.sub_add_cancel (by omega)) (fun h6 q6 => ?_)
            obtain ⟨hc, hf1⟩ := q6
            replace hm := cm_le hm hf1
            replace hpm := cm_le hpm hf1
            replace hf := le_tr hf hf1
            have hF : f_rQ su L sn sg pg m (n, md, en, sd, ln) = (pg, f_gt L sn sg pg (n, md, en, sd, ln)) := by
              have hB : f_rb L sn sg pg m (n, md, en, sd, ln) = (pg, (n, md, en, sd, ln)) := by
                unfold f_rb
                show (match sd (am_c m) with | none => f_r2 L sn sg pg m (n, md, en, sd, ln) | some r => if am_n m = am_n r then (pg, (f_send n r, md, en, sd, ln)) else if am_n r < am_n m then f_r2 L sn sg pg m (n, md, en, sd, ln) else (pg, (n, md, en, sd, ln))) = _
                rw [hes]
                simp only [f_r2u, f_lo, (show ¬ ((2 : Nat) = 1) by decide), c1, c3, c5, cond_true, cond_false, if_true, if_false]
                try rfl
              unfold f_rQ
              rw [hB, c1]
              rfl
            rw [hF]
            exact rw_vret (pc := 117) dS_requestArrives_117 rfl ⟨rfl, hc, hf⟩
          · skip
            replace c5 : am_n p < am_n m := Int32.not_le.mp c5
            refine rw_aload_n (pc := 60) dS_requestArrives_60 rfl ?_
            refine rw_aload_n (pc := 61) dS_requestArrives_61 rfl ?_
            refine rw_vi (pc := 62) (z' := (2, 0, 0)) (rc' := 27) (rs' := 144) (av := [.inr (some i)]) (st := []) (ci := 2) mlS_90 miS_waitsAlready rfl mvS_waitsAlready_S dS_requestArrives_62 (cs_o hc (by omega) (by omega)) (cs_S4 hc) (cS_waitsAlready G _ hc hm hk3) rfl rfl (Nat.le_of_ble_eq_true rfl) (by decide) rfl rfl (fun r7 h7 q7 => ?_)
            obtain ⟨rfl, rfl⟩ := q7
            refine rw_ifne (pc := 65) dS_requestArrives_65 (tgt := 113) rfl (fun c8 => ?_) (fun c8 => ?_)
            · skip
              replace c8 : (f_wa ln m) = true := mb_T c8
              refine rw_aload_n (pc := 113) dS_requestArrives_113 rfl ?_
              have hg1 := gk_12 hc pg
              refine rw_vv (pc := 114) (z' := (4, 2 * (f_gk L sn sg pg (n, md, en, sd, ln)), 11 * (f_gk L sn sg pg (n, md, en, sd, ln)))) (rc' := (27 - 2 * (f_gk L sn sg pg (n, md, en, sd, ln)))) (rs' := (144 - 11 * (f_gk L sn sg pg (n, md, en, sd, ln)))) (av := []) (st := []) (ci := 2) mlS_68 miS_goThroughLines rfl mvS_goThroughLines_S dS_requestArrives_114 (cs_o hc (by omega) (by omega)) (cs_S4 hc) (cS_goThroughLines G _ hc) rfl rfl (Nat.le_of_ble_eq_true rfl) (Nat.le_of_ble_eq_true rfl) (Nat.sub_add_cancel (by omega)) (Nat.sub_add_cancel (by omega)) (fun h9 q9 => ?_)
              obtain ⟨hc, hf1⟩ := q9
              replace hm := cm_le hm hf1
              replace hpm := cm_le hpm hf1
              replace hf := le_tr hf hf1
              have hF : f_rQ su L sn sg pg m (n, md, en, sd, ln) = (pg, f_gt L sn sg pg (n, md, en, sd, ln)) := by
                have hB : f_rb L sn sg pg m (n, md, en, sd, ln) = (pg, (n, md, en, sd, ln)) := by
                  unfold f_rb
                  show (match sd (am_c m) with | none => f_r2 L sn sg pg m (n, md, en, sd, ln) | some r => if am_n m = am_n r then (pg, (f_send n r, md, en, sd, ln)) else if am_n r < am_n m then f_r2 L sn sg pg m (n, md, en, sd, ln) else (pg, (n, md, en, sd, ln))) = _
                  rw [hes]
                  simp only [f_r2u, f_lo, (show ¬ ((2 : Nat) = 1) by decide), c1, c3, c5, c8, cond_true, cond_false, if_true, if_false]
                  try rfl
                unfold f_rQ
                rw [hB, c1]
                rfl
              rw [hF]
              exact rw_vret (pc := 117) dS_requestArrives_117 rfl ⟨rfl, hc, hf⟩
            · skip
              replace c8 : (f_wa ln m) = false := (m_bi0 _).mp c8
              refine rw_aload_n (pc := 68) dS_requestArrives_68 rfl ?_
              refine rw_aload_n (pc := 69) dS_requestArrives_69 rfl ?_
              refine rw_getI (pc := 70) (x := nI (am_c m)) flS_75_R dS_requestArrives_70 (cm_o hm) (cm_q hm hk3).2.1 hm.2.1.2.1 ?_
              refine rw_vv (pc := 73) (z' := (2, 0, 0)) (rc' := 27) (rs' := 144) (av := [.inl (nI (am_c m))]) (st := []) (ci := 2) mlS_94 miS_takeOutOfLines rfl mvS_takeOutOfLines_S dS_requestArrives_73 (cs_o hc (by omega) (by omega)) (cs_S4 hc) (cS_takeOutOfLines G _ hc hl) rfl rfl (Nat.le_of_ble_eq_true rfl) (Nat.le_of_ble_eq_true rfl) rfl rfl (fun h10 q10 => ?_)
              obtain ⟨hc, hf1⟩ := q10
              replace hm := cm_le hm hf1
              replace hpm := cm_le hpm hf1
              replace hf := le_tr hf hf1
              refine rw_aload_n (pc := 76) dS_requestArrives_76 rfl ?_
              refine rw_getI (pc := 77) (x := nI (am_k m)) flS_98_R dS_requestArrives_77 (cm_o hm) (cm_q hm hk3).2.1 hm.2.1.1 ?_
              refine rw_iconst (pc := 80) (x := nI 1) dS_requestArrives_80 (by decide) ?_
              refine rw_icmpne (pc := 81) dS_requestArrives_81 (tgt := 92) rfl (fun c11 => ?_) (fun c11 => ?_)
              · skip
                replace c11 : ¬ ((am_k m) = 1) := fun qz => c11 ((nI_eq (a := (am_k m)) (b := 1) (by omega) (by omega)).mpr qz)
                refine rw_aload_n (pc := 92) dS_requestArrives_92 rfl ?_
                refine rw_getI (pc := 93) (x := nI (am_k m)) flS_98_R dS_requestArrives_93 (cm_o hm) (cm_q hm hk3).2.1 hm.2.1.1 ?_
                refine rw_iconst (pc := 96) (x := nI 2) dS_requestArrives_96 (by decide) ?_
                refine rw_icmpne (pc := 97) dS_requestArrives_97 (tgt := 108) rfl (fun c12 => ?_) (fun c12 => ?_)
                · skip
                  replace c12 : ¬ ((am_k m) = 2) := fun qz => c12 ((nI_eq (a := (am_k m)) (b := 2) (by omega) (by omega)).mpr qz)
                  refine rw_aload_n (pc := 108) dS_requestArrives_108 rfl ?_
                  refine rw_aload_n (pc := 109) dS_requestArrives_109 rfl ?_
                  refine rw_vv (pc := 110) (z' := (3, 1, 7)) (rc' := 26) (rs' := 137) (av := [.inr (some i)]) (st := []) (ci := 2) mlS_108 miS_serveRelease rfl mvS_serveRelease_S dS_requestArrives_110 (cs_o hc (by omega) (by omega)) (cs_S4 hc) (cS_serveRelease G _ hc hm hk3) rfl rfl (Nat.le_of_ble_eq_true rfl) (Nat.le_of_ble_eq_true rfl) rfl rfl (fun h13 q13 => ?_)
                  obtain ⟨hc, hf1⟩ := q13
                  replace hm := cm_le hm hf1
                  replace hpm := cm_le hpm hf1
                  replace hf := le_tr hf hf1
                  refine rw_aload_n (pc := 113) dS_requestArrives_113 rfl ?_
                  have hg1 := gk_12 hc pg
                  refine rw_vv (pc := 114) (z' := (4, 2 * (f_gk L sn sg pg ((f_sr m (n, md, en, sd, fun f => f_out (ln f) (am_c m))).1, (f_sr m (n, md, en, sd, fun f => f_out (ln f) (am_c m))).2.1, (f_sr m (n, md, en, sd, fun f => f_out (ln f) (am_c m))).2.2.1, (f_sr m (n, md, en, sd, fun f => f_out (ln f) (am_c m))).2.2.2.1, (f_sr m (n, md, en, sd, fun f => f_out (ln f) (am_c m))).2.2.2.2)), 11 * (f_gk L sn sg pg ((f_sr m (n, md, en, sd, fun f => f_out (ln f) (am_c m))).1, (f_sr m (n, md, en, sd, fun f => f_out (ln f) (am_c m))).2.1, (f_sr m (n, md, en, sd, fun f => f_out (ln f) (am_c m))).2.2.1, (f_sr m (n, md, en, sd, fun f => f_out (ln f) (am_c m))).2.2.2.1, (f_sr m (n, md, en, sd, fun f => f_out (ln f) (am_c m))).2.2.2.2)))) (rc' := (26 - 2 * (f_gk L sn sg pg ((f_sr m (n, md, en, sd, fun f => f_out (ln f) (am_c m))).1, (f_sr m (n, md, en, sd, fun f => f_out (ln f) (am_c m))).2.1, (f_sr m (n, md, en, sd, fun f => f_out (ln f) (am_c m))).2.2.1, (f_sr m (n, md, en, sd, fun f => f_out (ln f) (am_c m))).2.2.2.1, (f_sr m (n, md, en, sd, fun f => f_out (ln f) (am_c m))).2.2.2.2)))) (rs' := (137 - 11 * (f_gk L sn sg pg ((f_sr m (n, md, en, sd, fun f => f_out (ln f) (am_c m))).1, (f_sr m (n, md, en, sd, fun f => f_out (ln f) (am_c m))).2.1, (f_sr m (n, md, en, sd, fun f => f_out (ln f) (am_c m))).2.2.1, (f_sr m (n, md, en, sd, fun f => f_out (ln f) (am_c m))).2.2.2.1, (f_sr m (n, md, en, sd, fun f => f_out (ln f) (am_c m))).2.2.2.2)))) (av := []) (st := []) (ci := 2) mlS_68 miS_goThroughLines rfl mvS_goThroughLines_S dS_requestArrives_114 (cs_o hc (by omega) (by omega)) (cs_S4 hc) (cS_goThroughLines G _ hc) rfl rfl (Nat.le_of_ble_eq_true rfl) (Nat.le_of_ble_eq_true rfl) (Nat.sub_add_cancel (by omega)) (Nat.sub_add_cancel (by omega)) (fun h14 q14 => ?_)
                  obtain ⟨hc, hf1⟩ := q14
                  replace hm := cm_le hm hf1
                  replace hpm := cm_le hpm hf1
                  replace hf := le_tr hf hf1
                  have hF : f_rQ su L sn sg pg m (n, md, en, sd, ln) = (pg, f_gt L sn sg pg ((f_sr m (n, md, en, sd, fun f => f_out (ln f) (am_c m))).1, (f_sr m (n, md, en, sd, fun f => f_out (ln f) (am_c m))).2.1, (f_sr m (n, md, en, sd, fun f => f_out (ln f) (am_c m))).2.2.1, (f_sr m (n, md, en, sd, fun f => f_out (ln f) (am_c m))).2.2.2.1, (f_sr m (n, md, en, sd, fun f => f_out (ln f) (am_c m))).2.2.2.2)) := by
                    have hB : f_rb L sn sg pg m (n, md, en, sd, ln) = (pg, ((f_sr m (n, md, en, sd, fun f => f_out (ln f) (am_c m))).1, (f_sr m (n, md, en, sd, fun f => f_out (ln f) (am_c m))).2.1, (f_sr m (n, md, en, sd, fun f => f_out (ln f) (am_c m))).2.2.1, (f_sr m (n, md, en, sd, fun f => f_out (ln f) (am_c m))).2.2.2.1, (f_sr m (n, md, en, sd, fun f => f_out (ln f) (am_c m))).2.2.2.2)) := by
                      unfold f_rb
                      show (match sd (am_c m) with | none => f_r2 L sn sg pg m (n, md, en, sd, ln) | some r => if am_n m = am_n r then (pg, (f_send n r, md, en, sd, ln)) else if am_n r < am_n m then f_r2 L sn sg pg m (n, md, en, sd, ln) else (pg, (n, md, en, sd, ln))) = _
                      rw [hes]
                      simp only [f_r2u, f_lo, (show ¬ ((2 : Nat) = 1) by decide), c1, c3, c5, c8, c11, c12, cond_true, cond_false, if_true, if_false]
                      try rfl
                    unfold f_rQ
                    rw [hB, c1]
                    rfl
                  rw [hF]
                  exact rw_vret (pc := 117) dS_requestArrives_117 rfl ⟨rfl, hc, hf⟩
                · skip
                  replace c12 : (am_k m) = 2 := (nI_eq (a := (am_k m)) (b := 2) (by omega) (by omega)).mp c12
                  refine rw_aload_n (pc := 100) dS_requestArrives_100 rfl ?_
                  refine rw_aload_n (pc := 101) dS_requestArrives_101 rfl ?_
                  refine rw_vv (pc := 102) (z' := (3, 1, 7)) (rc' := 26) (rs' := 137) (av := [.inr (some i)]) (st := []) (ci := 2) mlS_105 miS_serveStore rfl mvS_serveStore_S dS_requestArrives_102 (cs_o hc (by omega) (by omega)) (cs_S4 hc) (cS_serveStore G _ hc hm hk3) rfl rfl (Nat.le_of_ble_eq_true rfl) (Nat.le_of_ble_eq_true rfl) rfl rfl (fun h15 q15 => ?_)
                  obtain ⟨hc, hf1⟩ := q15
                  replace hm := cm_le hm hf1
                  replace hpm := cm_le hpm hf1
                  replace hf := le_tr hf hf1
                  refine rw_goto (pc := 105) dS_requestArrives_105 (tgt := 113) rfl ?_
                  refine rw_aload_n (pc := 113) dS_requestArrives_113 rfl ?_
                  have hg1 := gk_12 hc ((f_ss pg m (n, md, en, sd, fun f => f_out (ln f) (am_c m))).1)
                  refine rw_vv (pc := 114) (z' := (4, 2 * (f_gk L sn sg ((f_ss pg m (n, md, en, sd, fun f => f_out (ln f) (am_c m))).1) ((f_ss pg m (n, md, en, sd, fun f => f_out (ln f) (am_c m))).2.1, (f_ss pg m (n, md, en, sd, fun f => f_out (ln f) (am_c m))).2.2.1, (f_ss pg m (n, md, en, sd, fun f => f_out (ln f) (am_c m))).2.2.2.1, (f_ss pg m (n, md, en, sd, fun f => f_out (ln f) (am_c m))).2.2.2.2.1, (f_ss pg m (n, md, en, sd, fun f => f_out (ln f) (am_c m))).2.2.2.2.2)), 11 * (f_gk L sn sg ((f_ss pg m (n, md, en, sd, fun f => f_out (ln f) (am_c m))).1) ((f_ss pg m (n, md, en, sd, fun f => f_out (ln f) (am_c m))).2.1, (f_ss pg m (n, md, en, sd, fun f => f_out (ln f) (am_c m))).2.2.1, (f_ss pg m (n, md, en, sd, fun f => f_out (ln f) (am_c m))).2.2.2.1, (f_ss pg m (n, md, en, sd, fun f => f_out (ln f) (am_c m))).2.2.2.2.1, (f_ss pg m (n, md, en, sd, fun f => f_out (ln f) (am_c m))).2.2.2.2.2)))) (rc' := (26 - 2 * (f_gk L sn sg ((f_ss pg m (n, md, en, sd, fun f => f_out (ln f) (am_c m))).1) ((f_ss pg m (n, md, en, sd, fun f => f_out (ln f) (am_c m))).2.1, (f_ss pg m (n, md, en, sd, fun f => f_out (ln f) (am_c m))).2.2.1, (f_ss pg m (n, md, en, sd, fun f => f_out (ln f) (am_c m))).2.2.2.1, (f_ss pg m (n, md, en, sd, fun f => f_out (ln f) (am_c m))).2.2.2.2.1, (f_ss pg m (n, md, en, sd, fun f => f_out (ln f) (am_c m))).2.2.2.2.2)))) (rs' := (137 - 11 * (f_gk L sn sg ((f_ss pg m (n, md, en, sd, fun f => f_out (ln f) (am_c m))).1) ((f_ss pg m (n, md, en, sd, fun f => f_out (ln f) (am_c m))).2.1, (f_ss pg m (n, md, en, sd, fun f => f_out (ln f) (am_c m))).2.2.1, (f_ss pg m (n, md, en, sd, fun f => f_out (ln f) (am_c m))).2.2.2.1, (f_ss pg m (n, md, en, sd, fun f => f_out (ln f) (am_c m))).2.2.2.2.1, (f_ss pg m (n, md, en, sd, fun f => f_out (ln f) (am_c m))).2.2.2.2.2)))) (av := []) (st := []) (ci := 2) mlS_68 miS_goThroughLines rfl mvS_goThroughLines_S dS_requestArrives_114 (cs_o hc (by omega) (by omega)) (cs_S4 hc) (cS_goThroughLines G _ hc) rfl rfl (Nat.le_of_ble_eq_true rfl) (Nat.le_of_ble_eq_true rfl) (Nat.sub_add_cancel (by omega)) (Nat.sub_add_cancel (by omega)) (fun h16 q16 => ?_)
                  obtain ⟨hc, hf1⟩ := q16
                  replace hm := cm_le hm hf1
                  replace hpm := cm_le hpm hf1
                  replace hf := le_tr hf hf1
                  have hF : f_rQ su L sn sg pg m (n, md, en, sd, ln) = ((f_ss pg m (n, md, en, sd, fun f => f_out (ln f) (am_c m))).1, f_gt L sn sg ((f_ss pg m (n, md, en, sd, fun f => f_out (ln f) (am_c m))).1) ((f_ss pg m (n, md, en, sd, fun f => f_out (ln f) (am_c m))).2.1, (f_ss pg m (n, md, en, sd, fun f => f_out (ln f) (am_c m))).2.2.1, (f_ss pg m (n, md, en, sd, fun f => f_out (ln f) (am_c m))).2.2.2.1, (f_ss pg m (n, md, en, sd, fun f => f_out (ln f) (am_c m))).2.2.2.2.1, (f_ss pg m (n, md, en, sd, fun f => f_out (ln f) (am_c m))).2.2.2.2.2)) := by
                    have hB : f_rb L sn sg pg m (n, md, en, sd, ln) = ((f_ss pg m (n, md, en, sd, fun f => f_out (ln f) (am_c m))).1, ((f_ss pg m (n, md, en, sd, fun f => f_out (ln f) (am_c m))).2.1, (f_ss pg m (n, md, en, sd, fun f => f_out (ln f) (am_c m))).2.2.1, (f_ss pg m (n, md, en, sd, fun f => f_out (ln f) (am_c m))).2.2.2.1, (f_ss pg m (n, md, en, sd, fun f => f_out (ln f) (am_c m))).2.2.2.2.1, (f_ss pg m (n, md, en, sd, fun f => f_out (ln f) (am_c m))).2.2.2.2.2)) := by
                      unfold f_rb
                      show (match sd (am_c m) with | none => f_r2 L sn sg pg m (n, md, en, sd, ln) | some r => if am_n m = am_n r then (pg, (f_send n r, md, en, sd, ln)) else if am_n r < am_n m then f_r2 L sn sg pg m (n, md, en, sd, ln) else (pg, (n, md, en, sd, ln))) = _
                      rw [hes]
                      simp only [f_r2u, f_lo, (show ¬ ((2 : Nat) = 1) by decide), c1, c3, c5, c8, c11, c12, cond_true, cond_false, if_true, if_false]
                      try rfl
                    unfold f_rQ
                    rw [hB, c1]
                    rfl
                  rw [hF]
                  exact rw_vret (pc := 117) dS_requestArrives_117 rfl ⟨rfl, hc, hf⟩
              · skip
                replace c11 : (am_k m) = 1 := (nI_eq (a := (am_k m)) (b := 1) (by omega) (by omega)).mp c11
                refine rw_aload_n (pc := 84) dS_requestArrives_84 rfl ?_
                refine rw_aload_n (pc := 85) dS_requestArrives_85 rfl ?_
                refine rw_vv (pc := 86) (z' := (4, 3, 12)) (rc' := 24) (rs' := 132) (av := [.inr (some i)]) (st := []) (ci := 2) mlS_101 miS_serveLease rfl mvS_serveLease_S dS_requestArrives_86 (cs_o hc (by omega) (by omega)) (cs_S4 hc) (cS_serveLease G _ hc hm c11) rfl rfl (Nat.le_of_ble_eq_true rfl) (Nat.le_of_ble_eq_true rfl) rfl rfl (fun h17 q17 => ?_)
                obtain ⟨hc, hf1⟩ := q17
                replace hm := cm_le hm hf1
                replace hpm := cm_le hpm hf1
                replace hf := le_tr hf hf1
                refine rw_goto (pc := 89) dS_requestArrives_89 (tgt := 113) rfl ?_
                refine rw_aload_n (pc := 113) dS_requestArrives_113 rfl ?_
                have hg1 := gk_12 hc pg
                refine rw_vv (pc := 114) (z' := (4, 2 * (f_gk L sn sg pg ((f_sl L sn sg pg m (n, md, en, sd, fun f => f_out (ln f) (am_c m))).1, (f_sl L sn sg pg m (n, md, en, sd, fun f => f_out (ln f) (am_c m))).2.1, (f_sl L sn sg pg m (n, md, en, sd, fun f => f_out (ln f) (am_c m))).2.2.1, (f_sl L sn sg pg m (n, md, en, sd, fun f => f_out (ln f) (am_c m))).2.2.2.1, (f_sl L sn sg pg m (n, md, en, sd, fun f => f_out (ln f) (am_c m))).2.2.2.2)), 11 * (f_gk L sn sg pg ((f_sl L sn sg pg m (n, md, en, sd, fun f => f_out (ln f) (am_c m))).1, (f_sl L sn sg pg m (n, md, en, sd, fun f => f_out (ln f) (am_c m))).2.1, (f_sl L sn sg pg m (n, md, en, sd, fun f => f_out (ln f) (am_c m))).2.2.1, (f_sl L sn sg pg m (n, md, en, sd, fun f => f_out (ln f) (am_c m))).2.2.2.1, (f_sl L sn sg pg m (n, md, en, sd, fun f => f_out (ln f) (am_c m))).2.2.2.2)))) (rc' := (24 - 2 * (f_gk L sn sg pg ((f_sl L sn sg pg m (n, md, en, sd, fun f => f_out (ln f) (am_c m))).1, (f_sl L sn sg pg m (n, md, en, sd, fun f => f_out (ln f) (am_c m))).2.1, (f_sl L sn sg pg m (n, md, en, sd, fun f => f_out (ln f) (am_c m))).2.2.1, (f_sl L sn sg pg m (n, md, en, sd, fun f => f_out (ln f) (am_c m))).2.2.2.1, (f_sl L sn sg pg m (n, md, en, sd, fun f => f_out (ln f) (am_c m))).2.2.2.2)))) (rs' := (132 - 11 * (f_gk L sn sg pg ((f_sl L sn sg pg m (n, md, en, sd, fun f => f_out (ln f) (am_c m))).1, (f_sl L sn sg pg m (n, md, en, sd, fun f => f_out (ln f) (am_c m))).2.1, (f_sl L sn sg pg m (n, md, en, sd, fun f => f_out (ln f) (am_c m))).2.2.1, (f_sl L sn sg pg m (n, md, en, sd, fun f => f_out (ln f) (am_c m))).2.2.2.1, (f_sl L sn sg pg m (n, md, en, sd, fun f => f_out (ln f) (am_c m))).2.2.2.2)))) (av := []) (st := []) (ci := 2) mlS_68 miS_goThroughLines rfl mvS_goThroughLines_S dS_requestArrives_114 (cs_o hc (by omega) (by omega)) (cs_S4 hc) (cS_goThroughLines G _ hc) rfl rfl (Nat.le_of_ble_eq_true rfl) (Nat.le_of_ble_eq_true rfl) (Nat.sub_add_cancel (by omega)) (Nat.sub_add_cancel (by omega)) (fun h18 q18 => ?_)
                obtain ⟨hc, hf1⟩ := q18
                replace hm := cm_le hm hf1
                replace hpm := cm_le hpm hf1
                replace hf := le_tr hf hf1
                have hF : f_rQ su L sn sg pg m (n, md, en, sd, ln) = (pg, f_gt L sn sg pg ((f_sl L sn sg pg m (n, md, en, sd, fun f => f_out (ln f) (am_c m))).1, (f_sl L sn sg pg m (n, md, en, sd, fun f => f_out (ln f) (am_c m))).2.1, (f_sl L sn sg pg m (n, md, en, sd, fun f => f_out (ln f) (am_c m))).2.2.1, (f_sl L sn sg pg m (n, md, en, sd, fun f => f_out (ln f) (am_c m))).2.2.2.1, (f_sl L sn sg pg m (n, md, en, sd, fun f => f_out (ln f) (am_c m))).2.2.2.2)) := by
                  have hB : f_rb L sn sg pg m (n, md, en, sd, ln) = (pg, ((f_sl L sn sg pg m (n, md, en, sd, fun f => f_out (ln f) (am_c m))).1, (f_sl L sn sg pg m (n, md, en, sd, fun f => f_out (ln f) (am_c m))).2.1, (f_sl L sn sg pg m (n, md, en, sd, fun f => f_out (ln f) (am_c m))).2.2.1, (f_sl L sn sg pg m (n, md, en, sd, fun f => f_out (ln f) (am_c m))).2.2.2.1, (f_sl L sn sg pg m (n, md, en, sd, fun f => f_out (ln f) (am_c m))).2.2.2.2)) := by
                    unfold f_rb
                    show (match sd (am_c m) with | none => f_r2 L sn sg pg m (n, md, en, sd, ln) | some r => if am_n m = am_n r then (pg, (f_send n r, md, en, sd, ln)) else if am_n r < am_n m then f_r2 L sn sg pg m (n, md, en, sd, ln) else (pg, (n, md, en, sd, ln))) = _
                    rw [hes]
                    simp only [f_r2u, f_lo, (show ¬ ((2 : Nat) = 1) by decide), c1, c3, c5, c8, c11, cond_true, cond_false, if_true, if_false]
                    try rfl
                  unfold f_rQ
                  rw [hB, c1]
                  rfl
                rw [hF]
                exact rw_vret (pc := 117) dS_requestArrives_117 rfl ⟨rfl, hc, hf⟩
      · skip
        refine rw_aload_n (pc := 33) dS_requestArrives_33 rfl ?_
        refine rw_getR (pc := 34) (x := some 2) flS_48_S dS_requestArrives_34 (cs_o hc (by omega) (by omega)) (cs_S4 hc) (cr_4_0 hc) ?_
        refine rw_aload_n (pc := 37) dS_requestArrives_37 rfl ?_
        refine rw_vi (pc := 38) (z' := (0, 0, 0)) (rc' := 27) (rs' := 144) (av := [.inr (some ip)]) (st := []) (ci := 1) mlS_84 miN_send rfl mvN_send_N dS_requestArrives_38 (cs_o hc (by omega) (by omega)) (cs_S2 hc) (cN_send G _ hc hpm) rfl rfl (Nat.le_of_ble_eq_true rfl) (Nat.le_of_ble_eq_true rfl) rfl rfl (fun r19 h19 q19 => ?_)
        obtain ⟨rfl, hc, hf1⟩ := q19
        replace hm := cm_le hm hf1
        replace hpm := cm_le hpm hf1
        replace hf := le_tr hf hf1
        refine rw_pop (pc := 41) dS_requestArrives_41 ?_
        refine rw_goto (pc := 42) dS_requestArrives_42 (tgt := 113) rfl ?_
        refine rw_aload_n (pc := 113) dS_requestArrives_113 rfl ?_
        have hg1 := gk_12 hc pg
        refine rw_vv (pc := 114) (z' := (4, 2 * (f_gk L sn sg pg (f_send n p, md, en, sd, ln)), 11 * (f_gk L sn sg pg (f_send n p, md, en, sd, ln)))) (rc' := (27 - 2 * (f_gk L sn sg pg (f_send n p, md, en, sd, ln)))) (rs' := (144 - 11 * (f_gk L sn sg pg (f_send n p, md, en, sd, ln)))) (av := []) (st := []) (ci := 2) mlS_68 miS_goThroughLines rfl mvS_goThroughLines_S dS_requestArrives_114 (cs_o hc (by omega) (by omega)) (cs_S4 hc) (cS_goThroughLines G _ hc) rfl rfl (Nat.le_of_ble_eq_true rfl) (Nat.le_of_ble_eq_true rfl) (Nat.sub_add_cancel (by omega)) (Nat.sub_add_cancel (by omega)) (fun h20 q20 => ?_)
        obtain ⟨hc, hf1⟩ := q20
        replace hm := cm_le hm hf1
        replace hpm := cm_le hpm hf1
        replace hf := le_tr hf hf1
        have hF : f_rQ su L sn sg pg m (n, md, en, sd, ln) = (pg, f_gt L sn sg pg (f_send n p, md, en, sd, ln)) := by
          have hB : f_rb L sn sg pg m (n, md, en, sd, ln) = (pg, (f_send n p, md, en, sd, ln)) := by
            unfold f_rb
            show (match sd (am_c m) with | none => f_r2 L sn sg pg m (n, md, en, sd, ln) | some r => if am_n m = am_n r then (pg, (f_send n r, md, en, sd, ln)) else if am_n r < am_n m then f_r2 L sn sg pg m (n, md, en, sd, ln) else (pg, (n, md, en, sd, ln))) = _
            rw [hes]
            simp only [f_r2u, f_lo, (show ¬ ((2 : Nat) = 1) by decide), c1, c3, cond_true, cond_false, if_true, if_false]
            try rfl
          unfold f_rQ
          rw [hB, c1]
          rfl
        rw [hF]
        exact rw_vret (pc := 117) dS_requestArrives_117 rfl ⟨rfl, hc, hf⟩
  · skip
    replace c1 : su = false := (m_bi0 _).mp c1
    have hF : f_rQ su L sn sg pg m (n, md, en, sd, ln) = (pg, (n, md, en, sd, ln)) := by unfold f_rQ; rw [c1]; rfl
    rw [hF]
    exact rw_vret (pc := 7) dS_requestArrives_7 rfl ⟨rfl, hc, hf⟩
theorem cS_goDown (G : mt_G) (h : ha_H) {L : Nat} {n : List ab_M} {su : Bool} {sn : Int32} {sg : Bool} {se : Int32} {pg : Nat → Nat → Int32} {md : Nat → Nat → Nat} {en : Nat → Nat → Int32} {sd : Nat → Option ab_M} {ln : Nat → List ab_M} {C : Nat → ab_C} (hc : CV L n su sn sg se pg md en sd ln C h) : rn_M G xS_goDown (1, 0, 0) [.inr (some 4)] h (rn_v (fun h' => CV L n false sn sg se pg (fun _ _ => 0) en sd (fun _ => []) C h' ∧ hp_le h h')) := by
  have hf := le_rf h
  refine rn_of (by decide +kernel) (Nat.le_of_ble_eq_true rfl) ?_
  show rn_W G xS_goDown (1, 0, 0) 0 0 0 [some (.inr (some 4)), none] [] h _
  refine rw_aload_n (pc := 0) dS_goDown_0 rfl ?_
  refine rw_iconst (pc := 1) (x := nI 0) dS_goDown_1 (by decide) ?_
  refine rw_putZ (pc := 2) pfS_34_S dS_goDown_2 (cs_o hc (by omega) (by omega)) (cs_S4 hc) (Or.inl rfl) ?_
  replace hc := wv_su hc false
  replace hf := le_tr hf (le_sI (h := h) (A := 4) (k := 7) (v := (m_bi false)) (by omega))
  show rn_W G xS_goDown (1, 0, 0) 0 0 5 [some (.inr (some 4)), none] [] (hp_sI h 4 7 (m_bi false)) _
  generalize hp_sI h 4 7 (m_bi false) = g1 at hc hf ⊢
  refine rw_iconst (pc := 5) (x := nI 0) dS_goDown_5 (by decide) ?_
  refine rw_istore_n (pc := 6) (L' := [some (.inr (some 4)), some (.inl (nI 0))]) dS_goDown_6 (by decide) rfl ?_
  refine rw_iload_n (pc := 7) dS_goDown_7 rfl ?_
  refine rw_iconst (pc := 8) (x := nI 3) dS_goDown_8 (by decide) ?_
  refine rw_icmpge (pc := 9) dS_goDown_9 (tgt := 28) rfl (fun c2 => ?_) (fun c2 => ?_)
  · skip
    replace c2 : 3 ≤ 0 := (nI_leI (a := 3) (b := 0) (by omega) (by omega)).mp c2
    exact absurd c2 (by decide)
  · skip
    replace c2 : ¬ (3 ≤ 0) := fun qz => c2 ((nI_leI (a := 3) (b := 0) (by omega) (by omega)).mpr qz)
    refine rw_aload_n (pc := 12) dS_goDown_12 rfl ?_
    refine rw_getR (pc := 13) (x := some 11) flS_22_S dS_goDown_13 (cs_o hc (by omega) (by omega)) (cs_S4 hc) (cr_4_4 hc) ?_
    refine rw_iload_n (pc := 16) dS_goDown_16 rfl ?_
    refine rw_aald (pc := 17) (v := some (12 + 0)) (i := 0) (t := 9) rfl ⟨rfl, by decide⟩ dS_goDown_17 (cs_o hc (by omega) (by omega)) (cs_S11 hc) (ix_nI (by omega) (by decide)) (cr_11 hc (by omega)) ?_
    refine rw_iconst (pc := 18) (x := nI 0) dS_goDown_18 (by decide) ?_
    refine rw_sv (pc := 19) (z' := (0, 0, 0)) (rc' := 0) (rs' := 0) (av := [.inr (some (12 + 0)), .inl (nI 0)]) (st := []) mlS_56 msA_fill dS_goDown_19 (cA_fill G _ (cs_o hc (by omega) (by omega)) (cs_Smd hc (by omega)) _) rfl rfl (Nat.le_of_ble_eq_true rfl) (Nat.le_of_ble_eq_true rfl) rfl rfl (fun h3 q3 => ?_)
    obtain rfl := q3
    have hc2 : CV L n false sn sg se pg (fu2 (fu2 (fu2 (fu2 md 0 0 0) 0 1 0) 0 2 0) 0 3 0) en sd ln C (hp_f4 g1 (12 + 0) (nI 0)) := (wv_md (wv_md (wv_md (wv_md hc (i := 0) (j := 0) (by omega) (by omega) 0 (by omega)) (i := 0) (j := 1) (by omega) (by omega) 0 (by omega)) (i := 0) (j := 2) (by omega) (by omega) 0 (by omega)) (i := 0) (j := 3) (by omega) (by omega) 0 (by omega))
    replace hc := hc2
    clear hc2
    replace hf : hp_le h (hp_f4 g1 (12 + 0) (nI 0)) := le_tr (le_tr (le_tr (le_tr hf (le_sI (by omega))) (le_sI (by omega))) (le_sI (by omega))) (le_sI (by omega))
    generalize hp_f4 g1 (12 + 0) (nI 0) = g4 at hc hf ⊢
    refine rw_iinc (pc := 22) (x := nI 0) (y := nI 1) (L' := [some (.inr (some 4)), some (.inl (nI 1))]) dS_goDown_22 (by decide) rfl (by decide) rfl ?_
    refine rw_goto (pc := 25) dS_goDown_25 (tgt := 7) rfl ?_
    refine rw_iload_n (pc := 7) dS_goDown_7 rfl ?_
    refine rw_iconst (pc := 8) (x := nI 3) dS_goDown_8 (by decide) ?_
    refine rw_icmpge (pc := 9) dS_goDown_9 (tgt := 28) rfl (fun c5 => ?_) (fun c5 => ?_)
    · skip
      replace c5 : 3 ≤ 1 := (nI_leI (a := 3) (b := 1) (by omega) (by omega)).mp c5
      exact absurd c5 (by decide)
    · skip
      replace c5 : ¬ (3 ≤ 1) := fun qz => c5 ((nI_leI (a := 3) (b := 1) (by omega) (by omega)).mpr qz)
      refine rw_aload_n (pc := 12) dS_goDown_12 rfl ?_
      refine rw_getR (pc := 13) (x := some 11) flS_22_S dS_goDown_13 (cs_o hc (by omega) (by omega)) (cs_S4 hc) (cr_4_4 hc) ?_
      refine rw_iload_n (pc := 16) dS_goDown_16 rfl ?_
      refine rw_aald (pc := 17) (v := some (12 + 1)) (i := 1) (t := 9) rfl ⟨rfl, by decide⟩ dS_goDown_17 (cs_o hc (by omega) (by omega)) (cs_S11 hc) (ix_nI (by omega) (by decide)) (cr_11 hc (by omega)) ?_
      refine rw_iconst (pc := 18) (x := nI 0) dS_goDown_18 (by decide) ?_
      refine rw_sv (pc := 19) (z' := (0, 0, 0)) (rc' := 0) (rs' := 0) (av := [.inr (some (12 + 1)), .inl (nI 0)]) (st := []) mlS_56 msA_fill dS_goDown_19 (cA_fill G _ (cs_o hc (by omega) (by omega)) (cs_Smd hc (by omega)) _) rfl rfl (Nat.le_of_ble_eq_true rfl) (Nat.le_of_ble_eq_true rfl) rfl rfl (fun h6 q6 => ?_)
      obtain rfl := q6
      have hc2 : CV L n false sn sg se pg (fu2 (fu2 (fu2 (fu2 (fu2 (fu2 (fu2 (fu2 md 0 0 0) 0 1 0) 0 2 0) 0 3 0) 1 0 0) 1 1 0) 1 2 0) 1 3 0) en sd ln C (hp_f4 g4 (12 + 1) (nI 0)) := (wv_md (wv_md (wv_md (wv_md hc (i := 1) (j := 0) (by omega) (by omega) 0 (by omega)) (i := 1) (j := 1) (by omega) (by omega) 0 (by omega)) (i := 1) (j := 2) (by omega) (by omega) 0 (by omega)) (i := 1) (j := 3) (by omega) (by omega) 0 (by omega))
      replace hc := hc2
      clear hc2
      replace hf : hp_le h (hp_f4 g4 (12 + 1) (nI 0)) := le_tr (le_tr (le_tr (le_tr hf (le_sI (by omega))) (le_sI (by omega))) (le_sI (by omega))) (le_sI (by omega))
      generalize hp_f4 g4 (12 + 1) (nI 0) = g7 at hc hf ⊢
      refine rw_iinc (pc := 22) (x := nI 1) (y := nI 2) (L' := [some (.inr (some 4)), some (.inl (nI 2))]) dS_goDown_22 (by decide) rfl (by decide) rfl ?_
      refine rw_goto (pc := 25) dS_goDown_25 (tgt := 7) rfl ?_
      refine rw_iload_n (pc := 7) dS_goDown_7 rfl ?_
      refine rw_iconst (pc := 8) (x := nI 3) dS_goDown_8 (by decide) ?_
      refine rw_icmpge (pc := 9) dS_goDown_9 (tgt := 28) rfl (fun c8 => ?_) (fun c8 => ?_)
      · skip
        replace c8 : 3 ≤ 2 := (nI_leI (a := 3) (b := 2) (by omega) (by omega)).mp c8
        exact absurd c8 (by decide)
      · skip
        replace c8 : ¬ (3 ≤ 2) := fun qz => c8 ((nI_leI (a := 3) (b := 2) (by omega) (by omega)).mpr qz)
        refine rw_aload_n (pc := 12) dS_goDown_12 rfl ?_
        refine rw_getR (pc := 13) (x := some 11) flS_22_S dS_goDown_13 (cs_o hc (by omega) (by omega)) (cs_S4 hc) (cr_4_4 hc) ?_
        refine rw_iload_n (pc := 16) dS_goDown_16 rfl ?_
        refine rw_aald (pc := 17) (v := some (12 + 2)) (i := 2) (t := 9) rfl ⟨rfl, by decide⟩ dS_goDown_17 (cs_o hc (by omega) (by omega)) (cs_S11 hc) (ix_nI (by omega) (by decide)) (cr_11 hc (by omega)) ?_
        refine rw_iconst (pc := 18) (x := nI 0) dS_goDown_18 (by decide) ?_
        refine rw_sv (pc := 19) (z' := (0, 0, 0)) (rc' := 0) (rs' := 0) (av := [.inr (some (12 + 2)), .inl (nI 0)]) (st := []) mlS_56 msA_fill dS_goDown_19 (cA_fill G _ (cs_o hc (by omega) (by omega)) (cs_Smd hc (by omega)) _) rfl rfl (Nat.le_of_ble_eq_true rfl) (Nat.le_of_ble_eq_true rfl) rfl rfl (fun h9 q9 => ?_)
        obtain rfl := q9
        have hc2 : CV L n false sn sg se pg (fu2 (fu2 (fu2 (fu2 (fu2 (fu2 (fu2 (fu2 (fu2 (fu2 (fu2 (fu2 md 0 0 0) 0 1 0) 0 2 0) 0 3 0) 1 0 0) 1 1 0) 1 2 0) 1 3 0) 2 0 0) 2 1 0) 2 2 0) 2 3 0) en sd ln C (hp_f4 g7 (12 + 2) (nI 0)) := (wv_md (wv_md (wv_md (wv_md hc (i := 2) (j := 0) (by omega) (by omega) 0 (by omega)) (i := 2) (j := 1) (by omega) (by omega) 0 (by omega)) (i := 2) (j := 2) (by omega) (by omega) 0 (by omega)) (i := 2) (j := 3) (by omega) (by omega) 0 (by omega))
        replace hc := hc2
        clear hc2
        replace hf : hp_le h (hp_f4 g7 (12 + 2) (nI 0)) := le_tr (le_tr (le_tr (le_tr hf (le_sI (by omega))) (le_sI (by omega))) (le_sI (by omega))) (le_sI (by omega))
        generalize hp_f4 g7 (12 + 2) (nI 0) = g10 at hc hf ⊢
        refine rw_iinc (pc := 22) (x := nI 2) (y := nI 3) (L' := [some (.inr (some 4)), some (.inl (nI 3))]) dS_goDown_22 (by decide) rfl (by decide) rfl ?_
        refine rw_goto (pc := 25) dS_goDown_25 (tgt := 7) rfl ?_
        refine rw_iload_n (pc := 7) dS_goDown_7 rfl ?_
        refine rw_iconst (pc := 8) (x := nI 3) dS_goDown_8 (by decide) ?_
        refine rw_icmpge (pc := 9) dS_goDown_9 (tgt := 28) rfl (fun c11 => ?_) (fun c11 => ?_)
        · skip
          replace c11 : 3 ≤ 3 := (nI_leI (a := 3) (b := 3) (by omega) (by omega)).mp c11
          refine rw_iconst (pc := 28) (x := nI 0) dS_goDown_28 (by decide) ?_
          refine rw_istore_n (pc := 29) (L' := [some (.inr (some 4)), some (.inl (nI 0))]) dS_goDown_29 (by decide) rfl ?_
          refine rw_iload_n (pc := 30) dS_goDown_30 rfl ?_
          refine rw_iconst (pc := 31) (x := nI 4) dS_goDown_31 (by decide) ?_
          refine rw_icmpge (pc := 32) dS_goDown_32 (tgt := 50) rfl (fun c12 => ?_) (fun c12 => ?_)
          · skip
            replace c12 : 4 ≤ 0 := (nI_leI (a := 4) (b := 0) (by omega) (by omega)).mp c12
            exact absurd c12 (by decide)
          · skip
            replace c12 : ¬ (4 ≤ 0) := fun qz => c12 ((nI_leI (a := 4) (b := 0) (by omega) (by omega)).mpr qz)
            refine rw_aload_n (pc := 35) dS_goDown_35 rfl ?_
            refine rw_getR (pc := 36) (x := some 19) flS_30_S dS_goDown_36 (cs_o hc (by omega) (by omega)) (cs_S4 hc) (cr_4_6 hc) ?_
            refine rw_iload_n (pc := 39) dS_goDown_39 rfl ?_
            refine rw_aald (pc := 40) (v := some (20 + 2 * 0)) (i := 0) (t := 4) rfl ⟨rfl, by decide⟩ dS_goDown_40 (cs_o hc (by omega) (by omega)) (cs_S19 hc) (ix_nI (by omega) (by decide)) (cr_19 hc (by omega)) ?_
            refine rw_vv (pc := 41) (z' := (0, 0, 0)) (rc' := 0) (rs' := 0) (av := []) (st := []) (ci := 3) mlS_62 miQ_clear rfl mvQ_clear_Q dS_goDown_41 (cs_o hc (by omega) (by omega)) (cs_SQ hc (by omega)) (cQ_clear G _ hc (f := 0) (by omega)) rfl rfl (Nat.le_of_ble_eq_true rfl) (Nat.le_of_ble_eq_true rfl) rfl rfl (fun h13 q13 => ?_)
            obtain ⟨hc, hf1⟩ := q13
            replace hf := le_tr hf hf1
            refine rw_iinc (pc := 44) (x := nI 0) (y := nI 1) (L' := [some (.inr (some 4)), some (.inl (nI 1))]) dS_goDown_44 (by decide) rfl (by decide) rfl ?_
            refine rw_goto (pc := 47) dS_goDown_47 (tgt := 30) rfl ?_
            refine rw_iload_n (pc := 30) dS_goDown_30 rfl ?_
            refine rw_iconst (pc := 31) (x := nI 4) dS_goDown_31 (by decide) ?_
            refine rw_icmpge (pc := 32) dS_goDown_32 (tgt := 50) rfl (fun c14 => ?_) (fun c14 => ?_)
            · skip
              replace c14 : 4 ≤ 1 := (nI_leI (a := 4) (b := 1) (by omega) (by omega)).mp c14
              exact absurd c14 (by decide)
            · skip
              replace c14 : ¬ (4 ≤ 1) := fun qz => c14 ((nI_leI (a := 4) (b := 1) (by omega) (by omega)).mpr qz)
              refine rw_aload_n (pc := 35) dS_goDown_35 rfl ?_
              refine rw_getR (pc := 36) (x := some 19) flS_30_S dS_goDown_36 (cs_o hc (by omega) (by omega)) (cs_S4 hc) (cr_4_6 hc) ?_
              refine rw_iload_n (pc := 39) dS_goDown_39 rfl ?_
              refine rw_aald (pc := 40) (v := some (20 + 2 * 1)) (i := 1) (t := 4) rfl ⟨rfl, by decide⟩ dS_goDown_40 (cs_o hc (by omega) (by omega)) (cs_S19 hc) (ix_nI (by omega) (by decide)) (cr_19 hc (by omega)) ?_
              refine rw_vv (pc := 41) (z' := (0, 0, 0)) (rc' := 0) (rs' := 0) (av := []) (st := []) (ci := 3) mlS_62 miQ_clear rfl mvQ_clear_Q dS_goDown_41 (cs_o hc (by omega) (by omega)) (cs_SQ hc (by omega)) (cQ_clear G _ hc (f := 1) (by omega)) rfl rfl (Nat.le_of_ble_eq_true rfl) (Nat.le_of_ble_eq_true rfl) rfl rfl (fun h15 q15 => ?_)
              obtain ⟨hc, hf1⟩ := q15
              replace hf := le_tr hf hf1
              refine rw_iinc (pc := 44) (x := nI 1) (y := nI 2) (L' := [some (.inr (some 4)), some (.inl (nI 2))]) dS_goDown_44 (by decide) rfl (by decide) rfl ?_
              refine rw_goto (pc := 47) dS_goDown_47 (tgt := 30) rfl ?_
              refine rw_iload_n (pc := 30) dS_goDown_30 rfl ?_
              refine rw_iconst (pc := 31) (x := nI 4) dS_goDown_31 (by decide) ?_
              refine rw_icmpge (pc := 32) dS_goDown_32 (tgt := 50) rfl (fun c16 => ?_) (fun c16 => ?_)
              · skip
                replace c16 : 4 ≤ 2 := (nI_leI (a := 4) (b := 2) (by omega) (by omega)).mp c16
                exact absurd c16 (by decide)
              · skip
                replace c16 : ¬ (4 ≤ 2) := fun qz => c16 ((nI_leI (a := 4) (b := 2) (by omega) (by omega)).mpr qz)
                refine rw_aload_n (pc := 35) dS_goDown_35 rfl ?_
                refine rw_getR (pc := 36) (x := some 19) flS_30_S dS_goDown_36 (cs_o hc (by omega) (by omega)) (cs_S4 hc) (cr_4_6 hc) ?_
                refine rw_iload_n (pc := 39) dS_goDown_39 rfl ?_
                refine rw_aald (pc := 40) (v := some (20 + 2 * 2)) (i := 2) (t := 4) rfl ⟨rfl, by decide⟩ dS_goDown_40 (cs_o hc (by omega) (by omega)) (cs_S19 hc) (ix_nI (by omega) (by decide)) (cr_19 hc (by omega)) ?_
                refine rw_vv (pc := 41) (z' := (0, 0, 0)) (rc' := 0) (rs' := 0) (av := []) (st := []) (ci := 3) mlS_62 miQ_clear rfl mvQ_clear_Q dS_goDown_41 (cs_o hc (by omega) (by omega)) (cs_SQ hc (by omega)) (cQ_clear G _ hc (f := 2) (by omega)) rfl rfl (Nat.le_of_ble_eq_true rfl) (Nat.le_of_ble_eq_true rfl) rfl rfl (fun h17 q17 => ?_)
                obtain ⟨hc, hf1⟩ := q17
                replace hf := le_tr hf hf1
                refine rw_iinc (pc := 44) (x := nI 2) (y := nI 3) (L' := [some (.inr (some 4)), some (.inl (nI 3))]) dS_goDown_44 (by decide) rfl (by decide) rfl ?_
                refine rw_goto (pc := 47) dS_goDown_47 (tgt := 30) rfl ?_
                refine rw_iload_n (pc := 30) dS_goDown_30 rfl ?_
                refine rw_iconst (pc := 31) (x := nI 4) dS_goDown_31 (by decide) ?_
                refine rw_icmpge (pc := 32) dS_goDown_32 (tgt := 50) rfl (fun c18 => ?_) (fun c18 => ?_)
                · skip
                  replace c18 : 4 ≤ 3 := (nI_leI (a := 4) (b := 3) (by omega) (by omega)).mp c18
                  exact absurd c18 (by decide)
                · skip
                  replace c18 : ¬ (4 ≤ 3) := fun qz => c18 ((nI_leI (a := 4) (b := 3) (by omega) (by omega)).mpr qz)
                  refine rw_aload_n (pc := 35) dS_goDown_35 rfl ?_
                  refine rw_getR (pc := 36) (x := some 19) flS_30_S dS_goDown_36 (cs_o hc (by omega) (by omega)) (cs_S4 hc) (cr_4_6 hc) ?_
                  refine rw_iload_n (pc := 39) dS_goDown_39 rfl ?_
                  refine rw_aald (pc := 40) (v := some (20 + 2 * 3)) (i := 3) (t := 4) rfl ⟨rfl, by decide⟩ dS_goDown_40 (cs_o hc (by omega) (by omega)) (cs_S19 hc) (ix_nI (by omega) (by decide)) (cr_19 hc (by omega)) ?_
                  refine rw_vv (pc := 41) (z' := (0, 0, 0)) (rc' := 0) (rs' := 0) (av := []) (st := []) (ci := 3) mlS_62 miQ_clear rfl mvQ_clear_Q dS_goDown_41 (cs_o hc (by omega) (by omega)) (cs_SQ hc (by omega)) (cQ_clear G _ hc (f := 3) (by omega)) rfl rfl (Nat.le_of_ble_eq_true rfl) (Nat.le_of_ble_eq_true rfl) rfl rfl (fun h19 q19 => ?_)
                  obtain ⟨hc, hf1⟩ := q19
                  replace hf := le_tr hf hf1
                  refine rw_iinc (pc := 44) (x := nI 3) (y := nI 4) (L' := [some (.inr (some 4)), some (.inl (nI 4))]) dS_goDown_44 (by decide) rfl (by decide) rfl ?_
                  refine rw_goto (pc := 47) dS_goDown_47 (tgt := 30) rfl ?_
                  refine rw_iload_n (pc := 30) dS_goDown_30 rfl ?_
                  refine rw_iconst (pc := 31) (x := nI 4) dS_goDown_31 (by decide) ?_
                  refine rw_icmpge (pc := 32) dS_goDown_32 (tgt := 50) rfl (fun c20 => ?_) (fun c20 => ?_)
                  · skip
                    replace c20 : 4 ≤ 4 := (nI_leI (a := 4) (b := 4) (by omega) (by omega)).mp c20
                    refine rw_vret (pc := 50) dS_goDown_50 rfl ⟨rfl, cv_lnx (cv_mdx hc (fun c f h1 h2 => ?_)) (fun f h2 => ?_), hf⟩
                    · rcases (by omega : c = 0 ∨ c = 1 ∨ c = 2) with rfl | rfl | rfl <;> rcases (by omega : f = 0 ∨ f = 1 ∨ f = 2 ∨ f = 3) with rfl | rfl | rfl | rfl <;> simp [fu2]
                    · rcases (by omega : f = 0 ∨ f = 1 ∨ f = 2 ∨ f = 3) with rfl | rfl | rfl | rfl <;> simp [fu]
                  · skip
                    replace c20 : ¬ (4 ≤ 4) := fun qz => c20 ((nI_leI (a := 4) (b := 4) (by omega) (by omega)).mpr qz)
                    exact absurd (by decide) c20
        · skip
          replace c11 : ¬ (3 ≤ 3) := fun qz => c11 ((nI_leI (a := 3) (b := 3) (by omega) (by omega)).mpr qz)
          exact absurd (by decide) c11
theorem cS_comeUp (G : mt_G) (h : ha_H) {L : Nat} {n : List ab_M} {su : Bool} {sn : Int32} {sg : Bool} {se : Int32} {pg : Nat → Nat → Int32} {md : Nat → Nat → Nat} {en : Nat → Nat → Int32} {sd : Nat → Option ab_M} {ln : Nat → List ab_M} {C : Nat → ab_C} (hc : CV L n su sn sg se pg md en sd ln C h) : rn_M G xS_comeUp (0, 0, 0) [.inr (some 4)] h (rn_v (fun h' => CV L n true sn true (sn + nI L) pg md en sd ln C h' ∧ hp_le h h')) := by
  have hf := le_rf h
  refine rn_of (by decide +kernel) (Nat.le_of_ble_eq_true rfl) ?_
  show rn_W G xS_comeUp (0, 0, 0) 0 0 0 [some (.inr (some 4))] [] h _
  refine rw_aload_n (pc := 0) dS_comeUp_0 rfl ?_
  refine rw_iconst (pc := 1) (x := nI 1) dS_comeUp_1 (by decide) ?_
  refine rw_putZ (pc := 2) pfS_34_S dS_comeUp_2 (cs_o hc (by omega) (by omega)) (cs_S4 hc) (Or.inr rfl) ?_
  replace hc := wv_su hc true
  replace hf := le_tr hf (le_sI (h := h) (A := 4) (k := 7) (v := (m_bi true)) (by omega))
  show rn_W G xS_comeUp (0, 0, 0) 0 0 5 [some (.inr (some 4))] [] (hp_sI h 4 7 (m_bi true)) _
  generalize hp_sI h 4 7 (m_bi true) = g1 at hc hf ⊢
  refine rw_aload_n (pc := 5) dS_comeUp_5 rfl ?_
  refine rw_iconst (pc := 6) (x := nI 1) dS_comeUp_6 (by decide) ?_
  refine rw_putZ (pc := 7) pfS_42_S dS_comeUp_7 (cs_o hc (by omega) (by omega)) (cs_S4 hc) (Or.inr rfl) ?_
  replace hc := wv_sg hc true
  replace hf := le_tr hf (le_sI (h := g1) (A := 4) (k := 9) (v := (m_bi true)) (by omega))
  show rn_W G xS_comeUp (0, 0, 0) 0 0 10 [some (.inr (some 4))] [] (hp_sI g1 4 9 (m_bi true)) _
  generalize hp_sI g1 4 9 (m_bi true) = g2 at hc hf ⊢
  refine rw_aload_n (pc := 10) dS_comeUp_10 rfl ?_
  refine rw_aload_n (pc := 11) dS_comeUp_11 rfl ?_
  refine rw_getI (pc := 12) (x := sn) flS_38_S dS_comeUp_12 (cs_o hc (by omega) (by omega)) (cs_S4 hc) (cp_sn hc) ?_
  refine rw_aload_n (pc := 15) dS_comeUp_15 rfl ?_
  refine rw_getI (pc := 16) (x := nI L) flS_52_S dS_comeUp_16 (cs_o hc (by omega) (by omega)) (cs_S4 hc) (cp_L hc).1 ?_
  refine rw_iadd (pc := 19) (v := sn + (nI L)) dS_comeUp_19 rfl ?_
  refine rw_putI (pc := 20) pfS_45_S dS_comeUp_20 (cs_o hc (by omega) (by omega)) (cs_S4 hc) ?_
  replace hc := wv_se hc (sn + (nI L))
  replace hf := le_tr hf (le_sI (h := g2) (A := 4) (k := 10) (v := (sn + (nI L))) (by omega))
  generalize hp_sI g2 4 10 (sn + (nI L)) = g3 at hc hf ⊢
  exact rw_vret (pc := 23) dS_comeUp_23 rfl ⟨rfl, hc, hf⟩
theorem cS_leaseAndRest (G : mt_G) (h : ha_H) {L : Nat} {n : List ab_M} {su : Bool} {sn : Int32} {sg : Bool} {se : Int32} {pg : Nat → Nat → Int32} {md : Nat → Nat → Nat} {en : Nat → Nat → Int32} {sd : Nat → Option ab_M} {ln : Nat → List ab_M} {C : Nat → ab_C} (hc : CV L n su sn sg se pg md en sd ln C h) {c f : Nat} (hl : c < 3) (hf4 : f < 4) : rn_M G xS_leaseAndRest (1, 0, 0) [.inr (some 4), .inl (nI c), .inl (nI f)] h (rn_i (fun r h' => r = (bif f_hl md c f then nI (1000 * md c f) + en c f - sn else nI 0) ∧ h = h')) := by
  have hf := le_rf h
  have hm2 := (cp_md hc c f hl hf4).2
  refine rn_of (by decide +kernel) (Nat.le_of_ble_eq_true rfl) ?_
  show rn_W G xS_leaseAndRest (1, 0, 0) 0 0 0 [some (.inr (some 4)), some (.inl (nI c)), some (.inl (nI f))] [] h _
  refine rw_aload_n (pc := 0) dS_leaseAndRest_0 rfl ?_
  refine rw_iload_n (pc := 1) dS_leaseAndRest_1 rfl ?_
  refine rw_iload_n (pc := 2) dS_leaseAndRest_2 rfl ?_
  refine rw_vi (pc := 3) (z' := (0, 0, 0)) (rc' := 0) (rs' := 0) (av := [.inl (nI c), .inl (nI f)]) (st := []) (ci := 2) mlS_71 miS_hasLease rfl mvS_hasLease_S dS_leaseAndRest_3 (cs_o hc (by omega) (by omega)) (cs_S4 hc) (cS_hasLease G _ hc (by omega) (by omega)) rfl rfl (Nat.le_of_ble_eq_true rfl) (Nat.le_of_ble_eq_true rfl) rfl rfl (fun r1 h1 q1 => ?_)
  obtain ⟨rfl, rfl⟩ := q1
  refine rw_ifeq (pc := 6) dS_leaseAndRest_6 (tgt := 38) rfl (fun c2 => ?_) (fun c2 => ?_)
  · skip
    replace c2 : (f_hl md c f) = false := (m_bi0 _).mp c2
    refine rw_iconst (pc := 38) (x := nI 0) dS_leaseAndRest_38 (by decide) ?_
    exact rw_iret (pc := 39) dS_leaseAndRest_39 rfl ⟨_, rfl, by simp only [c2, cond_true, cond_false]; try rfl, rfl⟩
  · skip
    replace c2 : (f_hl md c f) = true := mb_T c2
    refine rw_sipush (pc := 9) (x := nI 1000) dS_leaseAndRest_9 (by decide) ?_
    refine rw_aload_n (pc := 12) dS_leaseAndRest_12 rfl ?_
    refine rw_getR (pc := 13) (x := some 11) flS_22_S dS_leaseAndRest_13 (cs_o hc (by omega) (by omega)) (cs_S4 hc) (cr_4_4 hc) ?_
    refine rw_iload_n (pc := 16) dS_leaseAndRest_16 rfl ?_
    refine rw_aald (pc := 17) (v := some (12 + c)) (i := c) (t := 9) rfl ⟨rfl, by decide⟩ dS_leaseAndRest_17 (cs_o hc (by omega) (by omega)) (cs_S11 hc) (ix_nI (by omega) (by decide)) (cr_11 hc (by omega)) ?_
    refine rw_iload_n (pc := 18) dS_leaseAndRest_18 rfl ?_
    refine rw_iald (pc := 19) (v := nI (md c f)) (i := f) dS_leaseAndRest_19 (cs_o hc (by omega) (by omega)) (cs_Smd hc (by omega)) (ix_nI (by omega) (by decide)) ((cp_md hc) _ _ (by omega) (by omega)).1 ?_
    refine rw_imul (pc := 20) (v := nI (1000 * (md c f))) dS_leaseAndRest_20 (pk_mul _ _) ?_
    refine rw_aload_n (pc := 21) dS_leaseAndRest_21 rfl ?_
    refine rw_getR (pc := 22) (x := some 15) flS_25_S dS_leaseAndRest_22 (cs_o hc (by omega) (by omega)) (cs_S4 hc) (cr_4_5 hc) ?_
    refine rw_iload_n (pc := 25) dS_leaseAndRest_25 rfl ?_
    refine rw_aald (pc := 26) (v := some (16 + c)) (i := c) (t := 9) rfl ⟨rfl, by decide⟩ dS_leaseAndRest_26 (cs_o hc (by omega) (by omega)) (cs_S15 hc) (ix_nI (by omega) (by decide)) (cr_15 hc (by omega)) ?_
    refine rw_iload_n (pc := 27) dS_leaseAndRest_27 rfl ?_
    refine rw_iald (pc := 28) (v := en c f) (i := f) dS_leaseAndRest_28 (cs_o hc (by omega) (by omega)) (cs_Sen hc (by omega)) (ix_nI (by omega) (by decide)) ((cp_en hc) _ _ (by omega) (by omega)) ?_
    refine rw_iadd (pc := 29) (v := (nI (1000 * (md c f))) + (en c f)) dS_leaseAndRest_29 rfl ?_
    refine rw_aload_n (pc := 30) dS_leaseAndRest_30 rfl ?_
    refine rw_getI (pc := 31) (x := sn) flS_38_S dS_leaseAndRest_31 (cs_o hc (by omega) (by omega)) (cs_S4 hc) (cp_sn hc) ?_
    refine rw_isub (pc := 34) (v := ((nI (1000 * (md c f))) + (en c f)) - sn) dS_leaseAndRest_34 rfl ?_
    refine rw_goto (pc := 35) dS_leaseAndRest_35 (tgt := 39) rfl ?_
    exact rw_iret (pc := 39) dS_leaseAndRest_39 rfl ⟨_, rfl, by simp only [c2, cond_true, cond_false]; try rfl, rfl⟩
