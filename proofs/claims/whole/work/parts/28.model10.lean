/-- the places of the writes that wait, and how many a client has -/
def mo_dp (h : ha_H) : Prop := ∀ j, j < 18 → ∃ q, q < 16 ∧ hp_I h 85 j = nI q
def mo_dw (h : ha_H) : Prop := ∀ c, c < 3 → ∃ w, w ≤ 6 ∧ hp_I h 84 c = nI w
def m_w (h : ha_H) (c : Nat) : Nat := (hp_I h 84 c).toNatClampNeg
theorem m_wE {h : ha_H} (hd : mo_dw h) {c : Nat} (hc : c < 3) : hp_I h 84 c = nI (m_w h c) ∧ m_w h c ≤ 6 := by
  obtain ⟨w, h6, e⟩ := hd c hc
  have e2 : m_w h c = w := by unfold m_w; rw [e]; exact nI_clamp (by omega)
  rw [e2]
  exact ⟨e, h6⟩
theorem m_wI {h : ha_H} {c w : Nat} (e : hp_I h 84 c = nI w) (h6 : w ≤ 6) : m_w h c = w := by unfold m_w; rw [e]; exact nI_clamp (by omega)
theorem dp_sI {h : ha_H} (hd : mo_dp h) {a k : Nat} {v : Int32} (ha : ¬ 85 = a) : mo_dp (hp_sI h a k v) := fun j hj => by
  obtain ⟨q, hq, e⟩ := hd j hj
  exact ⟨q, hq, hI_sI ha e⟩
theorem dp_mv {h : ha_H} (hd : mo_dp h) {A i B t : Nat} (ha : ¬ 85 = B) : mo_dp (hp_mv h A i B t) := dp_sI hd ha
theorem dp_m85 {h : ha_H} (hd : mo_dp h) {i t : Nat} (hi : i < 18) : mo_dp (hp_mv h 85 i 85 t) := fun j hj => by
  unfold hp_mv
  rw [hp_I_sI]
  by_cases e : 85 = 85 ∧ j = t
  · rw [if_pos e]
    exact hd i hi
  · rw [if_neg e]
    exact hd j hj
theorem dp_set {h : ha_H} (hd : mo_dp h) {k q : Nat} (hq : q < 16) : mo_dp (hp_sI h 85 k (nI q)) := fun j hj => by
  rw [hp_I_sI]
  by_cases e : 85 = 85 ∧ j = k
  · rw [if_pos e]
    exact ⟨q, hq, rfl⟩
  · rw [if_neg e]
    exact hd j hj
theorem dw_sI {h : ha_H} (hd : mo_dw h) {a k : Nat} {v : Int32} (ha : ¬ 84 = a) : mo_dw (hp_sI h a k v) := fun j hj => by
  obtain ⟨q, hq, e⟩ := hd j hj
  exact ⟨q, hq, hI_sI ha e⟩
theorem dw_mv {h : ha_H} (hd : mo_dw h) {A i B t : Nat} (ha : ¬ 84 = B) : mo_dw (hp_mv h A i B t) := dw_sI hd ha
theorem dw_set {h : ha_H} (hd : mo_dw h) {k w : Nat} (hw : w ≤ 6) : mo_dw (hp_sI h 84 k (nI w)) := fun j hj => by
  rw [hp_I_sI]
  by_cases e : 84 = 84 ∧ j = k
  · rw [if_pos e]
    exact ⟨w, hw, rfl⟩
  · rw [if_neg e]
    exact hd j hj
/-- what stays through a forgetting -/
theorem m_fgP {P : ha_H → Prop} {c f mo : Nat} (hc : c < 3) (h1 : ∀ h i t, i < 18 → P h → P (hp_mv h 85 i 85 t)) (h2 : ∀ h i t, P h → P (hp_mv h 86 i 86 t)) (h3 : ∀ h w, w ≤ 6 → P h → P (hp_sI h 84 c (nI w))) : ∀ (n : Nat) (h : ha_H) (kept gone k : Nat), kept ≤ k → k + n ≤ 6 → P h → P (m_fg c f mo n h kept gone k)
  | 0, h, kept, gone, k, hk, hn, hP => h3 h kept (by omega) hP
  | n + 1, h, kept, gone, k, hk, hn, hP => by
    unfold m_fg
    split
    · exact m_fgP hc h1 h2 h3 n h kept (gone + 1) (k + 1) (by omega) (by omega) hP
    · exact m_fgP hc h1 h2 h3 n _ (kept + 1) gone (k + 1) (by omega) (by omega) (h2 _ _ _ (h1 _ _ _ (by omega) hP))
theorem fg_I {h : ha_H} {c f mo n0 : Nat} (hc : c < 3) (h6 : n0 ≤ 6) (hi : mo_I h) : mo_I (m_forget h n0 c f mo) ∧ m_u (m_forget h n0 c f mo) = m_u h :=
  m_fgP (P := fun g => mo_I g ∧ m_u g = m_u h) hc (fun g i t _ hg => have q := mI_mv hg.1 (A := 85) (i := i) (B := 85) (t := t) (by decide) (by decide); ⟨q.1, q.2.trans hg.2⟩) (fun g i t hg => have q := mI_mv hg.1 (A := 86) (i := i) (B := 86) (t := t) (by decide) (by decide); ⟨q.1, q.2.trans hg.2⟩) (fun g w _ hg => have q := mI_sI hg.1 (a := 84) (k := c) (v := nI w) (by decide) (fun q => absurd q (by decide)); ⟨q.1, q.2.trans hg.2⟩) n0 h 0 0 0 (Nat.le_refl _) (by omega) ⟨hi, rfl⟩
theorem fg_dp {h : ha_H} {c f mo n0 : Nat} (hc : c < 3) (h6 : n0 ≤ 6) (hd : mo_dp h) : mo_dp (m_forget h n0 c f mo) :=
  m_fgP (P := mo_dp) hc (fun g i t hi hg => dp_m85 hg hi) (fun g i t hg => dp_mv hg (by decide)) (fun g w _ hg => dp_sI hg (by decide)) n0 h 0 0 0 (Nat.le_refl _) (by omega) hd
theorem fg_dw {h : ha_H} {c f mo n0 : Nat} (hc : c < 3) (h6 : n0 ≤ 6) (hd : mo_dw h) : mo_dw (m_forget h n0 c f mo) :=
  m_fgP (P := mo_dw) hc (fun g i t _ hg => dw_mv hg (by decide)) (fun g i t hg => dw_mv hg (by decide)) (fun g w hw hg => dw_set hg hw) n0 h 0 0 0 (Nat.le_refl _) (by omega) hd
def m_gdA (h : ha_H) (c f : Nat) (m : Int32) : ha_H := hp_sI (hp_sI (hp_sI h 87 c (nI 0)) 79 (4 * c + f) m) 80 (4 * c + f) (hp_I h 93 c + hp_I h 62 0 / nI 2 - nI 2)
def m_gdB (h : ha_H) (n0 c f : Nat) : ha_H := hp_sI (m_forget h n0 c f 6) 82 (4 * c + f) (nI 1)
def m_gdC (h : ha_H) (c f fr : Nat) : ha_H := hp_mv (hp_mv (hp_mv (hp_mv h 102 (fr + 0) 83 (16 * c + 4 * f + 0)) 102 (fr + 1) 83 (16 * c + 4 * f + 1)) 102 (fr + 2) 83 (16 * c + 4 * f + 2)) 102 (fr + 3) 83 (16 * c + 4 * f + 3)
def m_rd (c f : Nat) : Nat → ha_H → Nat → ha_H
  | 0, h, _ => h
  | n + 1, h, k => if hp_I h 85 (6 * c + k) / nI 4 = nI f then m_rd c f n (hp_sI h 83 (16 * c + (hp_I h 85 (6 * c + k)).toNatClampNeg) (hp_I h 86 (6 * c + k))) (k + 1) else m_rd c f n h (k + 1)
def m_gdD (h : ha_H) (n1 c f fr : Nat) : ha_H := hp_sI (m_rd c f n1 (m_gdC h c f fr) 0) 81 (4 * c + f) (nI 0)
def m_granted (h : ha_H) (c f : Nat) (m : Int32) (mb : Bool) (fr : Nat) : ha_H := if (!mb && m_hdN (m_gdA h c f m) c f (m_w h c)) = true then m_gdD (m_gdB (m_gdA h c f m) (m_w h c) c f) (m_w (m_gdB (m_gdA h c f m) (m_w h c) c f) c) c f fr else m_gdD (m_gdA h c f m) (m_w h c) c f fr
theorem cM_granted (G : mt_G) (h : ha_H) (hi : mo_I h) (hp : mo_dp h) (hdw : mo_dw h) {c f : Nat} (hc : c < 3) (hf : f < 4) (m : Int32) (mb : Bool) {fr : Nat} (hfr : fr + 3 < 240) : rn_M G xM_granted (1, 0, 0) [.inr (some 62), .inl (nI c), .inl (nI f), .inl m, .inl (m_bi mb), .inl (nI fr)] h (rn_v (fun h' => m_granted h c f m mb fr = h')) := by
  refine rn_of (by decide +kernel) (Nat.le_of_ble_eq_true rfl) ?_
  show rn_W G xM_granted (1, 0, 0) 0 0 0 [some (.inr (some 62)), some (.inl (nI c)), some (.inl (nI f)), some (.inl m), some (.inl (m_bi mb)), some (.inl (nI fr)), none] [] h _
  have loop : ∀ (n k n1 : Nat) (g : ha_H), k + n = n1 → n1 ≤ 6 → mo_ok g → mo_dp g → hp_I g 84 c = nI n1 → hp_sI (m_rd c f n g k) 81 (4 * c + f) (nI 0) = m_granted h c f m mb fr → rn_W G xM_granted (1, 0, 0) 0 0 120 [some (.inr (some 62)), some (.inl (nI c)), some (.inl (nI f)), some (.inl m), some (.inl (m_bi mb)), some (.inl (nI fr)), some (.inl (nI k))] [] g (rn_v (fun h' => m_granted h c f m mb fr = h')) := by
    intro n
    induction n with
    | zero =>
      intro k n1 g hd h6 hm hp hw he
      refine rw_iload (pc := 120) dM_granted_120 rfl ?_
      refine rw_aload_n (pc := 122) dM_granted_122 rfl ?_
      refine rw_getR (pc := 123) (x := some 84) flM_74_M dM_granted_123 (mo_o62 hm) (mo_S62 hm) (mo_R84 hm) ?_
      refine rw_iload_n (pc := 126) dM_granted_126 rfl ?_
      refine rw_iald (pc := 127) (v := nI n1) (i := c) dM_granted_127 (mo_o84 hm) (mo_S84 hm) (ix_nI (by omega) (by decide)) hw ?_
      refine rw_icmpge (pc := 128) dM_granted_128 (tgt := 189) rfl (fun c1 => ?_) (fun c1 => ?_)
      · skip
        replace c1 : n1 ≤ k := (nI_leI (a := n1) (b := k) (by omega) (by omega)).mp c1
        refine rw_aload_n (pc := 189) dM_granted_189 rfl ?_
        refine rw_getR (pc := 190) (x := some 81) flM_65_M dM_granted_190 (mo_o62 hm) (mo_S62 hm) (mo_R81 hm) ?_
        refine rw_iconst (pc := 193) (x := nI 4) dM_granted_193 (by decide) ?_
        refine rw_iload_n (pc := 194) dM_granted_194 rfl ?_
        refine rw_imul (pc := 195) (v := nI (4 * c)) dM_granted_195 (pk_mul _ _) ?_
        refine rw_iload_n (pc := 196) dM_granted_196 rfl ?_
        refine rw_iadd (pc := 197) (v := nI (4 * c + f)) dM_granted_197 (nI_add _ _) ?_
        refine rw_iconst (pc := 198) (x := nI 0) dM_granted_198 (by decide) ?_
        refine rw_zast (pc := 199) (i := (4 * c + f)) (Or.inl rfl) dM_granted_199 (mo_o81 hm) (mo_S81 hm) (ix_nI (by omega) (by decide)) ?_
        replace hm := mo_sI (a := 81) (k := (4 * c + f)) (v := nI 0) hm
        replace hw := hI_sI (a := 81) (k := (4 * c + f)) (v := nI 0) (by decide) hw
        replace hp := dp_sI hp (a := 81) (k := (4 * c + f)) (v := nI 0) (by decide)
        exact rw_vret (pc := 200) dM_granted_200 rfl ⟨rfl, he.symm⟩
      · skip
        replace c1 : ¬ (n1 ≤ k) := fun qz => c1 ((nI_leI (a := n1) (b := k) (by omega) (by omega)).mpr qz)
        omega
    | succ n ih =>
      intro k n1 g hd h6 hm hp hw he
      refine rw_iload (pc := 120) dM_granted_120 rfl ?_
      refine rw_aload_n (pc := 122) dM_granted_122 rfl ?_
      refine rw_getR (pc := 123) (x := some 84) flM_74_M dM_granted_123 (mo_o62 hm) (mo_S62 hm) (mo_R84 hm) ?_
      refine rw_iload_n (pc := 126) dM_granted_126 rfl ?_
      refine rw_iald (pc := 127) (v := nI n1) (i := c) dM_granted_127 (mo_o84 hm) (mo_S84 hm) (ix_nI (by omega) (by decide)) hw ?_
      refine rw_icmpge (pc := 128) dM_granted_128 (tgt := 189) rfl (fun c2 => ?_) (fun c2 => ?_)
      · skip
        replace c2 : n1 ≤ k := (nI_leI (a := n1) (b := k) (by omega) (by omega)).mp c2
        omega
      · skip
        replace c2 : ¬ (n1 ≤ k) := fun qz => c2 ((nI_leI (a := n1) (b := k) (by omega) (by omega)).mpr qz)
        obtain ⟨q, hq, hpq⟩ := hp (6 * c + k) (by omega)
        have hpq0 := hpq
        have hdv : hp_I g 85 (6 * c + k) / nI 4 = nI f ↔ q / 4 = f := by rw [hpq, show nI q / nI 4 = nI (q / 4) from pk_div (by omega) (by decide) (by decide), nI_eq (by omega) (by omega)]
        refine rw_aload_n (pc := 131) dM_granted_131 rfl ?_
        refine rw_getR (pc := 132) (x := some 85) flM_77_M dM_granted_132 (mo_o62 hm) (mo_S62 hm) (mo_R85 hm) ?_
        refine rw_bipush (pc := 135) (x := nI 6) dM_granted_135 (by decide) ?_
        refine rw_iload_n (pc := 137) dM_granted_137 rfl ?_
        refine rw_imul (pc := 138) (v := nI (6 * c)) dM_granted_138 (pk_mul _ _) ?_
        refine rw_iload (pc := 139) dM_granted_139 rfl ?_
        refine rw_iadd (pc := 141) (v := nI (6 * c + k)) dM_granted_141 (nI_add _ _) ?_
        refine rw_iald (pc := 142) (v := nI q) (i := (6 * c + k)) dM_granted_142 (mo_o85 hm) (mo_S85 hm) (ix_nI (by omega) (by decide)) hpq ?_
        refine rw_iconst (pc := 143) (x := nI 4) dM_granted_143 (by decide) ?_
        refine rw_idiv (pc := 144) (v := nI (q / 4)) dM_granted_144 (by decide) (pk_div (by omega) (by decide) (by decide)) ?_
        refine rw_iload_n (pc := 145) dM_granted_145 rfl ?_
        refine rw_icmpne (pc := 146) dM_granted_146 (tgt := 183) rfl (fun c3 => ?_) (fun c3 => ?_)
        · skip
          replace c3 : ¬ ((q / 4) = f) := fun qz => c3 ((nI_eq (a := (q / 4)) (b := f) (by omega) (by omega)).mpr qz)
          refine rw_iinc (pc := 183) (x := nI k) (y := nI (k + 1)) (L' := [some (.inr (some 62)), some (.inl (nI c)), some (.inl (nI f)), some (.inl m), some (.inl (m_bi mb)), some (.inl (nI fr)), some (.inl (nI (k + 1)))]) dM_granted_183 (by decide) rfl (nI_add _ 1) rfl ?_
          refine rw_goto (pc := 186) dM_granted_186 (tgt := 120) rfl ?_
          refine ih (k + 1) n1 _ (by omega) h6 hm hp hw ?_
          rw [← he]
          rw [show m_rd c f (n + 1) g k = _ from if_neg (fun z => c3 (hdv.mp z))]
        · skip
          replace c3 : (q / 4) = f := (nI_eq (a := (q / 4)) (b := f) (by omega) (by omega)).mp c3
          refine rw_aload_n (pc := 149) dM_granted_149 rfl ?_
          refine rw_getR (pc := 150) (x := some 83) flM_71_M dM_granted_150 (mo_o62 hm) (mo_S62 hm) (mo_R83 hm) ?_
          refine rw_bipush (pc := 153) (x := nI 16) dM_granted_153 (by decide) ?_
          refine rw_iload_n (pc := 155) dM_granted_155 rfl ?_
          refine rw_imul (pc := 156) (v := nI (16 * c)) dM_granted_156 (pk_mul _ _) ?_
          refine rw_aload_n (pc := 157) dM_granted_157 rfl ?_
          refine rw_getR (pc := 158) (x := some 85) flM_77_M dM_granted_158 (mo_o62 hm) (mo_S62 hm) (mo_R85 hm) ?_
          refine rw_bipush (pc := 161) (x := nI 6) dM_granted_161 (by decide) ?_
          refine rw_iload_n (pc := 163) dM_granted_163 rfl ?_
          refine rw_imul (pc := 164) (v := nI (6 * c)) dM_granted_164 (pk_mul _ _) ?_
          refine rw_iload (pc := 165) dM_granted_165 rfl ?_
          refine rw_iadd (pc := 167) (v := nI (6 * c + k)) dM_granted_167 (nI_add _ _) ?_
          refine rw_iald (pc := 168) (v := nI q) (i := (6 * c + k)) dM_granted_168 (mo_o85 hm) (mo_S85 hm) (ix_nI (by omega) (by decide)) hpq ?_
          refine rw_iadd (pc := 169) (v := nI (16 * c + q)) dM_granted_169 (nI_add _ _) ?_
          refine rw_aload_n (pc := 170) dM_granted_170 rfl ?_
          refine rw_getR (pc := 171) (x := some 86) flM_80_M dM_granted_171 (mo_o62 hm) (mo_S62 hm) (mo_R86 hm) ?_
          refine rw_bipush (pc := 174) (x := nI 6) dM_granted_174 (by decide) ?_
          refine rw_iload_n (pc := 176) dM_granted_176 rfl ?_
          refine rw_imul (pc := 177) (v := nI (6 * c)) dM_granted_177 (pk_mul _ _) ?_
          refine rw_iload (pc := 178) dM_granted_178 rfl ?_
          refine rw_iadd (pc := 180) (v := nI (6 * c + k)) dM_granted_180 (nI_add _ _) ?_
          refine rw_iald (pc := 181) (v := hp_I g 86 (6 * c + k)) (i := (6 * c + k)) dM_granted_181 (mo_o86 hm) (mo_S86 hm) (ix_nI (by omega) (by decide)) rfl ?_
          refine rw_iast (pc := 182) (i := (16 * c + q)) dM_granted_182 (mo_o83 hm) (mo_S83 hm) (ix_nI (by omega) (by decide)) ?_
          show rn_W G xM_granted (1, 0, 0) 0 0 183 [some (.inr (some 62)), some (.inl (nI c)), some (.inl (nI f)), some (.inl m), some (.inl (m_bi mb)), some (.inl (nI fr)), some (.inl (nI k))] [] (hp_mv g 86 (6 * c + k) 83 (16 * c + q)) (rn_v (fun h' => m_granted h c f m mb fr = h'))
          replace hm := mo_mv (A := 86) (i := (6 * c + k)) (B := 83) (t := (16 * c + q)) hm
          replace hw := hI_mv (A := 86) (i := (6 * c + k)) (B := 83) (t := (16 * c + q)) (by decide) hw
          replace hpq := hI_mv (A := 86) (i := (6 * c + k)) (B := 83) (t := (16 * c + q)) (by decide) hpq
          replace hp := dp_mv hp (A := 86) (i := (6 * c + k)) (B := 83) (t := (16 * c + q)) (by decide)
          refine rw_iinc (pc := 183) (x := nI k) (y := nI (k + 1)) (L' := [some (.inr (some 62)), some (.inl (nI c)), some (.inl (nI f)), some (.inl m), some (.inl (m_bi mb)), some (.inl (nI fr)), some (.inl (nI (k + 1)))]) dM_granted_183 (by decide) rfl (nI_add _ 1) rfl ?_
          refine rw_goto (pc := 186) dM_granted_186 (tgt := 120) rfl ?_
          refine ih (k + 1) n1 _ (by omega) h6 hm hp hw ?_
          rw [← he]
          rw [show m_rd c f (n + 1) g k = _ from if_pos (hdv.mpr c3), hpq0, nI_clamp (by omega)]
          rfl
  have tail : ∀ (n1 : Nat) (g : ha_H), n1 ≤ 6 → mo_ok g → mo_dp g → hp_I g 84 c = nI n1 → m_gdD g n1 c f fr = m_granted h c f m mb fr → rn_W G xM_granted (1, 0, 0) 0 0 76 [some (.inr (some 62)), some (.inl (nI c)), some (.inl (nI f)), some (.inl m), some (.inl (m_bi mb)), some (.inl (nI fr)), none] [] g (rn_v (fun h' => m_granted h c f m mb fr = h')) := by
    intro n1 g h6 hm hp hw he
    refine rw_iconst (pc := 76) (x := nI 0) dM_granted_76 (by decide) ?_
    refine rw_istore (pc := 77) (L' := [some (.inr (some 62)), some (.inl (nI c)), some (.inl (nI f)), some (.inl m), some (.inl (m_bi mb)), some (.inl (nI fr)), some (.inl (nI 0))]) dM_granted_77 (by decide) rfl ?_
    refine rw_iload (pc := 79) dM_granted_79 rfl ?_
    refine rw_iconst (pc := 81) (x := nI 4) dM_granted_81 (by decide) ?_
    refine rw_icmpge (pc := 82) dM_granted_82 (tgt := 117) rfl (fun c4 => ?_) (fun c4 => ?_)
    · skip
      replace c4 : 4 ≤ 0 := (nI_leI (a := 4) (b := 0) (by omega) (by omega)).mp c4
      exact absurd c4 (by decide)
    · skip
      replace c4 : ¬ (4 ≤ 0) := fun qz => c4 ((nI_leI (a := 4) (b := 0) (by omega) (by omega)).mpr qz)
      refine rw_aload_n (pc := 85) dM_granted_85 rfl ?_
      refine rw_getR (pc := 86) (x := some 83) flM_71_M dM_granted_86 (mo_o62 hm) (mo_S62 hm) (mo_R83 hm) ?_
      refine rw_bipush (pc := 89) (x := nI 16) dM_granted_89 (by decide) ?_
      refine rw_iload_n (pc := 91) dM_granted_91 rfl ?_
      refine rw_imul (pc := 92) (v := nI (16 * c)) dM_granted_92 (pk_mul _ _) ?_
      refine rw_iconst (pc := 93) (x := nI 4) dM_granted_93 (by decide) ?_
      refine rw_iload_n (pc := 94) dM_granted_94 rfl ?_
      refine rw_imul (pc := 95) (v := nI (4 * f)) dM_granted_95 (pk_mul _ _) ?_
      refine rw_iadd (pc := 96) (v := nI (16 * c + (4 * f))) dM_granted_96 (nI_add _ _) ?_
      refine rw_iload (pc := 97) dM_granted_97 rfl ?_
      refine rw_iadd (pc := 99) (v := nI (16 * c + (4 * f) + 0)) dM_granted_99 (nI_add _ _) ?_
      refine rw_aload_n (pc := 100) dM_granted_100 rfl ?_
      refine rw_getR (pc := 101) (x := some 102) flM_128_M dM_granted_101 (mo_o62 hm) (mo_S62 hm) (mo_R102 hm) ?_
      refine rw_iload (pc := 104) dM_granted_104 rfl ?_
      refine rw_iload (pc := 106) dM_granted_106 rfl ?_
      refine rw_iadd (pc := 108) (v := nI (fr + 0)) dM_granted_108 (nI_add _ _) ?_
      refine rw_iald (pc := 109) (v := hp_I g 102 (fr + 0)) (i := (fr + 0)) dM_granted_109 (mo_o102 hm) (mo_S102 hm) (ix_nI (by omega) (by decide)) rfl ?_
      refine rw_iast (pc := 110) (i := (16 * c + (4 * f) + 0)) dM_granted_110 (mo_o83 hm) (mo_S83 hm) (ix_nI (by omega) (by decide)) ?_
      show rn_W G xM_granted (1, 0, 0) 0 0 111 [some (.inr (some 62)), some (.inl (nI c)), some (.inl (nI f)), some (.inl m), some (.inl (m_bi mb)), some (.inl (nI fr)), some (.inl (nI 0))] [] (hp_mv g 102 (fr + 0) 83 (16 * c + (4 * f) + 0)) (rn_v (fun h' => m_granted h c f m mb fr = h'))
      replace hm := mo_mv (A := 102) (i := (fr + 0)) (B := 83) (t := (16 * c + (4 * f) + 0)) hm
      replace hw := hI_mv (A := 102) (i := (fr + 0)) (B := 83) (t := (16 * c + (4 * f) + 0)) (by decide) hw
      replace hp := dp_mv hp (A := 102) (i := (fr + 0)) (B := 83) (t := (16 * c + (4 * f) + 0)) (by decide)
      refine rw_iinc (pc := 111) (x := nI 0) (y := nI 1) (L' := [some (.inr (some 62)), some (.inl (nI c)), some (.inl (nI f)), some (.inl m), some (.inl (m_bi mb)), some (.inl (nI fr)), some (.inl (nI 1))]) dM_granted_111 (by decide) rfl (by decide) rfl ?_
      refine rw_goto (pc := 114) dM_granted_114 (tgt := 79) rfl ?_
      refine rw_iload (pc := 79) dM_granted_79 rfl ?_
      refine rw_iconst (pc := 81) (x := nI 4) dM_granted_81 (by decide) ?_
      refine rw_icmpge (pc := 82) dM_granted_82 (tgt := 117) rfl (fun c5 => ?_) (fun c5 => ?_)
      · skip
        replace c5 : 4 ≤ 1 := (nI_leI (a := 4) (b := 1) (by omega) (by omega)).mp c5
        exact absurd c5 (by decide)
      · skip
        replace c5 : ¬ (4 ≤ 1) := fun qz => c5 ((nI_leI (a := 4) (b := 1) (by omega) (by omega)).mpr qz)
        refine rw_aload_n (pc := 85) dM_granted_85 rfl ?_
        refine rw_getR (pc := 86) (x := some 83) flM_71_M dM_granted_86 (mo_o62 hm) (mo_S62 hm) (mo_R83 hm) ?_
        refine rw_bipush (pc := 89) (x := nI 16) dM_granted_89 (by decide) ?_
        refine rw_iload_n (pc := 91) dM_granted_91 rfl ?_
        refine rw_imul (pc := 92) (v := nI (16 * c)) dM_granted_92 (pk_mul _ _) ?_
        refine rw_iconst (pc := 93) (x := nI 4) dM_granted_93 (by decide) ?_
        refine rw_iload_n (pc := 94) dM_granted_94 rfl ?_
        refine rw_imul (pc := 95) (v := nI (4 * f)) dM_granted_95 (pk_mul _ _) ?_
        refine rw_iadd (pc := 96) (v := nI (16 * c + (4 * f))) dM_granted_96 (nI_add _ _) ?_
        refine rw_iload (pc := 97) dM_granted_97 rfl ?_
        refine rw_iadd (pc := 99) (v := nI (16 * c + (4 * f) + 1)) dM_granted_99 (nI_add _ _) ?_
        refine rw_aload_n (pc := 100) dM_granted_100 rfl ?_
        refine rw_getR (pc := 101) (x := some 102) flM_128_M dM_granted_101 (mo_o62 hm) (mo_S62 hm) (mo_R102 hm) ?_
        refine rw_iload (pc := 104) dM_granted_104 rfl ?_
        refine rw_iload (pc := 106) dM_granted_106 rfl ?_
        refine rw_iadd (pc := 108) (v := nI (fr + 1)) dM_granted_108 (nI_add _ _) ?_
        refine rw_iald (pc := 109) (v := hp_I (hp_mv g 102 (fr + 0) 83 (16 * c + (4 * f) + 0)) 102 (fr + 1)) (i := (fr + 1)) dM_granted_109 (mo_o102 hm) (mo_S102 hm) (ix_nI (by omega) (by decide)) rfl ?_
        refine rw_iast (pc := 110) (i := (16 * c + (4 * f) + 1)) dM_granted_110 (mo_o83 hm) (mo_S83 hm) (ix_nI (by omega) (by decide)) ?_
        show rn_W G xM_granted (1, 0, 0) 0 0 111 [some (.inr (some 62)), some (.inl (nI c)), some (.inl (nI f)), some (.inl m), some (.inl (m_bi mb)), some (.inl (nI fr)), some (.inl (nI 1))] [] (hp_mv (hp_mv g 102 (fr + 0) 83 (16 * c + (4 * f) + 0)) 102 (fr + 1) 83 (16 * c + (4 * f) + 1)) (rn_v (fun h' => m_granted h c f m mb fr = h'))
        replace hm := mo_mv (A := 102) (i := (fr + 1)) (B := 83) (t := (16 * c + (4 * f) + 1)) hm
        replace hw := hI_mv (A := 102) (i := (fr + 1)) (B := 83) (t := (16 * c + (4 * f) + 1)) (by decide) hw
        replace hp := dp_mv hp (A := 102) (i := (fr + 1)) (B := 83) (t := (16 * c + (4 * f) + 1)) (by decide)
        refine rw_iinc (pc := 111) (x := nI 1) (y := nI 2) (L' := [some (.inr (some 62)), some (.inl (nI c)), some (.inl (nI f)), some (.inl m), some (.inl (m_bi mb)), some (.inl (nI fr)), some (.inl (nI 2))]) dM_granted_111 (by decide) rfl (by decide) rfl ?_
        refine rw_goto (pc := 114) dM_granted_114 (tgt := 79) rfl ?_
        refine rw_iload (pc := 79) dM_granted_79 rfl ?_
        refine rw_iconst (pc := 81) (x := nI 4) dM_granted_81 (by decide) ?_
        refine rw_icmpge (pc := 82) dM_granted_82 (tgt := 117) rfl (fun c6 => ?_) (fun c6 => ?_)
        · skip
          replace c6 : 4 ≤ 2 := (nI_leI (a := 4) (b := 2) (by omega) (by omega)).mp c6
          exact absurd c6 (by decide)
        · skip
          replace c6 : ¬ (4 ≤ 2) := fun qz => c6 ((nI_leI (a := 4) (b := 2) (by omega) (by omega)).mpr qz)
          refine rw_aload_n (pc := 85) dM_granted_85 rfl ?_
          refine rw_getR (pc := 86) (x := some 83) flM_71_M dM_granted_86 (mo_o62 hm) (mo_S62 hm) (mo_R83 hm) ?_
          refine rw_bipush (pc := 89) (x := nI 16) dM_granted_89 (by decide) ?_
          refine rw_iload_n (pc := 91) dM_granted_91 rfl ?_
          refine rw_imul (pc := 92) (v := nI (16 * c)) dM_granted_92 (pk_mul _ _) ?_
          refine rw_iconst (pc := 93) (x := nI 4) dM_granted_93 (by decide) ?_
          refine rw_iload_n (pc := 94) dM_granted_94 rfl ?_
          refine rw_imul (pc := 95) (v := nI (4 * f)) dM_granted_95 (pk_mul _ _) ?_
          refine rw_iadd (pc := 96) (v := nI (16 * c + (4 * f))) dM_granted_96 (nI_add _ _) ?_
          refine rw_iload (pc := 97) dM_granted_97 rfl ?_
          refine rw_iadd (pc := 99) (v := nI (16 * c + (4 * f) + 2)) dM_granted_99 (nI_add _ _) ?_
          refine rw_aload_n (pc := 100) dM_granted_100 rfl ?_
          refine rw_getR (pc := 101) (x := some 102) flM_128_M dM_granted_101 (mo_o62 hm) (mo_S62 hm) (mo_R102 hm) ?_
          refine rw_iload (pc := 104) dM_granted_104 rfl ?_
          refine rw_iload (pc := 106) dM_granted_106 rfl ?_
          refine rw_iadd (pc := 108) (v := nI (fr + 2)) dM_granted_108 (nI_add _ _) ?_
          refine rw_iald (pc := 109) (v := hp_I (hp_mv (hp_mv g 102 (fr + 0) 83 (16 * c + (4 * f) + 0)) 102 (fr + 1) 83 (16 * c + (4 * f) + 1)) 102 (fr + 2)) (i := (fr + 2)) dM_granted_109 (mo_o102 hm) (mo_S102 hm) (ix_nI (by omega) (by decide)) rfl ?_
          refine rw_iast (pc := 110) (i := (16 * c + (4 * f) + 2)) dM_granted_110 (mo_o83 hm) (mo_S83 hm) (ix_nI (by omega) (by decide)) ?_
          show rn_W G xM_granted (1, 0, 0) 0 0 111 [some (.inr (some 62)), some (.inl (nI c)), some (.inl (nI f)), some (.inl m), some (.inl (m_bi mb)), some (.inl (nI fr)), some (.inl (nI 2))] [] (hp_mv (hp_mv (hp_mv g 102 (fr + 0) 83 (16 * c + (4 * f) + 0)) 102 (fr + 1) 83 (16 * c + (4 * f) + 1)) 102 (fr + 2) 83 (16 * c + (4 * f) + 2)) (rn_v (fun h' => m_granted h c f m mb fr = h'))
          replace hm := mo_mv (A := 102) (i := (fr + 2)) (B := 83) (t := (16 * c + (4 * f) + 2)) hm
          replace hw := hI_mv (A := 102) (i := (fr + 2)) (B := 83) (t := (16 * c + (4 * f) + 2)) (by decide) hw
          replace hp := dp_mv hp (A := 102) (i := (fr + 2)) (B := 83) (t := (16 * c + (4 * f) + 2)) (by decide)
          refine rw_iinc (pc := 111) (x := nI 2) (y := nI 3) (L' := [some (.inr (some 62)), some (.inl (nI c)), some (.inl (nI f)), some (.inl m), some (.inl (m_bi mb)), some (.inl (nI fr)), some (.inl (nI 3))]) dM_granted_111 (by decide) rfl (by decide) rfl ?_
          refine rw_goto (pc := 114) dM_granted_114 (tgt := 79) rfl ?_
          refine rw_iload (pc := 79) dM_granted_79 rfl ?_
          refine rw_iconst (pc := 81) (x := nI 4) dM_granted_81 (by decide) ?_
          refine rw_icmpge (pc := 82) dM_granted_82 (tgt := 117) rfl (fun c7 => ?_) (fun c7 => ?_)
          · skip
            replace c7 : 4 ≤ 3 := (nI_leI (a := 4) (b := 3) (by omega) (by omega)).mp c7
            exact absurd c7 (by decide)
          · skip
            replace c7 : ¬ (4 ≤ 3) := fun qz => c7 ((nI_leI (a := 4) (b := 3) (by omega) (by omega)).mpr qz)
            refine rw_aload_n (pc := 85) dM_granted_85 rfl ?_
            refine rw_getR (pc := 86) (x := some 83) flM_71_M dM_granted_86 (mo_o62 hm) (mo_S62 hm) (mo_R83 hm) ?_
            refine rw_bipush (pc := 89) (x := nI 16) dM_granted_89 (by decide) ?_
            refine rw_iload_n (pc := 91) dM_granted_91 rfl ?_
            refine rw_imul (pc := 92) (v := nI (16 * c)) dM_granted_92 (pk_mul _ _) ?_
            refine rw_iconst (pc := 93) (x := nI 4) dM_granted_93 (by decide) ?_
            refine rw_iload_n (pc := 94) dM_granted_94 rfl ?_
            refine rw_imul (pc := 95) (v := nI (4 * f)) dM_granted_95 (pk_mul _ _) ?_
            refine rw_iadd (pc := 96) (v := nI (16 * c + (4 * f))) dM_granted_96 (nI_add _ _) ?_
            refine rw_iload (pc := 97) dM_granted_97 rfl ?_
            refine rw_iadd (pc := 99) (v := nI (16 * c + (4 * f) + 3)) dM_granted_99 (nI_add _ _) ?_
            refine rw_aload_n (pc := 100) dM_granted_100 rfl ?_
            refine rw_getR (pc := 101) (x := some 102) flM_128_M dM_granted_101 (mo_o62 hm) (mo_S62 hm) (mo_R102 hm) ?_
            refine rw_iload (pc := 104) dM_granted_104 rfl ?_
            refine rw_iload (pc := 106) dM_granted_106 rfl ?_
            refine rw_iadd (pc := 108) (v := nI (fr + 3)) dM_granted_108 (nI_add _ _) ?_
            refine rw_iald (pc := 109) (v := hp_I (hp_mv (hp_mv (hp_mv g 102 (fr + 0) 83 (16 * c + (4 * f) + 0)) 102 (fr + 1) 83 (16 * c + (4 * f) + 1)) 102 (fr + 2) 83 (16 * c + (4 * f) + 2)) 102 (fr + 3)) (i := (fr + 3)) dM_granted_109 (mo_o102 hm) (mo_S102 hm) (ix_nI (by omega) (by decide)) rfl ?_
            refine rw_iast (pc := 110) (i := (16 * c + (4 * f) + 3)) dM_granted_110 (mo_o83 hm) (mo_S83 hm) (ix_nI (by omega) (by decide)) ?_
            show rn_W G xM_granted (1, 0, 0) 0 0 111 [some (.inr (some 62)), some (.inl (nI c)), some (.inl (nI f)), some (.inl m), some (.inl (m_bi mb)), some (.inl (nI fr)), some (.inl (nI 3))] [] (hp_mv (hp_mv (hp_mv (hp_mv g 102 (fr + 0) 83 (16 * c + (4 * f) + 0)) 102 (fr + 1) 83 (16 * c + (4 * f) + 1)) 102 (fr + 2) 83 (16 * c + (4 * f) + 2)) 102 (fr + 3) 83 (16 * c + (4 * f) + 3)) (rn_v (fun h' => m_granted h c f m mb fr = h'))
            replace hm := mo_mv (A := 102) (i := (fr + 3)) (B := 83) (t := (16 * c + (4 * f) + 3)) hm
            replace hw := hI_mv (A := 102) (i := (fr + 3)) (B := 83) (t := (16 * c + (4 * f) + 3)) (by decide) hw
            replace hp := dp_mv hp (A := 102) (i := (fr + 3)) (B := 83) (t := (16 * c + (4 * f) + 3)) (by decide)
            refine rw_iinc (pc := 111) (x := nI 3) (y := nI 4) (L' := [some (.inr (some 62)), some (.inl (nI c)), some (.inl (nI f)), some (.inl m), some (.inl (m_bi mb)), some (.inl (nI fr)), some (.inl (nI 4))]) dM_granted_111 (by decide) rfl (by decide) rfl ?_
            refine rw_goto (pc := 114) dM_granted_114 (tgt := 79) rfl ?_
            refine rw_iload (pc := 79) dM_granted_79 rfl ?_
            refine rw_iconst (pc := 81) (x := nI 4) dM_granted_81 (by decide) ?_
            refine rw_icmpge (pc := 82) dM_granted_82 (tgt := 117) rfl (fun c8 => ?_) (fun c8 => ?_)
            · skip
              replace c8 : 4 ≤ 4 := (nI_leI (a := 4) (b := 4) (by omega) (by omega)).mp c8
              refine rw_iconst (pc := 117) (x := nI 0) dM_granted_117 (by decide) ?_
              refine rw_istore (pc := 118) (L' := [some (.inr (some 62)), some (.inl (nI c)), some (.inl (nI f)), some (.inl m), some (.inl (m_bi mb)), some (.inl (nI fr)), some (.inl (nI 0))]) dM_granted_118 (by decide) rfl ?_
              exact loop n1 0 n1 _ (Nat.zero_add _) h6 hm hp hw he
            · skip
              replace c8 : ¬ (4 ≤ 4) := fun qz => c8 ((nI_leI (a := 4) (b := 4) (by omega) (by omega)).mpr qz)
              exact absurd (by decide) c8
  have hm := hi.1
  obtain ⟨hw, hw6⟩ := m_wE hdw hc
  obtain ⟨os, ho0⟩ : ∃ t, hp_I h 93 c = t := ⟨_, rfl⟩
  obtain ⟨du, hu0⟩ : ∃ t, hp_I h 62 0 = t := ⟨_, rfl⟩
  have ho := ho0
  have hdu := hu0
  have hA : m_gdA h c f m = hp_sI (hp_sI (hp_sI h 87 c (nI 0)) 79 (4 * c + f) m) 80 (4 * c + f) (os + du / nI 2 - nI 2) := by unfold m_gdA; rw [ho0, hu0]
  have hiA : mo_I (m_gdA h c f m) := by rw [hA]; exact (mI_sI (mI_sI (mI_sI hi (by decide) (fun q => absurd q (by decide))).1 (by decide) (fun q => absurd q (by decide))).1 (by decide) (fun q => absurd q (by decide))).1
  have hdA : mo_dw (m_gdA h c f m) := by rw [hA]; exact dw_sI (dw_sI (dw_sI hdw (by decide)) (by decide)) (by decide)
  have hwB := m_wE (dw_sI (a := 82) (k := 4 * c + f) (v := nI 1) (fg_dw (f := f) (mo := 6) hc hw6 hdA) (by decide)) hc
  refine rw_aload_n (pc := 0) dM_granted_0 rfl ?_
  refine rw_getR (pc := 1) (x := some 87) flM_83_M dM_granted_1 (mo_o62 hm) (mo_S62 hm) (mo_R87 hm) ?_
  refine rw_iload_n (pc := 4) dM_granted_4 rfl ?_
  refine rw_iconst (pc := 5) (x := nI 0) dM_granted_5 (by decide) ?_
  refine rw_iast (pc := 6) (i := c) dM_granted_6 (mo_o87 hm) (mo_S87 hm) (ix_nI (by omega) (by decide)) ?_
  replace hm := mo_sI (a := 87) (k := c) (v := nI 0) hm
  replace hw := hI_sI (a := 87) (k := c) (v := nI 0) (by decide) hw
  replace ho := hI_sI (a := 87) (k := c) (v := nI 0) (by decide) ho
  replace hdu := hI_sI (a := 87) (k := c) (v := nI 0) (by decide) hdu
  replace hp := dp_sI hp (a := 87) (k := c) (v := nI 0) (by decide)
  refine rw_aload_n (pc := 7) dM_granted_7 rfl ?_
  refine rw_getR (pc := 8) (x := some 79) flM_59_M dM_granted_8 (mo_o62 hm) (mo_S62 hm) (mo_R79 hm) ?_
  refine rw_iconst (pc := 11) (x := nI 4) dM_granted_11 (by decide) ?_
  refine rw_iload_n (pc := 12) dM_granted_12 rfl ?_
  refine rw_imul (pc := 13) (v := nI (4 * c)) dM_granted_13 (pk_mul _ _) ?_
  refine rw_iload_n (pc := 14) dM_granted_14 rfl ?_
  refine rw_iadd (pc := 15) (v := nI (4 * c + f)) dM_granted_15 (nI_add _ _) ?_
  refine rw_iload_n (pc := 16) dM_granted_16 rfl ?_
  refine rw_iast (pc := 17) (i := (4 * c + f)) dM_granted_17 (mo_o79 hm) (mo_S79 hm) (ix_nI (by omega) (by decide)) ?_
  replace hm := mo_sI (a := 79) (k := (4 * c + f)) (v := m) hm
  replace hw := hI_sI (a := 79) (k := (4 * c + f)) (v := m) (by decide) hw
  replace ho := hI_sI (a := 79) (k := (4 * c + f)) (v := m) (by decide) ho
  replace hdu := hI_sI (a := 79) (k := (4 * c + f)) (v := m) (by decide) hdu
  replace hp := dp_sI hp (a := 79) (k := (4 * c + f)) (v := m) (by decide)
  refine rw_aload_n (pc := 18) dM_granted_18 rfl ?_
  refine rw_getR (pc := 19) (x := some 80) flM_62_M dM_granted_19 (mo_o62 hm) (mo_S62 hm) (mo_R80 hm) ?_
  refine rw_iconst (pc := 22) (x := nI 4) dM_granted_22 (by decide) ?_
  refine rw_iload_n (pc := 23) dM_granted_23 rfl ?_
  refine rw_imul (pc := 24) (v := nI (4 * c)) dM_granted_24 (pk_mul _ _) ?_
  refine rw_iload_n (pc := 25) dM_granted_25 rfl ?_
  refine rw_iadd (pc := 26) (v := nI (4 * c + f)) dM_granted_26 (nI_add _ _) ?_
  refine rw_aload_n (pc := 27) dM_granted_27 rfl ?_
  refine rw_getR (pc := 28) (x := some 93) flM_101_M dM_granted_28 (mo_o62 hm) (mo_S62 hm) (mo_R93 hm) ?_
  refine rw_iload_n (pc := 31) dM_granted_31 rfl ?_
  refine rw_iald (pc := 32) (v := os) (i := c) dM_granted_32 (mo_o93 hm) (mo_S93 hm) (ix_nI (by omega) (by decide)) ho ?_
  refine rw_aload_n (pc := 33) dM_granted_33 rfl ?_
  refine rw_getI (pc := 34) (x := du) flM_131_M dM_granted_34 (mo_o62 hm) (mo_S62 hm) hdu ?_
  refine rw_iconst (pc := 37) (x := nI 2) dM_granted_37 (by decide) ?_
  refine rw_idiv (pc := 38) (v := du / (nI 2)) dM_granted_38 (by decide) rfl ?_
  refine rw_iadd (pc := 39) (v := os + (du / (nI 2))) dM_granted_39 rfl ?_
  refine rw_iconst (pc := 40) (x := nI 2) dM_granted_40 (by decide) ?_
  refine rw_isub (pc := 41) (v := (os + (du / (nI 2))) - (nI 2)) dM_granted_41 rfl ?_
  refine rw_iast (pc := 42) (i := (4 * c + f)) dM_granted_42 (mo_o80 hm) (mo_S80 hm) (ix_nI (by omega) (by decide)) ?_
  replace hm := mo_sI (a := 80) (k := (4 * c + f)) (v := (os + (du / (nI 2))) - (nI 2)) hm
  replace hw := hI_sI (a := 80) (k := (4 * c + f)) (v := (os + (du / (nI 2))) - (nI 2)) (by decide) hw
  replace ho := hI_sI (a := 80) (k := (4 * c + f)) (v := (os + (du / (nI 2))) - (nI 2)) (by decide) ho
  replace hdu := hI_sI (a := 80) (k := (4 * c + f)) (v := (os + (du / (nI 2))) - (nI 2)) (by decide) hdu
  replace hp := dp_sI hp (a := 80) (k := (4 * c + f)) (v := (os + (du / (nI 2))) - (nI 2)) (by decide)
  rw [← hA] at hm hp hw ⊢
  refine rw_iload (pc := 43) dM_granted_43 rfl ?_
  refine rw_ifne (pc := 45) dM_granted_45 (tgt := 76) rfl (fun c9 => ?_) (fun c9 => ?_)
  · skip
    replace c9 := m_bi1 c9
    refine tail _ _ hw6 hm hp hw ?_
    unfold m_granted
    rw [if_neg (by simp [c9])]
  · skip
    refine rw_aload_n (pc := 48) dM_granted_48 rfl ?_
    refine rw_iload_n (pc := 49) dM_granted_49 rfl ?_
    refine rw_iload_n (pc := 50) dM_granted_50 rfl ?_
    refine rw_vi (pc := 51) (z' := (0, 0, 0)) (rc' := 0) (rs' := 0) (av := [.inl (nI c), .inl (nI f)]) (st := []) (ci := 10) mlM_206 miM_hasDirty rfl mvM_hasDirty_M dM_granted_51 (mo_o62 hm) (mo_S62 hm) (cM_hasDirty G _ hm hc hf hw hw6) rfl rfl (Nat.le_of_ble_eq_true rfl) (by decide) rfl rfl (fun r10 h10 q10 => ?_)
    obtain ⟨rfl, rfl⟩ := q10
    refine rw_ifeq (pc := 54) dM_granted_54 (tgt := 76) rfl (fun c11 => ?_) (fun c11 => ?_)
    · skip
      replace c9 := (m_bi0 _).mp c9
      replace c11 := (m_bi0 _).mp c11
      refine tail _ _ hw6 hm hp hw ?_
      unfold m_granted
      rw [if_neg (by simp [c9, c11])]
    · skip
      refine rw_aload_n (pc := 57) dM_granted_57 rfl ?_
      refine rw_iload_n (pc := 58) dM_granted_58 rfl ?_
      refine rw_iload_n (pc := 59) dM_granted_59 rfl ?_
      refine rw_bipush (pc := 60) (x := nI 6) dM_granted_60 (by decide) ?_
      refine rw_vv (pc := 62) (z' := (0, 0, 0)) (rc' := 0) (rs' := 0) (av := [.inl (nI c), .inl (nI f), .inl (nI 6)]) (st := []) (ci := 10) mlM_209 miM_forget rfl mvM_forget_M dM_granted_62 (mo_o62 hm) (mo_S62 hm) (cM_forget G _ hm hc hf (by decide) hw hw6) rfl rfl (Nat.le_of_ble_eq_true rfl) (by decide) rfl rfl (fun h12 q12 => ?_)
      obtain rfl := q12
      show rn_W G xM_granted (1, 0, 0) 0 0 65 [some (.inr (some 62)), some (.inl (nI c)), some (.inl (nI f)), some (.inl m), some (.inl (m_bi mb)), some (.inl (nI fr)), none] [] (m_forget (m_gdA h c f m) (m_w h c) c f 6) (rn_v (fun h' => m_granted h c f m mb fr = h'))
      replace hm := (fg_I (f := f) (mo := 6) hc hw6 hiA).1.1
      replace hp := fg_dp (f := f) (mo := 6) hc hw6 hp
      refine rw_aload_n (pc := 65) dM_granted_65 rfl ?_
      refine rw_getR (pc := 66) (x := some 82) flM_68_M dM_granted_66 (mo_o62 hm) (mo_S62 hm) (mo_R82 hm) ?_
      refine rw_iconst (pc := 69) (x := nI 4) dM_granted_69 (by decide) ?_
      refine rw_iload_n (pc := 70) dM_granted_70 rfl ?_
      refine rw_imul (pc := 71) (v := nI (4 * c)) dM_granted_71 (pk_mul _ _) ?_
      refine rw_iload_n (pc := 72) dM_granted_72 rfl ?_
      refine rw_iadd (pc := 73) (v := nI (4 * c + f)) dM_granted_73 (nI_add _ _) ?_
      refine rw_iconst (pc := 74) (x := nI 1) dM_granted_74 (by decide) ?_
      refine rw_zast (pc := 75) (i := (4 * c + f)) (Or.inr rfl) dM_granted_75 (mo_o82 hm) (mo_S82 hm) (ix_nI (by omega) (by decide)) ?_
      replace hm := mo_sI (a := 82) (k := (4 * c + f)) (v := nI 1) hm
      replace hp := dp_sI hp (a := 82) (k := (4 * c + f)) (v := nI 1) (by decide)
      replace c9 := (m_bi0 _).mp c9
      replace c11 := m_bi1 c11
      refine tail _ _ hwB.2 hm hp hwB.1 ?_
      unfold m_granted
      rw [if_pos (by simp [c9, c11])]
      rfl
def m_replied (h : ha_H) (k : Int32) (c f : Nat) : ha_H := if hp_I h 87 c = nI 2 then (if k = nI 6 then m_forget (hp_sI h 87 c (nI 0)) (m_w h c) c f 1 else if k = nI 7 then hp_sI (hp_sI (m_forget (hp_sI h 87 c (nI 0)) (m_w h c) c f 6) 82 (4 * c + f) (nI 1)) 79 (4 * c + f) (nI 0) else hp_sI h 87 c (nI 0)) else hp_sI h 87 c (nI 0)
theorem cM_replied (G : mt_G) (h : ha_H) (hi : mo_I h) (hdw : mo_dw h) (k : Int32) {c f : Nat} (hc : c < 3) (hf : f < 4) : rn_M G xM_replied (1, 0, 0) [.inr (some 62), .inl k, .inl (nI c), .inl (nI f)] h (rn_v (fun h' => m_replied h k c f = h')) := by
  have hm := hi.1
  obtain ⟨hw, hw6⟩ := m_wE hdw hc
  have hi0 := (mI_sI hi (a := 87) (k := c) (v := nI 0) (by decide) (fun q => absurd q (by decide))).1
  refine rn_of (by decide +kernel) (Nat.le_of_ble_eq_true rfl) ?_
  show rn_W G xM_replied (1, 0, 0) 0 0 0 [some (.inr (some 62)), some (.inl k), some (.inl (nI c)), some (.inl (nI f)), none] [] h _
  refine rw_aload_n (pc := 0) dM_replied_0 rfl ?_
  refine rw_getR (pc := 1) (x := some 87) flM_83_M dM_replied_1 (mo_o62 hm) (mo_S62 hm) (mo_R87 hm) ?_
  refine rw_iload_n (pc := 4) dM_replied_4 rfl ?_
  refine rw_iald (pc := 5) (v := hp_I h 87 c) (i := c) dM_replied_5 (mo_o87 hm) (mo_S87 hm) (ix_nI (by omega) (by decide)) rfl ?_
  refine rw_iconst (pc := 6) (x := nI 2) dM_replied_6 (by decide) ?_
  refine rw_icmpne (pc := 7) dM_replied_7 (tgt := 14) rfl (fun c1 => ?_) (fun c1 => ?_)
  · skip
    refine rw_iconst (pc := 14) (x := nI 0) dM_replied_14 (by decide) ?_
    refine rw_istore (pc := 15) (L' := [some (.inr (some 62)), some (.inl k), some (.inl (nI c)), some (.inl (nI f)), some (.inl (nI 0))]) dM_replied_15 (by decide) rfl ?_
    refine rw_aload_n (pc := 17) dM_replied_17 rfl ?_
    refine rw_getR (pc := 18) (x := some 87) flM_83_M dM_replied_18 (mo_o62 hm) (mo_S62 hm) (mo_R87 hm) ?_
    refine rw_iload_n (pc := 21) dM_replied_21 rfl ?_
    refine rw_iconst (pc := 22) (x := nI 0) dM_replied_22 (by decide) ?_
    refine rw_iast (pc := 23) (i := c) dM_replied_23 (mo_o87 hm) (mo_S87 hm) (ix_nI (by omega) (by decide)) ?_
    replace hm := mo_sI (a := 87) (k := c) (v := nI 0) hm
    replace hw := hI_sI (a := 87) (k := c) (v := nI 0) (by decide) hw
    refine rw_iload (pc := 24) dM_replied_24 rfl ?_
    refine rw_ifeq (pc := 26) dM_replied_26 (tgt := 42) rfl (fun c2 => ?_) (fun c2 => ?_)
    · skip
      replace c2 : 0 = 0 := (nI_eq (a := 0) (b := 0) (by omega) (by omega)).mp c2
      refine rw_iload (pc := 42) dM_replied_42 rfl ?_
      refine rw_ifeq (pc := 44) dM_replied_44 (tgt := 83) rfl (fun c3 => ?_) (fun c3 => ?_)
      · skip
        replace c3 : 0 = 0 := (nI_eq (a := 0) (b := 0) (by omega) (by omega)).mp c3
        exact rw_vret (pc := 83) dM_replied_83 rfl ⟨rfl, by unfold m_replied; rw [if_neg c1]⟩
      · skip
        replace c3 : ¬ (0 = 0) := fun qz => c3 ((nI_eq (a := 0) (b := 0) (by omega) (by omega)).mpr qz)
        exact absurd (by decide) c3
    · skip
      replace c2 : ¬ (0 = 0) := fun qz => c2 ((nI_eq (a := 0) (b := 0) (by omega) (by omega)).mpr qz)
      exact absurd (by decide) c2
  · skip
    refine rw_iconst (pc := 10) (x := nI 1) dM_replied_10 (by decide) ?_
    refine rw_goto (pc := 11) dM_replied_11 (tgt := 15) rfl ?_
    refine rw_istore (pc := 15) (L' := [some (.inr (some 62)), some (.inl k), some (.inl (nI c)), some (.inl (nI f)), some (.inl (nI 1))]) dM_replied_15 (by decide) rfl ?_
    refine rw_aload_n (pc := 17) dM_replied_17 rfl ?_
    refine rw_getR (pc := 18) (x := some 87) flM_83_M dM_replied_18 (mo_o62 hm) (mo_S62 hm) (mo_R87 hm) ?_
    refine rw_iload_n (pc := 21) dM_replied_21 rfl ?_
    refine rw_iconst (pc := 22) (x := nI 0) dM_replied_22 (by decide) ?_
    refine rw_iast (pc := 23) (i := c) dM_replied_23 (mo_o87 hm) (mo_S87 hm) (ix_nI (by omega) (by decide)) ?_
    replace hm := mo_sI (a := 87) (k := c) (v := nI 0) hm
    replace hw := hI_sI (a := 87) (k := c) (v := nI 0) (by decide) hw
    refine rw_iload (pc := 24) dM_replied_24 rfl ?_
    refine rw_ifeq (pc := 26) dM_replied_26 (tgt := 42) rfl (fun c4 => ?_) (fun c4 => ?_)
    · skip
      replace c4 : 1 = 0 := (nI_eq (a := 1) (b := 0) (by omega) (by omega)).mp c4
      exact absurd c4 (by decide)
    · skip
      replace c4 : ¬ (1 = 0) := fun qz => c4 ((nI_eq (a := 1) (b := 0) (by omega) (by omega)).mpr qz)
      refine rw_iload_n (pc := 29) dM_replied_29 rfl ?_
      refine rw_bipush (pc := 30) (x := nI 6) dM_replied_30 (by decide) ?_
      refine rw_icmpne (pc := 32) dM_replied_32 (tgt := 42) rfl (fun c5 => ?_) (fun c5 => ?_)
      · skip
        refine rw_iload (pc := 42) dM_replied_42 rfl ?_
        refine rw_ifeq (pc := 44) dM_replied_44 (tgt := 83) rfl (fun c6 => ?_) (fun c6 => ?_)
        · skip
          replace c6 : 1 = 0 := (nI_eq (a := 1) (b := 0) (by omega) (by omega)).mp c6
          exact absurd c6 (by decide)
        · skip
          replace c6 : ¬ (1 = 0) := fun qz => c6 ((nI_eq (a := 1) (b := 0) (by omega) (by omega)).mpr qz)
          refine rw_iload_n (pc := 47) dM_replied_47 rfl ?_
          refine rw_bipush (pc := 48) (x := nI 7) dM_replied_48 (by decide) ?_
          refine rw_icmpne (pc := 50) dM_replied_50 (tgt := 83) rfl (fun c7 => ?_) (fun c7 => ?_)
          · skip
            exact rw_vret (pc := 83) dM_replied_83 rfl ⟨rfl, by unfold m_replied; rw [if_pos c1, if_neg c5, if_neg c7]⟩
          · skip
            refine rw_aload_n (pc := 53) dM_replied_53 rfl ?_
            refine rw_iload_n (pc := 54) dM_replied_54 rfl ?_
            refine rw_iload_n (pc := 55) dM_replied_55 rfl ?_
            refine rw_bipush (pc := 56) (x := nI 6) dM_replied_56 (by decide) ?_
            refine rw_vv (pc := 58) (z' := (0, 0, 0)) (rc' := 0) (rs' := 0) (av := [.inl (nI c), .inl (nI f), .inl (nI 6)]) (st := []) (ci := 10) mlM_209 miM_forget rfl mvM_forget_M dM_replied_58 (mo_o62 hm) (mo_S62 hm) (cM_forget G _ hm hc hf (by decide) hw hw6) rfl rfl (Nat.le_of_ble_eq_true rfl) (by decide) rfl rfl (fun h8 q8 => ?_)
            obtain rfl := q8
            replace hm := (fg_I (f := f) (mo := 6) hc hw6 hi0).1.1
            refine rw_aload_n (pc := 61) dM_replied_61 rfl ?_
            refine rw_getR (pc := 62) (x := some 82) flM_68_M dM_replied_62 (mo_o62 hm) (mo_S62 hm) (mo_R82 hm) ?_
            refine rw_iconst (pc := 65) (x := nI 4) dM_replied_65 (by decide) ?_
            refine rw_iload_n (pc := 66) dM_replied_66 rfl ?_
            refine rw_imul (pc := 67) (v := nI (4 * c)) dM_replied_67 (pk_mul _ _) ?_
            refine rw_iload_n (pc := 68) dM_replied_68 rfl ?_
            refine rw_iadd (pc := 69) (v := nI (4 * c + f)) dM_replied_69 (nI_add _ _) ?_
            refine rw_iconst (pc := 70) (x := nI 1) dM_replied_70 (by decide) ?_
            refine rw_zast (pc := 71) (i := (4 * c + f)) (Or.inr rfl) dM_replied_71 (mo_o82 hm) (mo_S82 hm) (ix_nI (by omega) (by decide)) ?_
            replace hm := mo_sI (a := 82) (k := (4 * c + f)) (v := nI 1) hm
            refine rw_aload_n (pc := 72) dM_replied_72 rfl ?_
            refine rw_getR (pc := 73) (x := some 79) flM_59_M dM_replied_73 (mo_o62 hm) (mo_S62 hm) (mo_R79 hm) ?_
            refine rw_iconst (pc := 76) (x := nI 4) dM_replied_76 (by decide) ?_
            refine rw_iload_n (pc := 77) dM_replied_77 rfl ?_
            refine rw_imul (pc := 78) (v := nI (4 * c)) dM_replied_78 (pk_mul _ _) ?_
            refine rw_iload_n (pc := 79) dM_replied_79 rfl ?_
            refine rw_iadd (pc := 80) (v := nI (4 * c + f)) dM_replied_80 (nI_add _ _) ?_
            refine rw_iconst (pc := 81) (x := nI 0) dM_replied_81 (by decide) ?_
            refine rw_iast (pc := 82) (i := (4 * c + f)) dM_replied_82 (mo_o79 hm) (mo_S79 hm) (ix_nI (by omega) (by decide)) ?_
            replace hm := mo_sI (a := 79) (k := (4 * c + f)) (v := nI 0) hm
            exact rw_vret (pc := 83) dM_replied_83 rfl ⟨rfl, by unfold m_replied; rw [if_pos c1, if_neg c5, if_pos c7]⟩
      · skip
        refine rw_aload_n (pc := 35) dM_replied_35 rfl ?_
        refine rw_iload_n (pc := 36) dM_replied_36 rfl ?_
        refine rw_iload_n (pc := 37) dM_replied_37 rfl ?_
        refine rw_iconst (pc := 38) (x := nI 1) dM_replied_38 (by decide) ?_
        refine rw_vv (pc := 39) (z' := (0, 0, 0)) (rc' := 0) (rs' := 0) (av := [.inl (nI c), .inl (nI f), .inl (nI 1)]) (st := []) (ci := 10) mlM_209 miM_forget rfl mvM_forget_M dM_replied_39 (mo_o62 hm) (mo_S62 hm) (cM_forget G _ hm hc hf (by decide) hw hw6) rfl rfl (Nat.le_of_ble_eq_true rfl) (by decide) rfl rfl (fun h9 q9 => ?_)
        obtain rfl := q9
        replace hm := (fg_I (f := f) (mo := 1) hc hw6 hi0).1.1
        refine rw_iload (pc := 42) dM_replied_42 rfl ?_
        refine rw_ifeq (pc := 44) dM_replied_44 (tgt := 83) rfl (fun c10 => ?_) (fun c10 => ?_)
        · skip
          replace c10 : 1 = 0 := (nI_eq (a := 1) (b := 0) (by omega) (by omega)).mp c10
          exact absurd c10 (by decide)
        · skip
          replace c10 : ¬ (1 = 0) := fun qz => c10 ((nI_eq (a := 1) (b := 0) (by omega) (by omega)).mpr qz)
          refine rw_iload_n (pc := 47) dM_replied_47 rfl ?_
          refine rw_bipush (pc := 48) (x := nI 7) dM_replied_48 (by decide) ?_
          refine rw_icmpne (pc := 50) dM_replied_50 (tgt := 83) rfl (fun c11 => ?_) (fun c11 => ?_)
          · skip
            exact rw_vret (pc := 83) dM_replied_83 rfl ⟨rfl, by unfold m_replied; rw [if_pos c1, if_pos c5]⟩
          · skip
            exact absurd (c5.symm.trans c11) (by decide)
