/-! The law: its script, its loop, its start. Written by wip/whole/gen/c13.py. -/
def z_L : Nat × Nat × Nat := (room_1.frames, room_1.cells, room_1.slots)
theorem rw_sld {G : mt_G} {X : mt_X} {z : Nat × Nat × Nat} {rc rs pc : Nat} {L : List (Option ha_V)} {st : List ha_V} {h : ha_H} {post : Option ha_V → ha_H → Prop} {k : Nat} (hk : k < G.2.1) (hG : G.2.1 ≤ 2561) (hd : decode X.2.1 pc = .ok (.iaload, 1)) (kk : rn_W G X z rc rs (pc + 1) L (.inl (G.2.2 k) :: st) h post) : rn_W G X z rc rs pc L (.inl (nI k) :: .inr (some 0) :: st) h post := by
  intro b D cA p e s m args below meth c F H locs ls cells slots hP hS hL hc hs
  have q := kk b D cA p e s m args below meth c F H locs ls cells slots hP hS hL hc hs
  have h1 := F.2.2.2.2.2.2.2.2.2.1
  have h2 := F.2.2.2.2.2.2.2.2.2.2.2
  refine va_sld F.1 F.2.1 F.2.2.2.2.2.2.2.2.2.2.1 (by omega) (by show ¬ b.1 < b.2; omega) hS (vp_in_nI hk (by omega)) hd ?_
  rw [nI_clamp (by omega)]
  exact q
theorem rw_slen {G : mt_G} {X : mt_X} {z : Nat × Nat × Nat} {rc rs pc : Nat} {L : List (Option ha_V)} {st : List ha_V} {h : ha_H} {post : Option ha_V → ha_H → Prop} (hd : decode X.2.1 pc = .ok (.arraylength, 1)) (kk : rn_W G X z rc rs (pc + 1) L (.inl (nI G.2.1) :: st) h post) : rn_W G X z rc rs pc L (.inr (some 0) :: st) h post := by
  intro b D cA p e s m args below meth c F H locs ls cells slots hP hS hL hc hs
  have q := kk b D cA p e s m args below meth c F H locs ls cells slots hP hS hL hc hs
  have h1 := F.2.2.2.2.2.2.2.2.2.1
  have h2 := F.2.2.2.2.2.2.2.2.2.2.2
  exact va_slen (b := b.2) F.1 F.2.1 F.2.2.2.2.2.2.2.2.2.2.1 (by omega) (by show ¬ b.1 < b.2; omega) hS hd q
def f_c0 (G : mt_G) : Int32 := if G.2.1 ≤ 0 then nI 0 else G.2.2 0
/-- the states agree after K calls -/
def IV (K : Nat) (h : ha_H) : Prop := ∃ (L : Nat) (n : List ab_M) (su : Bool) (sn : Int32) (sg : Bool) (se : Int32) (pg : Nat → Nat → Int32) (md : Nat → Nat → Nat) (en : Nat → Nat → Int32) (sd : Nat → Option ab_M) (ln : Nat → List ab_M) (C : Nat → ab_C), CV L n su sn sg se pg md en sd ln C h ∧ MV K L n su sn sg se pg md en sd ln C h
def lw_1 : Option ha_V → ha_H → Prop := fun r _ => r = some (.inl 1)
/-- more room does no harm -/
theorem rn_wid {G : mt_G} {X : mt_X} {z : Nat × Nat × Nat} {rc rs pc : Nat} {L : List (Option ha_V)} {st : List ha_V} {h : ha_H} {post : Option ha_V → ha_H → Prop} {a b : Nat} (H : rn_W G X z rc rs pc L st h post) : rn_W G X z (rc + a) (rs + b) pc L st h post := by
  intro b' D cA p e s m args below meth c F H' locs ls cells slots hP hS hL hc hs
  exact W.widen (k := cells + a) (n := slots + b) (by omega) (by omega) (H b' D cA p e s m args below meth c F H' locs ls (cells + a) (slots + b) hP hS hL (by omega) (by omega))
theorem cZ_cell (G : mt_G) (h : ha_H) (hG : G.2.1 ≤ 2561) : rn_M G xZ_cell (0, 0, 0) [.inr (some 0), .inl (nI 0)] h (rn_i (fun r h' => r = f_c0 G ∧ h = h')) := by
  refine rn_of (by decide +kernel) (Nat.le_of_ble_eq_true rfl) ?_
  show rn_W G xZ_cell (0, 0, 0) 0 0 0 [some (.inr (some 0)), some (.inl (nI 0))] [] h _
  refine rw_iload_n (pc := 0) dZ_cell_0 rfl ?_
  refine rw_aload_n (pc := 1) dZ_cell_1 rfl ?_
  refine rw_slen (pc := 2) dZ_cell_2 ?_
  refine rw_icmpge (pc := 3) dZ_cell_3 (tgt := 12) rfl (fun c1 => ?_) (fun c1 => ?_)
  · skip
    replace c1 : G.2.1 ≤ 0 := (nI_leI (a := G.2.1) (b := 0) (by omega) (by omega)).mp c1
    refine rw_iconst (pc := 12) (x := nI 0) dZ_cell_12 (by decide) ?_
    exact rw_iret (pc := 13) dZ_cell_13 rfl ⟨_, rfl, by unfold f_c0; rw [if_pos c1], rfl⟩
  · skip
    replace c1 : ¬ (G.2.1 ≤ 0) := fun qz => c1 ((nI_leI (a := G.2.1) (b := 0) (by omega) (by omega)).mpr qz)
    refine rw_aload_n (pc := 6) dZ_cell_6 rfl ?_
    refine rw_iload_n (pc := 7) dZ_cell_7 rfl ?_
    refine rw_sld (pc := 8) (k := 0) (by omega) hG dZ_cell_8 ?_
    refine rw_goto (pc := 9) dZ_cell_9 (tgt := 13) rfl ?_
    exact rw_iret (pc := 13) dZ_cell_13 rfl ⟨_, rfl, by unfold f_c0; rw [if_neg c1], rfl⟩
theorem law_0 (G : mt_G) (hG : G.2.1 ≤ 2561) {h : ha_H} {L : Nat} {n : List ab_M} {su : Bool} {sn : Int32} {sg : Bool} {se : Int32} {pg : Nat → Nat → Int32} {md : Nat → Nat → Nat} {en : Nat → Nat → Int32} {sd : Nat → Option ab_M} {ln : Nat → List ab_M} {C : Nat → ab_C} {K : Nat} (hc : CV L n su sn sg se pg md en sd ln C h) (hM : MV K L n su sn sg se pg md en sd ln C h) (hK : K < 2 ^ 20) {i : Nat} (hi : i + 5 ≤ G.2.1) {rc rs : Nat} (hp : ∀ h', IV (K + 1) h' → rn_W G xZ_law z_L rc rs 716 [some (.inr (some 0)), some (.inr (some 1)), some (.inr (some 62)), some (.inl (nI i))] [] h' lw_1) : rn_W G xZ_law z_L (rc + 27) (rs + 144) 136 [some (.inr (some 0)), some (.inr (some 1)), some (.inr (some 62)), some (.inl (nI i))] [] h lw_1 := by
  refine rw_aload_n (pc := 136) dZ_law_136 rfl ?_
  refine rw_aload_n (pc := 137) dZ_law_137 rfl ?_
  refine rw_iload_n (pc := 138) dZ_law_138 rfl ?_
  refine rw_iconst (pc := 139) (x := nI 1) dZ_law_139 (by decide) ?_
  refine rw_iadd (pc := 140) (v := nI (i + 1)) dZ_law_140 (nI_add _ _) ?_
  refine rw_sld (pc := 141) (k := i + 1) (by omega) hG dZ_law_141 ?_
  refine rw_aload_n (pc := 142) dZ_law_142 rfl ?_
  refine rw_iload_n (pc := 143) dZ_law_143 rfl ?_
  refine rw_iconst (pc := 144) (x := nI 2) dZ_law_144 (by decide) ?_
  refine rw_iadd (pc := 145) (v := nI (i + 2)) dZ_law_145 (nI_add _ _) ?_
  refine rw_sld (pc := 146) (k := i + 2) (by omega) hG dZ_law_146 ?_
  refine rw_aload_n (pc := 147) dZ_law_147 rfl ?_
  refine rw_iload_n (pc := 148) dZ_law_148 rfl ?_
  refine rw_iconst (pc := 149) (x := nI 3) dZ_law_149 (by decide) ?_
  refine rw_iadd (pc := 150) (v := nI (i + 3)) dZ_law_150 (nI_add _ _) ?_
  refine rw_sld (pc := 151) (k := i + 3) (by omega) hG dZ_law_151 ?_
  refine rw_vi (pc := 152) (z' := (6, 27, 144)) (rc' := rc) (rs' := rs) (av := [.inl (G.2.2 (i + 1)), .inl (G.2.2 (i + 2)), .inl (G.2.2 (i + 3))]) (st := []) (ci := 0) mlZ_21 miL_acquire rfl mvL_acquire_L dZ_law_152 (cs_o hc (by omega) (by omega)) (cs_S1 hc) (cL_acquire G _ hc hM hK _ _ _) rfl rfl (Nat.le_of_ble_eq_true rfl) (Nat.le_of_ble_eq_true rfl) rfl rfl (fun r1 h1 q1 => ?_)
  obtain ⟨hl, hr, L', n', su', sn', sg', se', pg', md', en', sd', ln', C', hc2, hM2⟩ := q1
  replace hM := MV_le hM hl
  change r1 = (m_acquire h1 (G.2.2 (i + 1)) (G.2.2 (i + 2)) (G.2.2 (i + 3))).1 at hr
  change MV (K + 1) L' n' su' sn' sg' se' pg' md' en' sd' ln' C' (m_acquire h1 (G.2.2 (i + 1)) (G.2.2 (i + 2)) (G.2.2 (i + 3))).2 at hM2
  refine rw_aload_n (pc := 155) dZ_law_155 rfl ?_
  refine rw_aload_n (pc := 156) dZ_law_156 rfl ?_
  refine rw_iload_n (pc := 157) dZ_law_157 rfl ?_
  refine rw_iconst (pc := 158) (x := nI 1) dZ_law_158 (by decide) ?_
  refine rw_iadd (pc := 159) (v := nI (i + 1)) dZ_law_159 (nI_add _ _) ?_
  refine rw_sld (pc := 160) (k := i + 1) (by omega) hG dZ_law_160 ?_
  refine rw_aload_n (pc := 161) dZ_law_161 rfl ?_
  refine rw_iload_n (pc := 162) dZ_law_162 rfl ?_
  refine rw_iconst (pc := 163) (x := nI 2) dZ_law_163 (by decide) ?_
  refine rw_iadd (pc := 164) (v := nI (i + 2)) dZ_law_164 (nI_add _ _) ?_
  refine rw_sld (pc := 165) (k := i + 2) (by omega) hG dZ_law_165 ?_
  refine rw_aload_n (pc := 166) dZ_law_166 rfl ?_
  refine rw_iload_n (pc := 167) dZ_law_167 rfl ?_
  refine rw_iconst (pc := 168) (x := nI 3) dZ_law_168 (by decide) ?_
  refine rw_iadd (pc := 169) (v := nI (i + 3)) dZ_law_169 (nI_add _ _) ?_
  refine rw_sld (pc := 170) (k := i + 3) (by omega) hG dZ_law_170 ?_
  refine rw_vi (pc := 171) (z' := (3, 0, 0)) (rc' := rc) (rs' := rs) (av := [.inl (G.2.2 (i + 1)), .inl (G.2.2 (i + 2)), .inl (G.2.2 (i + 3))]) (st := [.inl r1]) (ci := 10) mlZ_25 miM_acquire rfl mvM_acquire_M dZ_law_171 ⟨by omega, by have := (mv_I hM).1.1.1; omega⟩ (mv_I hM).1.1.2.1 (cM_acquire G _ (mv_I hM).1 (MV_dw hM) _ _ _) rfl rfl (Nat.le_of_ble_eq_true rfl) (Nat.le_of_ble_eq_true rfl) rfl rfl (fun r2 h2 q2 => ?_)
  obtain ⟨hr2, hh⟩ := q2
  change (m_acquire h1 (G.2.2 (i + 1)) (G.2.2 (i + 2)) (G.2.2 (i + 3))).2 = h2 at hh
  rw [hh] at hM2
  have hfx : fx h1 h2 := hh ▸ fx_acquire
  replace hc2 := CV_fx hc2 hfx
  refine rw_icmpeq (pc := 174) dZ_law_174 (tgt := 716) rfl (fun c3 => ?_) (fun c3 => ?_)
  · skip
    exact hp _ ⟨L', n', su', sn', sg', se', pg', md', en', sd', ln', C', hc2, hM2⟩
  · skip
    exact absurd (hr.trans hr2.symm) c3
theorem law_1 (G : mt_G) (hG : G.2.1 ≤ 2561) {h : ha_H} {L : Nat} {n : List ab_M} {su : Bool} {sn : Int32} {sg : Bool} {se : Int32} {pg : Nat → Nat → Int32} {md : Nat → Nat → Nat} {en : Nat → Nat → Int32} {sd : Nat → Option ab_M} {ln : Nat → List ab_M} {C : Nat → ab_C} {K : Nat} (hc : CV L n su sn sg se pg md en sd ln C h) (hM : MV K L n su sn sg se pg md en sd ln C h) (hK : K < 2 ^ 20) {i : Nat} (hi : i + 5 ≤ G.2.1) {rc rs : Nat} (hp : ∀ h', IV (K + 1) h' → rn_W G xZ_law z_L rc rs 716 [some (.inr (some 0)), some (.inr (some 1)), some (.inr (some 62)), some (.inl (nI i))] [] h' lw_1) : rn_W G xZ_law z_L (rc + 27) (rs + 144) 179 [some (.inr (some 0)), some (.inr (some 1)), some (.inr (some 62)), some (.inl (nI i))] [] h lw_1 := by
  refine rw_aload_n (pc := 179) dZ_law_179 rfl ?_
  refine rw_aload_n (pc := 180) dZ_law_180 rfl ?_
  refine rw_iload_n (pc := 181) dZ_law_181 rfl ?_
  refine rw_iconst (pc := 182) (x := nI 1) dZ_law_182 (by decide) ?_
  refine rw_iadd (pc := 183) (v := nI (i + 1)) dZ_law_183 (nI_add _ _) ?_
  refine rw_sld (pc := 184) (k := i + 1) (by omega) hG dZ_law_184 ?_
  refine rw_aload_n (pc := 185) dZ_law_185 rfl ?_
  refine rw_iload_n (pc := 186) dZ_law_186 rfl ?_
  refine rw_iconst (pc := 187) (x := nI 2) dZ_law_187 (by decide) ?_
  refine rw_iadd (pc := 188) (v := nI (i + 2)) dZ_law_188 (nI_add _ _) ?_
  refine rw_sld (pc := 189) (k := i + 2) (by omega) hG dZ_law_189 ?_
  refine rw_aload_n (pc := 190) dZ_law_190 rfl ?_
  refine rw_iload_n (pc := 191) dZ_law_191 rfl ?_
  refine rw_iconst (pc := 192) (x := nI 3) dZ_law_192 (by decide) ?_
  refine rw_iadd (pc := 193) (v := nI (i + 3)) dZ_law_193 (nI_add _ _) ?_
  refine rw_sld (pc := 194) (k := i + 3) (by omega) hG dZ_law_194 ?_
  refine rw_aload_n (pc := 195) dZ_law_195 rfl ?_
  refine rw_iload_n (pc := 196) dZ_law_196 rfl ?_
  refine rw_iconst (pc := 197) (x := nI 4) dZ_law_197 (by decide) ?_
  refine rw_iadd (pc := 198) (v := nI (i + 4)) dZ_law_198 (nI_add _ _) ?_
  refine rw_sld (pc := 199) (k := i + 4) (by omega) hG dZ_law_199 ?_
  refine rw_vi (pc := 200) (z' := (6, 27, 144)) (rc' := rc) (rs' := rs) (av := [.inl (G.2.2 (i + 1)), .inl (G.2.2 (i + 2)), .inl (G.2.2 (i + 3)), .inl (G.2.2 (i + 4))]) (st := []) (ci := 0) mlZ_26 miL_read rfl mvL_read_L dZ_law_200 (cs_o hc (by omega) (by omega)) (cs_S1 hc) (cL_read G _ hc hM hK _ _ _ _) rfl rfl (Nat.le_of_ble_eq_true rfl) (Nat.le_of_ble_eq_true rfl) rfl rfl (fun r1 h1 q1 => ?_)
  obtain ⟨hl, hr, L', n', su', sn', sg', se', pg', md', en', sd', ln', C', hc2, hM2⟩ := q1
  replace hM := MV_le hM hl
  change r1 = (m_read h1 (G.2.2 (i + 1)) (G.2.2 (i + 2)) (G.2.2 (i + 3)) (G.2.2 (i + 4))).1 at hr
  change MV (K + 1) L' n' su' sn' sg' se' pg' md' en' sd' ln' C' (m_read h1 (G.2.2 (i + 1)) (G.2.2 (i + 2)) (G.2.2 (i + 3)) (G.2.2 (i + 4))).2 at hM2
  refine rw_aload_n (pc := 203) dZ_law_203 rfl ?_
  refine rw_aload_n (pc := 204) dZ_law_204 rfl ?_
  refine rw_iload_n (pc := 205) dZ_law_205 rfl ?_
  refine rw_iconst (pc := 206) (x := nI 1) dZ_law_206 (by decide) ?_
  refine rw_iadd (pc := 207) (v := nI (i + 1)) dZ_law_207 (nI_add _ _) ?_
  refine rw_sld (pc := 208) (k := i + 1) (by omega) hG dZ_law_208 ?_
  refine rw_aload_n (pc := 209) dZ_law_209 rfl ?_
  refine rw_iload_n (pc := 210) dZ_law_210 rfl ?_
  refine rw_iconst (pc := 211) (x := nI 2) dZ_law_211 (by decide) ?_
  refine rw_iadd (pc := 212) (v := nI (i + 2)) dZ_law_212 (nI_add _ _) ?_
  refine rw_sld (pc := 213) (k := i + 2) (by omega) hG dZ_law_213 ?_
  refine rw_aload_n (pc := 214) dZ_law_214 rfl ?_
  refine rw_iload_n (pc := 215) dZ_law_215 rfl ?_
  refine rw_iconst (pc := 216) (x := nI 3) dZ_law_216 (by decide) ?_
  refine rw_iadd (pc := 217) (v := nI (i + 3)) dZ_law_217 (nI_add _ _) ?_
  refine rw_sld (pc := 218) (k := i + 3) (by omega) hG dZ_law_218 ?_
  refine rw_aload_n (pc := 219) dZ_law_219 rfl ?_
  refine rw_iload_n (pc := 220) dZ_law_220 rfl ?_
  refine rw_iconst (pc := 221) (x := nI 4) dZ_law_221 (by decide) ?_
  refine rw_iadd (pc := 222) (v := nI (i + 4)) dZ_law_222 (nI_add _ _) ?_
  refine rw_sld (pc := 223) (k := i + 4) (by omega) hG dZ_law_223 ?_
  refine rw_vi (pc := 224) (z' := (2, 0, 0)) (rc' := rc) (rs' := rs) (av := [.inl (G.2.2 (i + 1)), .inl (G.2.2 (i + 2)), .inl (G.2.2 (i + 3)), .inl (G.2.2 (i + 4))]) (st := [.inl r1]) (ci := 10) mlZ_30 miM_read rfl mvM_read_M dZ_law_224 ⟨by omega, by have := (mv_I hM).1.1.1; omega⟩ (mv_I hM).1.1.2.1 (cM_read G _ (mv_I hM).1.1 _ _ _ _) rfl rfl (Nat.le_of_ble_eq_true rfl) (Nat.le_of_ble_eq_true rfl) rfl rfl (fun r2 h2 q2 => ?_)
  obtain ⟨hr2, hh⟩ := q2
  change (m_read h1 (G.2.2 (i + 1)) (G.2.2 (i + 2)) (G.2.2 (i + 3)) (G.2.2 (i + 4))).2 = h2 at hh
  rw [hh] at hM2
  have hfx : fx h1 h2 := hh ▸ fx_read
  replace hc2 := CV_fx hc2 hfx
  refine rw_icmpeq (pc := 227) dZ_law_227 (tgt := 716) rfl (fun c3 => ?_) (fun c3 => ?_)
  · skip
    exact hp _ ⟨L', n', su', sn', sg', se', pg', md', en', sd', ln', C', hc2, hM2⟩
  · skip
    exact absurd (hr.trans hr2.symm) c3
theorem law_2 (G : mt_G) (hG : G.2.1 ≤ 2561) {h : ha_H} {L : Nat} {n : List ab_M} {su : Bool} {sn : Int32} {sg : Bool} {se : Int32} {pg : Nat → Nat → Int32} {md : Nat → Nat → Nat} {en : Nat → Nat → Int32} {sd : Nat → Option ab_M} {ln : Nat → List ab_M} {C : Nat → ab_C} {K : Nat} (hc : CV L n su sn sg se pg md en sd ln C h) (hM : MV K L n su sn sg se pg md en sd ln C h) (hK : K < 2 ^ 20) {i : Nat} (hi : i + 5 ≤ G.2.1) {rc rs : Nat} (hp : ∀ h', IV (K + 1) h' → rn_W G xZ_law z_L rc rs 716 [some (.inr (some 0)), some (.inr (some 1)), some (.inr (some 62)), some (.inl (nI i))] [] h' lw_1) : rn_W G xZ_law z_L (rc + 27) (rs + 144) 232 [some (.inr (some 0)), some (.inr (some 1)), some (.inr (some 62)), some (.inl (nI i))] [] h lw_1 := by
  refine rw_aload_n (pc := 232) dZ_law_232 rfl ?_
  refine rw_aload_n (pc := 233) dZ_law_233 rfl ?_
  refine rw_iload_n (pc := 234) dZ_law_234 rfl ?_
  refine rw_iconst (pc := 235) (x := nI 1) dZ_law_235 (by decide) ?_
  refine rw_iadd (pc := 236) (v := nI (i + 1)) dZ_law_236 (nI_add _ _) ?_
  refine rw_sld (pc := 237) (k := i + 1) (by omega) hG dZ_law_237 ?_
  refine rw_aload_n (pc := 238) dZ_law_238 rfl ?_
  refine rw_iload_n (pc := 239) dZ_law_239 rfl ?_
  refine rw_iconst (pc := 240) (x := nI 2) dZ_law_240 (by decide) ?_
  refine rw_iadd (pc := 241) (v := nI (i + 2)) dZ_law_241 (nI_add _ _) ?_
  refine rw_sld (pc := 242) (k := i + 2) (by omega) hG dZ_law_242 ?_
  refine rw_aload_n (pc := 243) dZ_law_243 rfl ?_
  refine rw_iload_n (pc := 244) dZ_law_244 rfl ?_
  refine rw_iconst (pc := 245) (x := nI 3) dZ_law_245 (by decide) ?_
  refine rw_iadd (pc := 246) (v := nI (i + 3)) dZ_law_246 (nI_add _ _) ?_
  refine rw_sld (pc := 247) (k := i + 3) (by omega) hG dZ_law_247 ?_
  refine rw_aload_n (pc := 248) dZ_law_248 rfl ?_
  refine rw_iload_n (pc := 249) dZ_law_249 rfl ?_
  refine rw_iconst (pc := 250) (x := nI 4) dZ_law_250 (by decide) ?_
  refine rw_iadd (pc := 251) (v := nI (i + 4)) dZ_law_251 (nI_add _ _) ?_
  refine rw_sld (pc := 252) (k := i + 4) (by omega) hG dZ_law_252 ?_
  refine rw_vi (pc := 253) (z' := (6, 27, 144)) (rc' := rc) (rs' := rs) (av := [.inl (G.2.2 (i + 1)), .inl (G.2.2 (i + 2)), .inl (G.2.2 (i + 3)), .inl (G.2.2 (i + 4))]) (st := []) (ci := 0) mlZ_31 miL_write rfl mvL_write_L dZ_law_253 (cs_o hc (by omega) (by omega)) (cs_S1 hc) (cL_write G _ hc hM hK _ _ _ _) rfl rfl (Nat.le_of_ble_eq_true rfl) (Nat.le_of_ble_eq_true rfl) rfl rfl (fun r1 h1 q1 => ?_)
  obtain ⟨hl, hr, L', n', su', sn', sg', se', pg', md', en', sd', ln', C', hc2, hM2⟩ := q1
  replace hM := MV_le hM hl
  change r1 = (m_write h1 (G.2.2 (i + 1)) (G.2.2 (i + 2)) (G.2.2 (i + 3)) (G.2.2 (i + 4))).1 at hr
  change MV (K + 1) L' n' su' sn' sg' se' pg' md' en' sd' ln' C' (m_write h1 (G.2.2 (i + 1)) (G.2.2 (i + 2)) (G.2.2 (i + 3)) (G.2.2 (i + 4))).2 at hM2
  refine rw_aload_n (pc := 256) dZ_law_256 rfl ?_
  refine rw_aload_n (pc := 257) dZ_law_257 rfl ?_
  refine rw_iload_n (pc := 258) dZ_law_258 rfl ?_
  refine rw_iconst (pc := 259) (x := nI 1) dZ_law_259 (by decide) ?_
  refine rw_iadd (pc := 260) (v := nI (i + 1)) dZ_law_260 (nI_add _ _) ?_
  refine rw_sld (pc := 261) (k := i + 1) (by omega) hG dZ_law_261 ?_
  refine rw_aload_n (pc := 262) dZ_law_262 rfl ?_
  refine rw_iload_n (pc := 263) dZ_law_263 rfl ?_
  refine rw_iconst (pc := 264) (x := nI 2) dZ_law_264 (by decide) ?_
  refine rw_iadd (pc := 265) (v := nI (i + 2)) dZ_law_265 (nI_add _ _) ?_
  refine rw_sld (pc := 266) (k := i + 2) (by omega) hG dZ_law_266 ?_
  refine rw_aload_n (pc := 267) dZ_law_267 rfl ?_
  refine rw_iload_n (pc := 268) dZ_law_268 rfl ?_
  refine rw_iconst (pc := 269) (x := nI 3) dZ_law_269 (by decide) ?_
  refine rw_iadd (pc := 270) (v := nI (i + 3)) dZ_law_270 (nI_add _ _) ?_
  refine rw_sld (pc := 271) (k := i + 3) (by omega) hG dZ_law_271 ?_
  refine rw_aload_n (pc := 272) dZ_law_272 rfl ?_
  refine rw_iload_n (pc := 273) dZ_law_273 rfl ?_
  refine rw_iconst (pc := 274) (x := nI 4) dZ_law_274 (by decide) ?_
  refine rw_iadd (pc := 275) (v := nI (i + 4)) dZ_law_275 (nI_add _ _) ?_
  refine rw_sld (pc := 276) (k := i + 4) (by omega) hG dZ_law_276 ?_
  refine rw_vi (pc := 277) (z' := (2, 0, 0)) (rc' := rc) (rs' := rs) (av := [.inl (G.2.2 (i + 1)), .inl (G.2.2 (i + 2)), .inl (G.2.2 (i + 3)), .inl (G.2.2 (i + 4))]) (st := [.inl r1]) (ci := 10) mlZ_34 miM_write rfl mvM_write_M dZ_law_277 ⟨by omega, by have := (mv_I hM).1.1.1; omega⟩ (mv_I hM).1.1.2.1 (cM_write G _ (mv_I hM).1.1 (mv_I hM).1.2.1 (MV_dw hM) _ _ _ _) rfl rfl (Nat.le_of_ble_eq_true rfl) (Nat.le_of_ble_eq_true rfl) rfl rfl (fun r2 h2 q2 => ?_)
  obtain ⟨hr2, hh⟩ := q2
  change (m_write h1 (G.2.2 (i + 1)) (G.2.2 (i + 2)) (G.2.2 (i + 3)) (G.2.2 (i + 4))).2 = h2 at hh
  rw [hh] at hM2
  have hfx : fx h1 h2 := hh ▸ fx_write
  replace hc2 := CV_fx hc2 hfx
  refine rw_icmpeq (pc := 280) dZ_law_280 (tgt := 716) rfl (fun c3 => ?_) (fun c3 => ?_)
  · skip
    exact hp _ ⟨L', n', su', sn', sg', se', pg', md', en', sd', ln', C', hc2, hM2⟩
  · skip
    exact absurd (hr.trans hr2.symm) c3
theorem law_3 (G : mt_G) (hG : G.2.1 ≤ 2561) {h : ha_H} {L : Nat} {n : List ab_M} {su : Bool} {sn : Int32} {sg : Bool} {se : Int32} {pg : Nat → Nat → Int32} {md : Nat → Nat → Nat} {en : Nat → Nat → Int32} {sd : Nat → Option ab_M} {ln : Nat → List ab_M} {C : Nat → ab_C} {K : Nat} (hc : CV L n su sn sg se pg md en sd ln C h) (hM : MV K L n su sn sg se pg md en sd ln C h) (hK : K < 2 ^ 20) {i : Nat} (hi : i + 5 ≤ G.2.1) {rc rs : Nat} (hp : ∀ h', IV (K + 1) h' → rn_W G xZ_law z_L rc rs 716 [some (.inr (some 0)), some (.inr (some 1)), some (.inr (some 62)), some (.inl (nI i))] [] h' lw_1) : rn_W G xZ_law z_L (rc + 27) (rs + 144) 285 [some (.inr (some 0)), some (.inr (some 1)), some (.inr (some 62)), some (.inl (nI i))] [] h lw_1 := by
  refine rw_aload_n (pc := 285) dZ_law_285 rfl ?_
  refine rw_aload_n (pc := 286) dZ_law_286 rfl ?_
  refine rw_iload_n (pc := 287) dZ_law_287 rfl ?_
  refine rw_iconst (pc := 288) (x := nI 1) dZ_law_288 (by decide) ?_
  refine rw_iadd (pc := 289) (v := nI (i + 1)) dZ_law_289 (nI_add _ _) ?_
  refine rw_sld (pc := 290) (k := i + 1) (by omega) hG dZ_law_290 ?_
  refine rw_vi (pc := 291) (z' := (6, 27, 144)) (rc' := rc) (rs' := rs) (av := [.inl (G.2.2 (i + 1))]) (st := []) (ci := 0) mlZ_35 miL_flush rfl mvL_flush_L dZ_law_291 (cs_o hc (by omega) (by omega)) (cs_S1 hc) (cL_flush G _ hc hM hK _) rfl rfl (Nat.le_of_ble_eq_true rfl) (Nat.le_of_ble_eq_true rfl) rfl rfl (fun r1 h1 q1 => ?_)
  obtain ⟨hl, hr, L', n', su', sn', sg', se', pg', md', en', sd', ln', C', hc2, hM2⟩ := q1
  replace hM := MV_le hM hl
  change r1 = (m_flush h1 (G.2.2 (i + 1))).1 at hr
  change MV (K + 1) L' n' su' sn' sg' se' pg' md' en' sd' ln' C' (m_flush h1 (G.2.2 (i + 1))).2 at hM2
  refine rw_aload_n (pc := 294) dZ_law_294 rfl ?_
  refine rw_aload_n (pc := 295) dZ_law_295 rfl ?_
  refine rw_iload_n (pc := 296) dZ_law_296 rfl ?_
  refine rw_iconst (pc := 297) (x := nI 1) dZ_law_297 (by decide) ?_
  refine rw_iadd (pc := 298) (v := nI (i + 1)) dZ_law_298 (nI_add _ _) ?_
  refine rw_sld (pc := 299) (k := i + 1) (by omega) hG dZ_law_299 ?_
  refine rw_vi (pc := 300) (z' := (3, 0, 0)) (rc' := rc) (rs' := rs) (av := [.inl (G.2.2 (i + 1))]) (st := [.inl r1]) (ci := 10) mlZ_39 miM_flush rfl mvM_flush_M dZ_law_300 ⟨by omega, by have := (mv_I hM).1.1.1; omega⟩ (mv_I hM).1.1.2.1 (cM_flush G _ (mv_I hM).1 (mv_I hM).2 (MV_dw hM) _) rfl rfl (Nat.le_of_ble_eq_true rfl) (Nat.le_of_ble_eq_true rfl) rfl rfl (fun r2 h2 q2 => ?_)
  obtain ⟨hr2, hh⟩ := q2
  change (m_flush h1 (G.2.2 (i + 1))).2 = h2 at hh
  rw [hh] at hM2
  have hfx : fx h1 h2 := hh ▸ fx_flush
  replace hc2 := CV_fx hc2 hfx
  refine rw_icmpeq (pc := 303) dZ_law_303 (tgt := 716) rfl (fun c3 => ?_) (fun c3 => ?_)
  · skip
    exact hp _ ⟨L', n', su', sn', sg', se', pg', md', en', sd', ln', C', hc2, hM2⟩
  · skip
    exact absurd (hr.trans hr2.symm) c3
theorem law_4 (G : mt_G) (hG : G.2.1 ≤ 2561) {h : ha_H} {L : Nat} {n : List ab_M} {su : Bool} {sn : Int32} {sg : Bool} {se : Int32} {pg : Nat → Nat → Int32} {md : Nat → Nat → Nat} {en : Nat → Nat → Int32} {sd : Nat → Option ab_M} {ln : Nat → List ab_M} {C : Nat → ab_C} {K : Nat} (hc : CV L n su sn sg se pg md en sd ln C h) (hM : MV K L n su sn sg se pg md en sd ln C h) (hK : K < 2 ^ 20) {i : Nat} (hi : i + 5 ≤ G.2.1) {rc rs : Nat} (hp : ∀ h', IV (K + 1) h' → rn_W G xZ_law z_L rc rs 716 [some (.inr (some 0)), some (.inr (some 1)), some (.inr (some 62)), some (.inl (nI i))] [] h' lw_1) : rn_W G xZ_law z_L (rc + 27) (rs + 144) 308 [some (.inr (some 0)), some (.inr (some 1)), some (.inr (some 62)), some (.inl (nI i))] [] h lw_1 := by
  refine rw_aload_n (pc := 308) dZ_law_308 rfl ?_
  refine rw_aload_n (pc := 309) dZ_law_309 rfl ?_
  refine rw_iload_n (pc := 310) dZ_law_310 rfl ?_
  refine rw_iconst (pc := 311) (x := nI 1) dZ_law_311 (by decide) ?_
  refine rw_iadd (pc := 312) (v := nI (i + 1)) dZ_law_312 (nI_add _ _) ?_
  refine rw_sld (pc := 313) (k := i + 1) (by omega) hG dZ_law_313 ?_
  refine rw_aload_n (pc := 314) dZ_law_314 rfl ?_
  refine rw_iload_n (pc := 315) dZ_law_315 rfl ?_
  refine rw_iconst (pc := 316) (x := nI 2) dZ_law_316 (by decide) ?_
  refine rw_iadd (pc := 317) (v := nI (i + 2)) dZ_law_317 (nI_add _ _) ?_
  refine rw_sld (pc := 318) (k := i + 2) (by omega) hG dZ_law_318 ?_
  refine rw_vi (pc := 319) (z' := (6, 27, 144)) (rc' := rc) (rs' := rs) (av := [.inl (G.2.2 (i + 1)), .inl (G.2.2 (i + 2))]) (st := []) (ci := 0) mlZ_40 miL_close rfl mvL_close_L dZ_law_319 (cs_o hc (by omega) (by omega)) (cs_S1 hc) (cL_close G _ hc hM hK _ _) rfl rfl (Nat.le_of_ble_eq_true rfl) (Nat.le_of_ble_eq_true rfl) rfl rfl (fun r1 h1 q1 => ?_)
  obtain ⟨hl, hr, L', n', su', sn', sg', se', pg', md', en', sd', ln', C', hc2, hM2⟩ := q1
  replace hM := MV_le hM hl
  change r1 = (m_close h1 (G.2.2 (i + 1)) (G.2.2 (i + 2))).1 at hr
  change MV (K + 1) L' n' su' sn' sg' se' pg' md' en' sd' ln' C' (m_close h1 (G.2.2 (i + 1)) (G.2.2 (i + 2))).2 at hM2
  refine rw_aload_n (pc := 322) dZ_law_322 rfl ?_
  refine rw_aload_n (pc := 323) dZ_law_323 rfl ?_
  refine rw_iload_n (pc := 324) dZ_law_324 rfl ?_
  refine rw_iconst (pc := 325) (x := nI 1) dZ_law_325 (by decide) ?_
  refine rw_iadd (pc := 326) (v := nI (i + 1)) dZ_law_326 (nI_add _ _) ?_
  refine rw_sld (pc := 327) (k := i + 1) (by omega) hG dZ_law_327 ?_
  refine rw_aload_n (pc := 328) dZ_law_328 rfl ?_
  refine rw_iload_n (pc := 329) dZ_law_329 rfl ?_
  refine rw_iconst (pc := 330) (x := nI 2) dZ_law_330 (by decide) ?_
  refine rw_iadd (pc := 331) (v := nI (i + 2)) dZ_law_331 (nI_add _ _) ?_
  refine rw_sld (pc := 332) (k := i + 2) (by omega) hG dZ_law_332 ?_
  refine rw_vi (pc := 333) (z' := (3, 0, 0)) (rc' := rc) (rs' := rs) (av := [.inl (G.2.2 (i + 1)), .inl (G.2.2 (i + 2))]) (st := [.inl r1]) (ci := 10) mlZ_44 miM_close rfl mvM_close_M dZ_law_333 ⟨by omega, by have := (mv_I hM).1.1.1; omega⟩ (mv_I hM).1.1.2.1 (cM_close G _ (mv_I hM).1 (MV_dw hM) _ _) rfl rfl (Nat.le_of_ble_eq_true rfl) (Nat.le_of_ble_eq_true rfl) rfl rfl (fun r2 h2 q2 => ?_)
  obtain ⟨hr2, hh⟩ := q2
  change (m_close h1 (G.2.2 (i + 1)) (G.2.2 (i + 2))).2 = h2 at hh
  rw [hh] at hM2
  have hfx : fx h1 h2 := hh ▸ fx_close
  replace hc2 := CV_fx hc2 hfx
  refine rw_icmpeq (pc := 336) dZ_law_336 (tgt := 716) rfl (fun c3 => ?_) (fun c3 => ?_)
  · skip
    exact hp _ ⟨L', n', su', sn', sg', se', pg', md', en', sd', ln', C', hc2, hM2⟩
  · skip
    exact absurd (hr.trans hr2.symm) c3
theorem law_5 (G : mt_G) (hG : G.2.1 ≤ 2561) {h : ha_H} {L : Nat} {n : List ab_M} {su : Bool} {sn : Int32} {sg : Bool} {se : Int32} {pg : Nat → Nat → Int32} {md : Nat → Nat → Nat} {en : Nat → Nat → Int32} {sd : Nat → Option ab_M} {ln : Nat → List ab_M} {C : Nat → ab_C} {K : Nat} (hc : CV L n su sn sg se pg md en sd ln C h) (hM : MV K L n su sn sg se pg md en sd ln C h) (hK : K < 2 ^ 20) {i : Nat} (hi : i + 5 ≤ G.2.1) {rc rs : Nat} (hp : ∀ h', IV (K + 1) h' → rn_W G xZ_law z_L rc rs 716 [some (.inr (some 0)), some (.inr (some 1)), some (.inr (some 62)), some (.inl (nI i))] [] h' lw_1) : rn_W G xZ_law z_L (rc + 27) (rs + 144) 341 [some (.inr (some 0)), some (.inr (some 1)), some (.inr (some 62)), some (.inl (nI i))] [] h lw_1 := by
  refine rw_aload_n (pc := 341) dZ_law_341 rfl ?_
  refine rw_aload_n (pc := 342) dZ_law_342 rfl ?_
  refine rw_iload_n (pc := 343) dZ_law_343 rfl ?_
  refine rw_iconst (pc := 344) (x := nI 1) dZ_law_344 (by decide) ?_
  refine rw_iadd (pc := 345) (v := nI (i + 1)) dZ_law_345 (nI_add _ _) ?_
  refine rw_sld (pc := 346) (k := i + 1) (by omega) hG dZ_law_346 ?_
  refine rw_vi (pc := 347) (z' := (6, 27, 144)) (rc' := rc) (rs' := rs) (av := [.inl (G.2.2 (i + 1))]) (st := []) (ci := 0) mlZ_45 miL_retry rfl mvL_retry_L dZ_law_347 (cs_o hc (by omega) (by omega)) (cs_S1 hc) (cL_retry G _ hc hM hK _) rfl rfl (Nat.le_of_ble_eq_true rfl) (Nat.le_of_ble_eq_true rfl) rfl rfl (fun r1 h1 q1 => ?_)
  obtain ⟨hl, hr, L', n', su', sn', sg', se', pg', md', en', sd', ln', C', hc2, hM2⟩ := q1
  replace hM := MV_le hM hl
  change r1 = (m_retry h1 (G.2.2 (i + 1))).1 at hr
  change MV (K + 1) L' n' su' sn' sg' se' pg' md' en' sd' ln' C' (m_retry h1 (G.2.2 (i + 1))).2 at hM2
  refine rw_aload_n (pc := 350) dZ_law_350 rfl ?_
  refine rw_aload_n (pc := 351) dZ_law_351 rfl ?_
  refine rw_iload_n (pc := 352) dZ_law_352 rfl ?_
  refine rw_iconst (pc := 353) (x := nI 1) dZ_law_353 (by decide) ?_
  refine rw_iadd (pc := 354) (v := nI (i + 1)) dZ_law_354 (nI_add _ _) ?_
  refine rw_sld (pc := 355) (k := i + 1) (by omega) hG dZ_law_355 ?_
  refine rw_vi (pc := 356) (z' := (3, 0, 0)) (rc' := rc) (rs' := rs) (av := [.inl (G.2.2 (i + 1))]) (st := [.inl r1]) (ci := 10) mlZ_48 miM_retry rfl mvM_retry_M dZ_law_356 ⟨by omega, by have := (mv_I hM).1.1.1; omega⟩ (mv_I hM).1.1.2.1 (cM_retry G _ (mv_I hM).1 _) rfl rfl (Nat.le_of_ble_eq_true rfl) (Nat.le_of_ble_eq_true rfl) rfl rfl (fun r2 h2 q2 => ?_)
  obtain ⟨hr2, hh⟩ := q2
  change (m_retry h1 (G.2.2 (i + 1))).2 = h2 at hh
  rw [hh] at hM2
  have hfx : fx h1 h2 := hh ▸ fx_retry
  replace hc2 := CV_fx hc2 hfx
  refine rw_icmpeq (pc := 359) dZ_law_359 (tgt := 716) rfl (fun c3 => ?_) (fun c3 => ?_)
  · skip
    exact hp _ ⟨L', n', su', sn', sg', se', pg', md', en', sd', ln', C', hc2, hM2⟩
  · skip
    exact absurd (hr.trans hr2.symm) c3
theorem law_6 (G : mt_G) (hG : G.2.1 ≤ 2561) {h : ha_H} {L : Nat} {n : List ab_M} {su : Bool} {sn : Int32} {sg : Bool} {se : Int32} {pg : Nat → Nat → Int32} {md : Nat → Nat → Nat} {en : Nat → Nat → Int32} {sd : Nat → Option ab_M} {ln : Nat → List ab_M} {C : Nat → ab_C} {K : Nat} (hc : CV L n su sn sg se pg md en sd ln C h) (hM : MV K L n su sn sg se pg md en sd ln C h) (hK : K < 2 ^ 20) {i : Nat} (hi : i + 5 ≤ G.2.1) {rc rs : Nat} (hp : ∀ h', IV (K + 1) h' → rn_W G xZ_law z_L rc rs 716 [some (.inr (some 0)), some (.inr (some 1)), some (.inr (some 62)), some (.inl (nI i))] [] h' lw_1) : rn_W G xZ_law z_L (rc + 27) (rs + 144) 364 [some (.inr (some 0)), some (.inr (some 1)), some (.inr (some 62)), some (.inl (nI i))] [] h lw_1 := by
  refine rw_aload_n (pc := 364) dZ_law_364 rfl ?_
  refine rw_vi (pc := 365) (z' := (6, 27, 144)) (rc' := rc) (rs' := rs) (av := []) (st := []) (ci := 0) mlZ_49 miL_messages rfl mvL_messages_L dZ_law_365 (cs_o hc (by omega) (by omega)) (cs_S1 hc) (cL_messages G _ hc hM hK) rfl rfl (Nat.le_of_ble_eq_true rfl) (Nat.le_of_ble_eq_true rfl) rfl rfl (fun r1 h1 q1 => ?_)
  obtain ⟨hl, hr, L', n', su', sn', sg', se', pg', md', en', sd', ln', C', hc2, hM2⟩ := q1
  replace hM := MV_le hM hl
  change r1 = ((hp_I h1 62 34, h1)).1 at hr
  change MV (K + 1) L' n' su' sn' sg' se' pg' md' en' sd' ln' C' ((hp_I h1 62 34, h1)).2 at hM2
  refine rw_aload_n (pc := 368) dZ_law_368 rfl ?_
  refine rw_vi (pc := 369) (z' := (0, 0, 0)) (rc' := rc) (rs' := rs) (av := []) (st := [.inl r1]) (ci := 10) mlZ_53 miM_messages rfl mvM_messages_M dZ_law_369 ⟨by omega, by have := (mv_I hM).1.1.1; omega⟩ (mv_I hM).1.1.2.1 (cM_messages G _ (mv_I hM).1.1) rfl rfl (Nat.le_of_ble_eq_true rfl) (Nat.le_of_ble_eq_true rfl) rfl rfl (fun r2 h2 q2 => ?_)
  obtain ⟨hr2, hh⟩ := q2
  subst hh
  refine rw_icmpeq (pc := 372) dZ_law_372 (tgt := 716) rfl (fun c3 => ?_) (fun c3 => ?_)
  · skip
    exact hp _ ⟨L', n', su', sn', sg', se', pg', md', en', sd', ln', C', hc2, hM2⟩
  · skip
    exact absurd (hr.trans hr2.symm) c3
theorem law_7 (G : mt_G) (hG : G.2.1 ≤ 2561) {h : ha_H} {L : Nat} {n : List ab_M} {su : Bool} {sn : Int32} {sg : Bool} {se : Int32} {pg : Nat → Nat → Int32} {md : Nat → Nat → Nat} {en : Nat → Nat → Int32} {sd : Nat → Option ab_M} {ln : Nat → List ab_M} {C : Nat → ab_C} {K : Nat} (hc : CV L n su sn sg se pg md en sd ln C h) (hM : MV K L n su sn sg se pg md en sd ln C h) (hK : K < 2 ^ 20) {i : Nat} (hi : i + 5 ≤ G.2.1) {rc rs : Nat} (hp : ∀ h', IV (K + 1) h' → rn_W G xZ_law z_L rc rs 716 [some (.inr (some 0)), some (.inr (some 1)), some (.inr (some 62)), some (.inl (nI i))] [] h' lw_1) : rn_W G xZ_law z_L (rc + 27) (rs + 144) 377 [some (.inr (some 0)), some (.inr (some 1)), some (.inr (some 62)), some (.inl (nI i))] [] h lw_1 := by
  refine rw_aload_n (pc := 377) dZ_law_377 rfl ?_
  refine rw_aload_n (pc := 378) dZ_law_378 rfl ?_
  refine rw_iload_n (pc := 379) dZ_law_379 rfl ?_
  refine rw_iconst (pc := 380) (x := nI 1) dZ_law_380 (by decide) ?_
  refine rw_iadd (pc := 381) (v := nI (i + 1)) dZ_law_381 (nI_add _ _) ?_
  refine rw_sld (pc := 382) (k := i + 1) (by omega) hG dZ_law_382 ?_
  refine rw_vi (pc := 383) (z' := (6, 27, 144)) (rc' := rc) (rs' := rs) (av := [.inl (G.2.2 (i + 1))]) (st := []) (ci := 0) mlZ_54 miL_message rfl mvL_message_L dZ_law_383 (cs_o hc (by omega) (by omega)) (cs_S1 hc) (cL_message G _ hc hM hK _) rfl rfl (Nat.le_of_ble_eq_true rfl) (Nat.le_of_ble_eq_true rfl) rfl rfl (fun r1 h1 q1 => ?_)
  obtain ⟨hl, hr, L', n', su', sn', sg', se', pg', md', en', sd', ln', C', hc2, hM2⟩ := q1
  replace hM := MV_le hM hl
  change r1 = ((m_message h1 (m_u h1) (G.2.2 (i + 1)), h1)).1 at hr
  change MV (K + 1) L' n' su' sn' sg' se' pg' md' en' sd' ln' C' ((m_message h1 (m_u h1) (G.2.2 (i + 1)), h1)).2 at hM2
  refine rw_aload_n (pc := 386) dZ_law_386 rfl ?_
  refine rw_aload_n (pc := 387) dZ_law_387 rfl ?_
  refine rw_iload_n (pc := 388) dZ_law_388 rfl ?_
  refine rw_iconst (pc := 389) (x := nI 1) dZ_law_389 (by decide) ?_
  refine rw_iadd (pc := 390) (v := nI (i + 1)) dZ_law_390 (nI_add _ _) ?_
  refine rw_sld (pc := 391) (k := i + 1) (by omega) hG dZ_law_391 ?_
  refine rw_vi (pc := 392) (z' := (1, 0, 0)) (rc' := rc) (rs' := rs) (av := [.inl (G.2.2 (i + 1))]) (st := [.inl r1]) (ci := 10) mlZ_57 miM_message rfl mvM_message_M dZ_law_392 ⟨by omega, by have := (mv_I hM).1.1.1; omega⟩ (mv_I hM).1.1.2.1 (cM_message G _ (mv_I hM).1.1 (mv_I hM).1.2.2.1 (mv_I hM).1.2.2.2 _) rfl rfl (Nat.le_of_ble_eq_true rfl) (Nat.le_of_ble_eq_true rfl) rfl rfl (fun r2 h2 q2 => ?_)
  obtain ⟨hr2, hh⟩ := q2
  subst hh
  refine rw_icmpeq (pc := 395) dZ_law_395 (tgt := 716) rfl (fun c3 => ?_) (fun c3 => ?_)
  · skip
    exact hp _ ⟨L', n', su', sn', sg', se', pg', md', en', sd', ln', C', hc2, hM2⟩
  · skip
    exact absurd (hr.trans hr2.symm) c3
theorem law_8 (G : mt_G) (hG : G.2.1 ≤ 2561) {h : ha_H} {L : Nat} {n : List ab_M} {su : Bool} {sn : Int32} {sg : Bool} {se : Int32} {pg : Nat → Nat → Int32} {md : Nat → Nat → Nat} {en : Nat → Nat → Int32} {sd : Nat → Option ab_M} {ln : Nat → List ab_M} {C : Nat → ab_C} {K : Nat} (hc : CV L n su sn sg se pg md en sd ln C h) (hM : MV K L n su sn sg se pg md en sd ln C h) (hK : K < 2 ^ 20) {i : Nat} (hi : i + 5 ≤ G.2.1) {rc rs : Nat} (hp : ∀ h', IV (K + 1) h' → rn_W G xZ_law z_L rc rs 716 [some (.inr (some 0)), some (.inr (some 1)), some (.inr (some 62)), some (.inl (nI i))] [] h' lw_1) : rn_W G xZ_law z_L (rc + 27) (rs + 144) 400 [some (.inr (some 0)), some (.inr (some 1)), some (.inr (some 62)), some (.inl (nI i))] [] h lw_1 := by
  refine rw_aload_n (pc := 400) dZ_law_400 rfl ?_
  refine rw_aload_n (pc := 401) dZ_law_401 rfl ?_
  refine rw_iload_n (pc := 402) dZ_law_402 rfl ?_
  refine rw_iconst (pc := 403) (x := nI 1) dZ_law_403 (by decide) ?_
  refine rw_iadd (pc := 404) (v := nI (i + 1)) dZ_law_404 (nI_add _ _) ?_
  refine rw_sld (pc := 405) (k := i + 1) (by omega) hG dZ_law_405 ?_
  refine rw_vi (pc := 406) (z' := (6, 27, 144)) (rc' := rc) (rs' := rs) (av := [.inl (G.2.2 (i + 1))]) (st := []) (ci := 0) mlZ_58 miL_deliver rfl mvL_deliver_L dZ_law_406 (cs_o hc (by omega) (by omega)) (cs_S1 hc) (cL_deliver G _ hc hM hK _) rfl rfl (Nat.le_of_ble_eq_true rfl) (Nat.le_of_ble_eq_true rfl) rfl rfl (fun r1 h1 q1 => ?_)
  obtain ⟨hl, hr, L', n', su', sn', sg', se', pg', md', en', sd', ln', C', hc2, hM2⟩ := q1
  replace hM := MV_le hM hl
  change r1 = (m_deliver h1 (G.2.2 (i + 1))).1 at hr
  change MV (K + 1) L' n' su' sn' sg' se' pg' md' en' sd' ln' C' (m_deliver h1 (G.2.2 (i + 1))).2 at hM2
  refine rw_aload_n (pc := 409) dZ_law_409 rfl ?_
  refine rw_aload_n (pc := 410) dZ_law_410 rfl ?_
  refine rw_iload_n (pc := 411) dZ_law_411 rfl ?_
  refine rw_iconst (pc := 412) (x := nI 1) dZ_law_412 (by decide) ?_
  refine rw_iadd (pc := 413) (v := nI (i + 1)) dZ_law_413 (nI_add _ _) ?_
  refine rw_sld (pc := 414) (k := i + 1) (by omega) hG dZ_law_414 ?_
  refine rw_vi (pc := 415) (z' := (6, 0, 0)) (rc' := rc) (rs' := rs) (av := [.inl (G.2.2 (i + 1))]) (st := [.inl r1]) (ci := 10) mlZ_62 miM_deliver rfl mvM_deliver_M dZ_law_415 ⟨by omega, by have := (mv_I hM).1.1.1; omega⟩ (mv_I hM).1.1.2.1 (cM_deliver G _ (mv_I hM).1 (mv_I hM).2 (MV_dw hM) (MV_ms hM) _) rfl rfl (Nat.le_of_ble_eq_true rfl) (Nat.le_of_ble_eq_true rfl) rfl rfl (fun r2 h2 q2 => ?_)
  obtain ⟨hr2, hh⟩ := q2
  change (m_deliver h1 (G.2.2 (i + 1))).2 = h2 at hh
  rw [hh] at hM2
  have hfx : fx h1 h2 := hh ▸ fx_deliver
  replace hc2 := CV_fx hc2 hfx
  refine rw_icmpeq (pc := 418) dZ_law_418 (tgt := 716) rfl (fun c3 => ?_) (fun c3 => ?_)
  · skip
    exact hp _ ⟨L', n', su', sn', sg', se', pg', md', en', sd', ln', C', hc2, hM2⟩
  · skip
    exact absurd (hr.trans hr2.symm) c3
theorem law_9 (G : mt_G) (hG : G.2.1 ≤ 2561) {h : ha_H} {L : Nat} {n : List ab_M} {su : Bool} {sn : Int32} {sg : Bool} {se : Int32} {pg : Nat → Nat → Int32} {md : Nat → Nat → Nat} {en : Nat → Nat → Int32} {sd : Nat → Option ab_M} {ln : Nat → List ab_M} {C : Nat → ab_C} {K : Nat} (hc : CV L n su sn sg se pg md en sd ln C h) (hM : MV K L n su sn sg se pg md en sd ln C h) (hK : K < 2 ^ 20) {i : Nat} (hi : i + 5 ≤ G.2.1) {rc rs : Nat} (hp : ∀ h', IV (K + 1) h' → rn_W G xZ_law z_L rc rs 716 [some (.inr (some 0)), some (.inr (some 1)), some (.inr (some 62)), some (.inl (nI i))] [] h' lw_1) : rn_W G xZ_law z_L (rc + 27) (rs + 144) 423 [some (.inr (some 0)), some (.inr (some 1)), some (.inr (some 62)), some (.inl (nI i))] [] h lw_1 := by
  refine rw_aload_n (pc := 423) dZ_law_423 rfl ?_
  refine rw_aload_n (pc := 424) dZ_law_424 rfl ?_
  refine rw_iload_n (pc := 425) dZ_law_425 rfl ?_
  refine rw_iconst (pc := 426) (x := nI 1) dZ_law_426 (by decide) ?_
  refine rw_iadd (pc := 427) (v := nI (i + 1)) dZ_law_427 (nI_add _ _) ?_
  refine rw_sld (pc := 428) (k := i + 1) (by omega) hG dZ_law_428 ?_
  refine rw_vi (pc := 429) (z' := (6, 27, 144)) (rc' := rc) (rs' := rs) (av := [.inl (G.2.2 (i + 1))]) (st := []) (ci := 0) mlZ_63 miL_drop rfl mvL_drop_L dZ_law_429 (cs_o hc (by omega) (by omega)) (cs_S1 hc) (cL_drop G _ hc hM hK _) rfl rfl (Nat.le_of_ble_eq_true rfl) (Nat.le_of_ble_eq_true rfl) rfl rfl (fun r1 h1 q1 => ?_)
  obtain ⟨hl, hr, L', n', su', sn', sg', se', pg', md', en', sd', ln', C', hc2, hM2⟩ := q1
  replace hM := MV_le hM hl
  change r1 = ((m_dropR (m_u h1) (G.2.2 (i + 1)), m_dropH h1 (m_u h1) (G.2.2 (i + 1)))).1 at hr
  change MV (K + 1) L' n' su' sn' sg' se' pg' md' en' sd' ln' C' ((m_dropR (m_u h1) (G.2.2 (i + 1)), m_dropH h1 (m_u h1) (G.2.2 (i + 1)))).2 at hM2
  refine rw_aload_n (pc := 432) dZ_law_432 rfl ?_
  refine rw_aload_n (pc := 433) dZ_law_433 rfl ?_
  refine rw_iload_n (pc := 434) dZ_law_434 rfl ?_
  refine rw_iconst (pc := 435) (x := nI 1) dZ_law_435 (by decide) ?_
  refine rw_iadd (pc := 436) (v := nI (i + 1)) dZ_law_436 (nI_add _ _) ?_
  refine rw_sld (pc := 437) (k := i + 1) (by omega) hG dZ_law_437 ?_
  refine rw_vi (pc := 438) (z' := (1, 0, 0)) (rc' := rc) (rs' := rs) (av := [.inl (G.2.2 (i + 1))]) (st := [.inl r1]) (ci := 10) mlZ_66 miM_drop rfl mvM_drop_M dZ_law_438 ⟨by omega, by have := (mv_I hM).1.1.1; omega⟩ (mv_I hM).1.1.2.1 (cM_drop G _ (mv_I hM).1.1 (mv_I hM).1.2.1 (mv_I hM).1.2.2.1 (mv_I hM).1.2.2.2 _) rfl rfl (Nat.le_of_ble_eq_true rfl) (Nat.le_of_ble_eq_true rfl) rfl rfl (fun r2 h2 q2 => ?_)
  obtain ⟨hr2, hh⟩ := q2
  change ((m_dropR (m_u h1) (G.2.2 (i + 1)), m_dropH h1 (m_u h1) (G.2.2 (i + 1)))).2 = h2 at hh
  rw [hh] at hM2
  have hfx : fx h1 h2 := hh ▸ fx_dropH
  replace hc2 := CV_fx hc2 hfx
  refine rw_icmpeq (pc := 441) dZ_law_441 (tgt := 716) rfl (fun c3 => ?_) (fun c3 => ?_)
  · skip
    exact hp _ ⟨L', n', su', sn', sg', se', pg', md', en', sd', ln', C', hc2, hM2⟩
  · skip
    exact absurd (hr.trans hr2.symm) c3
theorem law_10 (G : mt_G) (hG : G.2.1 ≤ 2561) {h : ha_H} {L : Nat} {n : List ab_M} {su : Bool} {sn : Int32} {sg : Bool} {se : Int32} {pg : Nat → Nat → Int32} {md : Nat → Nat → Nat} {en : Nat → Nat → Int32} {sd : Nat → Option ab_M} {ln : Nat → List ab_M} {C : Nat → ab_C} {K : Nat} (hc : CV L n su sn sg se pg md en sd ln C h) (hM : MV K L n su sn sg se pg md en sd ln C h) (hK : K < 2 ^ 20) {i : Nat} (hi : i + 5 ≤ G.2.1) {rc rs : Nat} (hp : ∀ h', IV (K + 1) h' → rn_W G xZ_law z_L rc rs 716 [some (.inr (some 0)), some (.inr (some 1)), some (.inr (some 62)), some (.inl (nI i))] [] h' lw_1) : rn_W G xZ_law z_L (rc + 27) (rs + 144) 446 [some (.inr (some 0)), some (.inr (some 1)), some (.inr (some 62)), some (.inl (nI i))] [] h lw_1 := by
  refine rw_aload_n (pc := 446) dZ_law_446 rfl ?_
  refine rw_aload_n (pc := 447) dZ_law_447 rfl ?_
  refine rw_iload_n (pc := 448) dZ_law_448 rfl ?_
  refine rw_iconst (pc := 449) (x := nI 1) dZ_law_449 (by decide) ?_
  refine rw_iadd (pc := 450) (v := nI (i + 1)) dZ_law_450 (nI_add _ _) ?_
  refine rw_sld (pc := 451) (k := i + 1) (by omega) hG dZ_law_451 ?_
  refine rw_vi (pc := 452) (z' := (6, 27, 144)) (rc' := rc) (rs' := rs) (av := [.inl (G.2.2 (i + 1))]) (st := []) (ci := 0) mlZ_67 miL_duplicate rfl mvL_duplicate_L dZ_law_452 (cs_o hc (by omega) (by omega)) (cs_S1 hc) (cL_duplicate G _ hc hM hK _) rfl rfl (Nat.le_of_ble_eq_true rfl) (Nat.le_of_ble_eq_true rfl) rfl rfl (fun r1 h1 q1 => ?_)
  obtain ⟨hl, hr, L', n', su', sn', sg', se', pg', md', en', sd', ln', C', hc2, hM2⟩ := q1
  replace hM := MV_le hM hl
  change r1 = ((m_dupR (m_u h1) (G.2.2 (i + 1)), m_dupH h1 (m_u h1) (G.2.2 (i + 1)))).1 at hr
  change MV (K + 1) L' n' su' sn' sg' se' pg' md' en' sd' ln' C' ((m_dupR (m_u h1) (G.2.2 (i + 1)), m_dupH h1 (m_u h1) (G.2.2 (i + 1)))).2 at hM2
  refine rw_aload_n (pc := 455) dZ_law_455 rfl ?_
  refine rw_aload_n (pc := 456) dZ_law_456 rfl ?_
  refine rw_iload_n (pc := 457) dZ_law_457 rfl ?_
  refine rw_iconst (pc := 458) (x := nI 1) dZ_law_458 (by decide) ?_
  refine rw_iadd (pc := 459) (v := nI (i + 1)) dZ_law_459 (nI_add _ _) ?_
  refine rw_sld (pc := 460) (k := i + 1) (by omega) hG dZ_law_460 ?_
  refine rw_vi (pc := 461) (z' := (1, 0, 0)) (rc' := rc) (rs' := rs) (av := [.inl (G.2.2 (i + 1))]) (st := [.inl r1]) (ci := 10) mlZ_70 miM_duplicate rfl mvM_duplicate_M dZ_law_461 ⟨by omega, by have := (mv_I hM).1.1.1; omega⟩ (mv_I hM).1.1.2.1 (cM_duplicate G _ (mv_I hM).1.1 (mv_I hM).1.2.1 (mv_I hM).1.2.2.1 (mv_I hM).1.2.2.2 _) rfl rfl (Nat.le_of_ble_eq_true rfl) (Nat.le_of_ble_eq_true rfl) rfl rfl (fun r2 h2 q2 => ?_)
  obtain ⟨hr2, hh⟩ := q2
  change ((m_dupR (m_u h1) (G.2.2 (i + 1)), m_dupH h1 (m_u h1) (G.2.2 (i + 1)))).2 = h2 at hh
  rw [hh] at hM2
  have hfx : fx h1 h2 := hh ▸ fx_dupH
  replace hc2 := CV_fx hc2 hfx
  refine rw_icmpeq (pc := 464) dZ_law_464 (tgt := 716) rfl (fun c3 => ?_) (fun c3 => ?_)
  · skip
    exact hp _ ⟨L', n', su', sn', sg', se', pg', md', en', sd', ln', C', hc2, hM2⟩
  · skip
    exact absurd (hr.trans hr2.symm) c3
theorem law_11 (G : mt_G) (hG : G.2.1 ≤ 2561) {h : ha_H} {L : Nat} {n : List ab_M} {su : Bool} {sn : Int32} {sg : Bool} {se : Int32} {pg : Nat → Nat → Int32} {md : Nat → Nat → Nat} {en : Nat → Nat → Int32} {sd : Nat → Option ab_M} {ln : Nat → List ab_M} {C : Nat → ab_C} {K : Nat} (hc : CV L n su sn sg se pg md en sd ln C h) (hM : MV K L n su sn sg se pg md en sd ln C h) (hK : K < 2 ^ 20) {i : Nat} (hi : i + 5 ≤ G.2.1) {rc rs : Nat} (hp : ∀ h', IV (K + 1) h' → rn_W G xZ_law z_L rc rs 716 [some (.inr (some 0)), some (.inr (some 1)), some (.inr (some 62)), some (.inl (nI i))] [] h' lw_1) : rn_W G xZ_law z_L (rc + 27) (rs + 144) 469 [some (.inr (some 0)), some (.inr (some 1)), some (.inr (some 62)), some (.inl (nI i))] [] h lw_1 := by
  refine rw_aload_n (pc := 469) dZ_law_469 rfl ?_
  refine rw_aload_n (pc := 470) dZ_law_470 rfl ?_
  refine rw_iload_n (pc := 471) dZ_law_471 rfl ?_
  refine rw_iconst (pc := 472) (x := nI 1) dZ_law_472 (by decide) ?_
  refine rw_iadd (pc := 473) (v := nI (i + 1)) dZ_law_473 (nI_add _ _) ?_
  refine rw_sld (pc := 474) (k := i + 1) (by omega) hG dZ_law_474 ?_
  refine rw_aload_n (pc := 475) dZ_law_475 rfl ?_
  refine rw_iload_n (pc := 476) dZ_law_476 rfl ?_
  refine rw_iconst (pc := 477) (x := nI 2) dZ_law_477 (by decide) ?_
  refine rw_iadd (pc := 478) (v := nI (i + 2)) dZ_law_478 (nI_add _ _) ?_
  refine rw_sld (pc := 479) (k := i + 2) (by omega) hG dZ_law_479 ?_
  refine rw_vi (pc := 480) (z' := (6, 27, 144)) (rc' := rc) (rs' := rs) (av := [.inl (G.2.2 (i + 1)), .inl (G.2.2 (i + 2))]) (st := []) (ci := 0) mlZ_71 miL_tick rfl mvL_tick_L dZ_law_480 (cs_o hc (by omega) (by omega)) (cs_S1 hc) (cL_tick G _ hc hM hK _ _) rfl rfl (Nat.le_of_ble_eq_true rfl) (Nat.le_of_ble_eq_true rfl) rfl rfl (fun r1 h1 q1 => ?_)
  obtain ⟨hl, hr, L', n', su', sn', sg', se', pg', md', en', sd', ln', C', hc2, hM2⟩ := q1
  replace hM := MV_le hM hl
  change r1 = (m_tick h1 (G.2.2 (i + 1)) (G.2.2 (i + 2))).1 at hr
  change MV (K + 1) L' n' su' sn' sg' se' pg' md' en' sd' ln' C' (m_tick h1 (G.2.2 (i + 1)) (G.2.2 (i + 2))).2 at hM2
  refine rw_aload_n (pc := 483) dZ_law_483 rfl ?_
  refine rw_aload_n (pc := 484) dZ_law_484 rfl ?_
  refine rw_iload_n (pc := 485) dZ_law_485 rfl ?_
  refine rw_iconst (pc := 486) (x := nI 1) dZ_law_486 (by decide) ?_
  refine rw_iadd (pc := 487) (v := nI (i + 1)) dZ_law_487 (nI_add _ _) ?_
  refine rw_sld (pc := 488) (k := i + 1) (by omega) hG dZ_law_488 ?_
  refine rw_aload_n (pc := 489) dZ_law_489 rfl ?_
  refine rw_iload_n (pc := 490) dZ_law_490 rfl ?_
  refine rw_iconst (pc := 491) (x := nI 2) dZ_law_491 (by decide) ?_
  refine rw_iadd (pc := 492) (v := nI (i + 2)) dZ_law_492 (nI_add _ _) ?_
  refine rw_sld (pc := 493) (k := i + 2) (by omega) hG dZ_law_493 ?_
  refine rw_vi (pc := 494) (z' := (5, 0, 0)) (rc' := rc) (rs' := rs) (av := [.inl (G.2.2 (i + 1)), .inl (G.2.2 (i + 2))]) (st := [.inl r1]) (ci := 10) mlZ_75 miM_tick rfl mvM_tick_M dZ_law_494 ⟨by omega, by have := (mv_I hM).1.1.1; omega⟩ (mv_I hM).1.1.2.1 (cM_tick G _ (mv_I hM).1 _ _) rfl rfl (Nat.le_of_ble_eq_true rfl) (Nat.le_of_ble_eq_true rfl) rfl rfl (fun r2 h2 q2 => ?_)
  obtain ⟨hr2, hh⟩ := q2
  change (m_tick h1 (G.2.2 (i + 1)) (G.2.2 (i + 2))).2 = h2 at hh
  rw [hh] at hM2
  have hfx : fx h1 h2 := hh ▸ fx_tick
  replace hc2 := CV_fx hc2 hfx
  refine rw_icmpeq (pc := 497) dZ_law_497 (tgt := 716) rfl (fun c3 => ?_) (fun c3 => ?_)
  · skip
    exact hp _ ⟨L', n', su', sn', sg', se', pg', md', en', sd', ln', C', hc2, hM2⟩
  · skip
    exact absurd (hr.trans hr2.symm) c3
theorem law_12 (G : mt_G) (hG : G.2.1 ≤ 2561) {h : ha_H} {L : Nat} {n : List ab_M} {su : Bool} {sn : Int32} {sg : Bool} {se : Int32} {pg : Nat → Nat → Int32} {md : Nat → Nat → Nat} {en : Nat → Nat → Int32} {sd : Nat → Option ab_M} {ln : Nat → List ab_M} {C : Nat → ab_C} {K : Nat} (hc : CV L n su sn sg se pg md en sd ln C h) (hM : MV K L n su sn sg se pg md en sd ln C h) (hK : K < 2 ^ 20) {i : Nat} (hi : i + 5 ≤ G.2.1) {rc rs : Nat} (hp : ∀ h', IV (K + 1) h' → rn_W G xZ_law z_L rc rs 716 [some (.inr (some 0)), some (.inr (some 1)), some (.inr (some 62)), some (.inl (nI i))] [] h' lw_1) : rn_W G xZ_law z_L (rc + 27) (rs + 144) 502 [some (.inr (some 0)), some (.inr (some 1)), some (.inr (some 62)), some (.inl (nI i))] [] h lw_1 := by
  refine rw_aload_n (pc := 502) dZ_law_502 rfl ?_
  refine rw_aload_n (pc := 503) dZ_law_503 rfl ?_
  refine rw_iload_n (pc := 504) dZ_law_504 rfl ?_
  refine rw_iconst (pc := 505) (x := nI 1) dZ_law_505 (by decide) ?_
  refine rw_iadd (pc := 506) (v := nI (i + 1)) dZ_law_506 (nI_add _ _) ?_
  refine rw_sld (pc := 507) (k := i + 1) (by omega) hG dZ_law_507 ?_
  refine rw_vi (pc := 508) (z' := (6, 27, 144)) (rc' := rc) (rs' := rs) (av := [.inl (G.2.2 (i + 1))]) (st := []) (ci := 0) mlZ_76 miL_crash rfl mvL_crash_L dZ_law_508 (cs_o hc (by omega) (by omega)) (cs_S1 hc) (cL_crash G _ hc hM hK _) rfl rfl (Nat.le_of_ble_eq_true rfl) (Nat.le_of_ble_eq_true rfl) rfl rfl (fun r1 h1 q1 => ?_)
  obtain ⟨hl, hr, L', n', su', sn', sg', se', pg', md', en', sd', ln', C', hc2, hM2⟩ := q1
  replace hM := MV_le hM hl
  change r1 = (m_crash h1 (G.2.2 (i + 1))).1 at hr
  change MV (K + 1) L' n' su' sn' sg' se' pg' md' en' sd' ln' C' (m_crash h1 (G.2.2 (i + 1))).2 at hM2
  refine rw_aload_n (pc := 511) dZ_law_511 rfl ?_
  refine rw_aload_n (pc := 512) dZ_law_512 rfl ?_
  refine rw_iload_n (pc := 513) dZ_law_513 rfl ?_
  refine rw_iconst (pc := 514) (x := nI 1) dZ_law_514 (by decide) ?_
  refine rw_iadd (pc := 515) (v := nI (i + 1)) dZ_law_515 (nI_add _ _) ?_
  refine rw_sld (pc := 516) (k := i + 1) (by omega) hG dZ_law_516 ?_
  refine rw_vi (pc := 517) (z' := (1, 0, 0)) (rc' := rc) (rs' := rs) (av := [.inl (G.2.2 (i + 1))]) (st := [.inl r1]) (ci := 10) mlZ_79 miM_crash rfl mvM_crash_M dZ_law_517 ⟨by omega, by have := (mv_I hM).1.1.1; omega⟩ (mv_I hM).1.1.2.1 (cM_crash G _ (mv_I hM).1.1 _) rfl rfl (Nat.le_of_ble_eq_true rfl) (Nat.le_of_ble_eq_true rfl) rfl rfl (fun r2 h2 q2 => ?_)
  obtain ⟨hr2, hh⟩ := q2
  change (m_crash h1 (G.2.2 (i + 1))).2 = h2 at hh
  rw [hh] at hM2
  have hfx : fx h1 h2 := hh ▸ fx_crash
  replace hc2 := CV_fx hc2 hfx
  refine rw_icmpeq (pc := 520) dZ_law_520 (tgt := 716) rfl (fun c3 => ?_) (fun c3 => ?_)
  · skip
    exact hp _ ⟨L', n', su', sn', sg', se', pg', md', en', sd', ln', C', hc2, hM2⟩
  · skip
    exact absurd (hr.trans hr2.symm) c3
theorem law_13 (G : mt_G) (hG : G.2.1 ≤ 2561) {h : ha_H} {L : Nat} {n : List ab_M} {su : Bool} {sn : Int32} {sg : Bool} {se : Int32} {pg : Nat → Nat → Int32} {md : Nat → Nat → Nat} {en : Nat → Nat → Int32} {sd : Nat → Option ab_M} {ln : Nat → List ab_M} {C : Nat → ab_C} {K : Nat} (hc : CV L n su sn sg se pg md en sd ln C h) (hM : MV K L n su sn sg se pg md en sd ln C h) (hK : K < 2 ^ 20) {i : Nat} (hi : i + 5 ≤ G.2.1) {rc rs : Nat} (hp : ∀ h', IV (K + 1) h' → rn_W G xZ_law z_L rc rs 716 [some (.inr (some 0)), some (.inr (some 1)), some (.inr (some 62)), some (.inl (nI i))] [] h' lw_1) : rn_W G xZ_law z_L (rc + 27) (rs + 144) 525 [some (.inr (some 0)), some (.inr (some 1)), some (.inr (some 62)), some (.inl (nI i))] [] h lw_1 := by
  refine rw_aload_n (pc := 525) dZ_law_525 rfl ?_
  refine rw_aload_n (pc := 526) dZ_law_526 rfl ?_
  refine rw_iload_n (pc := 527) dZ_law_527 rfl ?_
  refine rw_iconst (pc := 528) (x := nI 1) dZ_law_528 (by decide) ?_
  refine rw_iadd (pc := 529) (v := nI (i + 1)) dZ_law_529 (nI_add _ _) ?_
  refine rw_sld (pc := 530) (k := i + 1) (by omega) hG dZ_law_530 ?_
  refine rw_vi (pc := 531) (z' := (6, 27, 144)) (rc' := rc) (rs' := rs) (av := [.inl (G.2.2 (i + 1))]) (st := []) (ci := 0) mlZ_80 miL_restart rfl mvL_restart_L dZ_law_531 (cs_o hc (by omega) (by omega)) (cs_S1 hc) (cL_restart G _ hc hM hK _) rfl rfl (Nat.le_of_ble_eq_true rfl) (Nat.le_of_ble_eq_true rfl) rfl rfl (fun r1 h1 q1 => ?_)
  obtain ⟨hl, hr, L', n', su', sn', sg', se', pg', md', en', sd', ln', C', hc2, hM2⟩ := q1
  replace hM := MV_le hM hl
  change r1 = (m_restart h1 (G.2.2 (i + 1))).1 at hr
  change MV (K + 1) L' n' su' sn' sg' se' pg' md' en' sd' ln' C' (m_restart h1 (G.2.2 (i + 1))).2 at hM2
  refine rw_aload_n (pc := 534) dZ_law_534 rfl ?_
  refine rw_aload_n (pc := 535) dZ_law_535 rfl ?_
  refine rw_iload_n (pc := 536) dZ_law_536 rfl ?_
  refine rw_iconst (pc := 537) (x := nI 1) dZ_law_537 (by decide) ?_
  refine rw_iadd (pc := 538) (v := nI (i + 1)) dZ_law_538 (nI_add _ _) ?_
  refine rw_sld (pc := 539) (k := i + 1) (by omega) hG dZ_law_539 ?_
  refine rw_vi (pc := 540) (z' := (1, 0, 0)) (rc' := rc) (rs' := rs) (av := [.inl (G.2.2 (i + 1))]) (st := [.inl r1]) (ci := 10) mlZ_83 miM_restart rfl mvM_restart_M dZ_law_540 ⟨by omega, by have := (mv_I hM).1.1.1; omega⟩ (mv_I hM).1.1.2.1 (cM_restart G _ (mv_I hM).1.1 _) rfl rfl (Nat.le_of_ble_eq_true rfl) (Nat.le_of_ble_eq_true rfl) rfl rfl (fun r2 h2 q2 => ?_)
  obtain ⟨hr2, hh⟩ := q2
  change (m_restart h1 (G.2.2 (i + 1))).2 = h2 at hh
  rw [hh] at hM2
  have hfx : fx h1 h2 := hh ▸ fx_restart
  replace hc2 := CV_fx hc2 hfx
  refine rw_icmpeq (pc := 543) dZ_law_543 (tgt := 716) rfl (fun c3 => ?_) (fun c3 => ?_)
  · skip
    exact hp _ ⟨L', n', su', sn', sg', se', pg', md', en', sd', ln', C', hc2, hM2⟩
  · skip
    exact absurd (hr.trans hr2.symm) c3
theorem law_14 (G : mt_G) (hG : G.2.1 ≤ 2561) {h : ha_H} {L : Nat} {n : List ab_M} {su : Bool} {sn : Int32} {sg : Bool} {se : Int32} {pg : Nat → Nat → Int32} {md : Nat → Nat → Nat} {en : Nat → Nat → Int32} {sd : Nat → Option ab_M} {ln : Nat → List ab_M} {C : Nat → ab_C} {K : Nat} (hc : CV L n su sn sg se pg md en sd ln C h) (hM : MV K L n su sn sg se pg md en sd ln C h) (hK : K < 2 ^ 20) {i : Nat} (hi : i + 5 ≤ G.2.1) {rc rs : Nat} (hp : ∀ h', IV (K + 1) h' → rn_W G xZ_law z_L rc rs 716 [some (.inr (some 0)), some (.inr (some 1)), some (.inr (some 62)), some (.inl (nI i))] [] h' lw_1) : rn_W G xZ_law z_L (rc + 27) (rs + 144) 548 [some (.inr (some 0)), some (.inr (some 1)), some (.inr (some 62)), some (.inl (nI i))] [] h lw_1 := by
  refine rw_aload_n (pc := 548) dZ_law_548 rfl ?_
  refine rw_aload_n (pc := 549) dZ_law_549 rfl ?_
  refine rw_iload_n (pc := 550) dZ_law_550 rfl ?_
  refine rw_iconst (pc := 551) (x := nI 1) dZ_law_551 (by decide) ?_
  refine rw_iadd (pc := 552) (v := nI (i + 1)) dZ_law_552 (nI_add _ _) ?_
  refine rw_sld (pc := 553) (k := i + 1) (by omega) hG dZ_law_553 ?_
  refine rw_vi (pc := 554) (z' := (6, 27, 144)) (rc' := rc) (rs' := rs) (av := [.inl (G.2.2 (i + 1))]) (st := []) (ci := 0) mlZ_84 miL_clock rfl mvL_clock_L dZ_law_554 (cs_o hc (by omega) (by omega)) (cs_S1 hc) (cL_clock G _ hc hM hK _) rfl rfl (Nat.le_of_ble_eq_true rfl) (Nat.le_of_ble_eq_true rfl) rfl rfl (fun r1 h1 q1 => ?_)
  obtain ⟨hl, hr, L', n', su', sn', sg', se', pg', md', en', sd', ln', C', hc2, hM2⟩ := q1
  replace hM := MV_le hM hl
  change r1 = ((m_clock h1 (G.2.2 (i + 1)), h1)).1 at hr
  change MV (K + 1) L' n' su' sn' sg' se' pg' md' en' sd' ln' C' ((m_clock h1 (G.2.2 (i + 1)), h1)).2 at hM2
  refine rw_aload_n (pc := 557) dZ_law_557 rfl ?_
  refine rw_aload_n (pc := 558) dZ_law_558 rfl ?_
  refine rw_iload_n (pc := 559) dZ_law_559 rfl ?_
  refine rw_iconst (pc := 560) (x := nI 1) dZ_law_560 (by decide) ?_
  refine rw_iadd (pc := 561) (v := nI (i + 1)) dZ_law_561 (nI_add _ _) ?_
  refine rw_sld (pc := 562) (k := i + 1) (by omega) hG dZ_law_562 ?_
  refine rw_vi (pc := 563) (z' := (1, 0, 0)) (rc' := rc) (rs' := rs) (av := [.inl (G.2.2 (i + 1))]) (st := [.inl r1]) (ci := 10) mlZ_87 miM_clock rfl mvM_clock_M dZ_law_563 ⟨by omega, by have := (mv_I hM).1.1.1; omega⟩ (mv_I hM).1.1.2.1 (cM_clock G _ (mv_I hM).1.1 _) rfl rfl (Nat.le_of_ble_eq_true rfl) (Nat.le_of_ble_eq_true rfl) rfl rfl (fun r2 h2 q2 => ?_)
  obtain ⟨hr2, hh⟩ := q2
  subst hh
  refine rw_icmpeq (pc := 566) dZ_law_566 (tgt := 716) rfl (fun c3 => ?_) (fun c3 => ?_)
  · skip
    exact hp _ ⟨L', n', su', sn', sg', se', pg', md', en', sd', ln', C', hc2, hM2⟩
  · skip
    exact absurd (hr.trans hr2.symm) c3
theorem law_15 (G : mt_G) (hG : G.2.1 ≤ 2561) {h : ha_H} {L : Nat} {n : List ab_M} {su : Bool} {sn : Int32} {sg : Bool} {se : Int32} {pg : Nat → Nat → Int32} {md : Nat → Nat → Nat} {en : Nat → Nat → Int32} {sd : Nat → Option ab_M} {ln : Nat → List ab_M} {C : Nat → ab_C} {K : Nat} (hc : CV L n su sn sg se pg md en sd ln C h) (hM : MV K L n su sn sg se pg md en sd ln C h) (hK : K < 2 ^ 20) {i : Nat} (hi : i + 5 ≤ G.2.1) {rc rs : Nat} (hp : ∀ h', IV (K + 1) h' → rn_W G xZ_law z_L rc rs 716 [some (.inr (some 0)), some (.inr (some 1)), some (.inr (some 62)), some (.inl (nI i))] [] h' lw_1) : rn_W G xZ_law z_L (rc + 27) (rs + 144) 571 [some (.inr (some 0)), some (.inr (some 1)), some (.inr (some 62)), some (.inl (nI i))] [] h lw_1 := by
  refine rw_aload_n (pc := 571) dZ_law_571 rfl ?_
  refine rw_aload_n (pc := 572) dZ_law_572 rfl ?_
  refine rw_iload_n (pc := 573) dZ_law_573 rfl ?_
  refine rw_iconst (pc := 574) (x := nI 1) dZ_law_574 (by decide) ?_
  refine rw_iadd (pc := 575) (v := nI (i + 1)) dZ_law_575 (nI_add _ _) ?_
  refine rw_sld (pc := 576) (k := i + 1) (by omega) hG dZ_law_576 ?_
  refine rw_aload_n (pc := 577) dZ_law_577 rfl ?_
  refine rw_iload_n (pc := 578) dZ_law_578 rfl ?_
  refine rw_iconst (pc := 579) (x := nI 2) dZ_law_579 (by decide) ?_
  refine rw_iadd (pc := 580) (v := nI (i + 2)) dZ_law_580 (nI_add _ _) ?_
  refine rw_sld (pc := 581) (k := i + 2) (by omega) hG dZ_law_581 ?_
  refine rw_vi (pc := 582) (z' := (6, 27, 144)) (rc' := rc) (rs' := rs) (av := [.inl (G.2.2 (i + 1)), .inl (G.2.2 (i + 2))]) (st := []) (ci := 0) mlZ_88 miL_lease rfl mvL_lease_L dZ_law_582 (cs_o hc (by omega) (by omega)) (cs_S1 hc) (cL_lease G _ hc hM hK _ _) rfl rfl (Nat.le_of_ble_eq_true rfl) (Nat.le_of_ble_eq_true rfl) rfl rfl (fun r1 h1 q1 => ?_)
  obtain ⟨hl, hr, L', n', su', sn', sg', se', pg', md', en', sd', ln', C', hc2, hM2⟩ := q1
  replace hM := MV_le hM hl
  change r1 = ((m_lease h1 (G.2.2 (i + 1)) (G.2.2 (i + 2)), h1)).1 at hr
  change MV (K + 1) L' n' su' sn' sg' se' pg' md' en' sd' ln' C' ((m_lease h1 (G.2.2 (i + 1)) (G.2.2 (i + 2)), h1)).2 at hM2
  refine rw_aload_n (pc := 585) dZ_law_585 rfl ?_
  refine rw_aload_n (pc := 586) dZ_law_586 rfl ?_
  refine rw_iload_n (pc := 587) dZ_law_587 rfl ?_
  refine rw_iconst (pc := 588) (x := nI 1) dZ_law_588 (by decide) ?_
  refine rw_iadd (pc := 589) (v := nI (i + 1)) dZ_law_589 (nI_add _ _) ?_
  refine rw_sld (pc := 590) (k := i + 1) (by omega) hG dZ_law_590 ?_
  refine rw_aload_n (pc := 591) dZ_law_591 rfl ?_
  refine rw_iload_n (pc := 592) dZ_law_592 rfl ?_
  refine rw_iconst (pc := 593) (x := nI 2) dZ_law_593 (by decide) ?_
  refine rw_iadd (pc := 594) (v := nI (i + 2)) dZ_law_594 (nI_add _ _) ?_
  refine rw_sld (pc := 595) (k := i + 2) (by omega) hG dZ_law_595 ?_
  refine rw_vi (pc := 596) (z' := (2, 0, 0)) (rc' := rc) (rs' := rs) (av := [.inl (G.2.2 (i + 1)), .inl (G.2.2 (i + 2))]) (st := [.inl r1]) (ci := 10) mlZ_91 miM_lease rfl mvM_lease_M dZ_law_596 ⟨by omega, by have := (mv_I hM).1.1.1; omega⟩ (mv_I hM).1.1.2.1 (cM_lease G _ (mv_I hM).1.1 _ _) rfl rfl (Nat.le_of_ble_eq_true rfl) (Nat.le_of_ble_eq_true rfl) rfl rfl (fun r2 h2 q2 => ?_)
  obtain ⟨hr2, hh⟩ := q2
  subst hh
  refine rw_icmpeq (pc := 599) dZ_law_599 (tgt := 716) rfl (fun c3 => ?_) (fun c3 => ?_)
  · skip
    exact hp _ ⟨L', n', su', sn', sg', se', pg', md', en', sd', ln', C', hc2, hM2⟩
  · skip
    exact absurd (hr.trans hr2.symm) c3
theorem law_16 (G : mt_G) (hG : G.2.1 ≤ 2561) {h : ha_H} {L : Nat} {n : List ab_M} {su : Bool} {sn : Int32} {sg : Bool} {se : Int32} {pg : Nat → Nat → Int32} {md : Nat → Nat → Nat} {en : Nat → Nat → Int32} {sd : Nat → Option ab_M} {ln : Nat → List ab_M} {C : Nat → ab_C} {K : Nat} (hc : CV L n su sn sg se pg md en sd ln C h) (hM : MV K L n su sn sg se pg md en sd ln C h) (hK : K < 2 ^ 20) {i : Nat} (hi : i + 5 ≤ G.2.1) {rc rs : Nat} (hp : ∀ h', IV (K + 1) h' → rn_W G xZ_law z_L rc rs 716 [some (.inr (some 0)), some (.inr (some 1)), some (.inr (some 62)), some (.inl (nI i))] [] h' lw_1) : rn_W G xZ_law z_L (rc + 27) (rs + 144) 604 [some (.inr (some 0)), some (.inr (some 1)), some (.inr (some 62)), some (.inl (nI i))] [] h lw_1 := by
  refine rw_aload_n (pc := 604) dZ_law_604 rfl ?_
  refine rw_aload_n (pc := 605) dZ_law_605 rfl ?_
  refine rw_iload_n (pc := 606) dZ_law_606 rfl ?_
  refine rw_iconst (pc := 607) (x := nI 1) dZ_law_607 (by decide) ?_
  refine rw_iadd (pc := 608) (v := nI (i + 1)) dZ_law_608 (nI_add _ _) ?_
  refine rw_sld (pc := 609) (k := i + 1) (by omega) hG dZ_law_609 ?_
  refine rw_vi (pc := 610) (z' := (6, 27, 144)) (rc' := rc) (rs' := rs) (av := [.inl (G.2.2 (i + 1))]) (st := []) (ci := 0) mlZ_92 miL_dirty rfl mvL_dirty_L dZ_law_610 (cs_o hc (by omega) (by omega)) (cs_S1 hc) (cL_dirty G _ hc hM hK _) rfl rfl (Nat.le_of_ble_eq_true rfl) (Nat.le_of_ble_eq_true rfl) rfl rfl (fun r1 h1 q1 => ?_)
  obtain ⟨hl, hr, L', n', su', sn', sg', se', pg', md', en', sd', ln', C', hc2, hM2⟩ := q1
  replace hM := MV_le hM hl
  change r1 = ((m_dirty h1 (G.2.2 (i + 1)), h1)).1 at hr
  change MV (K + 1) L' n' su' sn' sg' se' pg' md' en' sd' ln' C' ((m_dirty h1 (G.2.2 (i + 1)), h1)).2 at hM2
  refine rw_aload_n (pc := 613) dZ_law_613 rfl ?_
  refine rw_aload_n (pc := 614) dZ_law_614 rfl ?_
  refine rw_iload_n (pc := 615) dZ_law_615 rfl ?_
  refine rw_iconst (pc := 616) (x := nI 1) dZ_law_616 (by decide) ?_
  refine rw_iadd (pc := 617) (v := nI (i + 1)) dZ_law_617 (nI_add _ _) ?_
  refine rw_sld (pc := 618) (k := i + 1) (by omega) hG dZ_law_618 ?_
  refine rw_vi (pc := 619) (z' := (2, 0, 0)) (rc' := rc) (rs' := rs) (av := [.inl (G.2.2 (i + 1))]) (st := [.inl r1]) (ci := 10) mlZ_95 miM_dirty rfl mvM_dirty_M dZ_law_619 ⟨by omega, by have := (mv_I hM).1.1.1; omega⟩ (mv_I hM).1.1.2.1 (cM_dirty G _ (mv_I hM).1.1 _) rfl rfl (Nat.le_of_ble_eq_true rfl) (Nat.le_of_ble_eq_true rfl) rfl rfl (fun r2 h2 q2 => ?_)
  obtain ⟨hr2, hh⟩ := q2
  subst hh
  refine rw_icmpeq (pc := 622) dZ_law_622 (tgt := 716) rfl (fun c3 => ?_) (fun c3 => ?_)
  · skip
    exact hp _ ⟨L', n', su', sn', sg', se', pg', md', en', sd', ln', C', hc2, hM2⟩
  · skip
    exact absurd (hr.trans hr2.symm) c3
theorem law_17 (G : mt_G) (hG : G.2.1 ≤ 2561) {h : ha_H} {L : Nat} {n : List ab_M} {su : Bool} {sn : Int32} {sg : Bool} {se : Int32} {pg : Nat → Nat → Int32} {md : Nat → Nat → Nat} {en : Nat → Nat → Int32} {sd : Nat → Option ab_M} {ln : Nat → List ab_M} {C : Nat → ab_C} {K : Nat} (hc : CV L n su sn sg se pg md en sd ln C h) (hM : MV K L n su sn sg se pg md en sd ln C h) (hK : K < 2 ^ 20) {i : Nat} (hi : i + 5 ≤ G.2.1) {rc rs : Nat} (hp : ∀ h', IV (K + 1) h' → rn_W G xZ_law z_L rc rs 716 [some (.inr (some 0)), some (.inr (some 1)), some (.inr (some 62)), some (.inl (nI i))] [] h' lw_1) : rn_W G xZ_law z_L (rc + 27) (rs + 144) 627 [some (.inr (some 0)), some (.inr (some 1)), some (.inr (some 62)), some (.inl (nI i))] [] h lw_1 := by
  refine rw_aload_n (pc := 627) dZ_law_627 rfl ?_
  refine rw_aload_n (pc := 628) dZ_law_628 rfl ?_
  refine rw_iload_n (pc := 629) dZ_law_629 rfl ?_
  refine rw_iconst (pc := 630) (x := nI 1) dZ_law_630 (by decide) ?_
  refine rw_iadd (pc := 631) (v := nI (i + 1)) dZ_law_631 (nI_add _ _) ?_
  refine rw_sld (pc := 632) (k := i + 1) (by omega) hG dZ_law_632 ?_
  refine rw_aload_n (pc := 633) dZ_law_633 rfl ?_
  refine rw_iload_n (pc := 634) dZ_law_634 rfl ?_
  refine rw_iconst (pc := 635) (x := nI 2) dZ_law_635 (by decide) ?_
  refine rw_iadd (pc := 636) (v := nI (i + 2)) dZ_law_636 (nI_add _ _) ?_
  refine rw_sld (pc := 637) (k := i + 2) (by omega) hG dZ_law_637 ?_
  refine rw_vi (pc := 638) (z' := (6, 27, 144)) (rc' := rc) (rs' := rs) (av := [.inl (G.2.2 (i + 1)), .inl (G.2.2 (i + 2))]) (st := []) (ci := 0) mlZ_96 miL_held rfl mvL_held_L dZ_law_638 (cs_o hc (by omega) (by omega)) (cs_S1 hc) (cL_held G _ hc hM hK _ _) rfl rfl (Nat.le_of_ble_eq_true rfl) (Nat.le_of_ble_eq_true rfl) rfl rfl (fun r1 h1 q1 => ?_)
  obtain ⟨hl, hr, L', n', su', sn', sg', se', pg', md', en', sd', ln', C', hc2, hM2⟩ := q1
  replace hM := MV_le hM hl
  change r1 = ((m_held h1 (G.2.2 (i + 1)) (G.2.2 (i + 2)), h1)).1 at hr
  change MV (K + 1) L' n' su' sn' sg' se' pg' md' en' sd' ln' C' ((m_held h1 (G.2.2 (i + 1)) (G.2.2 (i + 2)), h1)).2 at hM2
  refine rw_aload_n (pc := 641) dZ_law_641 rfl ?_
  refine rw_aload_n (pc := 642) dZ_law_642 rfl ?_
  refine rw_iload_n (pc := 643) dZ_law_643 rfl ?_
  refine rw_iconst (pc := 644) (x := nI 1) dZ_law_644 (by decide) ?_
  refine rw_iadd (pc := 645) (v := nI (i + 1)) dZ_law_645 (nI_add _ _) ?_
  refine rw_sld (pc := 646) (k := i + 1) (by omega) hG dZ_law_646 ?_
  refine rw_aload_n (pc := 647) dZ_law_647 rfl ?_
  refine rw_iload_n (pc := 648) dZ_law_648 rfl ?_
  refine rw_iconst (pc := 649) (x := nI 2) dZ_law_649 (by decide) ?_
  refine rw_iadd (pc := 650) (v := nI (i + 2)) dZ_law_650 (nI_add _ _) ?_
  refine rw_sld (pc := 651) (k := i + 2) (by omega) hG dZ_law_651 ?_
  refine rw_vi (pc := 652) (z' := (1, 0, 0)) (rc' := rc) (rs' := rs) (av := [.inl (G.2.2 (i + 1)), .inl (G.2.2 (i + 2))]) (st := [.inl r1]) (ci := 10) mlZ_99 miM_held rfl mvM_held_M dZ_law_652 ⟨by omega, by have := (mv_I hM).1.1.1; omega⟩ (mv_I hM).1.1.2.1 (cM_held G _ (mv_I hM).1.1 _ _) rfl rfl (Nat.le_of_ble_eq_true rfl) (Nat.le_of_ble_eq_true rfl) rfl rfl (fun r2 h2 q2 => ?_)
  obtain ⟨hr2, hh⟩ := q2
  subst hh
  refine rw_icmpeq (pc := 655) dZ_law_655 (tgt := 716) rfl (fun c3 => ?_) (fun c3 => ?_)
  · skip
    exact hp _ ⟨L', n', su', sn', sg', se', pg', md', en', sd', ln', C', hc2, hM2⟩
  · skip
    exact absurd (hr.trans hr2.symm) c3
theorem law_18 (G : mt_G) (hG : G.2.1 ≤ 2561) {h : ha_H} {L : Nat} {n : List ab_M} {su : Bool} {sn : Int32} {sg : Bool} {se : Int32} {pg : Nat → Nat → Int32} {md : Nat → Nat → Nat} {en : Nat → Nat → Int32} {sd : Nat → Option ab_M} {ln : Nat → List ab_M} {C : Nat → ab_C} {K : Nat} (hc : CV L n su sn sg se pg md en sd ln C h) (hM : MV K L n su sn sg se pg md en sd ln C h) (hK : K < 2 ^ 20) {i : Nat} (hi : i + 5 ≤ G.2.1) {rc rs : Nat} (hp : ∀ h', IV (K + 1) h' → rn_W G xZ_law z_L rc rs 716 [some (.inr (some 0)), some (.inr (some 1)), some (.inr (some 62)), some (.inl (nI i))] [] h' lw_1) : rn_W G xZ_law z_L (rc + 27) (rs + 144) 660 [some (.inr (some 0)), some (.inr (some 1)), some (.inr (some 62)), some (.inl (nI i))] [] h lw_1 := by
  refine rw_aload_n (pc := 660) dZ_law_660 rfl ?_
  refine rw_aload_n (pc := 661) dZ_law_661 rfl ?_
  refine rw_iload_n (pc := 662) dZ_law_662 rfl ?_
  refine rw_iconst (pc := 663) (x := nI 1) dZ_law_663 (by decide) ?_
  refine rw_iadd (pc := 664) (v := nI (i + 1)) dZ_law_664 (nI_add _ _) ?_
  refine rw_sld (pc := 665) (k := i + 1) (by omega) hG dZ_law_665 ?_
  refine rw_vi (pc := 666) (z' := (6, 27, 144)) (rc' := rc) (rs' := rs) (av := [.inl (G.2.2 (i + 1))]) (st := []) (ci := 0) mlZ_100 miL_waiting rfl mvL_waiting_L dZ_law_666 (cs_o hc (by omega) (by omega)) (cs_S1 hc) (cL_waiting G _ hc hM hK _) rfl rfl (Nat.le_of_ble_eq_true rfl) (Nat.le_of_ble_eq_true rfl) rfl rfl (fun r1 h1 q1 => ?_)
  obtain ⟨hl, hr, L', n', su', sn', sg', se', pg', md', en', sd', ln', C', hc2, hM2⟩ := q1
  replace hM := MV_le hM hl
  change r1 = ((m_waiting h1 (G.2.2 (i + 1)), h1)).1 at hr
  change MV (K + 1) L' n' su' sn' sg' se' pg' md' en' sd' ln' C' ((m_waiting h1 (G.2.2 (i + 1)), h1)).2 at hM2
  refine rw_aload_n (pc := 669) dZ_law_669 rfl ?_
  refine rw_aload_n (pc := 670) dZ_law_670 rfl ?_
  refine rw_iload_n (pc := 671) dZ_law_671 rfl ?_
  refine rw_iconst (pc := 672) (x := nI 1) dZ_law_672 (by decide) ?_
  refine rw_iadd (pc := 673) (v := nI (i + 1)) dZ_law_673 (nI_add _ _) ?_
  refine rw_sld (pc := 674) (k := i + 1) (by omega) hG dZ_law_674 ?_
  refine rw_vi (pc := 675) (z' := (1, 0, 0)) (rc' := rc) (rs' := rs) (av := [.inl (G.2.2 (i + 1))]) (st := [.inl r1]) (ci := 10) mlZ_103 miM_waiting rfl mvM_waiting_M dZ_law_675 ⟨by omega, by have := (mv_I hM).1.1.1; omega⟩ (mv_I hM).1.1.2.1 (cM_waiting G _ (mv_I hM).1.1 _) rfl rfl (Nat.le_of_ble_eq_true rfl) (Nat.le_of_ble_eq_true rfl) rfl rfl (fun r2 h2 q2 => ?_)
  obtain ⟨hr2, hh⟩ := q2
  subst hh
  refine rw_icmpeq (pc := 678) dZ_law_678 (tgt := 716) rfl (fun c3 => ?_) (fun c3 => ?_)
  · skip
    exact hp _ ⟨L', n', su', sn', sg', se', pg', md', en', sd', ln', C', hc2, hM2⟩
  · skip
    exact absurd (hr.trans hr2.symm) c3
theorem law_19 (G : mt_G) (hG : G.2.1 ≤ 2561) {h : ha_H} {L : Nat} {n : List ab_M} {su : Bool} {sn : Int32} {sg : Bool} {se : Int32} {pg : Nat → Nat → Int32} {md : Nat → Nat → Nat} {en : Nat → Nat → Int32} {sd : Nat → Option ab_M} {ln : Nat → List ab_M} {C : Nat → ab_C} {K : Nat} (hc : CV L n su sn sg se pg md en sd ln C h) (hM : MV K L n su sn sg se pg md en sd ln C h) (hK : K < 2 ^ 20) {i : Nat} (hi : i + 5 ≤ G.2.1) {rc rs : Nat} (hp : ∀ h', IV (K + 1) h' → rn_W G xZ_law z_L rc rs 716 [some (.inr (some 0)), some (.inr (some 1)), some (.inr (some 62)), some (.inl (nI i))] [] h' lw_1) : rn_W G xZ_law z_L (rc + 27) (rs + 144) 683 [some (.inr (some 0)), some (.inr (some 1)), some (.inr (some 62)), some (.inl (nI i))] [] h lw_1 := by
  refine rw_aload_n (pc := 683) dZ_law_683 rfl ?_
  refine rw_aload_n (pc := 684) dZ_law_684 rfl ?_
  refine rw_iload_n (pc := 685) dZ_law_685 rfl ?_
  refine rw_iconst (pc := 686) (x := nI 1) dZ_law_686 (by decide) ?_
  refine rw_iadd (pc := 687) (v := nI (i + 1)) dZ_law_687 (nI_add _ _) ?_
  refine rw_sld (pc := 688) (k := i + 1) (by omega) hG dZ_law_688 ?_
  refine rw_aload_n (pc := 689) dZ_law_689 rfl ?_
  refine rw_iload_n (pc := 690) dZ_law_690 rfl ?_
  refine rw_iconst (pc := 691) (x := nI 2) dZ_law_691 (by decide) ?_
  refine rw_iadd (pc := 692) (v := nI (i + 2)) dZ_law_692 (nI_add _ _) ?_
  refine rw_sld (pc := 693) (k := i + 2) (by omega) hG dZ_law_693 ?_
  refine rw_vi (pc := 694) (z' := (6, 27, 144)) (rc' := rc) (rs' := rs) (av := [.inl (G.2.2 (i + 1)), .inl (G.2.2 (i + 2))]) (st := []) (ci := 0) mlZ_104 miL_stored rfl mvL_stored_L dZ_law_694 (cs_o hc (by omega) (by omega)) (cs_S1 hc) (cL_stored G _ hc hM hK _ _) rfl rfl (Nat.le_of_ble_eq_true rfl) (Nat.le_of_ble_eq_true rfl) rfl rfl (fun r1 h1 q1 => ?_)
  obtain ⟨hl, hr, L', n', su', sn', sg', se', pg', md', en', sd', ln', C', hc2, hM2⟩ := q1
  replace hM := MV_le hM hl
  change r1 = ((m_stored h1 (G.2.2 (i + 1)) (G.2.2 (i + 2)), h1)).1 at hr
  change MV (K + 1) L' n' su' sn' sg' se' pg' md' en' sd' ln' C' ((m_stored h1 (G.2.2 (i + 1)) (G.2.2 (i + 2)), h1)).2 at hM2
  refine rw_aload_n (pc := 697) dZ_law_697 rfl ?_
  refine rw_aload_n (pc := 698) dZ_law_698 rfl ?_
  refine rw_iload_n (pc := 699) dZ_law_699 rfl ?_
  refine rw_iconst (pc := 700) (x := nI 1) dZ_law_700 (by decide) ?_
  refine rw_iadd (pc := 701) (v := nI (i + 1)) dZ_law_701 (nI_add _ _) ?_
  refine rw_sld (pc := 702) (k := i + 1) (by omega) hG dZ_law_702 ?_
  refine rw_aload_n (pc := 703) dZ_law_703 rfl ?_
  refine rw_iload_n (pc := 704) dZ_law_704 rfl ?_
  refine rw_iconst (pc := 705) (x := nI 2) dZ_law_705 (by decide) ?_
  refine rw_iadd (pc := 706) (v := nI (i + 2)) dZ_law_706 (nI_add _ _) ?_
  refine rw_sld (pc := 707) (k := i + 2) (by omega) hG dZ_law_707 ?_
  refine rw_vi (pc := 708) (z' := (1, 0, 0)) (rc' := rc) (rs' := rs) (av := [.inl (G.2.2 (i + 1)), .inl (G.2.2 (i + 2))]) (st := [.inl r1]) (ci := 10) mlZ_107 miM_stored rfl mvM_stored_M dZ_law_708 ⟨by omega, by have := (mv_I hM).1.1.1; omega⟩ (mv_I hM).1.1.2.1 (cM_stored G _ (mv_I hM).1.1 _ _) rfl rfl (Nat.le_of_ble_eq_true rfl) (Nat.le_of_ble_eq_true rfl) rfl rfl (fun r2 h2 q2 => ?_)
  obtain ⟨hr2, hh⟩ := q2
  subst hh
  refine rw_icmpeq (pc := 711) dZ_law_711 (tgt := 716) rfl (fun c3 => ?_) (fun c3 => ?_)
  · skip
    exact hp _ ⟨L', n', su', sn', sg', se', pg', md', en', sd', ln', C', hc2, hM2⟩
  · skip
    exact absurd (hr.trans hr2.symm) c3
theorem law_lt {n i : Nat} (hG : n ≤ 2561) (hi : n < i + 5) (hi1 : i < 10000) : nI n - nI 5 < nI i := by
  by_cases c : 5 ≤ n
  · rw [pk_sub c]
    exact nI_lt (by omega) (by omega)
  · exact Int32.lt_of_lt_of_le (pk_sneg (by omega) (by omega)) (nI_pos' (by omega))
theorem law_E (G : mt_G) (hG : G.2.1 ≤ 2561) {h : ha_H} {i : Nat} (hi : G.2.1 < i + 5) (hi1 : i < 10000) {rc rs : Nat} : rn_W G xZ_law z_L rc rs 28 [some (.inr (some 0)), some (.inr (some 1)), some (.inr (some 62)), some (.inl (nI i))] [] h lw_1 := by
  refine rw_iload_n (pc := 28) dZ_law_28 rfl ?_
  refine rw_aload_n (pc := 29) dZ_law_29 rfl ?_
  refine rw_slen (pc := 30) dZ_law_30 ?_
  refine rw_iconst (pc := 31) (x := nI 5) dZ_law_31 (by decide) ?_
  refine rw_isub (pc := 32) (v := nI G.2.1 - nI 5) dZ_law_32 rfl ?_
  refine rw_icmpgt (pc := 33) dZ_law_33 (tgt := 722) rfl (fun c1 => ?_) (fun c1 => ?_)
  · skip
    refine rw_iconst (pc := 722) (x := nI 1) dZ_law_722 (by decide) ?_
    exact rw_zret (pc := 723) dZ_law_723 rfl (Or.inr rfl) rfl
  · skip
    exact absurd (law_lt hG hi hi1) c1
theorem law_L (G : mt_G) (hG : G.2.1 ≤ 2561) {rc rs : Nat} : ∀ (d K i : Nat) (_ : i = 1 + 5 * K) (_ : G.2.1 < i + 5 * d + 5) (_ : i < 3000) (h : ha_H) (_ : IV K h), rn_W G xZ_law z_L (rc + 27 * d) (rs + 144 * d) 28 [some (.inr (some 0)), some (.inr (some 1)), some (.inr (some 62)), some (.inl (nI i))] [] h lw_1
  | 0, K, i, _, hd, h3, h, _ => law_E G hG (by omega) (by omega)
  | d + 1, K, i, hi, hd, h3, h, hv => by
    by_cases hb : G.2.1 < i + 5
    · exact law_E G hG hb (by omega)
    have hi5 : i + 5 ≤ G.2.1 := by omega
    have hK : K < 2 ^ 20 := by omega
    have hp : ∀ h', IV (K + 1) h' → rn_W G xZ_law z_L (rc + 27 * d) (rs + 144 * d) 716 [some (.inr (some 0)), some (.inr (some 1)), some (.inr (some 62)), some (.inl (nI i))] [] h' lw_1 := by
      intro h' hv'
      refine rw_iinc (pc := 716) (x := nI i) (y := nI (i + 5)) (L' := [some (.inr (some 0)), some (.inr (some 1)), some (.inr (some 62)), some (.inl (nI (i + 5)))]) dZ_law_716 (by decide) rfl (nI_add _ 5) rfl ?_
      refine rw_goto (pc := 719) dZ_law_719 (tgt := 28) rfl ?_
      exact law_L G hG d (K + 1) (i + 5) (by omega) (by omega) (by omega) _ hv'
    obtain ⟨L, n, su, sn, sg, se, pg, md, en, sd, ln, C, hc, hM⟩ := hv
    obtain ⟨j, hj, ej⟩ := pk_andE (G.2.2 i) (m := nI 31) 5 (by decide)
    refine rn_eq (rc' := rc + 27 * d + 27) (rs' := rs + 144 * d + 144) (by omega) (by omega) ?_
    refine rw_iload_n (pc := 28) dZ_law_28 rfl ?_
    refine rw_aload_n (pc := 29) dZ_law_29 rfl ?_
    refine rw_slen (pc := 30) dZ_law_30 ?_
    refine rw_iconst (pc := 31) (x := nI 5) dZ_law_31 (by decide) ?_
    refine rw_isub (pc := 32) (v := nI G.2.1 - nI 5) dZ_law_32 rfl ?_
    refine rw_icmpgt (pc := 33) dZ_law_33 (tgt := 722) rfl (fun c1 => ?_) (fun c1 => ?_)
    · skip
      exact absurd c1 (by rw [pk_sub (by omega)]; exact nI_nlt (by omega) (by omega))
    · skip
      refine rw_aload_n (pc := 36) dZ_law_36 rfl ?_
      refine rw_iload_n (pc := 37) dZ_law_37 rfl ?_
      refine rw_sld (pc := 38) (k := i) (by omega) hG dZ_law_38 ?_
      refine rw_bipush (pc := 39) (x := nI 31) dZ_law_39 (by decide) ?_
      refine rw_iand (pc := 41) (v := nI j) dZ_law_41 ej ?_
      have hj2 : j < 32 := hj
      rcases (by omega : j = 0 ∨ j = 1 ∨ j = 2 ∨ j = 3 ∨ j = 4 ∨ j = 5 ∨ j = 6 ∨ j = 7 ∨ j = 8 ∨ j = 9 ∨ j = 10 ∨ j = 11 ∨ j = 12 ∨ j = 13 ∨ j = 14 ∨ j = 15 ∨ j = 16 ∨ j = 17 ∨ j = 18 ∨ j = 19 ∨ 20 ≤ j) with rfl | rfl | rfl | rfl | rfl | rfl | rfl | rfl | rfl | rfl | rfl | rfl | rfl | rfl | rfl | rfl | rfl | rfl | rfl | rfl | hj3
      · refine rw_tabIn (pc := 42) (tgt := 136) dZ_law_42 (by decide) (by decide) rfl rfl ?_
        exact law_0 G hG hc hM hK hi5 hp
      · refine rw_tabIn (pc := 42) (tgt := 179) dZ_law_42 (by decide) (by decide) rfl rfl ?_
        exact law_1 G hG hc hM hK hi5 hp
      · refine rw_tabIn (pc := 42) (tgt := 232) dZ_law_42 (by decide) (by decide) rfl rfl ?_
        exact law_2 G hG hc hM hK hi5 hp
      · refine rw_tabIn (pc := 42) (tgt := 285) dZ_law_42 (by decide) (by decide) rfl rfl ?_
        exact law_3 G hG hc hM hK hi5 hp
      · refine rw_tabIn (pc := 42) (tgt := 308) dZ_law_42 (by decide) (by decide) rfl rfl ?_
        exact law_4 G hG hc hM hK hi5 hp
      · refine rw_tabIn (pc := 42) (tgt := 341) dZ_law_42 (by decide) (by decide) rfl rfl ?_
        exact law_5 G hG hc hM hK hi5 hp
      · refine rw_tabIn (pc := 42) (tgt := 364) dZ_law_42 (by decide) (by decide) rfl rfl ?_
        exact law_6 G hG hc hM hK hi5 hp
      · refine rw_tabIn (pc := 42) (tgt := 377) dZ_law_42 (by decide) (by decide) rfl rfl ?_
        exact law_7 G hG hc hM hK hi5 hp
      · refine rw_tabIn (pc := 42) (tgt := 400) dZ_law_42 (by decide) (by decide) rfl rfl ?_
        exact law_8 G hG hc hM hK hi5 hp
      · refine rw_tabIn (pc := 42) (tgt := 423) dZ_law_42 (by decide) (by decide) rfl rfl ?_
        exact law_9 G hG hc hM hK hi5 hp
      · refine rw_tabIn (pc := 42) (tgt := 446) dZ_law_42 (by decide) (by decide) rfl rfl ?_
        exact law_10 G hG hc hM hK hi5 hp
      · refine rw_tabIn (pc := 42) (tgt := 469) dZ_law_42 (by decide) (by decide) rfl rfl ?_
        exact law_11 G hG hc hM hK hi5 hp
      · refine rw_tabIn (pc := 42) (tgt := 502) dZ_law_42 (by decide) (by decide) rfl rfl ?_
        exact law_12 G hG hc hM hK hi5 hp
      · refine rw_tabIn (pc := 42) (tgt := 525) dZ_law_42 (by decide) (by decide) rfl rfl ?_
        exact law_13 G hG hc hM hK hi5 hp
      · refine rw_tabIn (pc := 42) (tgt := 548) dZ_law_42 (by decide) (by decide) rfl rfl ?_
        exact law_14 G hG hc hM hK hi5 hp
      · refine rw_tabIn (pc := 42) (tgt := 571) dZ_law_42 (by decide) (by decide) rfl rfl ?_
        exact law_15 G hG hc hM hK hi5 hp
      · refine rw_tabIn (pc := 42) (tgt := 604) dZ_law_42 (by decide) (by decide) rfl rfl ?_
        exact law_16 G hG hc hM hK hi5 hp
      · refine rw_tabIn (pc := 42) (tgt := 627) dZ_law_42 (by decide) (by decide) rfl rfl ?_
        exact law_17 G hG hc hM hK hi5 hp
      · refine rw_tabIn (pc := 42) (tgt := 660) dZ_law_42 (by decide) (by decide) rfl rfl ?_
        exact law_18 G hG hc hM hK hi5 hp
      · refine rw_tabIn (pc := 42) (tgt := 683) dZ_law_42 (by decide) (by decide) rfl rfl ?_
        exact law_19 G hG hc hM hK hi5 hp
      · have et : (nI j).toInt = (j : Int) := nI_toInt (by omega)
        refine rw_tabOut (pc := 42) (tgt := 716) dZ_law_42 (Or.inr (by rw [et]; omega)) rfl ?_
        exact rn_wid (hp _ ⟨L, n, su, sn, sg, se, pg, md, en, sd, ln, C, hc, MV_S hM⟩)
def h_00 : ha_H := (fun _ _ => 0, fun _ _ => none, fun _ => .inr 0, 1)
theorem law_S (G : mt_G) (hG : G.2.1 ≤ 2561) {rc0 rs0 : Nat} : rn_W G xZ_law z_L (rc0 + 13926) (rs0 + 76575) 0 [some (.inr (some 0)), none, none, none] [] h_00 lw_1 := by
  refine rw_new (pc := 0) (rc' := (rc0 + 13925)) (rs' := (rs0 + 76572)) nnZ_7 dZ_law_0 (by omega) (by omega) ?_
  show rn_W G xZ_law z_L (rc0 + 13925) (rs0 + 76572) 3 [some (.inr (some 0)), none, none, none] [.inr (some 1)] (hp_new h_00 (.inr 0)) _
  refine rw_dup (pc := 3) dZ_law_3 ?_
  refine rw_aload_n (pc := 4) dZ_law_4 rfl ?_
  refine rw_iconst (pc := 5) (x := nI 0) dZ_law_5 (by decide) ?_
  refine rw_si (pc := 6) (z' := (0, 0, 0)) (rc' := (rc0 + 13925)) (rs' := (rs0 + 76572)) (av := [.inr (some 0), .inl (nI 0)]) (st := [.inr (some 1), .inr (some 1)]) mlZ_9 msZ_cell dZ_law_6 (cZ_cell G _ hG) rfl rfl (Nat.le_of_ble_eq_true rfl) (Nat.le_of_ble_eq_true rfl) rfl rfl (fun r1 h1 q1 => ?_)
  obtain ⟨rfl, rfl⟩ := q1
  refine rw_iv (pc := 9) (z' := (3, 60, 600)) (rc' := (rc0 + 13865)) (rs' := (rs0 + 75972)) (av := [.inl (f_c0 G)]) (st := [.inr (some 1)]) mlZ_15 miL_init rfl rfl dZ_law_9 (cL_init G _ rfl rfl _) rfl rfl (Nat.le_of_ble_eq_true rfl) (Nat.le_of_ble_eq_true rfl) (by show _ + 60 = _; omega) (by show _ + 600 = _; omega) (fun h2 q2 => ?_)
  have hB := q2
  refine rw_astore_n (pc := 12) (L' := [some (.inr (some 0)), some (.inr (some 1)), none, none]) dZ_law_12 (by decide) rfl ?_
  refine rw_new (pc := 13) (rc' := (rc0 + 13864)) (rs' := (rs0 + 75928)) nnZ_18 dZ_law_13 (by omega) (by omega) ?_
  have hnk : hp_n h2 = 62 := hB.1
  rw [hnk]
  refine rw_dup (pc := 16) dZ_law_16 ?_
  refine rw_aload_n (pc := 17) dZ_law_17 rfl ?_
  refine rw_iconst (pc := 18) (x := nI 0) dZ_law_18 (by decide) ?_
  refine rw_si (pc := 19) (z' := (0, 0, 0)) (rc' := (rc0 + 13864)) (rs' := (rs0 + 75928)) (av := [.inr (some 0), .inl (nI 0)]) (st := [.inr (some 62), .inr (some 62)]) mlZ_9 msZ_cell dZ_law_19 (cZ_cell G _ hG) rfl rfl (Nat.le_of_ble_eq_true rfl) (Nat.le_of_ble_eq_true rfl) rfl rfl (fun r3 h3 q3 => ?_)
  obtain ⟨rfl, rfl⟩ := q3
  refine rw_iv (pc := 22) (z' := (1, 40, 2200)) (rc' := (rc0 + 13824)) (rs' := (rs0 + 73728)) (av := [.inl (f_c0 G)]) (st := [.inr (some 62)]) mlZ_20 miM_init rfl rfl dZ_law_22 (cM_init G _ (rq_0 hB.1) _) rfl rfl (Nat.le_of_ble_eq_true rfl) (Nat.le_of_ble_eq_true rfl) (by show _ + 40 = _; omega) (by show _ + 2200 = _; omega) (fun h4 q4 => ?_)
  have hE := q4
  refine rw_astore_n (pc := 25) (L' := [some (.inr (some 0)), some (.inr (some 1)), some (.inr (some 62)), none]) dZ_law_25 (by decide) rfl ?_
  refine rw_iconst (pc := 26) (x := nI 1) dZ_law_26 (by decide) ?_
  refine rw_istore_n (pc := 27) (L' := [some (.inr (some 0)), some (.inr (some 1)), some (.inr (some 62)), some (.inl (nI 1))]) dZ_law_27 (by decide) rfl ?_
  have hIV : IV 0 h4 := ⟨_, _, _, _, _, _, _, _, _, _, _, _, CV_0 (L_b _).1 (L_b _).2 hB hE.1 hE.2.1, MV_0 hE⟩
  exact rn_eq (by omega) (by omega) (law_L G hG (rc := rc0) (rs := rs0) 512 0 1 rfl (by omega) (by omega) _ hIV)
