/-! The reference: where its cells stand. -/
def mo_L : List (Nat × Nat × Nat × Nat) := [(1, 63, 1, 4), (2, 64, 0, 4), (3, 65, 0, 16), (4, 66, 0, 12), (5, 67, 0, 12), (7, 68, 0, 3), (8, 69, 0, 3), (9, 70, 0, 3), (10, 71, 0, 3), (11, 72, 1, 3), (12, 73, 0, 12), (13, 74, 0, 3), (14, 75, 0, 3), (15, 76, 0, 3), (16, 77, 0, 3), (18, 78, 0, 3), (19, 79, 0, 12), (20, 80, 0, 12), (21, 81, 1, 12), (22, 82, 1, 12), (23, 83, 0, 48), (24, 84, 0, 3), (25, 85, 0, 18), (26, 86, 0, 18), (27, 87, 0, 3), (28, 88, 0, 3), (29, 89, 0, 3), (30, 90, 1, 3), (31, 91, 0, 3), (32, 92, 0, 3), (33, 93, 0, 3), (35, 94, 0, 60), (36, 95, 0, 60), (37, 96, 0, 60), (38, 97, 0, 60), (39, 98, 0, 60), (40, 99, 1, 60), (41, 100, 0, 60), (42, 101, 0, 60), (43, 102, 0, 240)]
def mo_ok (h : ha_H) : Prop := 103 ≤ hp_n h ∧ hp_S h 62 = .inr 10 ∧ ∀ q ∈ mo_L, hp_R h 62 q.1 = some q.2.1 ∧ hp_S h q.2.1 = .inl q.2.2
theorem mo_o {h : ha_H} (hm : mo_ok h) {a : Nat} (h0 : 0 < a) (h1 : a < 103) : hp_ok h a := ⟨h0, Nat.lt_of_lt_of_le h1 hm.1⟩
theorem mo_o62 {h : ha_H} (hm : mo_ok h) : hp_ok h 62 := mo_o hm (by decide) (by decide)
theorem mo_S62 {h : ha_H} (hm : mo_ok h) : hp_S h 62 = .inr 10 := hm.2.1
theorem mo_o63 {h : ha_H} (hm : mo_ok h) : hp_ok h 63 := mo_o hm (by decide) (by decide)
theorem mo_R63 {h : ha_H} (hm : mo_ok h) : hp_R h 62 1 = some 63 := (hm.2.2 (1, 63, 1, 4) (List.mem_of_getElem? (i := 0) rfl)).1
theorem mo_S63 {h : ha_H} (hm : mo_ok h) : hp_S h 63 = .inl (1, 4) := (hm.2.2 (1, 63, 1, 4) (List.mem_of_getElem? (i := 0) rfl)).2
theorem mo_o64 {h : ha_H} (hm : mo_ok h) : hp_ok h 64 := mo_o hm (by decide) (by decide)
theorem mo_R64 {h : ha_H} (hm : mo_ok h) : hp_R h 62 2 = some 64 := (hm.2.2 (2, 64, 0, 4) (List.mem_of_getElem? (i := 1) rfl)).1
theorem mo_S64 {h : ha_H} (hm : mo_ok h) : hp_S h 64 = .inl (0, 4) := (hm.2.2 (2, 64, 0, 4) (List.mem_of_getElem? (i := 1) rfl)).2
theorem mo_o65 {h : ha_H} (hm : mo_ok h) : hp_ok h 65 := mo_o hm (by decide) (by decide)
theorem mo_R65 {h : ha_H} (hm : mo_ok h) : hp_R h 62 3 = some 65 := (hm.2.2 (3, 65, 0, 16) (List.mem_of_getElem? (i := 2) rfl)).1
theorem mo_S65 {h : ha_H} (hm : mo_ok h) : hp_S h 65 = .inl (0, 16) := (hm.2.2 (3, 65, 0, 16) (List.mem_of_getElem? (i := 2) rfl)).2
theorem mo_o66 {h : ha_H} (hm : mo_ok h) : hp_ok h 66 := mo_o hm (by decide) (by decide)
theorem mo_R66 {h : ha_H} (hm : mo_ok h) : hp_R h 62 4 = some 66 := (hm.2.2 (4, 66, 0, 12) (List.mem_of_getElem? (i := 3) rfl)).1
theorem mo_S66 {h : ha_H} (hm : mo_ok h) : hp_S h 66 = .inl (0, 12) := (hm.2.2 (4, 66, 0, 12) (List.mem_of_getElem? (i := 3) rfl)).2
theorem mo_o67 {h : ha_H} (hm : mo_ok h) : hp_ok h 67 := mo_o hm (by decide) (by decide)
theorem mo_R67 {h : ha_H} (hm : mo_ok h) : hp_R h 62 5 = some 67 := (hm.2.2 (5, 67, 0, 12) (List.mem_of_getElem? (i := 4) rfl)).1
theorem mo_S67 {h : ha_H} (hm : mo_ok h) : hp_S h 67 = .inl (0, 12) := (hm.2.2 (5, 67, 0, 12) (List.mem_of_getElem? (i := 4) rfl)).2
theorem mo_o68 {h : ha_H} (hm : mo_ok h) : hp_ok h 68 := mo_o hm (by decide) (by decide)
theorem mo_R68 {h : ha_H} (hm : mo_ok h) : hp_R h 62 7 = some 68 := (hm.2.2 (7, 68, 0, 3) (List.mem_of_getElem? (i := 5) rfl)).1
theorem mo_S68 {h : ha_H} (hm : mo_ok h) : hp_S h 68 = .inl (0, 3) := (hm.2.2 (7, 68, 0, 3) (List.mem_of_getElem? (i := 5) rfl)).2
theorem mo_o69 {h : ha_H} (hm : mo_ok h) : hp_ok h 69 := mo_o hm (by decide) (by decide)
theorem mo_R69 {h : ha_H} (hm : mo_ok h) : hp_R h 62 8 = some 69 := (hm.2.2 (8, 69, 0, 3) (List.mem_of_getElem? (i := 6) rfl)).1
theorem mo_S69 {h : ha_H} (hm : mo_ok h) : hp_S h 69 = .inl (0, 3) := (hm.2.2 (8, 69, 0, 3) (List.mem_of_getElem? (i := 6) rfl)).2
theorem mo_o70 {h : ha_H} (hm : mo_ok h) : hp_ok h 70 := mo_o hm (by decide) (by decide)
theorem mo_R70 {h : ha_H} (hm : mo_ok h) : hp_R h 62 9 = some 70 := (hm.2.2 (9, 70, 0, 3) (List.mem_of_getElem? (i := 7) rfl)).1
theorem mo_S70 {h : ha_H} (hm : mo_ok h) : hp_S h 70 = .inl (0, 3) := (hm.2.2 (9, 70, 0, 3) (List.mem_of_getElem? (i := 7) rfl)).2
theorem mo_o71 {h : ha_H} (hm : mo_ok h) : hp_ok h 71 := mo_o hm (by decide) (by decide)
theorem mo_R71 {h : ha_H} (hm : mo_ok h) : hp_R h 62 10 = some 71 := (hm.2.2 (10, 71, 0, 3) (List.mem_of_getElem? (i := 8) rfl)).1
theorem mo_S71 {h : ha_H} (hm : mo_ok h) : hp_S h 71 = .inl (0, 3) := (hm.2.2 (10, 71, 0, 3) (List.mem_of_getElem? (i := 8) rfl)).2
theorem mo_o72 {h : ha_H} (hm : mo_ok h) : hp_ok h 72 := mo_o hm (by decide) (by decide)
theorem mo_R72 {h : ha_H} (hm : mo_ok h) : hp_R h 62 11 = some 72 := (hm.2.2 (11, 72, 1, 3) (List.mem_of_getElem? (i := 9) rfl)).1
theorem mo_S72 {h : ha_H} (hm : mo_ok h) : hp_S h 72 = .inl (1, 3) := (hm.2.2 (11, 72, 1, 3) (List.mem_of_getElem? (i := 9) rfl)).2
theorem mo_o73 {h : ha_H} (hm : mo_ok h) : hp_ok h 73 := mo_o hm (by decide) (by decide)
theorem mo_R73 {h : ha_H} (hm : mo_ok h) : hp_R h 62 12 = some 73 := (hm.2.2 (12, 73, 0, 12) (List.mem_of_getElem? (i := 10) rfl)).1
theorem mo_S73 {h : ha_H} (hm : mo_ok h) : hp_S h 73 = .inl (0, 12) := (hm.2.2 (12, 73, 0, 12) (List.mem_of_getElem? (i := 10) rfl)).2
theorem mo_o74 {h : ha_H} (hm : mo_ok h) : hp_ok h 74 := mo_o hm (by decide) (by decide)
theorem mo_R74 {h : ha_H} (hm : mo_ok h) : hp_R h 62 13 = some 74 := (hm.2.2 (13, 74, 0, 3) (List.mem_of_getElem? (i := 11) rfl)).1
theorem mo_S74 {h : ha_H} (hm : mo_ok h) : hp_S h 74 = .inl (0, 3) := (hm.2.2 (13, 74, 0, 3) (List.mem_of_getElem? (i := 11) rfl)).2
theorem mo_o75 {h : ha_H} (hm : mo_ok h) : hp_ok h 75 := mo_o hm (by decide) (by decide)
theorem mo_R75 {h : ha_H} (hm : mo_ok h) : hp_R h 62 14 = some 75 := (hm.2.2 (14, 75, 0, 3) (List.mem_of_getElem? (i := 12) rfl)).1
theorem mo_S75 {h : ha_H} (hm : mo_ok h) : hp_S h 75 = .inl (0, 3) := (hm.2.2 (14, 75, 0, 3) (List.mem_of_getElem? (i := 12) rfl)).2
theorem mo_o76 {h : ha_H} (hm : mo_ok h) : hp_ok h 76 := mo_o hm (by decide) (by decide)
theorem mo_R76 {h : ha_H} (hm : mo_ok h) : hp_R h 62 15 = some 76 := (hm.2.2 (15, 76, 0, 3) (List.mem_of_getElem? (i := 13) rfl)).1
theorem mo_S76 {h : ha_H} (hm : mo_ok h) : hp_S h 76 = .inl (0, 3) := (hm.2.2 (15, 76, 0, 3) (List.mem_of_getElem? (i := 13) rfl)).2
theorem mo_o77 {h : ha_H} (hm : mo_ok h) : hp_ok h 77 := mo_o hm (by decide) (by decide)
theorem mo_R77 {h : ha_H} (hm : mo_ok h) : hp_R h 62 16 = some 77 := (hm.2.2 (16, 77, 0, 3) (List.mem_of_getElem? (i := 14) rfl)).1
theorem mo_S77 {h : ha_H} (hm : mo_ok h) : hp_S h 77 = .inl (0, 3) := (hm.2.2 (16, 77, 0, 3) (List.mem_of_getElem? (i := 14) rfl)).2
theorem mo_o78 {h : ha_H} (hm : mo_ok h) : hp_ok h 78 := mo_o hm (by decide) (by decide)
theorem mo_R78 {h : ha_H} (hm : mo_ok h) : hp_R h 62 18 = some 78 := (hm.2.2 (18, 78, 0, 3) (List.mem_of_getElem? (i := 15) rfl)).1
theorem mo_S78 {h : ha_H} (hm : mo_ok h) : hp_S h 78 = .inl (0, 3) := (hm.2.2 (18, 78, 0, 3) (List.mem_of_getElem? (i := 15) rfl)).2
theorem mo_o79 {h : ha_H} (hm : mo_ok h) : hp_ok h 79 := mo_o hm (by decide) (by decide)
theorem mo_R79 {h : ha_H} (hm : mo_ok h) : hp_R h 62 19 = some 79 := (hm.2.2 (19, 79, 0, 12) (List.mem_of_getElem? (i := 16) rfl)).1
theorem mo_S79 {h : ha_H} (hm : mo_ok h) : hp_S h 79 = .inl (0, 12) := (hm.2.2 (19, 79, 0, 12) (List.mem_of_getElem? (i := 16) rfl)).2
theorem mo_o80 {h : ha_H} (hm : mo_ok h) : hp_ok h 80 := mo_o hm (by decide) (by decide)
theorem mo_R80 {h : ha_H} (hm : mo_ok h) : hp_R h 62 20 = some 80 := (hm.2.2 (20, 80, 0, 12) (List.mem_of_getElem? (i := 17) rfl)).1
theorem mo_S80 {h : ha_H} (hm : mo_ok h) : hp_S h 80 = .inl (0, 12) := (hm.2.2 (20, 80, 0, 12) (List.mem_of_getElem? (i := 17) rfl)).2
theorem mo_o81 {h : ha_H} (hm : mo_ok h) : hp_ok h 81 := mo_o hm (by decide) (by decide)
theorem mo_R81 {h : ha_H} (hm : mo_ok h) : hp_R h 62 21 = some 81 := (hm.2.2 (21, 81, 1, 12) (List.mem_of_getElem? (i := 18) rfl)).1
theorem mo_S81 {h : ha_H} (hm : mo_ok h) : hp_S h 81 = .inl (1, 12) := (hm.2.2 (21, 81, 1, 12) (List.mem_of_getElem? (i := 18) rfl)).2
theorem mo_o82 {h : ha_H} (hm : mo_ok h) : hp_ok h 82 := mo_o hm (by decide) (by decide)
theorem mo_R82 {h : ha_H} (hm : mo_ok h) : hp_R h 62 22 = some 82 := (hm.2.2 (22, 82, 1, 12) (List.mem_of_getElem? (i := 19) rfl)).1
theorem mo_S82 {h : ha_H} (hm : mo_ok h) : hp_S h 82 = .inl (1, 12) := (hm.2.2 (22, 82, 1, 12) (List.mem_of_getElem? (i := 19) rfl)).2
theorem mo_o83 {h : ha_H} (hm : mo_ok h) : hp_ok h 83 := mo_o hm (by decide) (by decide)
theorem mo_R83 {h : ha_H} (hm : mo_ok h) : hp_R h 62 23 = some 83 := (hm.2.2 (23, 83, 0, 48) (List.mem_of_getElem? (i := 20) rfl)).1
theorem mo_S83 {h : ha_H} (hm : mo_ok h) : hp_S h 83 = .inl (0, 48) := (hm.2.2 (23, 83, 0, 48) (List.mem_of_getElem? (i := 20) rfl)).2
theorem mo_o84 {h : ha_H} (hm : mo_ok h) : hp_ok h 84 := mo_o hm (by decide) (by decide)
theorem mo_R84 {h : ha_H} (hm : mo_ok h) : hp_R h 62 24 = some 84 := (hm.2.2 (24, 84, 0, 3) (List.mem_of_getElem? (i := 21) rfl)).1
theorem mo_S84 {h : ha_H} (hm : mo_ok h) : hp_S h 84 = .inl (0, 3) := (hm.2.2 (24, 84, 0, 3) (List.mem_of_getElem? (i := 21) rfl)).2
theorem mo_o85 {h : ha_H} (hm : mo_ok h) : hp_ok h 85 := mo_o hm (by decide) (by decide)
theorem mo_R85 {h : ha_H} (hm : mo_ok h) : hp_R h 62 25 = some 85 := (hm.2.2 (25, 85, 0, 18) (List.mem_of_getElem? (i := 22) rfl)).1
theorem mo_S85 {h : ha_H} (hm : mo_ok h) : hp_S h 85 = .inl (0, 18) := (hm.2.2 (25, 85, 0, 18) (List.mem_of_getElem? (i := 22) rfl)).2
theorem mo_o86 {h : ha_H} (hm : mo_ok h) : hp_ok h 86 := mo_o hm (by decide) (by decide)
theorem mo_R86 {h : ha_H} (hm : mo_ok h) : hp_R h 62 26 = some 86 := (hm.2.2 (26, 86, 0, 18) (List.mem_of_getElem? (i := 23) rfl)).1
theorem mo_S86 {h : ha_H} (hm : mo_ok h) : hp_S h 86 = .inl (0, 18) := (hm.2.2 (26, 86, 0, 18) (List.mem_of_getElem? (i := 23) rfl)).2
theorem mo_o87 {h : ha_H} (hm : mo_ok h) : hp_ok h 87 := mo_o hm (by decide) (by decide)
theorem mo_R87 {h : ha_H} (hm : mo_ok h) : hp_R h 62 27 = some 87 := (hm.2.2 (27, 87, 0, 3) (List.mem_of_getElem? (i := 24) rfl)).1
theorem mo_S87 {h : ha_H} (hm : mo_ok h) : hp_S h 87 = .inl (0, 3) := (hm.2.2 (27, 87, 0, 3) (List.mem_of_getElem? (i := 24) rfl)).2
theorem mo_o88 {h : ha_H} (hm : mo_ok h) : hp_ok h 88 := mo_o hm (by decide) (by decide)
theorem mo_R88 {h : ha_H} (hm : mo_ok h) : hp_R h 62 28 = some 88 := (hm.2.2 (28, 88, 0, 3) (List.mem_of_getElem? (i := 25) rfl)).1
theorem mo_S88 {h : ha_H} (hm : mo_ok h) : hp_S h 88 = .inl (0, 3) := (hm.2.2 (28, 88, 0, 3) (List.mem_of_getElem? (i := 25) rfl)).2
theorem mo_o89 {h : ha_H} (hm : mo_ok h) : hp_ok h 89 := mo_o hm (by decide) (by decide)
theorem mo_R89 {h : ha_H} (hm : mo_ok h) : hp_R h 62 29 = some 89 := (hm.2.2 (29, 89, 0, 3) (List.mem_of_getElem? (i := 26) rfl)).1
theorem mo_S89 {h : ha_H} (hm : mo_ok h) : hp_S h 89 = .inl (0, 3) := (hm.2.2 (29, 89, 0, 3) (List.mem_of_getElem? (i := 26) rfl)).2
theorem mo_o90 {h : ha_H} (hm : mo_ok h) : hp_ok h 90 := mo_o hm (by decide) (by decide)
theorem mo_R90 {h : ha_H} (hm : mo_ok h) : hp_R h 62 30 = some 90 := (hm.2.2 (30, 90, 1, 3) (List.mem_of_getElem? (i := 27) rfl)).1
theorem mo_S90 {h : ha_H} (hm : mo_ok h) : hp_S h 90 = .inl (1, 3) := (hm.2.2 (30, 90, 1, 3) (List.mem_of_getElem? (i := 27) rfl)).2
theorem mo_o91 {h : ha_H} (hm : mo_ok h) : hp_ok h 91 := mo_o hm (by decide) (by decide)
theorem mo_R91 {h : ha_H} (hm : mo_ok h) : hp_R h 62 31 = some 91 := (hm.2.2 (31, 91, 0, 3) (List.mem_of_getElem? (i := 28) rfl)).1
theorem mo_S91 {h : ha_H} (hm : mo_ok h) : hp_S h 91 = .inl (0, 3) := (hm.2.2 (31, 91, 0, 3) (List.mem_of_getElem? (i := 28) rfl)).2
theorem mo_o92 {h : ha_H} (hm : mo_ok h) : hp_ok h 92 := mo_o hm (by decide) (by decide)
theorem mo_R92 {h : ha_H} (hm : mo_ok h) : hp_R h 62 32 = some 92 := (hm.2.2 (32, 92, 0, 3) (List.mem_of_getElem? (i := 29) rfl)).1
theorem mo_S92 {h : ha_H} (hm : mo_ok h) : hp_S h 92 = .inl (0, 3) := (hm.2.2 (32, 92, 0, 3) (List.mem_of_getElem? (i := 29) rfl)).2
theorem mo_o93 {h : ha_H} (hm : mo_ok h) : hp_ok h 93 := mo_o hm (by decide) (by decide)
theorem mo_R93 {h : ha_H} (hm : mo_ok h) : hp_R h 62 33 = some 93 := (hm.2.2 (33, 93, 0, 3) (List.mem_of_getElem? (i := 30) rfl)).1
theorem mo_S93 {h : ha_H} (hm : mo_ok h) : hp_S h 93 = .inl (0, 3) := (hm.2.2 (33, 93, 0, 3) (List.mem_of_getElem? (i := 30) rfl)).2
theorem mo_o94 {h : ha_H} (hm : mo_ok h) : hp_ok h 94 := mo_o hm (by decide) (by decide)
theorem mo_R94 {h : ha_H} (hm : mo_ok h) : hp_R h 62 35 = some 94 := (hm.2.2 (35, 94, 0, 60) (List.mem_of_getElem? (i := 31) rfl)).1
theorem mo_S94 {h : ha_H} (hm : mo_ok h) : hp_S h 94 = .inl (0, 60) := (hm.2.2 (35, 94, 0, 60) (List.mem_of_getElem? (i := 31) rfl)).2
theorem mo_o95 {h : ha_H} (hm : mo_ok h) : hp_ok h 95 := mo_o hm (by decide) (by decide)
theorem mo_R95 {h : ha_H} (hm : mo_ok h) : hp_R h 62 36 = some 95 := (hm.2.2 (36, 95, 0, 60) (List.mem_of_getElem? (i := 32) rfl)).1
theorem mo_S95 {h : ha_H} (hm : mo_ok h) : hp_S h 95 = .inl (0, 60) := (hm.2.2 (36, 95, 0, 60) (List.mem_of_getElem? (i := 32) rfl)).2
theorem mo_o96 {h : ha_H} (hm : mo_ok h) : hp_ok h 96 := mo_o hm (by decide) (by decide)
theorem mo_R96 {h : ha_H} (hm : mo_ok h) : hp_R h 62 37 = some 96 := (hm.2.2 (37, 96, 0, 60) (List.mem_of_getElem? (i := 33) rfl)).1
theorem mo_S96 {h : ha_H} (hm : mo_ok h) : hp_S h 96 = .inl (0, 60) := (hm.2.2 (37, 96, 0, 60) (List.mem_of_getElem? (i := 33) rfl)).2
theorem mo_o97 {h : ha_H} (hm : mo_ok h) : hp_ok h 97 := mo_o hm (by decide) (by decide)
theorem mo_R97 {h : ha_H} (hm : mo_ok h) : hp_R h 62 38 = some 97 := (hm.2.2 (38, 97, 0, 60) (List.mem_of_getElem? (i := 34) rfl)).1
theorem mo_S97 {h : ha_H} (hm : mo_ok h) : hp_S h 97 = .inl (0, 60) := (hm.2.2 (38, 97, 0, 60) (List.mem_of_getElem? (i := 34) rfl)).2
theorem mo_o98 {h : ha_H} (hm : mo_ok h) : hp_ok h 98 := mo_o hm (by decide) (by decide)
theorem mo_R98 {h : ha_H} (hm : mo_ok h) : hp_R h 62 39 = some 98 := (hm.2.2 (39, 98, 0, 60) (List.mem_of_getElem? (i := 35) rfl)).1
theorem mo_S98 {h : ha_H} (hm : mo_ok h) : hp_S h 98 = .inl (0, 60) := (hm.2.2 (39, 98, 0, 60) (List.mem_of_getElem? (i := 35) rfl)).2
theorem mo_o99 {h : ha_H} (hm : mo_ok h) : hp_ok h 99 := mo_o hm (by decide) (by decide)
theorem mo_R99 {h : ha_H} (hm : mo_ok h) : hp_R h 62 40 = some 99 := (hm.2.2 (40, 99, 1, 60) (List.mem_of_getElem? (i := 36) rfl)).1
theorem mo_S99 {h : ha_H} (hm : mo_ok h) : hp_S h 99 = .inl (1, 60) := (hm.2.2 (40, 99, 1, 60) (List.mem_of_getElem? (i := 36) rfl)).2
theorem mo_o100 {h : ha_H} (hm : mo_ok h) : hp_ok h 100 := mo_o hm (by decide) (by decide)
theorem mo_R100 {h : ha_H} (hm : mo_ok h) : hp_R h 62 41 = some 100 := (hm.2.2 (41, 100, 0, 60) (List.mem_of_getElem? (i := 37) rfl)).1
theorem mo_S100 {h : ha_H} (hm : mo_ok h) : hp_S h 100 = .inl (0, 60) := (hm.2.2 (41, 100, 0, 60) (List.mem_of_getElem? (i := 37) rfl)).2
theorem mo_o101 {h : ha_H} (hm : mo_ok h) : hp_ok h 101 := mo_o hm (by decide) (by decide)
theorem mo_R101 {h : ha_H} (hm : mo_ok h) : hp_R h 62 42 = some 101 := (hm.2.2 (42, 101, 0, 60) (List.mem_of_getElem? (i := 38) rfl)).1
theorem mo_S101 {h : ha_H} (hm : mo_ok h) : hp_S h 101 = .inl (0, 60) := (hm.2.2 (42, 101, 0, 60) (List.mem_of_getElem? (i := 38) rfl)).2
theorem mo_o102 {h : ha_H} (hm : mo_ok h) : hp_ok h 102 := mo_o hm (by decide) (by decide)
theorem mo_R102 {h : ha_H} (hm : mo_ok h) : hp_R h 62 43 = some 102 := (hm.2.2 (43, 102, 0, 240) (List.mem_of_getElem? (i := 39) rfl)).1
theorem mo_S102 {h : ha_H} (hm : mo_ok h) : hp_S h 102 = .inl (0, 240) := (hm.2.2 (43, 102, 0, 240) (List.mem_of_getElem? (i := 39) rfl)).2
/-- the booleans are 0 or 1 -/
def mo_b (h : ha_H) : Prop := ∀ a, a ∈ [63, 72, 81, 82, 90, 99] → ∀ j, hp_I h a j = 0 ∨ hp_I h a j = 1
/-- a place of one array is copied to a place of another -/
def hp_mv (h : ha_H) (A i B t : Nat) : ha_H := hp_sI h B t (hp_I h A i)
theorem mo_sI {h : ha_H} {a k : Nat} {v : Int32} (hm : mo_ok h) : mo_ok (hp_sI h a k v) := hm
theorem mo_mv {h : ha_H} {A i B t : Nat} (hm : mo_ok h) : mo_ok (hp_mv h A i B t) := hm
theorem hI_set {h : ha_H} {a k : Nat} {v : Int32} : hp_I (hp_sI h a k v) a k = v := by rw [hp_I_sI, if_pos ⟨rfl, rfl⟩]
theorem hI_sI {h : ha_H} {a k x y : Nat} {v r : Int32} (hn : ¬ x = a) (e : hp_I h x y = r) : hp_I (hp_sI h a k v) x y = r := by rw [hp_I_sI, if_neg (fun q => hn q.1)]; exact e
theorem hI_sI2 {h : ha_H} {a k x y : Nat} {v r : Int32} (hn : ¬ y = k) (e : hp_I h x y = r) : hp_I (hp_sI h a k v) x y = r := by rw [hp_I_sI, if_neg (fun q => hn q.2)]; exact e
theorem hI_mv {h : ha_H} {A i B t x y : Nat} {r : Int32} (hn : ¬ x = B) (e : hp_I h x y = r) : hp_I (hp_mv h A i B t) x y = r := hI_sI hn e
theorem hI_mv2 {h : ha_H} {A i B t x y : Nat} {r : Int32} (hn : ¬ y = t) (e : hp_I h x y = r) : hp_I (hp_mv h A i B t) x y = r := hI_sI2 hn e
def m_bi (b : Bool) : Int32 := if b = true then nI 1 else nI 0
theorem m_bi0 (b : Bool) : m_bi b = 0 ↔ b = false := by cases b <;> decide
theorem m_biT : m_bi true = nI 1 := rfl
theorem m_biF : m_bi false = nI 0 := rfl
theorem m_bi01 (b : Bool) : m_bi b = 0 ∨ m_bi b = 1 := by cases b <;> decide
