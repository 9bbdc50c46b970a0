/-! Method constants and decode rows, written by wip/whole/gen/code.py out of the listing. -/
def xM_finish : mt_X := (⟨"LeasedPagesModel", "finish", "(IIII)V"⟩, prog_12_method_15_code, 5, (Option.none : Option FieldType))
theorem dM_finish_0 : decode xM_finish.2.1 0 = .ok (.aload_n 0, 1) := by decide +kernel
theorem dM_finish_1 : decode xM_finish.2.1 1 = .ok (.getfield 26, 3) := by decide +kernel
theorem dM_finish_4 : decode xM_finish.2.1 4 = .ok (.iload_n 1, 1) := by decide +kernel
theorem dM_finish_5 : decode xM_finish.2.1 5 = .ok (.iload_n 2, 1) := by decide +kernel
theorem dM_finish_6 : decode xM_finish.2.1 6 = .ok (.iastore, 1) := by decide +kernel
theorem dM_finish_7 : decode xM_finish.2.1 7 = .ok (.aload_n 0, 1) := by decide +kernel
theorem dM_finish_8 : decode xM_finish.2.1 8 = .ok (.getfield 29, 3) := by decide +kernel
theorem dM_finish_11 : decode xM_finish.2.1 11 = .ok (.iload_n 1, 1) := by decide +kernel
theorem dM_finish_12 : decode xM_finish.2.1 12 = .ok (.iload_n 3, 1) := by decide +kernel
theorem dM_finish_13 : decode xM_finish.2.1 13 = .ok (.iastore, 1) := by decide +kernel
theorem dM_finish_14 : decode xM_finish.2.1 14 = .ok (.aload_n 0, 1) := by decide +kernel
theorem dM_finish_15 : decode xM_finish.2.1 15 = .ok (.getfield 32, 3) := by decide +kernel
theorem dM_finish_18 : decode xM_finish.2.1 18 = .ok (.iload_n 1, 1) := by decide +kernel
theorem dM_finish_19 : decode xM_finish.2.1 19 = .ok (.iload 4, 2) := by decide +kernel
theorem dM_finish_21 : decode xM_finish.2.1 21 = .ok (.iastore, 1) := by decide +kernel
theorem dM_finish_22 : decode xM_finish.2.1 22 = .ok (.aload_n 0, 1) := by decide +kernel
theorem dM_finish_23 : decode xM_finish.2.1 23 = .ok (.iload_n 1, 1) := by decide +kernel
theorem dM_finish_24 : decode xM_finish.2.1 24 = .ok (.invokevirtual 175, 3) := by decide +kernel
theorem dM_finish_27 : decode xM_finish.2.1 27 = .ok (.return_, 1) := by decide +kernel
def xM_grant : mt_X := (⟨"LeasedPagesModel", "grant", "(IIIIZ)V"⟩, prog_12_method_16_code, 7, (Option.none : Option FieldType))
theorem dM_grant_0 : decode xM_grant.2.1 0 = .ok (.aload_n 0, 1) := by decide +kernel
theorem dM_grant_1 : decode xM_grant.2.1 1 = .ok (.getfield 38, 3) := by decide +kernel
theorem dM_grant_4 : decode xM_grant.2.1 4 = .ok (.iload_n 1, 1) := by decide +kernel
theorem dM_grant_5 : decode xM_grant.2.1 5 = .ok (.aload_n 0, 1) := by decide +kernel
theorem dM_grant_6 : decode xM_grant.2.1 6 = .ok (.iload_n 1, 1) := by decide +kernel
theorem dM_grant_7 : decode xM_grant.2.1 7 = .ok (.iload_n 2, 1) := by decide +kernel
theorem dM_grant_8 : decode xM_grant.2.1 8 = .ok (.invokevirtual 171, 3) := by decide +kernel
theorem dM_grant_11 : decode xM_grant.2.1 11 = .ok (.ifCond .ne 8, 3) := by decide +kernel
theorem dM_grant_14 : decode xM_grant.2.1 14 = .ok (.iload 5, 2) := by decide +kernel
theorem dM_grant_16 : decode xM_grant.2.1 16 = .ok (.ifCond .eq 7, 3) := by decide +kernel
theorem dM_grant_19 : decode xM_grant.2.1 19 = .ok (.iconst 1, 1) := by decide +kernel
theorem dM_grant_20 : decode xM_grant.2.1 20 = .ok (.goto 4, 3) := by decide +kernel
theorem dM_grant_23 : decode xM_grant.2.1 23 = .ok (.iconst 0, 1) := by decide +kernel
theorem dM_grant_24 : decode xM_grant.2.1 24 = .ok (.bastore, 1) := by decide +kernel
theorem dM_grant_25 : decode xM_grant.2.1 25 = .ok (.aload_n 0, 1) := by decide +kernel
theorem dM_grant_26 : decode xM_grant.2.1 26 = .ok (.getfield 35, 3) := by decide +kernel
theorem dM_grant_29 : decode xM_grant.2.1 29 = .ok (.iload_n 1, 1) := by decide +kernel
theorem dM_grant_30 : decode xM_grant.2.1 30 = .ok (.iload 4, 2) := by decide +kernel
theorem dM_grant_32 : decode xM_grant.2.1 32 = .ok (.iastore, 1) := by decide +kernel
theorem dM_grant_33 : decode xM_grant.2.1 33 = .ok (.iconst 0, 1) := by decide +kernel
theorem dM_grant_34 : decode xM_grant.2.1 34 = .ok (.istore 6, 2) := by decide +kernel
theorem dM_grant_36 : decode xM_grant.2.1 36 = .ok (.iload 6, 2) := by decide +kernel
theorem dM_grant_38 : decode xM_grant.2.1 38 = .ok (.iconst 4, 1) := by decide +kernel
theorem dM_grant_39 : decode xM_grant.2.1 39 = .ok (.if_icmp .ge 31, 3) := by decide +kernel
theorem dM_grant_42 : decode xM_grant.2.1 42 = .ok (.aload_n 0, 1) := by decide +kernel
theorem dM_grant_43 : decode xM_grant.2.1 43 = .ok (.getfield 41, 3) := by decide +kernel
theorem dM_grant_46 : decode xM_grant.2.1 46 = .ok (.iconst 4, 1) := by decide +kernel
theorem dM_grant_47 : decode xM_grant.2.1 47 = .ok (.iload_n 1, 1) := by decide +kernel
theorem dM_grant_48 : decode xM_grant.2.1 48 = .ok (.imul, 1) := by decide +kernel
theorem dM_grant_49 : decode xM_grant.2.1 49 = .ok (.iload 6, 2) := by decide +kernel
theorem dM_grant_51 : decode xM_grant.2.1 51 = .ok (.iadd, 1) := by decide +kernel
theorem dM_grant_52 : decode xM_grant.2.1 52 = .ok (.aload_n 0, 1) := by decide +kernel
theorem dM_grant_53 : decode xM_grant.2.1 53 = .ok (.getfield 17, 3) := by decide +kernel
theorem dM_grant_56 : decode xM_grant.2.1 56 = .ok (.iconst 4, 1) := by decide +kernel
theorem dM_grant_57 : decode xM_grant.2.1 57 = .ok (.iload_n 2, 1) := by decide +kernel
theorem dM_grant_58 : decode xM_grant.2.1 58 = .ok (.imul, 1) := by decide +kernel
theorem dM_grant_59 : decode xM_grant.2.1 59 = .ok (.iload 6, 2) := by decide +kernel
theorem dM_grant_61 : decode xM_grant.2.1 61 = .ok (.iadd, 1) := by decide +kernel
theorem dM_grant_62 : decode xM_grant.2.1 62 = .ok (.iaload, 1) := by decide +kernel
theorem dM_grant_63 : decode xM_grant.2.1 63 = .ok (.iastore, 1) := by decide +kernel
theorem dM_grant_64 : decode xM_grant.2.1 64 = .ok (.iinc 6 1, 3) := by decide +kernel
theorem dM_grant_67 : decode xM_grant.2.1 67 = .ok (.goto (-31), 3) := by decide +kernel
theorem dM_grant_70 : decode xM_grant.2.1 70 = .ok (.aload_n 0, 1) := by decide +kernel
theorem dM_grant_71 : decode xM_grant.2.1 71 = .ok (.getfield 20, 3) := by decide +kernel
theorem dM_grant_74 : decode xM_grant.2.1 74 = .ok (.iconst 4, 1) := by decide +kernel
theorem dM_grant_75 : decode xM_grant.2.1 75 = .ok (.iload_n 1, 1) := by decide +kernel
theorem dM_grant_76 : decode xM_grant.2.1 76 = .ok (.imul, 1) := by decide +kernel
theorem dM_grant_77 : decode xM_grant.2.1 77 = .ok (.iload_n 2, 1) := by decide +kernel
theorem dM_grant_78 : decode xM_grant.2.1 78 = .ok (.iadd, 1) := by decide +kernel
theorem dM_grant_79 : decode xM_grant.2.1 79 = .ok (.iload 4, 2) := by decide +kernel
theorem dM_grant_81 : decode xM_grant.2.1 81 = .ok (.iastore, 1) := by decide +kernel
theorem dM_grant_82 : decode xM_grant.2.1 82 = .ok (.aload_n 0, 1) := by decide +kernel
theorem dM_grant_83 : decode xM_grant.2.1 83 = .ok (.getfield 23, 3) := by decide +kernel
theorem dM_grant_86 : decode xM_grant.2.1 86 = .ok (.iconst 4, 1) := by decide +kernel
theorem dM_grant_87 : decode xM_grant.2.1 87 = .ok (.iload_n 1, 1) := by decide +kernel
theorem dM_grant_88 : decode xM_grant.2.1 88 = .ok (.imul, 1) := by decide +kernel
theorem dM_grant_89 : decode xM_grant.2.1 89 = .ok (.iload_n 2, 1) := by decide +kernel
theorem dM_grant_90 : decode xM_grant.2.1 90 = .ok (.iadd, 1) := by decide +kernel
theorem dM_grant_91 : decode xM_grant.2.1 91 = .ok (.aload_n 0, 1) := by decide +kernel
theorem dM_grant_92 : decode xM_grant.2.1 92 = .ok (.getfield 13, 3) := by decide +kernel
theorem dM_grant_95 : decode xM_grant.2.1 95 = .ok (.iconst 3, 1) := by decide +kernel
theorem dM_grant_96 : decode xM_grant.2.1 96 = .ok (.iaload, 1) := by decide +kernel
theorem dM_grant_97 : decode xM_grant.2.1 97 = .ok (.aload_n 0, 1) := by decide +kernel
theorem dM_grant_98 : decode xM_grant.2.1 98 = .ok (.getfield 131, 3) := by decide +kernel
theorem dM_grant_101 : decode xM_grant.2.1 101 = .ok (.iadd, 1) := by decide +kernel
theorem dM_grant_102 : decode xM_grant.2.1 102 = .ok (.iastore, 1) := by decide +kernel
theorem dM_grant_103 : decode xM_grant.2.1 103 = .ok (.aload_n 0, 1) := by decide +kernel
theorem dM_grant_104 : decode xM_grant.2.1 104 = .ok (.iload_n 1, 1) := by decide +kernel
theorem dM_grant_105 : decode xM_grant.2.1 105 = .ok (.iload_n 3, 1) := by decide +kernel
theorem dM_grant_106 : decode xM_grant.2.1 106 = .ok (.iconst 4, 1) := by decide +kernel
theorem dM_grant_107 : decode xM_grant.2.1 107 = .ok (.iload_n 2, 1) := by decide +kernel
theorem dM_grant_108 : decode xM_grant.2.1 108 = .ok (.invokevirtual 179, 3) := by decide +kernel
theorem dM_grant_111 : decode xM_grant.2.1 111 = .ok (.return_, 1) := by decide +kernel
def xM_request : mt_X := (⟨"LeasedPagesModel", "request", "(IIIIIZII)V"⟩, prog_12_method_17_code, 10, (Option.none : Option FieldType))
theorem dM_request_0 : decode xM_request.2.1 0 = .ok (.iload 4, 2) := by decide +kernel
theorem dM_request_2 : decode xM_request.2.1 2 = .ok (.aload_n 0, 1) := by decide +kernel
theorem dM_request_3 : decode xM_request.2.1 3 = .ok (.getfield 26, 3) := by decide +kernel
theorem dM_request_6 : decode xM_request.2.1 6 = .ok (.iload_n 2, 1) := by decide +kernel
theorem dM_request_7 : decode xM_request.2.1 7 = .ok (.iaload, 1) := by decide +kernel
theorem dM_request_8 : decode xM_request.2.1 8 = .ok (.if_icmp .ge 4, 3) := by decide +kernel
theorem dM_request_11 : decode xM_request.2.1 11 = .ok (.return_, 1) := by decide +kernel
theorem dM_request_12 : decode xM_request.2.1 12 = .ok (.iload 4, 2) := by decide +kernel
theorem dM_request_14 : decode xM_request.2.1 14 = .ok (.aload_n 0, 1) := by decide +kernel
theorem dM_request_15 : decode xM_request.2.1 15 = .ok (.getfield 26, 3) := by decide +kernel
theorem dM_request_18 : decode xM_request.2.1 18 = .ok (.iload_n 2, 1) := by decide +kernel
theorem dM_request_19 : decode xM_request.2.1 19 = .ok (.iaload, 1) := by decide +kernel
theorem dM_request_20 : decode xM_request.2.1 20 = .ok (.if_icmp .ne 9, 3) := by decide +kernel
theorem dM_request_23 : decode xM_request.2.1 23 = .ok (.aload_n 0, 1) := by decide +kernel
theorem dM_request_24 : decode xM_request.2.1 24 = .ok (.iload_n 2, 1) := by decide +kernel
theorem dM_request_25 : decode xM_request.2.1 25 = .ok (.invokevirtual 175, 3) := by decide +kernel
theorem dM_request_28 : decode xM_request.2.1 28 = .ok (.return_, 1) := by decide +kernel
theorem dM_request_29 : decode xM_request.2.1 29 = .ok (.aload_n 0, 1) := by decide +kernel
theorem dM_request_30 : decode xM_request.2.1 30 = .ok (.getfield 44, 3) := by decide +kernel
theorem dM_request_33 : decode xM_request.2.1 33 = .ok (.iload_n 2, 1) := by decide +kernel
theorem dM_request_34 : decode xM_request.2.1 34 = .ok (.iaload, 1) := by decide +kernel
theorem dM_request_35 : decode xM_request.2.1 35 = .ok (.ifCond .lt 15, 3) := by decide +kernel
theorem dM_request_38 : decode xM_request.2.1 38 = .ok (.aload_n 0, 1) := by decide +kernel
theorem dM_request_39 : decode xM_request.2.1 39 = .ok (.getfield 47, 3) := by decide +kernel
theorem dM_request_42 : decode xM_request.2.1 42 = .ok (.iload_n 2, 1) := by decide +kernel
theorem dM_request_43 : decode xM_request.2.1 43 = .ok (.iaload, 1) := by decide +kernel
theorem dM_request_44 : decode xM_request.2.1 44 = .ok (.iload 4, 2) := by decide +kernel
theorem dM_request_46 : decode xM_request.2.1 46 = .ok (.if_icmp .ne 4, 3) := by decide +kernel
theorem dM_request_49 : decode xM_request.2.1 49 = .ok (.return_, 1) := by decide +kernel
theorem dM_request_50 : decode xM_request.2.1 50 = .ok (.aload_n 0, 1) := by decide +kernel
theorem dM_request_51 : decode xM_request.2.1 51 = .ok (.getfield 44, 3) := by decide +kernel
theorem dM_request_54 : decode xM_request.2.1 54 = .ok (.iload_n 2, 1) := by decide +kernel
theorem dM_request_55 : decode xM_request.2.1 55 = .ok (.iconst (-1), 1) := by decide +kernel
theorem dM_request_56 : decode xM_request.2.1 56 = .ok (.iastore, 1) := by decide +kernel
theorem dM_request_57 : decode xM_request.2.1 57 = .ok (.iload_n 1, 1) := by decide +kernel
theorem dM_request_58 : decode xM_request.2.1 58 = .ok (.iconst 1, 1) := by decide +kernel
theorem dM_request_59 : decode xM_request.2.1 59 = .ok (.if_icmp .ne 18, 3) := by decide +kernel
theorem dM_request_62 : decode xM_request.2.1 62 = .ok (.aload_n 0, 1) := by decide +kernel
theorem dM_request_63 : decode xM_request.2.1 63 = .ok (.iload_n 2, 1) := by decide +kernel
theorem dM_request_64 : decode xM_request.2.1 64 = .ok (.iload_n 3, 1) := by decide +kernel
theorem dM_request_65 : decode xM_request.2.1 65 = .ok (.iload 4, 2) := by decide +kernel
theorem dM_request_67 : decode xM_request.2.1 67 = .ok (.iload 5, 2) := by decide +kernel
theorem dM_request_69 : decode xM_request.2.1 69 = .ok (.iload 6, 2) := by decide +kernel
theorem dM_request_71 : decode xM_request.2.1 71 = .ok (.invokevirtual 183, 3) := by decide +kernel
theorem dM_request_74 : decode xM_request.2.1 74 = .ok (.goto 97, 3) := by decide +kernel
theorem dM_request_77 : decode xM_request.2.1 77 = .ok (.iload_n 1, 1) := by decide +kernel
theorem dM_request_78 : decode xM_request.2.1 78 = .ok (.iconst 2, 1) := by decide +kernel
theorem dM_request_79 : decode xM_request.2.1 79 = .ok (.if_icmp .ne 71, 3) := by decide +kernel
theorem dM_request_82 : decode xM_request.2.1 82 = .ok (.aload_n 0, 1) := by decide +kernel
theorem dM_request_83 : decode xM_request.2.1 83 = .ok (.getfield 20, 3) := by decide +kernel
theorem dM_request_86 : decode xM_request.2.1 86 = .ok (.iconst 4, 1) := by decide +kernel
theorem dM_request_87 : decode xM_request.2.1 87 = .ok (.iload_n 2, 1) := by decide +kernel
theorem dM_request_88 : decode xM_request.2.1 88 = .ok (.imul, 1) := by decide +kernel
theorem dM_request_89 : decode xM_request.2.1 89 = .ok (.iload_n 3, 1) := by decide +kernel
theorem dM_request_90 : decode xM_request.2.1 90 = .ok (.iadd, 1) := by decide +kernel
theorem dM_request_91 : decode xM_request.2.1 91 = .ok (.iaload, 1) := by decide +kernel
theorem dM_request_92 : decode xM_request.2.1 92 = .ok (.iconst 2, 1) := by decide +kernel
theorem dM_request_93 : decode xM_request.2.1 93 = .ok (.if_icmp .ne 7, 3) := by decide +kernel
theorem dM_request_96 : decode xM_request.2.1 96 = .ok (.iconst 1, 1) := by decide +kernel
theorem dM_request_97 : decode xM_request.2.1 97 = .ok (.goto 4, 3) := by decide +kernel
theorem dM_request_100 : decode xM_request.2.1 100 = .ok (.iconst 0, 1) := by decide +kernel
theorem dM_request_101 : decode xM_request.2.1 101 = .ok (.istore 9, 2) := by decide +kernel
theorem dM_request_103 : decode xM_request.2.1 103 = .ok (.aload_n 0, 1) := by decide +kernel
theorem dM_request_104 : decode xM_request.2.1 104 = .ok (.getfield 17, 3) := by decide +kernel
theorem dM_request_107 : decode xM_request.2.1 107 = .ok (.iload 7, 2) := by decide +kernel
theorem dM_request_109 : decode xM_request.2.1 109 = .ok (.iload 9, 2) := by decide +kernel
theorem dM_request_111 : decode xM_request.2.1 111 = .ok (.ifCond .eq 8, 3) := by decide +kernel
theorem dM_request_114 : decode xM_request.2.1 114 = .ok (.iload 8, 2) := by decide +kernel
theorem dM_request_116 : decode xM_request.2.1 116 = .ok (.goto 10, 3) := by decide +kernel
theorem dM_request_119 : decode xM_request.2.1 119 = .ok (.aload_n 0, 1) := by decide +kernel
theorem dM_request_120 : decode xM_request.2.1 120 = .ok (.getfield 17, 3) := by decide +kernel
theorem dM_request_123 : decode xM_request.2.1 123 = .ok (.iload 7, 2) := by decide +kernel
theorem dM_request_125 : decode xM_request.2.1 125 = .ok (.iaload, 1) := by decide +kernel
theorem dM_request_126 : decode xM_request.2.1 126 = .ok (.iastore, 1) := by decide +kernel
theorem dM_request_127 : decode xM_request.2.1 127 = .ok (.aload_n 0, 1) := by decide +kernel
theorem dM_request_128 : decode xM_request.2.1 128 = .ok (.iload_n 2, 1) := by decide +kernel
theorem dM_request_129 : decode xM_request.2.1 129 = .ok (.iload 4, 2) := by decide +kernel
theorem dM_request_131 : decode xM_request.2.1 131 = .ok (.iload 9, 2) := by decide +kernel
theorem dM_request_133 : decode xM_request.2.1 133 = .ok (.ifCond .eq 8, 3) := by decide +kernel
theorem dM_request_136 : decode xM_request.2.1 136 = .ok (.bipush 6, 2) := by decide +kernel
theorem dM_request_138 : decode xM_request.2.1 138 = .ok (.goto 5, 3) := by decide +kernel
theorem dM_request_141 : decode xM_request.2.1 141 = .ok (.bipush 7, 2) := by decide +kernel
theorem dM_request_143 : decode xM_request.2.1 143 = .ok (.iload_n 3, 1) := by decide +kernel
theorem dM_request_144 : decode xM_request.2.1 144 = .ok (.invokevirtual 179, 3) := by decide +kernel
theorem dM_request_147 : decode xM_request.2.1 147 = .ok (.goto 24, 3) := by decide +kernel
theorem dM_request_150 : decode xM_request.2.1 150 = .ok (.aload_n 0, 1) := by decide +kernel
theorem dM_request_151 : decode xM_request.2.1 151 = .ok (.getfield 20, 3) := by decide +kernel
theorem dM_request_154 : decode xM_request.2.1 154 = .ok (.iconst 4, 1) := by decide +kernel
theorem dM_request_155 : decode xM_request.2.1 155 = .ok (.iload_n 2, 1) := by decide +kernel
theorem dM_request_156 : decode xM_request.2.1 156 = .ok (.imul, 1) := by decide +kernel
theorem dM_request_157 : decode xM_request.2.1 157 = .ok (.iload_n 3, 1) := by decide +kernel
theorem dM_request_158 : decode xM_request.2.1 158 = .ok (.iadd, 1) := by decide +kernel
theorem dM_request_159 : decode xM_request.2.1 159 = .ok (.iconst 0, 1) := by decide +kernel
theorem dM_request_160 : decode xM_request.2.1 160 = .ok (.iastore, 1) := by decide +kernel
theorem dM_request_161 : decode xM_request.2.1 161 = .ok (.aload_n 0, 1) := by decide +kernel
theorem dM_request_162 : decode xM_request.2.1 162 = .ok (.iload_n 2, 1) := by decide +kernel
theorem dM_request_163 : decode xM_request.2.1 163 = .ok (.iload 4, 2) := by decide +kernel
theorem dM_request_165 : decode xM_request.2.1 165 = .ok (.bipush 6, 2) := by decide +kernel
theorem dM_request_167 : decode xM_request.2.1 167 = .ok (.iload_n 3, 1) := by decide +kernel
theorem dM_request_168 : decode xM_request.2.1 168 = .ok (.invokevirtual 179, 3) := by decide +kernel
theorem dM_request_171 : decode xM_request.2.1 171 = .ok (.return_, 1) := by decide +kernel
def xM_askedLease : mt_X := (⟨"LeasedPagesModel", "askedLease", "(IIIIZ)V"⟩, prog_12_method_18_code, 8, (Option.none : Option FieldType))
theorem dM_askedLease_0 : decode xM_askedLease.2.1 0 = .ok (.aload_n 0, 1) := by decide +kernel
theorem dM_askedLease_1 : decode xM_askedLease.2.1 1 = .ok (.iload_n 1, 1) := by decide +kernel
theorem dM_askedLease_2 : decode xM_askedLease.2.1 2 = .ok (.iload_n 2, 1) := by decide +kernel
theorem dM_askedLease_3 : decode xM_askedLease.2.1 3 = .ok (.invokevirtual 171, 3) := by decide +kernel
theorem dM_askedLease_6 : decode xM_askedLease.2.1 6 = .ok (.ifCond .eq 21, 3) := by decide +kernel
theorem dM_askedLease_9 : decode xM_askedLease.2.1 9 = .ok (.aload_n 0, 1) := by decide +kernel
theorem dM_askedLease_10 : decode xM_askedLease.2.1 10 = .ok (.iload_n 1, 1) := by decide +kernel
theorem dM_askedLease_11 : decode xM_askedLease.2.1 11 = .ok (.iload_n 2, 1) := by decide +kernel
theorem dM_askedLease_12 : decode xM_askedLease.2.1 12 = .ok (.invokevirtual 187, 3) := by decide +kernel
theorem dM_askedLease_15 : decode xM_askedLease.2.1 15 = .ok (.ifCond .eq 12, 3) := by decide +kernel
theorem dM_askedLease_18 : decode xM_askedLease.2.1 18 = .ok (.aload_n 0, 1) := by decide +kernel
theorem dM_askedLease_19 : decode xM_askedLease.2.1 19 = .ok (.iload_n 1, 1) := by decide +kernel
theorem dM_askedLease_20 : decode xM_askedLease.2.1 20 = .ok (.iload_n 3, 1) := by decide +kernel
theorem dM_askedLease_21 : decode xM_askedLease.2.1 21 = .ok (.iconst 5, 1) := by decide +kernel
theorem dM_askedLease_22 : decode xM_askedLease.2.1 22 = .ok (.iload_n 2, 1) := by decide +kernel
theorem dM_askedLease_23 : decode xM_askedLease.2.1 23 = .ok (.invokevirtual 179, 3) := by decide +kernel
theorem dM_askedLease_26 : decode xM_askedLease.2.1 26 = .ok (.return_, 1) := by decide +kernel
theorem dM_askedLease_27 : decode xM_askedLease.2.1 27 = .ok (.aload_n 0, 1) := by decide +kernel
theorem dM_askedLease_28 : decode xM_askedLease.2.1 28 = .ok (.getfield 190, 3) := by decide +kernel
theorem dM_askedLease_31 : decode xM_askedLease.2.1 31 = .ok (.ifCond .le 8, 3) := by decide +kernel
theorem dM_askedLease_34 : decode xM_askedLease.2.1 34 = .ok (.iload 5, 2) := by decide +kernel
theorem dM_askedLease_36 : decode xM_askedLease.2.1 36 = .ok (.goto 26, 3) := by decide +kernel
theorem dM_askedLease_39 : decode xM_askedLease.2.1 39 = .ok (.aload_n 0, 1) := by decide +kernel
theorem dM_askedLease_40 : decode xM_askedLease.2.1 40 = .ok (.iload_n 1, 1) := by decide +kernel
theorem dM_askedLease_41 : decode xM_askedLease.2.1 41 = .ok (.iload_n 2, 1) := by decide +kernel
theorem dM_askedLease_42 : decode xM_askedLease.2.1 42 = .ok (.invokevirtual 171, 3) := by decide +kernel
theorem dM_askedLease_45 : decode xM_askedLease.2.1 45 = .ok (.ifCond .ne 12, 3) := by decide +kernel
theorem dM_askedLease_48 : decode xM_askedLease.2.1 48 = .ok (.aload_n 0, 1) := by decide +kernel
theorem dM_askedLease_49 : decode xM_askedLease.2.1 49 = .ok (.iload_n 1, 1) := by decide +kernel
theorem dM_askedLease_50 : decode xM_askedLease.2.1 50 = .ok (.iload_n 2, 1) := by decide +kernel
theorem dM_askedLease_51 : decode xM_askedLease.2.1 51 = .ok (.invokevirtual 187, 3) := by decide +kernel
theorem dM_askedLease_54 : decode xM_askedLease.2.1 54 = .ok (.ifCond .ne 7, 3) := by decide +kernel
theorem dM_askedLease_57 : decode xM_askedLease.2.1 57 = .ok (.iconst 1, 1) := by decide +kernel
theorem dM_askedLease_58 : decode xM_askedLease.2.1 58 = .ok (.goto 4, 3) := by decide +kernel
theorem dM_askedLease_61 : decode xM_askedLease.2.1 61 = .ok (.iconst 0, 1) := by decide +kernel
theorem dM_askedLease_62 : decode xM_askedLease.2.1 62 = .ok (.istore 6, 2) := by decide +kernel
theorem dM_askedLease_64 : decode xM_askedLease.2.1 64 = .ok (.aload_n 0, 1) := by decide +kernel
theorem dM_askedLease_65 : decode xM_askedLease.2.1 65 = .ok (.iload_n 1, 1) := by decide +kernel
theorem dM_askedLease_66 : decode xM_askedLease.2.1 66 = .ok (.iload_n 2, 1) := by decide +kernel
theorem dM_askedLease_67 : decode xM_askedLease.2.1 67 = .ok (.iload 4, 2) := by decide +kernel
theorem dM_askedLease_69 : decode xM_askedLease.2.1 69 = .ok (.invokevirtual 193, 3) := by decide +kernel
theorem dM_askedLease_72 : decode xM_askedLease.2.1 72 = .ok (.ifCond .ne 30, 3) := by decide +kernel
theorem dM_askedLease_75 : decode xM_askedLease.2.1 75 = .ok (.iload 6, 2) := by decide +kernel
theorem dM_askedLease_77 : decode xM_askedLease.2.1 77 = .ok (.ifCond .eq 25, 3) := by decide +kernel
theorem dM_askedLease_80 : decode xM_askedLease.2.1 80 = .ok (.aload_n 0, 1) := by decide +kernel
theorem dM_askedLease_81 : decode xM_askedLease.2.1 81 = .ok (.iload_n 1, 1) := by decide +kernel
theorem dM_askedLease_82 : decode xM_askedLease.2.1 82 = .ok (.iload_n 2, 1) := by decide +kernel
theorem dM_askedLease_83 : decode xM_askedLease.2.1 83 = .ok (.iload_n 3, 1) := by decide +kernel
theorem dM_askedLease_84 : decode xM_askedLease.2.1 84 = .ok (.iload 4, 2) := by decide +kernel
theorem dM_askedLease_86 : decode xM_askedLease.2.1 86 = .ok (.aload_n 0, 1) := by decide +kernel
theorem dM_askedLease_87 : decode xM_askedLease.2.1 87 = .ok (.getfield 190, 3) := by decide +kernel
theorem dM_askedLease_90 : decode xM_askedLease.2.1 90 = .ok (.ifCond .le 7, 3) := by decide +kernel
theorem dM_askedLease_93 : decode xM_askedLease.2.1 93 = .ok (.iconst 1, 1) := by decide +kernel
theorem dM_askedLease_94 : decode xM_askedLease.2.1 94 = .ok (.goto 4, 3) := by decide +kernel
theorem dM_askedLease_97 : decode xM_askedLease.2.1 97 = .ok (.iconst 0, 1) := by decide +kernel
theorem dM_askedLease_98 : decode xM_askedLease.2.1 98 = .ok (.invokevirtual 196, 3) := by decide +kernel
theorem dM_askedLease_101 : decode xM_askedLease.2.1 101 = .ok (.return_, 1) := by decide +kernel
theorem dM_askedLease_102 : decode xM_askedLease.2.1 102 = .ok (.aload_n 0, 1) := by decide +kernel
theorem dM_askedLease_103 : decode xM_askedLease.2.1 103 = .ok (.getfield 44, 3) := by decide +kernel
theorem dM_askedLease_106 : decode xM_askedLease.2.1 106 = .ok (.iload_n 1, 1) := by decide +kernel
theorem dM_askedLease_107 : decode xM_askedLease.2.1 107 = .ok (.iload_n 2, 1) := by decide +kernel
theorem dM_askedLease_108 : decode xM_askedLease.2.1 108 = .ok (.iastore, 1) := by decide +kernel
theorem dM_askedLease_109 : decode xM_askedLease.2.1 109 = .ok (.aload_n 0, 1) := by decide +kernel
theorem dM_askedLease_110 : decode xM_askedLease.2.1 110 = .ok (.getfield 47, 3) := by decide +kernel
theorem dM_askedLease_113 : decode xM_askedLease.2.1 113 = .ok (.iload_n 1, 1) := by decide +kernel
theorem dM_askedLease_114 : decode xM_askedLease.2.1 114 = .ok (.iload_n 3, 1) := by decide +kernel
theorem dM_askedLease_115 : decode xM_askedLease.2.1 115 = .ok (.iastore, 1) := by decide +kernel
theorem dM_askedLease_116 : decode xM_askedLease.2.1 116 = .ok (.aload_n 0, 1) := by decide +kernel
theorem dM_askedLease_117 : decode xM_askedLease.2.1 117 = .ok (.getfield 50, 3) := by decide +kernel
theorem dM_askedLease_120 : decode xM_askedLease.2.1 120 = .ok (.iload_n 1, 1) := by decide +kernel
theorem dM_askedLease_121 : decode xM_askedLease.2.1 121 = .ok (.iload 4, 2) := by decide +kernel
theorem dM_askedLease_123 : decode xM_askedLease.2.1 123 = .ok (.iastore, 1) := by decide +kernel
theorem dM_askedLease_124 : decode xM_askedLease.2.1 124 = .ok (.aload_n 0, 1) := by decide +kernel
theorem dM_askedLease_125 : decode xM_askedLease.2.1 125 = .ok (.getfield 53, 3) := by decide +kernel
theorem dM_askedLease_128 : decode xM_askedLease.2.1 128 = .ok (.iload_n 1, 1) := by decide +kernel
theorem dM_askedLease_129 : decode xM_askedLease.2.1 129 = .ok (.aload_n 0, 1) := by decide +kernel
theorem dM_askedLease_130 : decode xM_askedLease.2.1 130 = .ok (.getfield 199, 3) := by decide +kernel
theorem dM_askedLease_133 : decode xM_askedLease.2.1 133 = .ok (.iastore, 1) := by decide +kernel
theorem dM_askedLease_134 : decode xM_askedLease.2.1 134 = .ok (.aload_n 0, 1) := by decide +kernel
theorem dM_askedLease_135 : decode xM_askedLease.2.1 135 = .ok (.dup, 1) := by decide +kernel
theorem dM_askedLease_136 : decode xM_askedLease.2.1 136 = .ok (.getfield 199, 3) := by decide +kernel
theorem dM_askedLease_139 : decode xM_askedLease.2.1 139 = .ok (.iconst 1, 1) := by decide +kernel
theorem dM_askedLease_140 : decode xM_askedLease.2.1 140 = .ok (.iadd, 1) := by decide +kernel
theorem dM_askedLease_141 : decode xM_askedLease.2.1 141 = .ok (.putfield 199, 3) := by decide +kernel
theorem dM_askedLease_144 : decode xM_askedLease.2.1 144 = .ok (.iconst 0, 1) := by decide +kernel
theorem dM_askedLease_145 : decode xM_askedLease.2.1 145 = .ok (.istore 7, 2) := by decide +kernel
theorem dM_askedLease_147 : decode xM_askedLease.2.1 147 = .ok (.iload 7, 2) := by decide +kernel
theorem dM_askedLease_149 : decode xM_askedLease.2.1 149 = .ok (.iconst 3, 1) := by decide +kernel
theorem dM_askedLease_150 : decode xM_askedLease.2.1 150 = .ok (.if_icmp .ge 57, 3) := by decide +kernel
theorem dM_askedLease_153 : decode xM_askedLease.2.1 153 = .ok (.iload 7, 2) := by decide +kernel
theorem dM_askedLease_155 : decode xM_askedLease.2.1 155 = .ok (.iload_n 1, 1) := by decide +kernel
theorem dM_askedLease_156 : decode xM_askedLease.2.1 156 = .ok (.if_icmp .eq 45, 3) := by decide +kernel
theorem dM_askedLease_159 : decode xM_askedLease.2.1 159 = .ok (.aload_n 0, 1) := by decide +kernel
theorem dM_askedLease_160 : decode xM_askedLease.2.1 160 = .ok (.iload 7, 2) := by decide +kernel
theorem dM_askedLease_162 : decode xM_askedLease.2.1 162 = .ok (.iload_n 2, 1) := by decide +kernel
theorem dM_askedLease_163 : decode xM_askedLease.2.1 163 = .ok (.invokevirtual 171, 3) := by decide +kernel
theorem dM_askedLease_166 : decode xM_askedLease.2.1 166 = .ok (.ifCond .eq 35, 3) := by decide +kernel
theorem dM_askedLease_169 : decode xM_askedLease.2.1 169 = .ok (.iload 4, 2) := by decide +kernel
theorem dM_askedLease_171 : decode xM_askedLease.2.1 171 = .ok (.iconst 2, 1) := by decide +kernel
theorem dM_askedLease_172 : decode xM_askedLease.2.1 172 = .ok (.if_icmp .eq 18, 3) := by decide +kernel
theorem dM_askedLease_175 : decode xM_askedLease.2.1 175 = .ok (.aload_n 0, 1) := by decide +kernel
theorem dM_askedLease_176 : decode xM_askedLease.2.1 176 = .ok (.getfield 20, 3) := by decide +kernel
theorem dM_askedLease_179 : decode xM_askedLease.2.1 179 = .ok (.iconst 4, 1) := by decide +kernel
theorem dM_askedLease_180 : decode xM_askedLease.2.1 180 = .ok (.iload 7, 2) := by decide +kernel
theorem dM_askedLease_182 : decode xM_askedLease.2.1 182 = .ok (.imul, 1) := by decide +kernel
theorem dM_askedLease_183 : decode xM_askedLease.2.1 183 = .ok (.iload_n 2, 1) := by decide +kernel
theorem dM_askedLease_184 : decode xM_askedLease.2.1 184 = .ok (.iadd, 1) := by decide +kernel
theorem dM_askedLease_185 : decode xM_askedLease.2.1 185 = .ok (.iaload, 1) := by decide +kernel
theorem dM_askedLease_186 : decode xM_askedLease.2.1 186 = .ok (.iconst 2, 1) := by decide +kernel
theorem dM_askedLease_187 : decode xM_askedLease.2.1 187 = .ok (.if_icmp .ne 14, 3) := by decide +kernel
theorem dM_askedLease_190 : decode xM_askedLease.2.1 190 = .ok (.aload_n 0, 1) := by decide +kernel
theorem dM_askedLease_191 : decode xM_askedLease.2.1 191 = .ok (.bipush 8, 2) := by decide +kernel
theorem dM_askedLease_193 : decode xM_askedLease.2.1 193 = .ok (.iload 7, 2) := by decide +kernel
theorem dM_askedLease_195 : decode xM_askedLease.2.1 195 = .ok (.iload_n 2, 1) := by decide +kernel
theorem dM_askedLease_196 : decode xM_askedLease.2.1 196 = .ok (.iconst 0, 1) := by decide +kernel
theorem dM_askedLease_197 : decode xM_askedLease.2.1 197 = .ok (.invokevirtual 148, 3) := by decide +kernel
theorem dM_askedLease_200 : decode xM_askedLease.2.1 200 = .ok (.pop, 1) := by decide +kernel
theorem dM_askedLease_201 : decode xM_askedLease.2.1 201 = .ok (.iinc 7 1, 3) := by decide +kernel
theorem dM_askedLease_204 : decode xM_askedLease.2.1 204 = .ok (.goto (-57), 3) := by decide +kernel
theorem dM_askedLease_207 : decode xM_askedLease.2.1 207 = .ok (.return_, 1) := by decide +kernel
def xM_first : mt_X := (⟨"LeasedPagesModel", "first", "(I)I"⟩, prog_12_method_19_code, 4, (Option.some FieldType.int))
theorem dM_first_0 : decode xM_first.2.1 0 = .ok (.iconst (-1), 1) := by decide +kernel
theorem dM_first_1 : decode xM_first.2.1 1 = .ok (.istore_n 2, 1) := by decide +kernel
theorem dM_first_2 : decode xM_first.2.1 2 = .ok (.iconst 0, 1) := by decide +kernel
theorem dM_first_3 : decode xM_first.2.1 3 = .ok (.istore_n 3, 1) := by decide +kernel
theorem dM_first_4 : decode xM_first.2.1 4 = .ok (.iload_n 3, 1) := by decide +kernel
theorem dM_first_5 : decode xM_first.2.1 5 = .ok (.iconst 3, 1) := by decide +kernel
theorem dM_first_6 : decode xM_first.2.1 6 = .ok (.if_icmp .ge 40, 3) := by decide +kernel
theorem dM_first_9 : decode xM_first.2.1 9 = .ok (.aload_n 0, 1) := by decide +kernel
theorem dM_first_10 : decode xM_first.2.1 10 = .ok (.getfield 44, 3) := by decide +kernel
theorem dM_first_13 : decode xM_first.2.1 13 = .ok (.iload_n 3, 1) := by decide +kernel
theorem dM_first_14 : decode xM_first.2.1 14 = .ok (.iaload, 1) := by decide +kernel
theorem dM_first_15 : decode xM_first.2.1 15 = .ok (.iload_n 1, 1) := by decide +kernel
theorem dM_first_16 : decode xM_first.2.1 16 = .ok (.if_icmp .ne 24, 3) := by decide +kernel
theorem dM_first_19 : decode xM_first.2.1 19 = .ok (.iload_n 2, 1) := by decide +kernel
theorem dM_first_20 : decode xM_first.2.1 20 = .ok (.ifCond .lt 18, 3) := by decide +kernel
theorem dM_first_23 : decode xM_first.2.1 23 = .ok (.aload_n 0, 1) := by decide +kernel
theorem dM_first_24 : decode xM_first.2.1 24 = .ok (.getfield 53, 3) := by decide +kernel
theorem dM_first_27 : decode xM_first.2.1 27 = .ok (.iload_n 3, 1) := by decide +kernel
theorem dM_first_28 : decode xM_first.2.1 28 = .ok (.iaload, 1) := by decide +kernel
theorem dM_first_29 : decode xM_first.2.1 29 = .ok (.aload_n 0, 1) := by decide +kernel
theorem dM_first_30 : decode xM_first.2.1 30 = .ok (.getfield 53, 3) := by decide +kernel
theorem dM_first_33 : decode xM_first.2.1 33 = .ok (.iload_n 2, 1) := by decide +kernel
theorem dM_first_34 : decode xM_first.2.1 34 = .ok (.iaload, 1) := by decide +kernel
theorem dM_first_35 : decode xM_first.2.1 35 = .ok (.if_icmp .ge 5, 3) := by decide +kernel
theorem dM_first_38 : decode xM_first.2.1 38 = .ok (.iload_n 3, 1) := by decide +kernel
theorem dM_first_39 : decode xM_first.2.1 39 = .ok (.istore_n 2, 1) := by decide +kernel
theorem dM_first_40 : decode xM_first.2.1 40 = .ok (.iinc 3 1, 3) := by decide +kernel
theorem dM_first_43 : decode xM_first.2.1 43 = .ok (.goto (-39), 3) := by decide +kernel
theorem dM_first_46 : decode xM_first.2.1 46 = .ok (.iload_n 2, 1) := by decide +kernel
theorem dM_first_47 : decode xM_first.2.1 47 = .ok (.ireturn, 1) := by decide +kernel
def xM_serveLines : mt_X := (⟨"LeasedPagesModel", "serveLines", "()V"⟩, prog_12_method_20_code, 3, (Option.none : Option FieldType))
theorem dM_serveLines_0 : decode xM_serveLines.2.1 0 = .ok (.iconst 0, 1) := by decide +kernel
theorem dM_serveLines_1 : decode xM_serveLines.2.1 1 = .ok (.istore_n 1, 1) := by decide +kernel
theorem dM_serveLines_2 : decode xM_serveLines.2.1 2 = .ok (.iload_n 1, 1) := by decide +kernel
theorem dM_serveLines_3 : decode xM_serveLines.2.1 3 = .ok (.iconst 4, 1) := by decide +kernel
theorem dM_serveLines_4 : decode xM_serveLines.2.1 4 = .ok (.if_icmp .ge 76, 3) := by decide +kernel
theorem dM_serveLines_7 : decode xM_serveLines.2.1 7 = .ok (.aload_n 0, 1) := by decide +kernel
theorem dM_serveLines_8 : decode xM_serveLines.2.1 8 = .ok (.iload_n 1, 1) := by decide +kernel
theorem dM_serveLines_9 : decode xM_serveLines.2.1 9 = .ok (.invokevirtual 202, 3) := by decide +kernel
theorem dM_serveLines_12 : decode xM_serveLines.2.1 12 = .ok (.istore_n 2, 1) := by decide +kernel
theorem dM_serveLines_13 : decode xM_serveLines.2.1 13 = .ok (.iload_n 2, 1) := by decide +kernel
theorem dM_serveLines_14 : decode xM_serveLines.2.1 14 = .ok (.ifCond .lt 60, 3) := by decide +kernel
theorem dM_serveLines_17 : decode xM_serveLines.2.1 17 = .ok (.aload_n 0, 1) := by decide +kernel
theorem dM_serveLines_18 : decode xM_serveLines.2.1 18 = .ok (.getfield 190, 3) := by decide +kernel
theorem dM_serveLines_21 : decode xM_serveLines.2.1 21 = .ok (.ifCond .ne 53, 3) := by decide +kernel
theorem dM_serveLines_24 : decode xM_serveLines.2.1 24 = .ok (.aload_n 0, 1) := by decide +kernel
theorem dM_serveLines_25 : decode xM_serveLines.2.1 25 = .ok (.iload_n 2, 1) := by decide +kernel
theorem dM_serveLines_26 : decode xM_serveLines.2.1 26 = .ok (.iload_n 1, 1) := by decide +kernel
theorem dM_serveLines_27 : decode xM_serveLines.2.1 27 = .ok (.aload_n 0, 1) := by decide +kernel
theorem dM_serveLines_28 : decode xM_serveLines.2.1 28 = .ok (.getfield 50, 3) := by decide +kernel
theorem dM_serveLines_31 : decode xM_serveLines.2.1 31 = .ok (.iload_n 2, 1) := by decide +kernel
theorem dM_serveLines_32 : decode xM_serveLines.2.1 32 = .ok (.iaload, 1) := by decide +kernel
theorem dM_serveLines_33 : decode xM_serveLines.2.1 33 = .ok (.invokevirtual 193, 3) := by decide +kernel
theorem dM_serveLines_36 : decode xM_serveLines.2.1 36 = .ok (.ifCond .ne 38, 3) := by decide +kernel
theorem dM_serveLines_39 : decode xM_serveLines.2.1 39 = .ok (.aload_n 0, 1) := by decide +kernel
theorem dM_serveLines_40 : decode xM_serveLines.2.1 40 = .ok (.getfield 44, 3) := by decide +kernel
theorem dM_serveLines_43 : decode xM_serveLines.2.1 43 = .ok (.iload_n 2, 1) := by decide +kernel
theorem dM_serveLines_44 : decode xM_serveLines.2.1 44 = .ok (.iconst (-1), 1) := by decide +kernel
theorem dM_serveLines_45 : decode xM_serveLines.2.1 45 = .ok (.iastore, 1) := by decide +kernel
theorem dM_serveLines_46 : decode xM_serveLines.2.1 46 = .ok (.aload_n 0, 1) := by decide +kernel
theorem dM_serveLines_47 : decode xM_serveLines.2.1 47 = .ok (.iload_n 2, 1) := by decide +kernel
theorem dM_serveLines_48 : decode xM_serveLines.2.1 48 = .ok (.iload_n 1, 1) := by decide +kernel
theorem dM_serveLines_49 : decode xM_serveLines.2.1 49 = .ok (.aload_n 0, 1) := by decide +kernel
theorem dM_serveLines_50 : decode xM_serveLines.2.1 50 = .ok (.getfield 47, 3) := by decide +kernel
theorem dM_serveLines_53 : decode xM_serveLines.2.1 53 = .ok (.iload_n 2, 1) := by decide +kernel
theorem dM_serveLines_54 : decode xM_serveLines.2.1 54 = .ok (.iaload, 1) := by decide +kernel
theorem dM_serveLines_55 : decode xM_serveLines.2.1 55 = .ok (.aload_n 0, 1) := by decide +kernel
theorem dM_serveLines_56 : decode xM_serveLines.2.1 56 = .ok (.getfield 50, 3) := by decide +kernel
theorem dM_serveLines_59 : decode xM_serveLines.2.1 59 = .ok (.iload_n 2, 1) := by decide +kernel
theorem dM_serveLines_60 : decode xM_serveLines.2.1 60 = .ok (.iaload, 1) := by decide +kernel
theorem dM_serveLines_61 : decode xM_serveLines.2.1 61 = .ok (.iconst 0, 1) := by decide +kernel
theorem dM_serveLines_62 : decode xM_serveLines.2.1 62 = .ok (.invokevirtual 196, 3) := by decide +kernel
theorem dM_serveLines_65 : decode xM_serveLines.2.1 65 = .ok (.aload_n 0, 1) := by decide +kernel
theorem dM_serveLines_66 : decode xM_serveLines.2.1 66 = .ok (.iload_n 1, 1) := by decide +kernel
theorem dM_serveLines_67 : decode xM_serveLines.2.1 67 = .ok (.invokevirtual 202, 3) := by decide +kernel
theorem dM_serveLines_70 : decode xM_serveLines.2.1 70 = .ok (.istore_n 2, 1) := by decide +kernel
theorem dM_serveLines_71 : decode xM_serveLines.2.1 71 = .ok (.goto (-58), 3) := by decide +kernel
theorem dM_serveLines_74 : decode xM_serveLines.2.1 74 = .ok (.iinc 1 1, 3) := by decide +kernel
theorem dM_serveLines_77 : decode xM_serveLines.2.1 77 = .ok (.goto (-75), 3) := by decide +kernel
theorem dM_serveLines_80 : decode xM_serveLines.2.1 80 = .ok (.return_, 1) := by decide +kernel
def xM_valid : mt_X := (⟨"LeasedPagesModel", "valid", "(II)Z"⟩, prog_12_method_21_code, 3, (Option.some FieldType.boolean))
theorem dM_valid_0 : decode xM_valid.2.1 0 = .ok (.aload_n 0, 1) := by decide +kernel
theorem dM_valid_1 : decode xM_valid.2.1 1 = .ok (.getfield 59, 3) := by decide +kernel
theorem dM_valid_4 : decode xM_valid.2.1 4 = .ok (.iconst 4, 1) := by decide +kernel
theorem dM_valid_5 : decode xM_valid.2.1 5 = .ok (.iload_n 1, 1) := by decide +kernel
theorem dM_valid_6 : decode xM_valid.2.1 6 = .ok (.imul, 1) := by decide +kernel
theorem dM_valid_7 : decode xM_valid.2.1 7 = .ok (.iload_n 2, 1) := by decide +kernel
theorem dM_valid_8 : decode xM_valid.2.1 8 = .ok (.iadd, 1) := by decide +kernel
theorem dM_valid_9 : decode xM_valid.2.1 9 = .ok (.iaload, 1) := by decide +kernel
theorem dM_valid_10 : decode xM_valid.2.1 10 = .ok (.ifCond .le 26, 3) := by decide +kernel
theorem dM_valid_13 : decode xM_valid.2.1 13 = .ok (.aload_n 0, 1) := by decide +kernel
theorem dM_valid_14 : decode xM_valid.2.1 14 = .ok (.getfield 13, 3) := by decide +kernel
theorem dM_valid_17 : decode xM_valid.2.1 17 = .ok (.iload_n 1, 1) := by decide +kernel
theorem dM_valid_18 : decode xM_valid.2.1 18 = .ok (.iaload, 1) := by decide +kernel
theorem dM_valid_19 : decode xM_valid.2.1 19 = .ok (.aload_n 0, 1) := by decide +kernel
theorem dM_valid_20 : decode xM_valid.2.1 20 = .ok (.getfield 62, 3) := by decide +kernel
theorem dM_valid_23 : decode xM_valid.2.1 23 = .ok (.iconst 4, 1) := by decide +kernel
theorem dM_valid_24 : decode xM_valid.2.1 24 = .ok (.iload_n 1, 1) := by decide +kernel
theorem dM_valid_25 : decode xM_valid.2.1 25 = .ok (.imul, 1) := by decide +kernel
theorem dM_valid_26 : decode xM_valid.2.1 26 = .ok (.iload_n 2, 1) := by decide +kernel
theorem dM_valid_27 : decode xM_valid.2.1 27 = .ok (.iadd, 1) := by decide +kernel
theorem dM_valid_28 : decode xM_valid.2.1 28 = .ok (.iaload, 1) := by decide +kernel
theorem dM_valid_29 : decode xM_valid.2.1 29 = .ok (.if_icmp .ge 7, 3) := by decide +kernel
theorem dM_valid_32 : decode xM_valid.2.1 32 = .ok (.iconst 1, 1) := by decide +kernel
theorem dM_valid_33 : decode xM_valid.2.1 33 = .ok (.goto 4, 3) := by decide +kernel
theorem dM_valid_36 : decode xM_valid.2.1 36 = .ok (.iconst 0, 1) := by decide +kernel
theorem dM_valid_37 : decode xM_valid.2.1 37 = .ok (.ireturn, 1) := by decide +kernel
def xM_hasDirty : mt_X := (⟨"LeasedPagesModel", "hasDirty", "(II)Z"⟩, prog_12_method_22_code, 5, (Option.some FieldType.boolean))
theorem dM_hasDirty_0 : decode xM_hasDirty.2.1 0 = .ok (.iconst 0, 1) := by decide +kernel
theorem dM_hasDirty_1 : decode xM_hasDirty.2.1 1 = .ok (.istore_n 3, 1) := by decide +kernel
theorem dM_hasDirty_2 : decode xM_hasDirty.2.1 2 = .ok (.iconst 0, 1) := by decide +kernel
theorem dM_hasDirty_3 : decode xM_hasDirty.2.1 3 = .ok (.istore 4, 2) := by decide +kernel
theorem dM_hasDirty_5 : decode xM_hasDirty.2.1 5 = .ok (.iload 4, 2) := by decide +kernel
theorem dM_hasDirty_7 : decode xM_hasDirty.2.1 7 = .ok (.aload_n 0, 1) := by decide +kernel
theorem dM_hasDirty_8 : decode xM_hasDirty.2.1 8 = .ok (.getfield 74, 3) := by decide +kernel
theorem dM_hasDirty_11 : decode xM_hasDirty.2.1 11 = .ok (.iload_n 1, 1) := by decide +kernel
theorem dM_hasDirty_12 : decode xM_hasDirty.2.1 12 = .ok (.iaload, 1) := by decide +kernel
theorem dM_hasDirty_13 : decode xM_hasDirty.2.1 13 = .ok (.if_icmp .ge 37, 3) := by decide +kernel
theorem dM_hasDirty_16 : decode xM_hasDirty.2.1 16 = .ok (.iload_n 3, 1) := by decide +kernel
theorem dM_hasDirty_17 : decode xM_hasDirty.2.1 17 = .ok (.ifCond .ne 21, 3) := by decide +kernel
theorem dM_hasDirty_20 : decode xM_hasDirty.2.1 20 = .ok (.aload_n 0, 1) := by decide +kernel
theorem dM_hasDirty_21 : decode xM_hasDirty.2.1 21 = .ok (.getfield 77, 3) := by decide +kernel
theorem dM_hasDirty_24 : decode xM_hasDirty.2.1 24 = .ok (.bipush 6, 2) := by decide +kernel
theorem dM_hasDirty_26 : decode xM_hasDirty.2.1 26 = .ok (.iload_n 1, 1) := by decide +kernel
theorem dM_hasDirty_27 : decode xM_hasDirty.2.1 27 = .ok (.imul, 1) := by decide +kernel
theorem dM_hasDirty_28 : decode xM_hasDirty.2.1 28 = .ok (.iload 4, 2) := by decide +kernel
theorem dM_hasDirty_30 : decode xM_hasDirty.2.1 30 = .ok (.iadd, 1) := by decide +kernel
theorem dM_hasDirty_31 : decode xM_hasDirty.2.1 31 = .ok (.iaload, 1) := by decide +kernel
theorem dM_hasDirty_32 : decode xM_hasDirty.2.1 32 = .ok (.iconst 4, 1) := by decide +kernel
theorem dM_hasDirty_33 : decode xM_hasDirty.2.1 33 = .ok (.idiv, 1) := by decide +kernel
theorem dM_hasDirty_34 : decode xM_hasDirty.2.1 34 = .ok (.iload_n 2, 1) := by decide +kernel
theorem dM_hasDirty_35 : decode xM_hasDirty.2.1 35 = .ok (.if_icmp .ne 7, 3) := by decide +kernel
theorem dM_hasDirty_38 : decode xM_hasDirty.2.1 38 = .ok (.iconst 1, 1) := by decide +kernel
theorem dM_hasDirty_39 : decode xM_hasDirty.2.1 39 = .ok (.goto 4, 3) := by decide +kernel
theorem dM_hasDirty_42 : decode xM_hasDirty.2.1 42 = .ok (.iconst 0, 1) := by decide +kernel
theorem dM_hasDirty_43 : decode xM_hasDirty.2.1 43 = .ok (.istore_n 3, 1) := by decide +kernel
theorem dM_hasDirty_44 : decode xM_hasDirty.2.1 44 = .ok (.iinc 4 1, 3) := by decide +kernel
theorem dM_hasDirty_47 : decode xM_hasDirty.2.1 47 = .ok (.goto (-42), 3) := by decide +kernel
theorem dM_hasDirty_50 : decode xM_hasDirty.2.1 50 = .ok (.iload_n 3, 1) := by decide +kernel
theorem dM_hasDirty_51 : decode xM_hasDirty.2.1 51 = .ok (.ireturn, 1) := by decide +kernel
def xM_forget : mt_X := (⟨"LeasedPagesModel", "forget", "(III)V"⟩, prog_12_method_23_code, 8, (Option.none : Option FieldType))
theorem dM_forget_0 : decode xM_forget.2.1 0 = .ok (.iconst 0, 1) := by decide +kernel
theorem dM_forget_1 : decode xM_forget.2.1 1 = .ok (.istore 4, 2) := by decide +kernel
theorem dM_forget_3 : decode xM_forget.2.1 3 = .ok (.iconst 0, 1) := by decide +kernel
theorem dM_forget_4 : decode xM_forget.2.1 4 = .ok (.istore 5, 2) := by decide +kernel
theorem dM_forget_6 : decode xM_forget.2.1 6 = .ok (.iconst 0, 1) := by decide +kernel
theorem dM_forget_7 : decode xM_forget.2.1 7 = .ok (.istore 6, 2) := by decide +kernel
theorem dM_forget_9 : decode xM_forget.2.1 9 = .ok (.iload 6, 2) := by decide +kernel
theorem dM_forget_11 : decode xM_forget.2.1 11 = .ok (.aload_n 0, 1) := by decide +kernel
theorem dM_forget_12 : decode xM_forget.2.1 12 = .ok (.getfield 74, 3) := by decide +kernel
theorem dM_forget_15 : decode xM_forget.2.1 15 = .ok (.iload_n 1, 1) := by decide +kernel
theorem dM_forget_16 : decode xM_forget.2.1 16 = .ok (.iaload, 1) := by decide +kernel
theorem dM_forget_17 : decode xM_forget.2.1 17 = .ok (.if_icmp .ge 84, 3) := by decide +kernel
theorem dM_forget_20 : decode xM_forget.2.1 20 = .ok (.bipush 6, 2) := by decide +kernel
theorem dM_forget_22 : decode xM_forget.2.1 22 = .ok (.iload_n 1, 1) := by decide +kernel
theorem dM_forget_23 : decode xM_forget.2.1 23 = .ok (.imul, 1) := by decide +kernel
theorem dM_forget_24 : decode xM_forget.2.1 24 = .ok (.iload 6, 2) := by decide +kernel
theorem dM_forget_26 : decode xM_forget.2.1 26 = .ok (.iadd, 1) := by decide +kernel
theorem dM_forget_27 : decode xM_forget.2.1 27 = .ok (.istore 7, 2) := by decide +kernel
theorem dM_forget_29 : decode xM_forget.2.1 29 = .ok (.aload_n 0, 1) := by decide +kernel
theorem dM_forget_30 : decode xM_forget.2.1 30 = .ok (.getfield 77, 3) := by decide +kernel
theorem dM_forget_33 : decode xM_forget.2.1 33 = .ok (.iload 7, 2) := by decide +kernel
theorem dM_forget_35 : decode xM_forget.2.1 35 = .ok (.iaload, 1) := by decide +kernel
theorem dM_forget_36 : decode xM_forget.2.1 36 = .ok (.iconst 4, 1) := by decide +kernel
theorem dM_forget_37 : decode xM_forget.2.1 37 = .ok (.idiv, 1) := by decide +kernel
theorem dM_forget_38 : decode xM_forget.2.1 38 = .ok (.iload_n 2, 1) := by decide +kernel
theorem dM_forget_39 : decode xM_forget.2.1 39 = .ok (.if_icmp .ne 15, 3) := by decide +kernel
theorem dM_forget_42 : decode xM_forget.2.1 42 = .ok (.iload 5, 2) := by decide +kernel
theorem dM_forget_44 : decode xM_forget.2.1 44 = .ok (.iload_n 3, 1) := by decide +kernel
theorem dM_forget_45 : decode xM_forget.2.1 45 = .ok (.if_icmp .ge 9, 3) := by decide +kernel
theorem dM_forget_48 : decode xM_forget.2.1 48 = .ok (.iinc 5 1, 3) := by decide +kernel
theorem dM_forget_51 : decode xM_forget.2.1 51 = .ok (.goto 44, 3) := by decide +kernel
theorem dM_forget_54 : decode xM_forget.2.1 54 = .ok (.aload_n 0, 1) := by decide +kernel
theorem dM_forget_55 : decode xM_forget.2.1 55 = .ok (.getfield 77, 3) := by decide +kernel
theorem dM_forget_58 : decode xM_forget.2.1 58 = .ok (.bipush 6, 2) := by decide +kernel
theorem dM_forget_60 : decode xM_forget.2.1 60 = .ok (.iload_n 1, 1) := by decide +kernel
theorem dM_forget_61 : decode xM_forget.2.1 61 = .ok (.imul, 1) := by decide +kernel
theorem dM_forget_62 : decode xM_forget.2.1 62 = .ok (.iload 4, 2) := by decide +kernel
theorem dM_forget_64 : decode xM_forget.2.1 64 = .ok (.iadd, 1) := by decide +kernel
theorem dM_forget_65 : decode xM_forget.2.1 65 = .ok (.aload_n 0, 1) := by decide +kernel
theorem dM_forget_66 : decode xM_forget.2.1 66 = .ok (.getfield 77, 3) := by decide +kernel
theorem dM_forget_69 : decode xM_forget.2.1 69 = .ok (.iload 7, 2) := by decide +kernel
theorem dM_forget_71 : decode xM_forget.2.1 71 = .ok (.iaload, 1) := by decide +kernel
theorem dM_forget_72 : decode xM_forget.2.1 72 = .ok (.iastore, 1) := by decide +kernel
theorem dM_forget_73 : decode xM_forget.2.1 73 = .ok (.aload_n 0, 1) := by decide +kernel
theorem dM_forget_74 : decode xM_forget.2.1 74 = .ok (.getfield 80, 3) := by decide +kernel
theorem dM_forget_77 : decode xM_forget.2.1 77 = .ok (.bipush 6, 2) := by decide +kernel
theorem dM_forget_79 : decode xM_forget.2.1 79 = .ok (.iload_n 1, 1) := by decide +kernel
theorem dM_forget_80 : decode xM_forget.2.1 80 = .ok (.imul, 1) := by decide +kernel
theorem dM_forget_81 : decode xM_forget.2.1 81 = .ok (.iload 4, 2) := by decide +kernel
theorem dM_forget_83 : decode xM_forget.2.1 83 = .ok (.iadd, 1) := by decide +kernel
theorem dM_forget_84 : decode xM_forget.2.1 84 = .ok (.aload_n 0, 1) := by decide +kernel
theorem dM_forget_85 : decode xM_forget.2.1 85 = .ok (.getfield 80, 3) := by decide +kernel
theorem dM_forget_88 : decode xM_forget.2.1 88 = .ok (.iload 7, 2) := by decide +kernel
theorem dM_forget_90 : decode xM_forget.2.1 90 = .ok (.iaload, 1) := by decide +kernel
theorem dM_forget_91 : decode xM_forget.2.1 91 = .ok (.iastore, 1) := by decide +kernel
theorem dM_forget_92 : decode xM_forget.2.1 92 = .ok (.iinc 4 1, 3) := by decide +kernel
theorem dM_forget_95 : decode xM_forget.2.1 95 = .ok (.iinc 6 1, 3) := by decide +kernel
theorem dM_forget_98 : decode xM_forget.2.1 98 = .ok (.goto (-89), 3) := by decide +kernel
theorem dM_forget_101 : decode xM_forget.2.1 101 = .ok (.aload_n 0, 1) := by decide +kernel
theorem dM_forget_102 : decode xM_forget.2.1 102 = .ok (.getfield 74, 3) := by decide +kernel
theorem dM_forget_105 : decode xM_forget.2.1 105 = .ok (.iload_n 1, 1) := by decide +kernel
theorem dM_forget_106 : decode xM_forget.2.1 106 = .ok (.iload 4, 2) := by decide +kernel
theorem dM_forget_108 : decode xM_forget.2.1 108 = .ok (.iastore, 1) := by decide +kernel
theorem dM_forget_109 : decode xM_forget.2.1 109 = .ok (.return_, 1) := by decide +kernel
def xM_granted : mt_X := (⟨"LeasedPagesModel", "granted", "(IIIZI)V"⟩, prog_12_method_24_code, 7, (Option.none : Option FieldType))
theorem dM_granted_0 : decode xM_granted.2.1 0 = .ok (.aload_n 0, 1) := by decide +kernel
theorem dM_granted_1 : decode xM_granted.2.1 1 = .ok (.getfield 83, 3) := by decide +kernel
theorem dM_granted_4 : decode xM_granted.2.1 4 = .ok (.iload_n 1, 1) := by decide +kernel
theorem dM_granted_5 : decode xM_granted.2.1 5 = .ok (.iconst 0, 1) := by decide +kernel
theorem dM_granted_6 : decode xM_granted.2.1 6 = .ok (.iastore, 1) := by decide +kernel
theorem dM_granted_7 : decode xM_granted.2.1 7 = .ok (.aload_n 0, 1) := by decide +kernel
theorem dM_granted_8 : decode xM_granted.2.1 8 = .ok (.getfield 59, 3) := by decide +kernel
theorem dM_granted_11 : decode xM_granted.2.1 11 = .ok (.iconst 4, 1) := by decide +kernel
theorem dM_granted_12 : decode xM_granted.2.1 12 = .ok (.iload_n 1, 1) := by decide +kernel
theorem dM_granted_13 : decode xM_granted.2.1 13 = .ok (.imul, 1) := by decide +kernel
theorem dM_granted_14 : decode xM_granted.2.1 14 = .ok (.iload_n 2, 1) := by decide +kernel
theorem dM_granted_15 : decode xM_granted.2.1 15 = .ok (.iadd, 1) := by decide +kernel
theorem dM_granted_16 : decode xM_granted.2.1 16 = .ok (.iload_n 3, 1) := by decide +kernel
theorem dM_granted_17 : decode xM_granted.2.1 17 = .ok (.iastore, 1) := by decide +kernel
theorem dM_granted_18 : decode xM_granted.2.1 18 = .ok (.aload_n 0, 1) := by decide +kernel
theorem dM_granted_19 : decode xM_granted.2.1 19 = .ok (.getfield 62, 3) := by decide +kernel
theorem dM_granted_22 : decode xM_granted.2.1 22 = .ok (.iconst 4, 1) := by decide +kernel
theorem dM_granted_23 : decode xM_granted.2.1 23 = .ok (.iload_n 1, 1) := by decide +kernel
theorem dM_granted_24 : decode xM_granted.2.1 24 = .ok (.imul, 1) := by decide +kernel
theorem dM_granted_25 : decode xM_granted.2.1 25 = .ok (.iload_n 2, 1) := by decide +kernel
theorem dM_granted_26 : decode xM_granted.2.1 26 = .ok (.iadd, 1) := by decide +kernel
theorem dM_granted_27 : decode xM_granted.2.1 27 = .ok (.aload_n 0, 1) := by decide +kernel
theorem dM_granted_28 : decode xM_granted.2.1 28 = .ok (.getfield 101, 3) := by decide +kernel
theorem dM_granted_31 : decode xM_granted.2.1 31 = .ok (.iload_n 1, 1) := by decide +kernel
theorem dM_granted_32 : decode xM_granted.2.1 32 = .ok (.iaload, 1) := by decide +kernel
theorem dM_granted_33 : decode xM_granted.2.1 33 = .ok (.aload_n 0, 1) := by decide +kernel
theorem dM_granted_34 : decode xM_granted.2.1 34 = .ok (.getfield 131, 3) := by decide +kernel
theorem dM_granted_37 : decode xM_granted.2.1 37 = .ok (.iconst 2, 1) := by decide +kernel
theorem dM_granted_38 : decode xM_granted.2.1 38 = .ok (.idiv, 1) := by decide +kernel
theorem dM_granted_39 : decode xM_granted.2.1 39 = .ok (.iadd, 1) := by decide +kernel
theorem dM_granted_40 : decode xM_granted.2.1 40 = .ok (.iconst 2, 1) := by decide +kernel
theorem dM_granted_41 : decode xM_granted.2.1 41 = .ok (.isub, 1) := by decide +kernel
theorem dM_granted_42 : decode xM_granted.2.1 42 = .ok (.iastore, 1) := by decide +kernel
theorem dM_granted_43 : decode xM_granted.2.1 43 = .ok (.iload 4, 2) := by decide +kernel
theorem dM_granted_45 : decode xM_granted.2.1 45 = .ok (.ifCond .ne 31, 3) := by decide +kernel
theorem dM_granted_48 : decode xM_granted.2.1 48 = .ok (.aload_n 0, 1) := by decide +kernel
theorem dM_granted_49 : decode xM_granted.2.1 49 = .ok (.iload_n 1, 1) := by decide +kernel
theorem dM_granted_50 : decode xM_granted.2.1 50 = .ok (.iload_n 2, 1) := by decide +kernel
theorem dM_granted_51 : decode xM_granted.2.1 51 = .ok (.invokevirtual 206, 3) := by decide +kernel
theorem dM_granted_54 : decode xM_granted.2.1 54 = .ok (.ifCond .eq 22, 3) := by decide +kernel
theorem dM_granted_57 : decode xM_granted.2.1 57 = .ok (.aload_n 0, 1) := by decide +kernel
theorem dM_granted_58 : decode xM_granted.2.1 58 = .ok (.iload_n 1, 1) := by decide +kernel
theorem dM_granted_59 : decode xM_granted.2.1 59 = .ok (.iload_n 2, 1) := by decide +kernel
theorem dM_granted_60 : decode xM_granted.2.1 60 = .ok (.bipush 6, 2) := by decide +kernel
theorem dM_granted_62 : decode xM_granted.2.1 62 = .ok (.invokevirtual 209, 3) := by decide +kernel
theorem dM_granted_65 : decode xM_granted.2.1 65 = .ok (.aload_n 0, 1) := by decide +kernel
theorem dM_granted_66 : decode xM_granted.2.1 66 = .ok (.getfield 68, 3) := by decide +kernel
theorem dM_granted_69 : decode xM_granted.2.1 69 = .ok (.iconst 4, 1) := by decide +kernel
theorem dM_granted_70 : decode xM_granted.2.1 70 = .ok (.iload_n 1, 1) := by decide +kernel
theorem dM_granted_71 : decode xM_granted.2.1 71 = .ok (.imul, 1) := by decide +kernel
theorem dM_granted_72 : decode xM_granted.2.1 72 = .ok (.iload_n 2, 1) := by decide +kernel
theorem dM_granted_73 : decode xM_granted.2.1 73 = .ok (.iadd, 1) := by decide +kernel
theorem dM_granted_74 : decode xM_granted.2.1 74 = .ok (.iconst 1, 1) := by decide +kernel
theorem dM_granted_75 : decode xM_granted.2.1 75 = .ok (.bastore, 1) := by decide +kernel
theorem dM_granted_76 : decode xM_granted.2.1 76 = .ok (.iconst 0, 1) := by decide +kernel
theorem dM_granted_77 : decode xM_granted.2.1 77 = .ok (.istore 6, 2) := by decide +kernel
theorem dM_granted_79 : decode xM_granted.2.1 79 = .ok (.iload 6, 2) := by decide +kernel
theorem dM_granted_81 : decode xM_granted.2.1 81 = .ok (.iconst 4, 1) := by decide +kernel
theorem dM_granted_82 : decode xM_granted.2.1 82 = .ok (.if_icmp .ge 35, 3) := by decide +kernel
theorem dM_granted_85 : decode xM_granted.2.1 85 = .ok (.aload_n 0, 1) := by decide +kernel
theorem dM_granted_86 : decode xM_granted.2.1 86 = .ok (.getfield 71, 3) := by decide +kernel
theorem dM_granted_89 : decode xM_granted.2.1 89 = .ok (.bipush 16, 2) := by decide +kernel
theorem dM_granted_91 : decode xM_granted.2.1 91 = .ok (.iload_n 1, 1) := by decide +kernel
theorem dM_granted_92 : decode xM_granted.2.1 92 = .ok (.imul, 1) := by decide +kernel
theorem dM_granted_93 : decode xM_granted.2.1 93 = .ok (.iconst 4, 1) := by decide +kernel
theorem dM_granted_94 : decode xM_granted.2.1 94 = .ok (.iload_n 2, 1) := by decide +kernel
theorem dM_granted_95 : decode xM_granted.2.1 95 = .ok (.imul, 1) := by decide +kernel
theorem dM_granted_96 : decode xM_granted.2.1 96 = .ok (.iadd, 1) := by decide +kernel
theorem dM_granted_97 : decode xM_granted.2.1 97 = .ok (.iload 6, 2) := by decide +kernel
theorem dM_granted_99 : decode xM_granted.2.1 99 = .ok (.iadd, 1) := by decide +kernel
theorem dM_granted_100 : decode xM_granted.2.1 100 = .ok (.aload_n 0, 1) := by decide +kernel
theorem dM_granted_101 : decode xM_granted.2.1 101 = .ok (.getfield 128, 3) := by decide +kernel
theorem dM_granted_104 : decode xM_granted.2.1 104 = .ok (.iload 5, 2) := by decide +kernel
theorem dM_granted_106 : decode xM_granted.2.1 106 = .ok (.iload 6, 2) := by decide +kernel
theorem dM_granted_108 : decode xM_granted.2.1 108 = .ok (.iadd, 1) := by decide +kernel
theorem dM_granted_109 : decode xM_granted.2.1 109 = .ok (.iaload, 1) := by decide +kernel
theorem dM_granted_110 : decode xM_granted.2.1 110 = .ok (.iastore, 1) := by decide +kernel
theorem dM_granted_111 : decode xM_granted.2.1 111 = .ok (.iinc 6 1, 3) := by decide +kernel
theorem dM_granted_114 : decode xM_granted.2.1 114 = .ok (.goto (-35), 3) := by decide +kernel
theorem dM_granted_117 : decode xM_granted.2.1 117 = .ok (.iconst 0, 1) := by decide +kernel
theorem dM_granted_118 : decode xM_granted.2.1 118 = .ok (.istore 6, 2) := by decide +kernel
theorem dM_granted_120 : decode xM_granted.2.1 120 = .ok (.iload 6, 2) := by decide +kernel
theorem dM_granted_122 : decode xM_granted.2.1 122 = .ok (.aload_n 0, 1) := by decide +kernel
theorem dM_granted_123 : decode xM_granted.2.1 123 = .ok (.getfield 74, 3) := by decide +kernel
theorem dM_granted_126 : decode xM_granted.2.1 126 = .ok (.iload_n 1, 1) := by decide +kernel
theorem dM_granted_127 : decode xM_granted.2.1 127 = .ok (.iaload, 1) := by decide +kernel
theorem dM_granted_128 : decode xM_granted.2.1 128 = .ok (.if_icmp .ge 61, 3) := by decide +kernel
theorem dM_granted_131 : decode xM_granted.2.1 131 = .ok (.aload_n 0, 1) := by decide +kernel
theorem dM_granted_132 : decode xM_granted.2.1 132 = .ok (.getfield 77, 3) := by decide +kernel
theorem dM_granted_135 : decode xM_granted.2.1 135 = .ok (.bipush 6, 2) := by decide +kernel
theorem dM_granted_137 : decode xM_granted.2.1 137 = .ok (.iload_n 1, 1) := by decide +kernel
theorem dM_granted_138 : decode xM_granted.2.1 138 = .ok (.imul, 1) := by decide +kernel
theorem dM_granted_139 : decode xM_granted.2.1 139 = .ok (.iload 6, 2) := by decide +kernel
theorem dM_granted_141 : decode xM_granted.2.1 141 = .ok (.iadd, 1) := by decide +kernel
theorem dM_granted_142 : decode xM_granted.2.1 142 = .ok (.iaload, 1) := by decide +kernel
theorem dM_granted_143 : decode xM_granted.2.1 143 = .ok (.iconst 4, 1) := by decide +kernel
theorem dM_granted_144 : decode xM_granted.2.1 144 = .ok (.idiv, 1) := by decide +kernel
theorem dM_granted_145 : decode xM_granted.2.1 145 = .ok (.iload_n 2, 1) := by decide +kernel
theorem dM_granted_146 : decode xM_granted.2.1 146 = .ok (.if_icmp .ne 37, 3) := by decide +kernel
theorem dM_granted_149 : decode xM_granted.2.1 149 = .ok (.aload_n 0, 1) := by decide +kernel
theorem dM_granted_150 : decode xM_granted.2.1 150 = .ok (.getfield 71, 3) := by decide +kernel
theorem dM_granted_153 : decode xM_granted.2.1 153 = .ok (.bipush 16, 2) := by decide +kernel
theorem dM_granted_155 : decode xM_granted.2.1 155 = .ok (.iload_n 1, 1) := by decide +kernel
theorem dM_granted_156 : decode xM_granted.2.1 156 = .ok (.imul, 1) := by decide +kernel
theorem dM_granted_157 : decode xM_granted.2.1 157 = .ok (.aload_n 0, 1) := by decide +kernel
theorem dM_granted_158 : decode xM_granted.2.1 158 = .ok (.getfield 77, 3) := by decide +kernel
theorem dM_granted_161 : decode xM_granted.2.1 161 = .ok (.bipush 6, 2) := by decide +kernel
theorem dM_granted_163 : decode xM_granted.2.1 163 = .ok (.iload_n 1, 1) := by decide +kernel
theorem dM_granted_164 : decode xM_granted.2.1 164 = .ok (.imul, 1) := by decide +kernel
theorem dM_granted_165 : decode xM_granted.2.1 165 = .ok (.iload 6, 2) := by decide +kernel
theorem dM_granted_167 : decode xM_granted.2.1 167 = .ok (.iadd, 1) := by decide +kernel
theorem dM_granted_168 : decode xM_granted.2.1 168 = .ok (.iaload, 1) := by decide +kernel
theorem dM_granted_169 : decode xM_granted.2.1 169 = .ok (.iadd, 1) := by decide +kernel
theorem dM_granted_170 : decode xM_granted.2.1 170 = .ok (.aload_n 0, 1) := by decide +kernel
theorem dM_granted_171 : decode xM_granted.2.1 171 = .ok (.getfield 80, 3) := by decide +kernel
theorem dM_granted_174 : decode xM_granted.2.1 174 = .ok (.bipush 6, 2) := by decide +kernel
theorem dM_granted_176 : decode xM_granted.2.1 176 = .ok (.iload_n 1, 1) := by decide +kernel
theorem dM_granted_177 : decode xM_granted.2.1 177 = .ok (.imul, 1) := by decide +kernel
theorem dM_granted_178 : decode xM_granted.2.1 178 = .ok (.iload 6, 2) := by decide +kernel
theorem dM_granted_180 : decode xM_granted.2.1 180 = .ok (.iadd, 1) := by decide +kernel
theorem dM_granted_181 : decode xM_granted.2.1 181 = .ok (.iaload, 1) := by decide +kernel
theorem dM_granted_182 : decode xM_granted.2.1 182 = .ok (.iastore, 1) := by decide +kernel
theorem dM_granted_183 : decode xM_granted.2.1 183 = .ok (.iinc 6 1, 3) := by decide +kernel
theorem dM_granted_186 : decode xM_granted.2.1 186 = .ok (.goto (-66), 3) := by decide +kernel
theorem dM_granted_189 : decode xM_granted.2.1 189 = .ok (.aload_n 0, 1) := by decide +kernel
theorem dM_granted_190 : decode xM_granted.2.1 190 = .ok (.getfield 65, 3) := by decide +kernel
theorem dM_granted_193 : decode xM_granted.2.1 193 = .ok (.iconst 4, 1) := by decide +kernel
theorem dM_granted_194 : decode xM_granted.2.1 194 = .ok (.iload_n 1, 1) := by decide +kernel
theorem dM_granted_195 : decode xM_granted.2.1 195 = .ok (.imul, 1) := by decide +kernel
theorem dM_granted_196 : decode xM_granted.2.1 196 = .ok (.iload_n 2, 1) := by decide +kernel
theorem dM_granted_197 : decode xM_granted.2.1 197 = .ok (.iadd, 1) := by decide +kernel
theorem dM_granted_198 : decode xM_granted.2.1 198 = .ok (.iconst 0, 1) := by decide +kernel
theorem dM_granted_199 : decode xM_granted.2.1 199 = .ok (.bastore, 1) := by decide +kernel
theorem dM_granted_200 : decode xM_granted.2.1 200 = .ok (.return_, 1) := by decide +kernel
def xM_replied : mt_X := (⟨"LeasedPagesModel", "replied", "(III)V"⟩, prog_12_method_25_code, 5, (Option.none : Option FieldType))
theorem dM_replied_0 : decode xM_replied.2.1 0 = .ok (.aload_n 0, 1) := by decide +kernel
theorem dM_replied_1 : decode xM_replied.2.1 1 = .ok (.getfield 83, 3) := by decide +kernel
theorem dM_replied_4 : decode xM_replied.2.1 4 = .ok (.iload_n 2, 1) := by decide +kernel
theorem dM_replied_5 : decode xM_replied.2.1 5 = .ok (.iaload, 1) := by decide +kernel
theorem dM_replied_6 : decode xM_replied.2.1 6 = .ok (.iconst 2, 1) := by decide +kernel
theorem dM_replied_7 : decode xM_replied.2.1 7 = .ok (.if_icmp .ne 7, 3) := by decide +kernel
theorem dM_replied_10 : decode xM_replied.2.1 10 = .ok (.iconst 1, 1) := by decide +kernel
theorem dM_replied_11 : decode xM_replied.2.1 11 = .ok (.goto 4, 3) := by decide +kernel
theorem dM_replied_14 : decode xM_replied.2.1 14 = .ok (.iconst 0, 1) := by decide +kernel
theorem dM_replied_15 : decode xM_replied.2.1 15 = .ok (.istore 4, 2) := by decide +kernel
theorem dM_replied_17 : decode xM_replied.2.1 17 = .ok (.aload_n 0, 1) := by decide +kernel
theorem dM_replied_18 : decode xM_replied.2.1 18 = .ok (.getfield 83, 3) := by decide +kernel
theorem dM_replied_21 : decode xM_replied.2.1 21 = .ok (.iload_n 2, 1) := by decide +kernel
theorem dM_replied_22 : decode xM_replied.2.1 22 = .ok (.iconst 0, 1) := by decide +kernel
theorem dM_replied_23 : decode xM_replied.2.1 23 = .ok (.iastore, 1) := by decide +kernel
theorem dM_replied_24 : decode xM_replied.2.1 24 = .ok (.iload 4, 2) := by decide +kernel
theorem dM_replied_26 : decode xM_replied.2.1 26 = .ok (.ifCond .eq 16, 3) := by decide +kernel
theorem dM_replied_29 : decode xM_replied.2.1 29 = .ok (.iload_n 1, 1) := by decide +kernel
theorem dM_replied_30 : decode xM_replied.2.1 30 = .ok (.bipush 6, 2) := by decide +kernel
theorem dM_replied_32 : decode xM_replied.2.1 32 = .ok (.if_icmp .ne 10, 3) := by decide +kernel
theorem dM_replied_35 : decode xM_replied.2.1 35 = .ok (.aload_n 0, 1) := by decide +kernel
theorem dM_replied_36 : decode xM_replied.2.1 36 = .ok (.iload_n 2, 1) := by decide +kernel
theorem dM_replied_37 : decode xM_replied.2.1 37 = .ok (.iload_n 3, 1) := by decide +kernel
theorem dM_replied_38 : decode xM_replied.2.1 38 = .ok (.iconst 1, 1) := by decide +kernel
theorem dM_replied_39 : decode xM_replied.2.1 39 = .ok (.invokevirtual 209, 3) := by decide +kernel
theorem dM_replied_42 : decode xM_replied.2.1 42 = .ok (.iload 4, 2) := by decide +kernel
theorem dM_replied_44 : decode xM_replied.2.1 44 = .ok (.ifCond .eq 39, 3) := by decide +kernel
theorem dM_replied_47 : decode xM_replied.2.1 47 = .ok (.iload_n 1, 1) := by decide +kernel
theorem dM_replied_48 : decode xM_replied.2.1 48 = .ok (.bipush 7, 2) := by decide +kernel
theorem dM_replied_50 : decode xM_replied.2.1 50 = .ok (.if_icmp .ne 33, 3) := by decide +kernel
theorem dM_replied_53 : decode xM_replied.2.1 53 = .ok (.aload_n 0, 1) := by decide +kernel
theorem dM_replied_54 : decode xM_replied.2.1 54 = .ok (.iload_n 2, 1) := by decide +kernel
theorem dM_replied_55 : decode xM_replied.2.1 55 = .ok (.iload_n 3, 1) := by decide +kernel
theorem dM_replied_56 : decode xM_replied.2.1 56 = .ok (.bipush 6, 2) := by decide +kernel
theorem dM_replied_58 : decode xM_replied.2.1 58 = .ok (.invokevirtual 209, 3) := by decide +kernel
theorem dM_replied_61 : decode xM_replied.2.1 61 = .ok (.aload_n 0, 1) := by decide +kernel
theorem dM_replied_62 : decode xM_replied.2.1 62 = .ok (.getfield 68, 3) := by decide +kernel
theorem dM_replied_65 : decode xM_replied.2.1 65 = .ok (.iconst 4, 1) := by decide +kernel
theorem dM_replied_66 : decode xM_replied.2.1 66 = .ok (.iload_n 2, 1) := by decide +kernel
theorem dM_replied_67 : decode xM_replied.2.1 67 = .ok (.imul, 1) := by decide +kernel
theorem dM_replied_68 : decode xM_replied.2.1 68 = .ok (.iload_n 3, 1) := by decide +kernel
theorem dM_replied_69 : decode xM_replied.2.1 69 = .ok (.iadd, 1) := by decide +kernel
theorem dM_replied_70 : decode xM_replied.2.1 70 = .ok (.iconst 1, 1) := by decide +kernel
theorem dM_replied_71 : decode xM_replied.2.1 71 = .ok (.bastore, 1) := by decide +kernel
theorem dM_replied_72 : decode xM_replied.2.1 72 = .ok (.aload_n 0, 1) := by decide +kernel
theorem dM_replied_73 : decode xM_replied.2.1 73 = .ok (.getfield 59, 3) := by decide +kernel
theorem dM_replied_76 : decode xM_replied.2.1 76 = .ok (.iconst 4, 1) := by decide +kernel
theorem dM_replied_77 : decode xM_replied.2.1 77 = .ok (.iload_n 2, 1) := by decide +kernel
theorem dM_replied_78 : decode xM_replied.2.1 78 = .ok (.imul, 1) := by decide +kernel
theorem dM_replied_79 : decode xM_replied.2.1 79 = .ok (.iload_n 3, 1) := by decide +kernel
theorem dM_replied_80 : decode xM_replied.2.1 80 = .ok (.iadd, 1) := by decide +kernel
theorem dM_replied_81 : decode xM_replied.2.1 81 = .ok (.iconst 0, 1) := by decide +kernel
theorem dM_replied_82 : decode xM_replied.2.1 82 = .ok (.iastore, 1) := by decide +kernel
theorem dM_replied_83 : decode xM_replied.2.1 83 = .ok (.return_, 1) := by decide +kernel
def xM_works : mt_X := (⟨"LeasedPagesModel", "works", "(I)Z"⟩, prog_12_method_26_code, 2, (Option.some FieldType.boolean))
theorem dM_works_0 : decode xM_works.2.1 0 = .ok (.iload_n 1, 1) := by decide +kernel
theorem dM_works_1 : decode xM_works.2.1 1 = .ok (.iconst 0, 1) := by decide +kernel
theorem dM_works_2 : decode xM_works.2.1 2 = .ok (.iconst 2, 1) := by decide +kernel
theorem dM_works_3 : decode xM_works.2.1 3 = .ok (.invokestatic 138, 3) := by decide +kernel
theorem dM_works_6 : decode xM_works.2.1 6 = .ok (.ifCond .eq 16, 3) := by decide +kernel
theorem dM_works_9 : decode xM_works.2.1 9 = .ok (.aload_n 0, 1) := by decide +kernel
theorem dM_works_10 : decode xM_works.2.1 10 = .ok (.getfield 7, 3) := by decide +kernel
theorem dM_works_13 : decode xM_works.2.1 13 = .ok (.iload_n 1, 1) := by decide +kernel
theorem dM_works_14 : decode xM_works.2.1 14 = .ok (.baload, 1) := by decide +kernel
theorem dM_works_15 : decode xM_works.2.1 15 = .ok (.ifCond .ne 7, 3) := by decide +kernel
theorem dM_works_18 : decode xM_works.2.1 18 = .ok (.iconst 1, 1) := by decide +kernel
theorem dM_works_19 : decode xM_works.2.1 19 = .ok (.goto 4, 3) := by decide +kernel
theorem dM_works_22 : decode xM_works.2.1 22 = .ok (.iconst 0, 1) := by decide +kernel
theorem dM_works_23 : decode xM_works.2.1 23 = .ok (.ireturn, 1) := by decide +kernel
def xM_lost : mt_X := (⟨"LeasedPagesModel", "lost", "(II)Z"⟩, prog_12_method_27_code, 4, (Option.some FieldType.boolean))
theorem dM_lost_0 : decode xM_lost.2.1 0 = .ok (.aload_n 0, 1) := by decide +kernel
theorem dM_lost_1 : decode xM_lost.2.1 1 = .ok (.getfield 68, 3) := by decide +kernel
theorem dM_lost_4 : decode xM_lost.2.1 4 = .ok (.iconst 4, 1) := by decide +kernel
theorem dM_lost_5 : decode xM_lost.2.1 5 = .ok (.iload_n 1, 1) := by decide +kernel
theorem dM_lost_6 : decode xM_lost.2.1 6 = .ok (.imul, 1) := by decide +kernel
theorem dM_lost_7 : decode xM_lost.2.1 7 = .ok (.iload_n 2, 1) := by decide +kernel
theorem dM_lost_8 : decode xM_lost.2.1 8 = .ok (.iadd, 1) := by decide +kernel
theorem dM_lost_9 : decode xM_lost.2.1 9 = .ok (.baload, 1) := by decide +kernel
theorem dM_lost_10 : decode xM_lost.2.1 10 = .ok (.istore_n 3, 1) := by decide +kernel
theorem dM_lost_11 : decode xM_lost.2.1 11 = .ok (.aload_n 0, 1) := by decide +kernel
theorem dM_lost_12 : decode xM_lost.2.1 12 = .ok (.getfield 68, 3) := by decide +kernel
theorem dM_lost_15 : decode xM_lost.2.1 15 = .ok (.iconst 4, 1) := by decide +kernel
theorem dM_lost_16 : decode xM_lost.2.1 16 = .ok (.iload_n 1, 1) := by decide +kernel
theorem dM_lost_17 : decode xM_lost.2.1 17 = .ok (.imul, 1) := by decide +kernel
theorem dM_lost_18 : decode xM_lost.2.1 18 = .ok (.iload_n 2, 1) := by decide +kernel
theorem dM_lost_19 : decode xM_lost.2.1 19 = .ok (.iadd, 1) := by decide +kernel
theorem dM_lost_20 : decode xM_lost.2.1 20 = .ok (.iconst 0, 1) := by decide +kernel
theorem dM_lost_21 : decode xM_lost.2.1 21 = .ok (.bastore, 1) := by decide +kernel
theorem dM_lost_22 : decode xM_lost.2.1 22 = .ok (.iload_n 3, 1) := by decide +kernel
theorem dM_lost_23 : decode xM_lost.2.1 23 = .ok (.ireturn, 1) := by decide +kernel
def xM_open : mt_X := (⟨"LeasedPagesModel", "open", "(IIIIZ)I"⟩, prog_12_method_28_code, 6, (Option.some FieldType.int))
theorem dM_open_0 : decode xM_open.2.1 0 = .ok (.aload_n 0, 1) := by decide +kernel
theorem dM_open_1 : decode xM_open.2.1 1 = .ok (.getfield 56, 3) := by decide +kernel
theorem dM_open_4 : decode xM_open.2.1 4 = .ok (.iload_n 1, 1) := by decide +kernel
theorem dM_open_5 : decode xM_open.2.1 5 = .ok (.dup2, 1) := by decide +kernel
theorem dM_open_6 : decode xM_open.2.1 6 = .ok (.iaload, 1) := by decide +kernel
theorem dM_open_7 : decode xM_open.2.1 7 = .ok (.iconst 1, 1) := by decide +kernel
theorem dM_open_8 : decode xM_open.2.1 8 = .ok (.iadd, 1) := by decide +kernel
theorem dM_open_9 : decode xM_open.2.1 9 = .ok (.iastore, 1) := by decide +kernel
theorem dM_open_10 : decode xM_open.2.1 10 = .ok (.aload_n 0, 1) := by decide +kernel
theorem dM_open_11 : decode xM_open.2.1 11 = .ok (.getfield 83, 3) := by decide +kernel
theorem dM_open_14 : decode xM_open.2.1 14 = .ok (.iload_n 1, 1) := by decide +kernel
theorem dM_open_15 : decode xM_open.2.1 15 = .ok (.iload_n 2, 1) := by decide +kernel
theorem dM_open_16 : decode xM_open.2.1 16 = .ok (.iastore, 1) := by decide +kernel
theorem dM_open_17 : decode xM_open.2.1 17 = .ok (.aload_n 0, 1) := by decide +kernel
theorem dM_open_18 : decode xM_open.2.1 18 = .ok (.getfield 86, 3) := by decide +kernel
theorem dM_open_21 : decode xM_open.2.1 21 = .ok (.iload_n 1, 1) := by decide +kernel
theorem dM_open_22 : decode xM_open.2.1 22 = .ok (.iload_n 3, 1) := by decide +kernel
theorem dM_open_23 : decode xM_open.2.1 23 = .ok (.iastore, 1) := by decide +kernel
theorem dM_open_24 : decode xM_open.2.1 24 = .ok (.aload_n 0, 1) := by decide +kernel
theorem dM_open_25 : decode xM_open.2.1 25 = .ok (.getfield 89, 3) := by decide +kernel
theorem dM_open_28 : decode xM_open.2.1 28 = .ok (.iload_n 1, 1) := by decide +kernel
theorem dM_open_29 : decode xM_open.2.1 29 = .ok (.iload 4, 2) := by decide +kernel
theorem dM_open_31 : decode xM_open.2.1 31 = .ok (.iastore, 1) := by decide +kernel
theorem dM_open_32 : decode xM_open.2.1 32 = .ok (.aload_n 0, 1) := by decide +kernel
theorem dM_open_33 : decode xM_open.2.1 33 = .ok (.getfield 92, 3) := by decide +kernel
theorem dM_open_36 : decode xM_open.2.1 36 = .ok (.iload_n 1, 1) := by decide +kernel
theorem dM_open_37 : decode xM_open.2.1 37 = .ok (.iload 5, 2) := by decide +kernel
theorem dM_open_39 : decode xM_open.2.1 39 = .ok (.bastore, 1) := by decide +kernel
theorem dM_open_40 : decode xM_open.2.1 40 = .ok (.aload_n 0, 1) := by decide +kernel
theorem dM_open_41 : decode xM_open.2.1 41 = .ok (.getfield 101, 3) := by decide +kernel
theorem dM_open_44 : decode xM_open.2.1 44 = .ok (.iload_n 1, 1) := by decide +kernel
theorem dM_open_45 : decode xM_open.2.1 45 = .ok (.aload_n 0, 1) := by decide +kernel
theorem dM_open_46 : decode xM_open.2.1 46 = .ok (.getfield 13, 3) := by decide +kernel
theorem dM_open_49 : decode xM_open.2.1 49 = .ok (.iload_n 1, 1) := by decide +kernel
theorem dM_open_50 : decode xM_open.2.1 50 = .ok (.iaload, 1) := by decide +kernel
theorem dM_open_51 : decode xM_open.2.1 51 = .ok (.iastore, 1) := by decide +kernel
theorem dM_open_52 : decode xM_open.2.1 52 = .ok (.aload_n 0, 1) := by decide +kernel
theorem dM_open_53 : decode xM_open.2.1 53 = .ok (.iload_n 1, 1) := by decide +kernel
theorem dM_open_54 : decode xM_open.2.1 54 = .ok (.invokevirtual 212, 3) := by decide +kernel
theorem dM_open_57 : decode xM_open.2.1 57 = .ok (.aload_n 0, 1) := by decide +kernel
theorem dM_open_58 : decode xM_open.2.1 58 = .ok (.getfield 56, 3) := by decide +kernel
theorem dM_open_61 : decode xM_open.2.1 61 = .ok (.iload_n 1, 1) := by decide +kernel
theorem dM_open_62 : decode xM_open.2.1 62 = .ok (.iaload, 1) := by decide +kernel
theorem dM_open_63 : decode xM_open.2.1 63 = .ok (.ireturn, 1) := by decide +kernel
