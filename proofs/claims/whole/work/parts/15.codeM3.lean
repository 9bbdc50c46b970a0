/-! Method constants and decode rows, written by wip/whole/gen/code.py out of the listing. -/
def xM_acquire : mt_X := (⟨"LeasedPagesModel", "acquire", "(III)I"⟩, prog_12_method_29_code, 6, (Option.some FieldType.int))
theorem dM_acquire_0 : decode xM_acquire.2.1 0 = .ok (.aload_n 0, 1) := by decide +kernel
theorem dM_acquire_1 : decode xM_acquire.2.1 1 = .ok (.iload_n 1, 1) := by decide +kernel
theorem dM_acquire_2 : decode xM_acquire.2.1 2 = .ok (.invokevirtual 215, 3) := by decide +kernel
theorem dM_acquire_5 : decode xM_acquire.2.1 5 = .ok (.ifCond .eq 30, 3) := by decide +kernel
theorem dM_acquire_8 : decode xM_acquire.2.1 8 = .ok (.iload_n 2, 1) := by decide +kernel
theorem dM_acquire_9 : decode xM_acquire.2.1 9 = .ok (.iconst 0, 1) := by decide +kernel
theorem dM_acquire_10 : decode xM_acquire.2.1 10 = .ok (.iconst 3, 1) := by decide +kernel
theorem dM_acquire_11 : decode xM_acquire.2.1 11 = .ok (.invokestatic 138, 3) := by decide +kernel
theorem dM_acquire_14 : decode xM_acquire.2.1 14 = .ok (.ifCond .eq 21, 3) := by decide +kernel
theorem dM_acquire_17 : decode xM_acquire.2.1 17 = .ok (.iload_n 3, 1) := by decide +kernel
theorem dM_acquire_18 : decode xM_acquire.2.1 18 = .ok (.iconst 1, 1) := by decide +kernel
theorem dM_acquire_19 : decode xM_acquire.2.1 19 = .ok (.iconst 2, 1) := by decide +kernel
theorem dM_acquire_20 : decode xM_acquire.2.1 20 = .ok (.invokestatic 138, 3) := by decide +kernel
theorem dM_acquire_23 : decode xM_acquire.2.1 23 = .ok (.ifCond .eq 12, 3) := by decide +kernel
theorem dM_acquire_26 : decode xM_acquire.2.1 26 = .ok (.aload_n 0, 1) := by decide +kernel
theorem dM_acquire_27 : decode xM_acquire.2.1 27 = .ok (.getfield 83, 3) := by decide +kernel
theorem dM_acquire_30 : decode xM_acquire.2.1 30 = .ok (.iload_n 1, 1) := by decide +kernel
theorem dM_acquire_31 : decode xM_acquire.2.1 31 = .ok (.iaload, 1) := by decide +kernel
theorem dM_acquire_32 : decode xM_acquire.2.1 32 = .ok (.ifCond .le 5, 3) := by decide +kernel
theorem dM_acquire_35 : decode xM_acquire.2.1 35 = .ok (.iconst (-1), 1) := by decide +kernel
theorem dM_acquire_36 : decode xM_acquire.2.1 36 = .ok (.ireturn, 1) := by decide +kernel
theorem dM_acquire_37 : decode xM_acquire.2.1 37 = .ok (.aload_n 0, 1) := by decide +kernel
theorem dM_acquire_38 : decode xM_acquire.2.1 38 = .ok (.iload_n 1, 1) := by decide +kernel
theorem dM_acquire_39 : decode xM_acquire.2.1 39 = .ok (.iload_n 2, 1) := by decide +kernel
theorem dM_acquire_40 : decode xM_acquire.2.1 40 = .ok (.invokevirtual 218, 3) := by decide +kernel
theorem dM_acquire_43 : decode xM_acquire.2.1 43 = .ok (.ifCond .eq 6, 3) := by decide +kernel
theorem dM_acquire_46 : decode xM_acquire.2.1 46 = .ok (.bipush (-3), 2) := by decide +kernel
theorem dM_acquire_48 : decode xM_acquire.2.1 48 = .ok (.ireturn, 1) := by decide +kernel
theorem dM_acquire_49 : decode xM_acquire.2.1 49 = .ok (.aload_n 0, 1) := by decide +kernel
theorem dM_acquire_50 : decode xM_acquire.2.1 50 = .ok (.iload_n 1, 1) := by decide +kernel
theorem dM_acquire_51 : decode xM_acquire.2.1 51 = .ok (.iload_n 2, 1) := by decide +kernel
theorem dM_acquire_52 : decode xM_acquire.2.1 52 = .ok (.invokevirtual 221, 3) := by decide +kernel
theorem dM_acquire_55 : decode xM_acquire.2.1 55 = .ok (.istore 4, 2) := by decide +kernel
theorem dM_acquire_57 : decode xM_acquire.2.1 57 = .ok (.iload 4, 2) := by decide +kernel
theorem dM_acquire_59 : decode xM_acquire.2.1 59 = .ok (.ifCond .eq 17, 3) := by decide +kernel
theorem dM_acquire_62 : decode xM_acquire.2.1 62 = .ok (.aload_n 0, 1) := by decide +kernel
theorem dM_acquire_63 : decode xM_acquire.2.1 63 = .ok (.getfield 59, 3) := by decide +kernel
theorem dM_acquire_66 : decode xM_acquire.2.1 66 = .ok (.iconst 4, 1) := by decide +kernel
theorem dM_acquire_67 : decode xM_acquire.2.1 67 = .ok (.iload_n 1, 1) := by decide +kernel
theorem dM_acquire_68 : decode xM_acquire.2.1 68 = .ok (.imul, 1) := by decide +kernel
theorem dM_acquire_69 : decode xM_acquire.2.1 69 = .ok (.iload_n 2, 1) := by decide +kernel
theorem dM_acquire_70 : decode xM_acquire.2.1 70 = .ok (.iadd, 1) := by decide +kernel
theorem dM_acquire_71 : decode xM_acquire.2.1 71 = .ok (.iaload, 1) := by decide +kernel
theorem dM_acquire_72 : decode xM_acquire.2.1 72 = .ok (.iconst 2, 1) := by decide +kernel
theorem dM_acquire_73 : decode xM_acquire.2.1 73 = .ok (.if_icmp .eq 12, 3) := by decide +kernel
theorem dM_acquire_76 : decode xM_acquire.2.1 76 = .ok (.aload_n 0, 1) := by decide +kernel
theorem dM_acquire_77 : decode xM_acquire.2.1 77 = .ok (.iload_n 1, 1) := by decide +kernel
theorem dM_acquire_78 : decode xM_acquire.2.1 78 = .ok (.iload_n 2, 1) := by decide +kernel
theorem dM_acquire_79 : decode xM_acquire.2.1 79 = .ok (.invokevirtual 206, 3) := by decide +kernel
theorem dM_acquire_82 : decode xM_acquire.2.1 82 = .ok (.ifCond .eq 7, 3) := by decide +kernel
theorem dM_acquire_85 : decode xM_acquire.2.1 85 = .ok (.iconst 2, 1) := by decide +kernel
theorem dM_acquire_86 : decode xM_acquire.2.1 86 = .ok (.goto 4, 3) := by decide +kernel
theorem dM_acquire_89 : decode xM_acquire.2.1 89 = .ok (.iload_n 3, 1) := by decide +kernel
theorem dM_acquire_90 : decode xM_acquire.2.1 90 = .ok (.istore 5, 2) := by decide +kernel
theorem dM_acquire_92 : decode xM_acquire.2.1 92 = .ok (.aload_n 0, 1) := by decide +kernel
theorem dM_acquire_93 : decode xM_acquire.2.1 93 = .ok (.iload_n 1, 1) := by decide +kernel
theorem dM_acquire_94 : decode xM_acquire.2.1 94 = .ok (.iconst 1, 1) := by decide +kernel
theorem dM_acquire_95 : decode xM_acquire.2.1 95 = .ok (.iload_n 2, 1) := by decide +kernel
theorem dM_acquire_96 : decode xM_acquire.2.1 96 = .ok (.iload 5, 2) := by decide +kernel
theorem dM_acquire_98 : decode xM_acquire.2.1 98 = .ok (.iload 4, 2) := by decide +kernel
theorem dM_acquire_100 : decode xM_acquire.2.1 100 = .ok (.ifCond .eq 22, 3) := by decide +kernel
theorem dM_acquire_103 : decode xM_acquire.2.1 103 = .ok (.aload_n 0, 1) := by decide +kernel
theorem dM_acquire_104 : decode xM_acquire.2.1 104 = .ok (.getfield 59, 3) := by decide +kernel
theorem dM_acquire_107 : decode xM_acquire.2.1 107 = .ok (.iconst 4, 1) := by decide +kernel
theorem dM_acquire_108 : decode xM_acquire.2.1 108 = .ok (.iload_n 1, 1) := by decide +kernel
theorem dM_acquire_109 : decode xM_acquire.2.1 109 = .ok (.imul, 1) := by decide +kernel
theorem dM_acquire_110 : decode xM_acquire.2.1 110 = .ok (.iload_n 2, 1) := by decide +kernel
theorem dM_acquire_111 : decode xM_acquire.2.1 111 = .ok (.iadd, 1) := by decide +kernel
theorem dM_acquire_112 : decode xM_acquire.2.1 112 = .ok (.iaload, 1) := by decide +kernel
theorem dM_acquire_113 : decode xM_acquire.2.1 113 = .ok (.iload 5, 2) := by decide +kernel
theorem dM_acquire_115 : decode xM_acquire.2.1 115 = .ok (.if_icmp .lt 7, 3) := by decide +kernel
theorem dM_acquire_118 : decode xM_acquire.2.1 118 = .ok (.iconst 1, 1) := by decide +kernel
theorem dM_acquire_119 : decode xM_acquire.2.1 119 = .ok (.goto 4, 3) := by decide +kernel
theorem dM_acquire_122 : decode xM_acquire.2.1 122 = .ok (.iconst 0, 1) := by decide +kernel
theorem dM_acquire_123 : decode xM_acquire.2.1 123 = .ok (.invokevirtual 224, 3) := by decide +kernel
theorem dM_acquire_126 : decode xM_acquire.2.1 126 = .ok (.ireturn, 1) := by decide +kernel
def xM_read : mt_X := (⟨"LeasedPagesModel", "read", "(IIII)I"⟩, prog_12_method_30_code, 5, (Option.some FieldType.int))
theorem dM_read_0 : decode xM_read.2.1 0 = .ok (.aload_n 0, 1) := by decide +kernel
theorem dM_read_1 : decode xM_read.2.1 1 = .ok (.iload_n 1, 1) := by decide +kernel
theorem dM_read_2 : decode xM_read.2.1 2 = .ok (.invokevirtual 215, 3) := by decide +kernel
theorem dM_read_5 : decode xM_read.2.1 5 = .ok (.ifCond .eq 31, 3) := by decide +kernel
theorem dM_read_8 : decode xM_read.2.1 8 = .ok (.iload_n 2, 1) := by decide +kernel
theorem dM_read_9 : decode xM_read.2.1 9 = .ok (.iconst 0, 1) := by decide +kernel
theorem dM_read_10 : decode xM_read.2.1 10 = .ok (.iconst 3, 1) := by decide +kernel
theorem dM_read_11 : decode xM_read.2.1 11 = .ok (.invokestatic 138, 3) := by decide +kernel
theorem dM_read_14 : decode xM_read.2.1 14 = .ok (.ifCond .eq 22, 3) := by decide +kernel
theorem dM_read_17 : decode xM_read.2.1 17 = .ok (.iload_n 3, 1) := by decide +kernel
theorem dM_read_18 : decode xM_read.2.1 18 = .ok (.iconst 0, 1) := by decide +kernel
theorem dM_read_19 : decode xM_read.2.1 19 = .ok (.iconst 3, 1) := by decide +kernel
theorem dM_read_20 : decode xM_read.2.1 20 = .ok (.invokestatic 138, 3) := by decide +kernel
theorem dM_read_23 : decode xM_read.2.1 23 = .ok (.ifCond .eq 13, 3) := by decide +kernel
theorem dM_read_26 : decode xM_read.2.1 26 = .ok (.iload 4, 2) := by decide +kernel
theorem dM_read_28 : decode xM_read.2.1 28 = .ok (.iconst 0, 1) := by decide +kernel
theorem dM_read_29 : decode xM_read.2.1 29 = .ok (.iconst 1, 1) := by decide +kernel
theorem dM_read_30 : decode xM_read.2.1 30 = .ok (.invokestatic 138, 3) := by decide +kernel
theorem dM_read_33 : decode xM_read.2.1 33 = .ok (.ifCond .ne 5, 3) := by decide +kernel
theorem dM_read_36 : decode xM_read.2.1 36 = .ok (.iconst (-1), 1) := by decide +kernel
theorem dM_read_37 : decode xM_read.2.1 37 = .ok (.ireturn, 1) := by decide +kernel
theorem dM_read_38 : decode xM_read.2.1 38 = .ok (.aload_n 0, 1) := by decide +kernel
theorem dM_read_39 : decode xM_read.2.1 39 = .ok (.getfield 68, 3) := by decide +kernel
theorem dM_read_42 : decode xM_read.2.1 42 = .ok (.iconst 4, 1) := by decide +kernel
theorem dM_read_43 : decode xM_read.2.1 43 = .ok (.iload_n 1, 1) := by decide +kernel
theorem dM_read_44 : decode xM_read.2.1 44 = .ok (.imul, 1) := by decide +kernel
theorem dM_read_45 : decode xM_read.2.1 45 = .ok (.iload_n 2, 1) := by decide +kernel
theorem dM_read_46 : decode xM_read.2.1 46 = .ok (.iadd, 1) := by decide +kernel
theorem dM_read_47 : decode xM_read.2.1 47 = .ok (.baload, 1) := by decide +kernel
theorem dM_read_48 : decode xM_read.2.1 48 = .ok (.ifCond .eq 27, 3) := by decide +kernel
theorem dM_read_51 : decode xM_read.2.1 51 = .ok (.aload_n 0, 1) := by decide +kernel
theorem dM_read_52 : decode xM_read.2.1 52 = .ok (.getfield 68, 3) := by decide +kernel
theorem dM_read_55 : decode xM_read.2.1 55 = .ok (.iconst 4, 1) := by decide +kernel
theorem dM_read_56 : decode xM_read.2.1 56 = .ok (.iload_n 1, 1) := by decide +kernel
theorem dM_read_57 : decode xM_read.2.1 57 = .ok (.imul, 1) := by decide +kernel
theorem dM_read_58 : decode xM_read.2.1 58 = .ok (.iload_n 2, 1) := by decide +kernel
theorem dM_read_59 : decode xM_read.2.1 59 = .ok (.iadd, 1) := by decide +kernel
theorem dM_read_60 : decode xM_read.2.1 60 = .ok (.iload 4, 2) := by decide +kernel
theorem dM_read_62 : decode xM_read.2.1 62 = .ok (.iconst 1, 1) := by decide +kernel
theorem dM_read_63 : decode xM_read.2.1 63 = .ok (.if_icmp .ne 7, 3) := by decide +kernel
theorem dM_read_66 : decode xM_read.2.1 66 = .ok (.iconst 1, 1) := by decide +kernel
theorem dM_read_67 : decode xM_read.2.1 67 = .ok (.goto 4, 3) := by decide +kernel
theorem dM_read_70 : decode xM_read.2.1 70 = .ok (.iconst 0, 1) := by decide +kernel
theorem dM_read_71 : decode xM_read.2.1 71 = .ok (.bastore, 1) := by decide +kernel
theorem dM_read_72 : decode xM_read.2.1 72 = .ok (.bipush (-3), 2) := by decide +kernel
theorem dM_read_74 : decode xM_read.2.1 74 = .ok (.ireturn, 1) := by decide +kernel
theorem dM_read_75 : decode xM_read.2.1 75 = .ok (.aload_n 0, 1) := by decide +kernel
theorem dM_read_76 : decode xM_read.2.1 76 = .ok (.iload_n 1, 1) := by decide +kernel
theorem dM_read_77 : decode xM_read.2.1 77 = .ok (.iload_n 2, 1) := by decide +kernel
theorem dM_read_78 : decode xM_read.2.1 78 = .ok (.invokevirtual 221, 3) := by decide +kernel
theorem dM_read_81 : decode xM_read.2.1 81 = .ok (.ifCond .ne 6, 3) := by decide +kernel
theorem dM_read_84 : decode xM_read.2.1 84 = .ok (.bipush (-2), 2) := by decide +kernel
theorem dM_read_86 : decode xM_read.2.1 86 = .ok (.ireturn, 1) := by decide +kernel
theorem dM_read_87 : decode xM_read.2.1 87 = .ok (.iload 4, 2) := by decide +kernel
theorem dM_read_89 : decode xM_read.2.1 89 = .ok (.iconst 1, 1) := by decide +kernel
theorem dM_read_90 : decode xM_read.2.1 90 = .ok (.if_icmp .ne 7, 3) := by decide +kernel
theorem dM_read_93 : decode xM_read.2.1 93 = .ok (.iconst 1, 1) := by decide +kernel
theorem dM_read_94 : decode xM_read.2.1 94 = .ok (.goto 18, 3) := by decide +kernel
theorem dM_read_97 : decode xM_read.2.1 97 = .ok (.aload_n 0, 1) := by decide +kernel
theorem dM_read_98 : decode xM_read.2.1 98 = .ok (.getfield 71, 3) := by decide +kernel
theorem dM_read_101 : decode xM_read.2.1 101 = .ok (.bipush 16, 2) := by decide +kernel
theorem dM_read_103 : decode xM_read.2.1 103 = .ok (.iload_n 1, 1) := by decide +kernel
theorem dM_read_104 : decode xM_read.2.1 104 = .ok (.imul, 1) := by decide +kernel
theorem dM_read_105 : decode xM_read.2.1 105 = .ok (.iconst 4, 1) := by decide +kernel
theorem dM_read_106 : decode xM_read.2.1 106 = .ok (.iload_n 2, 1) := by decide +kernel
theorem dM_read_107 : decode xM_read.2.1 107 = .ok (.imul, 1) := by decide +kernel
theorem dM_read_108 : decode xM_read.2.1 108 = .ok (.iadd, 1) := by decide +kernel
theorem dM_read_109 : decode xM_read.2.1 109 = .ok (.iload_n 3, 1) := by decide +kernel
theorem dM_read_110 : decode xM_read.2.1 110 = .ok (.iadd, 1) := by decide +kernel
theorem dM_read_111 : decode xM_read.2.1 111 = .ok (.iaload, 1) := by decide +kernel
theorem dM_read_112 : decode xM_read.2.1 112 = .ok (.ireturn, 1) := by decide +kernel
def xM_write : mt_X := (⟨"LeasedPagesModel", "write", "(IIII)I"⟩, prog_12_method_31_code, 5, (Option.some FieldType.int))
theorem dM_write_0 : decode xM_write.2.1 0 = .ok (.aload_n 0, 1) := by decide +kernel
theorem dM_write_1 : decode xM_write.2.1 1 = .ok (.iload_n 1, 1) := by decide +kernel
theorem dM_write_2 : decode xM_write.2.1 2 = .ok (.invokevirtual 215, 3) := by decide +kernel
theorem dM_write_5 : decode xM_write.2.1 5 = .ok (.ifCond .eq 21, 3) := by decide +kernel
theorem dM_write_8 : decode xM_write.2.1 8 = .ok (.iload_n 2, 1) := by decide +kernel
theorem dM_write_9 : decode xM_write.2.1 9 = .ok (.iconst 0, 1) := by decide +kernel
theorem dM_write_10 : decode xM_write.2.1 10 = .ok (.iconst 3, 1) := by decide +kernel
theorem dM_write_11 : decode xM_write.2.1 11 = .ok (.invokestatic 138, 3) := by decide +kernel
theorem dM_write_14 : decode xM_write.2.1 14 = .ok (.ifCond .eq 12, 3) := by decide +kernel
theorem dM_write_17 : decode xM_write.2.1 17 = .ok (.iload_n 3, 1) := by decide +kernel
theorem dM_write_18 : decode xM_write.2.1 18 = .ok (.iconst 0, 1) := by decide +kernel
theorem dM_write_19 : decode xM_write.2.1 19 = .ok (.iconst 3, 1) := by decide +kernel
theorem dM_write_20 : decode xM_write.2.1 20 = .ok (.invokestatic 138, 3) := by decide +kernel
theorem dM_write_23 : decode xM_write.2.1 23 = .ok (.ifCond .ne 5, 3) := by decide +kernel
theorem dM_write_26 : decode xM_write.2.1 26 = .ok (.iconst (-1), 1) := by decide +kernel
theorem dM_write_27 : decode xM_write.2.1 27 = .ok (.ireturn, 1) := by decide +kernel
theorem dM_write_28 : decode xM_write.2.1 28 = .ok (.aload_n 0, 1) := by decide +kernel
theorem dM_write_29 : decode xM_write.2.1 29 = .ok (.iload_n 1, 1) := by decide +kernel
theorem dM_write_30 : decode xM_write.2.1 30 = .ok (.iload_n 2, 1) := by decide +kernel
theorem dM_write_31 : decode xM_write.2.1 31 = .ok (.invokevirtual 218, 3) := by decide +kernel
theorem dM_write_34 : decode xM_write.2.1 34 = .ok (.ifCond .eq 6, 3) := by decide +kernel
theorem dM_write_37 : decode xM_write.2.1 37 = .ok (.bipush (-3), 2) := by decide +kernel
theorem dM_write_39 : decode xM_write.2.1 39 = .ok (.ireturn, 1) := by decide +kernel
theorem dM_write_40 : decode xM_write.2.1 40 = .ok (.aload_n 0, 1) := by decide +kernel
theorem dM_write_41 : decode xM_write.2.1 41 = .ok (.iload_n 1, 1) := by decide +kernel
theorem dM_write_42 : decode xM_write.2.1 42 = .ok (.iload_n 2, 1) := by decide +kernel
theorem dM_write_43 : decode xM_write.2.1 43 = .ok (.invokevirtual 221, 3) := by decide +kernel
theorem dM_write_46 : decode xM_write.2.1 46 = .ok (.ifCond .eq 17, 3) := by decide +kernel
theorem dM_write_49 : decode xM_write.2.1 49 = .ok (.aload_n 0, 1) := by decide +kernel
theorem dM_write_50 : decode xM_write.2.1 50 = .ok (.getfield 59, 3) := by decide +kernel
theorem dM_write_53 : decode xM_write.2.1 53 = .ok (.iconst 4, 1) := by decide +kernel
theorem dM_write_54 : decode xM_write.2.1 54 = .ok (.iload_n 1, 1) := by decide +kernel
theorem dM_write_55 : decode xM_write.2.1 55 = .ok (.imul, 1) := by decide +kernel
theorem dM_write_56 : decode xM_write.2.1 56 = .ok (.iload_n 2, 1) := by decide +kernel
theorem dM_write_57 : decode xM_write.2.1 57 = .ok (.iadd, 1) := by decide +kernel
theorem dM_write_58 : decode xM_write.2.1 58 = .ok (.iaload, 1) := by decide +kernel
theorem dM_write_59 : decode xM_write.2.1 59 = .ok (.iconst 2, 1) := by decide +kernel
theorem dM_write_60 : decode xM_write.2.1 60 = .ok (.if_icmp .eq 6, 3) := by decide +kernel
theorem dM_write_63 : decode xM_write.2.1 63 = .ok (.bipush (-2), 2) := by decide +kernel
theorem dM_write_65 : decode xM_write.2.1 65 = .ok (.ireturn, 1) := by decide +kernel
theorem dM_write_66 : decode xM_write.2.1 66 = .ok (.aload_n 0, 1) := by decide +kernel
theorem dM_write_67 : decode xM_write.2.1 67 = .ok (.getfield 74, 3) := by decide +kernel
theorem dM_write_70 : decode xM_write.2.1 70 = .ok (.iload_n 1, 1) := by decide +kernel
theorem dM_write_71 : decode xM_write.2.1 71 = .ok (.iaload, 1) := by decide +kernel
theorem dM_write_72 : decode xM_write.2.1 72 = .ok (.bipush 6, 2) := by decide +kernel
theorem dM_write_74 : decode xM_write.2.1 74 = .ok (.if_icmp .ne 6, 3) := by decide +kernel
theorem dM_write_77 : decode xM_write.2.1 77 = .ok (.bipush (-4), 2) := by decide +kernel
theorem dM_write_79 : decode xM_write.2.1 79 = .ok (.ireturn, 1) := by decide +kernel
theorem dM_write_80 : decode xM_write.2.1 80 = .ok (.aload_n 0, 1) := by decide +kernel
theorem dM_write_81 : decode xM_write.2.1 81 = .ok (.getfield 71, 3) := by decide +kernel
theorem dM_write_84 : decode xM_write.2.1 84 = .ok (.bipush 16, 2) := by decide +kernel
theorem dM_write_86 : decode xM_write.2.1 86 = .ok (.iload_n 1, 1) := by decide +kernel
theorem dM_write_87 : decode xM_write.2.1 87 = .ok (.imul, 1) := by decide +kernel
theorem dM_write_88 : decode xM_write.2.1 88 = .ok (.iconst 4, 1) := by decide +kernel
theorem dM_write_89 : decode xM_write.2.1 89 = .ok (.iload_n 2, 1) := by decide +kernel
theorem dM_write_90 : decode xM_write.2.1 90 = .ok (.imul, 1) := by decide +kernel
theorem dM_write_91 : decode xM_write.2.1 91 = .ok (.iadd, 1) := by decide +kernel
theorem dM_write_92 : decode xM_write.2.1 92 = .ok (.iload_n 3, 1) := by decide +kernel
theorem dM_write_93 : decode xM_write.2.1 93 = .ok (.iadd, 1) := by decide +kernel
theorem dM_write_94 : decode xM_write.2.1 94 = .ok (.iload 4, 2) := by decide +kernel
theorem dM_write_96 : decode xM_write.2.1 96 = .ok (.iastore, 1) := by decide +kernel
theorem dM_write_97 : decode xM_write.2.1 97 = .ok (.aload_n 0, 1) := by decide +kernel
theorem dM_write_98 : decode xM_write.2.1 98 = .ok (.getfield 77, 3) := by decide +kernel
theorem dM_write_101 : decode xM_write.2.1 101 = .ok (.bipush 6, 2) := by decide +kernel
theorem dM_write_103 : decode xM_write.2.1 103 = .ok (.iload_n 1, 1) := by decide +kernel
theorem dM_write_104 : decode xM_write.2.1 104 = .ok (.imul, 1) := by decide +kernel
theorem dM_write_105 : decode xM_write.2.1 105 = .ok (.aload_n 0, 1) := by decide +kernel
theorem dM_write_106 : decode xM_write.2.1 106 = .ok (.getfield 74, 3) := by decide +kernel
theorem dM_write_109 : decode xM_write.2.1 109 = .ok (.iload_n 1, 1) := by decide +kernel
theorem dM_write_110 : decode xM_write.2.1 110 = .ok (.iaload, 1) := by decide +kernel
theorem dM_write_111 : decode xM_write.2.1 111 = .ok (.iadd, 1) := by decide +kernel
theorem dM_write_112 : decode xM_write.2.1 112 = .ok (.iconst 4, 1) := by decide +kernel
theorem dM_write_113 : decode xM_write.2.1 113 = .ok (.iload_n 2, 1) := by decide +kernel
theorem dM_write_114 : decode xM_write.2.1 114 = .ok (.imul, 1) := by decide +kernel
theorem dM_write_115 : decode xM_write.2.1 115 = .ok (.iload_n 3, 1) := by decide +kernel
theorem dM_write_116 : decode xM_write.2.1 116 = .ok (.iadd, 1) := by decide +kernel
theorem dM_write_117 : decode xM_write.2.1 117 = .ok (.iastore, 1) := by decide +kernel
theorem dM_write_118 : decode xM_write.2.1 118 = .ok (.aload_n 0, 1) := by decide +kernel
theorem dM_write_119 : decode xM_write.2.1 119 = .ok (.getfield 80, 3) := by decide +kernel
theorem dM_write_122 : decode xM_write.2.1 122 = .ok (.bipush 6, 2) := by decide +kernel
theorem dM_write_124 : decode xM_write.2.1 124 = .ok (.iload_n 1, 1) := by decide +kernel
theorem dM_write_125 : decode xM_write.2.1 125 = .ok (.imul, 1) := by decide +kernel
theorem dM_write_126 : decode xM_write.2.1 126 = .ok (.aload_n 0, 1) := by decide +kernel
theorem dM_write_127 : decode xM_write.2.1 127 = .ok (.getfield 74, 3) := by decide +kernel
theorem dM_write_130 : decode xM_write.2.1 130 = .ok (.iload_n 1, 1) := by decide +kernel
theorem dM_write_131 : decode xM_write.2.1 131 = .ok (.iaload, 1) := by decide +kernel
theorem dM_write_132 : decode xM_write.2.1 132 = .ok (.iadd, 1) := by decide +kernel
theorem dM_write_133 : decode xM_write.2.1 133 = .ok (.iload 4, 2) := by decide +kernel
theorem dM_write_135 : decode xM_write.2.1 135 = .ok (.iastore, 1) := by decide +kernel
theorem dM_write_136 : decode xM_write.2.1 136 = .ok (.aload_n 0, 1) := by decide +kernel
theorem dM_write_137 : decode xM_write.2.1 137 = .ok (.getfield 74, 3) := by decide +kernel
theorem dM_write_140 : decode xM_write.2.1 140 = .ok (.iload_n 1, 1) := by decide +kernel
theorem dM_write_141 : decode xM_write.2.1 141 = .ok (.dup2, 1) := by decide +kernel
theorem dM_write_142 : decode xM_write.2.1 142 = .ok (.iaload, 1) := by decide +kernel
theorem dM_write_143 : decode xM_write.2.1 143 = .ok (.iconst 1, 1) := by decide +kernel
theorem dM_write_144 : decode xM_write.2.1 144 = .ok (.iadd, 1) := by decide +kernel
theorem dM_write_145 : decode xM_write.2.1 145 = .ok (.iastore, 1) := by decide +kernel
theorem dM_write_146 : decode xM_write.2.1 146 = .ok (.aload_n 0, 1) := by decide +kernel
theorem dM_write_147 : decode xM_write.2.1 147 = .ok (.getfield 74, 3) := by decide +kernel
theorem dM_write_150 : decode xM_write.2.1 150 = .ok (.iload_n 1, 1) := by decide +kernel
theorem dM_write_151 : decode xM_write.2.1 151 = .ok (.iaload, 1) := by decide +kernel
theorem dM_write_152 : decode xM_write.2.1 152 = .ok (.ireturn, 1) := by decide +kernel
def xM_flush : mt_X := (⟨"LeasedPagesModel", "flush", "(I)I"⟩, prog_12_method_32_code, 3, (Option.some FieldType.int))
theorem dM_flush_0 : decode xM_flush.2.1 0 = .ok (.aload_n 0, 1) := by decide +kernel
theorem dM_flush_1 : decode xM_flush.2.1 1 = .ok (.iload_n 1, 1) := by decide +kernel
theorem dM_flush_2 : decode xM_flush.2.1 2 = .ok (.invokevirtual 215, 3) := by decide +kernel
theorem dM_flush_5 : decode xM_flush.2.1 5 = .ok (.ifCond .eq 21, 3) := by decide +kernel
theorem dM_flush_8 : decode xM_flush.2.1 8 = .ok (.aload_n 0, 1) := by decide +kernel
theorem dM_flush_9 : decode xM_flush.2.1 9 = .ok (.getfield 83, 3) := by decide +kernel
theorem dM_flush_12 : decode xM_flush.2.1 12 = .ok (.iload_n 1, 1) := by decide +kernel
theorem dM_flush_13 : decode xM_flush.2.1 13 = .ok (.iaload, 1) := by decide +kernel
theorem dM_flush_14 : decode xM_flush.2.1 14 = .ok (.ifCond .gt 12, 3) := by decide +kernel
theorem dM_flush_17 : decode xM_flush.2.1 17 = .ok (.aload_n 0, 1) := by decide +kernel
theorem dM_flush_18 : decode xM_flush.2.1 18 = .ok (.getfield 74, 3) := by decide +kernel
theorem dM_flush_21 : decode xM_flush.2.1 21 = .ok (.iload_n 1, 1) := by decide +kernel
theorem dM_flush_22 : decode xM_flush.2.1 22 = .ok (.iaload, 1) := by decide +kernel
theorem dM_flush_23 : decode xM_flush.2.1 23 = .ok (.ifCond .ne 5, 3) := by decide +kernel
theorem dM_flush_26 : decode xM_flush.2.1 26 = .ok (.iconst (-1), 1) := by decide +kernel
theorem dM_flush_27 : decode xM_flush.2.1 27 = .ok (.ireturn, 1) := by decide +kernel
theorem dM_flush_28 : decode xM_flush.2.1 28 = .ok (.aload_n 0, 1) := by decide +kernel
theorem dM_flush_29 : decode xM_flush.2.1 29 = .ok (.getfield 77, 3) := by decide +kernel
theorem dM_flush_32 : decode xM_flush.2.1 32 = .ok (.bipush 6, 2) := by decide +kernel
theorem dM_flush_34 : decode xM_flush.2.1 34 = .ok (.iload_n 1, 1) := by decide +kernel
theorem dM_flush_35 : decode xM_flush.2.1 35 = .ok (.imul, 1) := by decide +kernel
theorem dM_flush_36 : decode xM_flush.2.1 36 = .ok (.iaload, 1) := by decide +kernel
theorem dM_flush_37 : decode xM_flush.2.1 37 = .ok (.iconst 4, 1) := by decide +kernel
theorem dM_flush_38 : decode xM_flush.2.1 38 = .ok (.idiv, 1) := by decide +kernel
theorem dM_flush_39 : decode xM_flush.2.1 39 = .ok (.istore_n 2, 1) := by decide +kernel
theorem dM_flush_40 : decode xM_flush.2.1 40 = .ok (.aload_n 0, 1) := by decide +kernel
theorem dM_flush_41 : decode xM_flush.2.1 41 = .ok (.iload_n 1, 1) := by decide +kernel
theorem dM_flush_42 : decode xM_flush.2.1 42 = .ok (.iload_n 2, 1) := by decide +kernel
theorem dM_flush_43 : decode xM_flush.2.1 43 = .ok (.invokevirtual 221, 3) := by decide +kernel
theorem dM_flush_46 : decode xM_flush.2.1 46 = .ok (.ifCond .eq 17, 3) := by decide +kernel
theorem dM_flush_49 : decode xM_flush.2.1 49 = .ok (.aload_n 0, 1) := by decide +kernel
theorem dM_flush_50 : decode xM_flush.2.1 50 = .ok (.getfield 59, 3) := by decide +kernel
theorem dM_flush_53 : decode xM_flush.2.1 53 = .ok (.iconst 4, 1) := by decide +kernel
theorem dM_flush_54 : decode xM_flush.2.1 54 = .ok (.iload_n 1, 1) := by decide +kernel
theorem dM_flush_55 : decode xM_flush.2.1 55 = .ok (.imul, 1) := by decide +kernel
theorem dM_flush_56 : decode xM_flush.2.1 56 = .ok (.iload_n 2, 1) := by decide +kernel
theorem dM_flush_57 : decode xM_flush.2.1 57 = .ok (.iadd, 1) := by decide +kernel
theorem dM_flush_58 : decode xM_flush.2.1 58 = .ok (.iaload, 1) := by decide +kernel
theorem dM_flush_59 : decode xM_flush.2.1 59 = .ok (.iconst 2, 1) := by decide +kernel
theorem dM_flush_60 : decode xM_flush.2.1 60 = .ok (.if_icmp .eq 6, 3) := by decide +kernel
theorem dM_flush_63 : decode xM_flush.2.1 63 = .ok (.bipush (-2), 2) := by decide +kernel
theorem dM_flush_65 : decode xM_flush.2.1 65 = .ok (.ireturn, 1) := by decide +kernel
theorem dM_flush_66 : decode xM_flush.2.1 66 = .ok (.aload_n 0, 1) := by decide +kernel
theorem dM_flush_67 : decode xM_flush.2.1 67 = .ok (.getfield 95, 3) := by decide +kernel
theorem dM_flush_70 : decode xM_flush.2.1 70 = .ok (.iload_n 1, 1) := by decide +kernel
theorem dM_flush_71 : decode xM_flush.2.1 71 = .ok (.aload_n 0, 1) := by decide +kernel
theorem dM_flush_72 : decode xM_flush.2.1 72 = .ok (.getfield 77, 3) := by decide +kernel
theorem dM_flush_75 : decode xM_flush.2.1 75 = .ok (.bipush 6, 2) := by decide +kernel
theorem dM_flush_77 : decode xM_flush.2.1 77 = .ok (.iload_n 1, 1) := by decide +kernel
theorem dM_flush_78 : decode xM_flush.2.1 78 = .ok (.imul, 1) := by decide +kernel
theorem dM_flush_79 : decode xM_flush.2.1 79 = .ok (.iaload, 1) := by decide +kernel
theorem dM_flush_80 : decode xM_flush.2.1 80 = .ok (.iconst 4, 1) := by decide +kernel
theorem dM_flush_81 : decode xM_flush.2.1 81 = .ok (.irem, 1) := by decide +kernel
theorem dM_flush_82 : decode xM_flush.2.1 82 = .ok (.iastore, 1) := by decide +kernel
theorem dM_flush_83 : decode xM_flush.2.1 83 = .ok (.aload_n 0, 1) := by decide +kernel
theorem dM_flush_84 : decode xM_flush.2.1 84 = .ok (.getfield 98, 3) := by decide +kernel
theorem dM_flush_87 : decode xM_flush.2.1 87 = .ok (.iload_n 1, 1) := by decide +kernel
theorem dM_flush_88 : decode xM_flush.2.1 88 = .ok (.aload_n 0, 1) := by decide +kernel
theorem dM_flush_89 : decode xM_flush.2.1 89 = .ok (.getfield 80, 3) := by decide +kernel
theorem dM_flush_92 : decode xM_flush.2.1 92 = .ok (.bipush 6, 2) := by decide +kernel
theorem dM_flush_94 : decode xM_flush.2.1 94 = .ok (.iload_n 1, 1) := by decide +kernel
theorem dM_flush_95 : decode xM_flush.2.1 95 = .ok (.imul, 1) := by decide +kernel
theorem dM_flush_96 : decode xM_flush.2.1 96 = .ok (.iaload, 1) := by decide +kernel
theorem dM_flush_97 : decode xM_flush.2.1 97 = .ok (.iastore, 1) := by decide +kernel
theorem dM_flush_98 : decode xM_flush.2.1 98 = .ok (.aload_n 0, 1) := by decide +kernel
theorem dM_flush_99 : decode xM_flush.2.1 99 = .ok (.iload_n 1, 1) := by decide +kernel
theorem dM_flush_100 : decode xM_flush.2.1 100 = .ok (.iconst 2, 1) := by decide +kernel
theorem dM_flush_101 : decode xM_flush.2.1 101 = .ok (.iload_n 2, 1) := by decide +kernel
theorem dM_flush_102 : decode xM_flush.2.1 102 = .ok (.iconst 0, 1) := by decide +kernel
theorem dM_flush_103 : decode xM_flush.2.1 103 = .ok (.iconst 0, 1) := by decide +kernel
theorem dM_flush_104 : decode xM_flush.2.1 104 = .ok (.invokevirtual 224, 3) := by decide +kernel
theorem dM_flush_107 : decode xM_flush.2.1 107 = .ok (.ireturn, 1) := by decide +kernel
def xM_close : mt_X := (⟨"LeasedPagesModel", "close", "(II)I"⟩, prog_12_method_33_code, 3, (Option.some FieldType.int))
theorem dM_close_0 : decode xM_close.2.1 0 = .ok (.aload_n 0, 1) := by decide +kernel
theorem dM_close_1 : decode xM_close.2.1 1 = .ok (.iload_n 1, 1) := by decide +kernel
theorem dM_close_2 : decode xM_close.2.1 2 = .ok (.invokevirtual 215, 3) := by decide +kernel
theorem dM_close_5 : decode xM_close.2.1 5 = .ok (.ifCond .eq 30, 3) := by decide +kernel
theorem dM_close_8 : decode xM_close.2.1 8 = .ok (.iload_n 2, 1) := by decide +kernel
theorem dM_close_9 : decode xM_close.2.1 9 = .ok (.iconst 0, 1) := by decide +kernel
theorem dM_close_10 : decode xM_close.2.1 10 = .ok (.iconst 3, 1) := by decide +kernel
theorem dM_close_11 : decode xM_close.2.1 11 = .ok (.invokestatic 138, 3) := by decide +kernel
theorem dM_close_14 : decode xM_close.2.1 14 = .ok (.ifCond .eq 21, 3) := by decide +kernel
theorem dM_close_17 : decode xM_close.2.1 17 = .ok (.aload_n 0, 1) := by decide +kernel
theorem dM_close_18 : decode xM_close.2.1 18 = .ok (.getfield 83, 3) := by decide +kernel
theorem dM_close_21 : decode xM_close.2.1 21 = .ok (.iload_n 1, 1) := by decide +kernel
theorem dM_close_22 : decode xM_close.2.1 22 = .ok (.iaload, 1) := by decide +kernel
theorem dM_close_23 : decode xM_close.2.1 23 = .ok (.ifCond .gt 12, 3) := by decide +kernel
theorem dM_close_26 : decode xM_close.2.1 26 = .ok (.aload_n 0, 1) := by decide +kernel
theorem dM_close_27 : decode xM_close.2.1 27 = .ok (.iload_n 1, 1) := by decide +kernel
theorem dM_close_28 : decode xM_close.2.1 28 = .ok (.iload_n 2, 1) := by decide +kernel
theorem dM_close_29 : decode xM_close.2.1 29 = .ok (.invokevirtual 206, 3) := by decide +kernel
theorem dM_close_32 : decode xM_close.2.1 32 = .ok (.ifCond .eq 5, 3) := by decide +kernel
theorem dM_close_35 : decode xM_close.2.1 35 = .ok (.iconst (-1), 1) := by decide +kernel
theorem dM_close_36 : decode xM_close.2.1 36 = .ok (.ireturn, 1) := by decide +kernel
theorem dM_close_37 : decode xM_close.2.1 37 = .ok (.aload_n 0, 1) := by decide +kernel
theorem dM_close_38 : decode xM_close.2.1 38 = .ok (.iload_n 1, 1) := by decide +kernel
theorem dM_close_39 : decode xM_close.2.1 39 = .ok (.iload_n 2, 1) := by decide +kernel
theorem dM_close_40 : decode xM_close.2.1 40 = .ok (.invokevirtual 218, 3) := by decide +kernel
theorem dM_close_43 : decode xM_close.2.1 43 = .ok (.ifCond .eq 6, 3) := by decide +kernel
theorem dM_close_46 : decode xM_close.2.1 46 = .ok (.bipush (-3), 2) := by decide +kernel
theorem dM_close_48 : decode xM_close.2.1 48 = .ok (.ireturn, 1) := by decide +kernel
theorem dM_close_49 : decode xM_close.2.1 49 = .ok (.aload_n 0, 1) := by decide +kernel
theorem dM_close_50 : decode xM_close.2.1 50 = .ok (.getfield 59, 3) := by decide +kernel
theorem dM_close_53 : decode xM_close.2.1 53 = .ok (.iconst 4, 1) := by decide +kernel
theorem dM_close_54 : decode xM_close.2.1 54 = .ok (.iload_n 1, 1) := by decide +kernel
theorem dM_close_55 : decode xM_close.2.1 55 = .ok (.imul, 1) := by decide +kernel
theorem dM_close_56 : decode xM_close.2.1 56 = .ok (.iload_n 2, 1) := by decide +kernel
theorem dM_close_57 : decode xM_close.2.1 57 = .ok (.iadd, 1) := by decide +kernel
theorem dM_close_58 : decode xM_close.2.1 58 = .ok (.iaload, 1) := by decide +kernel
theorem dM_close_59 : decode xM_close.2.1 59 = .ok (.ifCond .ne 6, 3) := by decide +kernel
theorem dM_close_62 : decode xM_close.2.1 62 = .ok (.bipush (-2), 2) := by decide +kernel
theorem dM_close_64 : decode xM_close.2.1 64 = .ok (.ireturn, 1) := by decide +kernel
theorem dM_close_65 : decode xM_close.2.1 65 = .ok (.aload_n 0, 1) := by decide +kernel
theorem dM_close_66 : decode xM_close.2.1 66 = .ok (.getfield 59, 3) := by decide +kernel
theorem dM_close_69 : decode xM_close.2.1 69 = .ok (.iconst 4, 1) := by decide +kernel
theorem dM_close_70 : decode xM_close.2.1 70 = .ok (.iload_n 1, 1) := by decide +kernel
theorem dM_close_71 : decode xM_close.2.1 71 = .ok (.imul, 1) := by decide +kernel
theorem dM_close_72 : decode xM_close.2.1 72 = .ok (.iload_n 2, 1) := by decide +kernel
theorem dM_close_73 : decode xM_close.2.1 73 = .ok (.iadd, 1) := by decide +kernel
theorem dM_close_74 : decode xM_close.2.1 74 = .ok (.iconst 0, 1) := by decide +kernel
theorem dM_close_75 : decode xM_close.2.1 75 = .ok (.iastore, 1) := by decide +kernel
theorem dM_close_76 : decode xM_close.2.1 76 = .ok (.aload_n 0, 1) := by decide +kernel
theorem dM_close_77 : decode xM_close.2.1 77 = .ok (.getfield 65, 3) := by decide +kernel
theorem dM_close_80 : decode xM_close.2.1 80 = .ok (.iconst 4, 1) := by decide +kernel
theorem dM_close_81 : decode xM_close.2.1 81 = .ok (.iload_n 1, 1) := by decide +kernel
theorem dM_close_82 : decode xM_close.2.1 82 = .ok (.imul, 1) := by decide +kernel
theorem dM_close_83 : decode xM_close.2.1 83 = .ok (.iload_n 2, 1) := by decide +kernel
theorem dM_close_84 : decode xM_close.2.1 84 = .ok (.iadd, 1) := by decide +kernel
theorem dM_close_85 : decode xM_close.2.1 85 = .ok (.iconst 0, 1) := by decide +kernel
theorem dM_close_86 : decode xM_close.2.1 86 = .ok (.bastore, 1) := by decide +kernel
theorem dM_close_87 : decode xM_close.2.1 87 = .ok (.aload_n 0, 1) := by decide +kernel
theorem dM_close_88 : decode xM_close.2.1 88 = .ok (.iload_n 1, 1) := by decide +kernel
theorem dM_close_89 : decode xM_close.2.1 89 = .ok (.iconst 3, 1) := by decide +kernel
theorem dM_close_90 : decode xM_close.2.1 90 = .ok (.iload_n 2, 1) := by decide +kernel
theorem dM_close_91 : decode xM_close.2.1 91 = .ok (.iconst 0, 1) := by decide +kernel
theorem dM_close_92 : decode xM_close.2.1 92 = .ok (.iconst 0, 1) := by decide +kernel
theorem dM_close_93 : decode xM_close.2.1 93 = .ok (.invokevirtual 224, 3) := by decide +kernel
theorem dM_close_96 : decode xM_close.2.1 96 = .ok (.ireturn, 1) := by decide +kernel
def xM_retry : mt_X := (⟨"LeasedPagesModel", "retry", "(I)I"⟩, prog_12_method_34_code, 2, (Option.some FieldType.int))
theorem dM_retry_0 : decode xM_retry.2.1 0 = .ok (.aload_n 0, 1) := by decide +kernel
theorem dM_retry_1 : decode xM_retry.2.1 1 = .ok (.iload_n 1, 1) := by decide +kernel
theorem dM_retry_2 : decode xM_retry.2.1 2 = .ok (.invokevirtual 215, 3) := by decide +kernel
theorem dM_retry_5 : decode xM_retry.2.1 5 = .ok (.ifCond .eq 12, 3) := by decide +kernel
theorem dM_retry_8 : decode xM_retry.2.1 8 = .ok (.aload_n 0, 1) := by decide +kernel
theorem dM_retry_9 : decode xM_retry.2.1 9 = .ok (.getfield 83, 3) := by decide +kernel
theorem dM_retry_12 : decode xM_retry.2.1 12 = .ok (.iload_n 1, 1) := by decide +kernel
theorem dM_retry_13 : decode xM_retry.2.1 13 = .ok (.iaload, 1) := by decide +kernel
theorem dM_retry_14 : decode xM_retry.2.1 14 = .ok (.ifCond .ne 5, 3) := by decide +kernel
theorem dM_retry_17 : decode xM_retry.2.1 17 = .ok (.iconst (-1), 1) := by decide +kernel
theorem dM_retry_18 : decode xM_retry.2.1 18 = .ok (.ireturn, 1) := by decide +kernel
theorem dM_retry_19 : decode xM_retry.2.1 19 = .ok (.aload_n 0, 1) := by decide +kernel
theorem dM_retry_20 : decode xM_retry.2.1 20 = .ok (.iload_n 1, 1) := by decide +kernel
theorem dM_retry_21 : decode xM_retry.2.1 21 = .ok (.invokevirtual 212, 3) := by decide +kernel
theorem dM_retry_24 : decode xM_retry.2.1 24 = .ok (.aload_n 0, 1) := by decide +kernel
theorem dM_retry_25 : decode xM_retry.2.1 25 = .ok (.getfield 56, 3) := by decide +kernel
theorem dM_retry_28 : decode xM_retry.2.1 28 = .ok (.iload_n 1, 1) := by decide +kernel
theorem dM_retry_29 : decode xM_retry.2.1 29 = .ok (.iaload, 1) := by decide +kernel
theorem dM_retry_30 : decode xM_retry.2.1 30 = .ok (.ireturn, 1) := by decide +kernel
def xM_tick : mt_X := (⟨"LeasedPagesModel", "tick", "(II)Z"⟩, prog_12_method_35_code, 5, (Option.some FieldType.boolean))
theorem dM_tick_0 : decode xM_tick.2.1 0 = .ok (.iload_n 1, 1) := by decide +kernel
theorem dM_tick_1 : decode xM_tick.2.1 1 = .ok (.iconst 0, 1) := by decide +kernel
theorem dM_tick_2 : decode xM_tick.2.1 2 = .ok (.iconst 3, 1) := by decide +kernel
theorem dM_tick_3 : decode xM_tick.2.1 3 = .ok (.invokestatic 138, 3) := by decide +kernel
theorem dM_tick_6 : decode xM_tick.2.1 6 = .ok (.ifCond .eq 22, 3) := by decide +kernel
theorem dM_tick_9 : decode xM_tick.2.1 9 = .ok (.aload_n 0, 1) := by decide +kernel
theorem dM_tick_10 : decode xM_tick.2.1 10 = .ok (.getfield 7, 3) := by decide +kernel
theorem dM_tick_13 : decode xM_tick.2.1 13 = .ok (.iload_n 1, 1) := by decide +kernel
theorem dM_tick_14 : decode xM_tick.2.1 14 = .ok (.baload, 1) := by decide +kernel
theorem dM_tick_15 : decode xM_tick.2.1 15 = .ok (.ifCond .ne 13, 3) := by decide +kernel
theorem dM_tick_18 : decode xM_tick.2.1 18 = .ok (.iload_n 2, 1) := by decide +kernel
theorem dM_tick_19 : decode xM_tick.2.1 19 = .ok (.iconst 1, 1) := by decide +kernel
theorem dM_tick_20 : decode xM_tick.2.1 20 = .ok (.bipush 100, 2) := by decide +kernel
theorem dM_tick_22 : decode xM_tick.2.1 22 = .ok (.invokestatic 138, 3) := by decide +kernel
theorem dM_tick_25 : decode xM_tick.2.1 25 = .ok (.ifCond .ne 5, 3) := by decide +kernel
theorem dM_tick_28 : decode xM_tick.2.1 28 = .ok (.iconst 0, 1) := by decide +kernel
theorem dM_tick_29 : decode xM_tick.2.1 29 = .ok (.ireturn, 1) := by decide +kernel
theorem dM_tick_30 : decode xM_tick.2.1 30 = .ok (.iconst 0, 1) := by decide +kernel
theorem dM_tick_31 : decode xM_tick.2.1 31 = .ok (.istore_n 3, 1) := by decide +kernel
theorem dM_tick_32 : decode xM_tick.2.1 32 = .ok (.iload_n 3, 1) := by decide +kernel
theorem dM_tick_33 : decode xM_tick.2.1 33 = .ok (.iload_n 2, 1) := by decide +kernel
theorem dM_tick_34 : decode xM_tick.2.1 34 = .ok (.if_icmp .ge 103, 3) := by decide +kernel
theorem dM_tick_37 : decode xM_tick.2.1 37 = .ok (.aload_n 0, 1) := by decide +kernel
theorem dM_tick_38 : decode xM_tick.2.1 38 = .ok (.getfield 13, 3) := by decide +kernel
theorem dM_tick_41 : decode xM_tick.2.1 41 = .ok (.iload_n 1, 1) := by decide +kernel
theorem dM_tick_42 : decode xM_tick.2.1 42 = .ok (.dup2, 1) := by decide +kernel
theorem dM_tick_43 : decode xM_tick.2.1 43 = .ok (.iaload, 1) := by decide +kernel
theorem dM_tick_44 : decode xM_tick.2.1 44 = .ok (.iconst 1, 1) := by decide +kernel
theorem dM_tick_45 : decode xM_tick.2.1 45 = .ok (.iadd, 1) := by decide +kernel
theorem dM_tick_46 : decode xM_tick.2.1 46 = .ok (.iastore, 1) := by decide +kernel
theorem dM_tick_47 : decode xM_tick.2.1 47 = .ok (.iload_n 1, 1) := by decide +kernel
theorem dM_tick_48 : decode xM_tick.2.1 48 = .ok (.iconst 3, 1) := by decide +kernel
theorem dM_tick_49 : decode xM_tick.2.1 49 = .ok (.if_icmp .ne 82, 3) := by decide +kernel
theorem dM_tick_52 : decode xM_tick.2.1 52 = .ok (.iconst 0, 1) := by decide +kernel
theorem dM_tick_53 : decode xM_tick.2.1 53 = .ok (.istore 4, 2) := by decide +kernel
theorem dM_tick_55 : decode xM_tick.2.1 55 = .ok (.iload 4, 2) := by decide +kernel
theorem dM_tick_57 : decode xM_tick.2.1 57 = .ok (.bipush 12, 2) := by decide +kernel
theorem dM_tick_59 : decode xM_tick.2.1 59 = .ok (.if_icmp .ge 43, 3) := by decide +kernel
theorem dM_tick_62 : decode xM_tick.2.1 62 = .ok (.aload_n 0, 1) := by decide +kernel
theorem dM_tick_63 : decode xM_tick.2.1 63 = .ok (.getfield 20, 3) := by decide +kernel
theorem dM_tick_66 : decode xM_tick.2.1 66 = .ok (.iload 4, 2) := by decide +kernel
theorem dM_tick_68 : decode xM_tick.2.1 68 = .ok (.aload_n 0, 1) := by decide +kernel
theorem dM_tick_69 : decode xM_tick.2.1 69 = .ok (.getfield 23, 3) := by decide +kernel
theorem dM_tick_72 : decode xM_tick.2.1 72 = .ok (.iload 4, 2) := by decide +kernel
theorem dM_tick_74 : decode xM_tick.2.1 74 = .ok (.iaload, 1) := by decide +kernel
theorem dM_tick_75 : decode xM_tick.2.1 75 = .ok (.aload_n 0, 1) := by decide +kernel
theorem dM_tick_76 : decode xM_tick.2.1 76 = .ok (.getfield 13, 3) := by decide +kernel
theorem dM_tick_79 : decode xM_tick.2.1 79 = .ok (.iconst 3, 1) := by decide +kernel
theorem dM_tick_80 : decode xM_tick.2.1 80 = .ok (.iaload, 1) := by decide +kernel
theorem dM_tick_81 : decode xM_tick.2.1 81 = .ok (.if_icmp .gt 7, 3) := by decide +kernel
theorem dM_tick_84 : decode xM_tick.2.1 84 = .ok (.iconst 0, 1) := by decide +kernel
theorem dM_tick_85 : decode xM_tick.2.1 85 = .ok (.goto 10, 3) := by decide +kernel
theorem dM_tick_88 : decode xM_tick.2.1 88 = .ok (.aload_n 0, 1) := by decide +kernel
theorem dM_tick_89 : decode xM_tick.2.1 89 = .ok (.getfield 20, 3) := by decide +kernel
theorem dM_tick_92 : decode xM_tick.2.1 92 = .ok (.iload 4, 2) := by decide +kernel
theorem dM_tick_94 : decode xM_tick.2.1 94 = .ok (.iaload, 1) := by decide +kernel
theorem dM_tick_95 : decode xM_tick.2.1 95 = .ok (.iastore, 1) := by decide +kernel
theorem dM_tick_96 : decode xM_tick.2.1 96 = .ok (.iinc 4 1, 3) := by decide +kernel
theorem dM_tick_99 : decode xM_tick.2.1 99 = .ok (.goto (-44), 3) := by decide +kernel
theorem dM_tick_102 : decode xM_tick.2.1 102 = .ok (.aload_n 0, 1) := by decide +kernel
theorem dM_tick_103 : decode xM_tick.2.1 103 = .ok (.aload_n 0, 1) := by decide +kernel
theorem dM_tick_104 : decode xM_tick.2.1 104 = .ok (.getfield 190, 3) := by decide +kernel
theorem dM_tick_107 : decode xM_tick.2.1 107 = .ok (.aload_n 0, 1) := by decide +kernel
theorem dM_tick_108 : decode xM_tick.2.1 108 = .ok (.getfield 13, 3) := by decide +kernel
theorem dM_tick_111 : decode xM_tick.2.1 111 = .ok (.iconst 3, 1) := by decide +kernel
theorem dM_tick_112 : decode xM_tick.2.1 112 = .ok (.iaload, 1) := by decide +kernel
theorem dM_tick_113 : decode xM_tick.2.1 113 = .ok (.if_icmp .gt 7, 3) := by decide +kernel
theorem dM_tick_116 : decode xM_tick.2.1 116 = .ok (.iconst 0, 1) := by decide +kernel
theorem dM_tick_117 : decode xM_tick.2.1 117 = .ok (.goto 7, 3) := by decide +kernel
theorem dM_tick_120 : decode xM_tick.2.1 120 = .ok (.aload_n 0, 1) := by decide +kernel
theorem dM_tick_121 : decode xM_tick.2.1 121 = .ok (.getfield 190, 3) := by decide +kernel
theorem dM_tick_124 : decode xM_tick.2.1 124 = .ok (.putfield 190, 3) := by decide +kernel
theorem dM_tick_127 : decode xM_tick.2.1 127 = .ok (.aload_n 0, 1) := by decide +kernel
theorem dM_tick_128 : decode xM_tick.2.1 128 = .ok (.invokevirtual 164, 3) := by decide +kernel
theorem dM_tick_131 : decode xM_tick.2.1 131 = .ok (.iinc 3 1, 3) := by decide +kernel
theorem dM_tick_134 : decode xM_tick.2.1 134 = .ok (.goto (-102), 3) := by decide +kernel
theorem dM_tick_137 : decode xM_tick.2.1 137 = .ok (.iconst 1, 1) := by decide +kernel
theorem dM_tick_138 : decode xM_tick.2.1 138 = .ok (.ireturn, 1) := by decide +kernel
def xM_crash : mt_X := (⟨"LeasedPagesModel", "crash", "(I)Z"⟩, prog_12_method_36_code, 3, (Option.some FieldType.boolean))
theorem dM_crash_0 : decode xM_crash.2.1 0 = .ok (.iload_n 1, 1) := by decide +kernel
theorem dM_crash_1 : decode xM_crash.2.1 1 = .ok (.iconst 0, 1) := by decide +kernel
theorem dM_crash_2 : decode xM_crash.2.1 2 = .ok (.iconst 3, 1) := by decide +kernel
theorem dM_crash_3 : decode xM_crash.2.1 3 = .ok (.invokestatic 138, 3) := by decide +kernel
theorem dM_crash_6 : decode xM_crash.2.1 6 = .ok (.ifCond .eq 12, 3) := by decide +kernel
theorem dM_crash_9 : decode xM_crash.2.1 9 = .ok (.aload_n 0, 1) := by decide +kernel
theorem dM_crash_10 : decode xM_crash.2.1 10 = .ok (.getfield 7, 3) := by decide +kernel
theorem dM_crash_13 : decode xM_crash.2.1 13 = .ok (.iload_n 1, 1) := by decide +kernel
theorem dM_crash_14 : decode xM_crash.2.1 14 = .ok (.baload, 1) := by decide +kernel
theorem dM_crash_15 : decode xM_crash.2.1 15 = .ok (.ifCond .eq 5, 3) := by decide +kernel
theorem dM_crash_18 : decode xM_crash.2.1 18 = .ok (.iconst 0, 1) := by decide +kernel
theorem dM_crash_19 : decode xM_crash.2.1 19 = .ok (.ireturn, 1) := by decide +kernel
theorem dM_crash_20 : decode xM_crash.2.1 20 = .ok (.aload_n 0, 1) := by decide +kernel
theorem dM_crash_21 : decode xM_crash.2.1 21 = .ok (.getfield 7, 3) := by decide +kernel
theorem dM_crash_24 : decode xM_crash.2.1 24 = .ok (.iload_n 1, 1) := by decide +kernel
theorem dM_crash_25 : decode xM_crash.2.1 25 = .ok (.iconst 1, 1) := by decide +kernel
theorem dM_crash_26 : decode xM_crash.2.1 26 = .ok (.bastore, 1) := by decide +kernel
theorem dM_crash_27 : decode xM_crash.2.1 27 = .ok (.iload_n 1, 1) := by decide +kernel
theorem dM_crash_28 : decode xM_crash.2.1 28 = .ok (.iconst 3, 1) := by decide +kernel
theorem dM_crash_29 : decode xM_crash.2.1 29 = .ok (.if_icmp .ne 46, 3) := by decide +kernel
theorem dM_crash_32 : decode xM_crash.2.1 32 = .ok (.iconst 0, 1) := by decide +kernel
theorem dM_crash_33 : decode xM_crash.2.1 33 = .ok (.istore_n 2, 1) := by decide +kernel
theorem dM_crash_34 : decode xM_crash.2.1 34 = .ok (.iload_n 2, 1) := by decide +kernel
theorem dM_crash_35 : decode xM_crash.2.1 35 = .ok (.bipush 12, 2) := by decide +kernel
theorem dM_crash_37 : decode xM_crash.2.1 37 = .ok (.if_icmp .ge 16, 3) := by decide +kernel
theorem dM_crash_40 : decode xM_crash.2.1 40 = .ok (.aload_n 0, 1) := by decide +kernel
theorem dM_crash_41 : decode xM_crash.2.1 41 = .ok (.getfield 20, 3) := by decide +kernel
theorem dM_crash_44 : decode xM_crash.2.1 44 = .ok (.iload_n 2, 1) := by decide +kernel
theorem dM_crash_45 : decode xM_crash.2.1 45 = .ok (.iconst 0, 1) := by decide +kernel
theorem dM_crash_46 : decode xM_crash.2.1 46 = .ok (.iastore, 1) := by decide +kernel
theorem dM_crash_47 : decode xM_crash.2.1 47 = .ok (.iinc 2 1, 3) := by decide +kernel
theorem dM_crash_50 : decode xM_crash.2.1 50 = .ok (.goto (-16), 3) := by decide +kernel
theorem dM_crash_53 : decode xM_crash.2.1 53 = .ok (.iconst 0, 1) := by decide +kernel
theorem dM_crash_54 : decode xM_crash.2.1 54 = .ok (.istore_n 2, 1) := by decide +kernel
theorem dM_crash_55 : decode xM_crash.2.1 55 = .ok (.iload_n 2, 1) := by decide +kernel
theorem dM_crash_56 : decode xM_crash.2.1 56 = .ok (.iconst 3, 1) := by decide +kernel
theorem dM_crash_57 : decode xM_crash.2.1 57 = .ok (.if_icmp .ge 16, 3) := by decide +kernel
theorem dM_crash_60 : decode xM_crash.2.1 60 = .ok (.aload_n 0, 1) := by decide +kernel
theorem dM_crash_61 : decode xM_crash.2.1 61 = .ok (.getfield 44, 3) := by decide +kernel
theorem dM_crash_64 : decode xM_crash.2.1 64 = .ok (.iload_n 2, 1) := by decide +kernel
theorem dM_crash_65 : decode xM_crash.2.1 65 = .ok (.iconst (-1), 1) := by decide +kernel
theorem dM_crash_66 : decode xM_crash.2.1 66 = .ok (.iastore, 1) := by decide +kernel
theorem dM_crash_67 : decode xM_crash.2.1 67 = .ok (.iinc 2 1, 3) := by decide +kernel
theorem dM_crash_70 : decode xM_crash.2.1 70 = .ok (.goto (-15), 3) := by decide +kernel
theorem dM_crash_73 : decode xM_crash.2.1 73 = .ok (.iconst 1, 1) := by decide +kernel
theorem dM_crash_74 : decode xM_crash.2.1 74 = .ok (.ireturn, 1) := by decide +kernel
theorem dM_crash_75 : decode xM_crash.2.1 75 = .ok (.aload_n 0, 1) := by decide +kernel
theorem dM_crash_76 : decode xM_crash.2.1 76 = .ok (.getfield 83, 3) := by decide +kernel
theorem dM_crash_79 : decode xM_crash.2.1 79 = .ok (.iload_n 1, 1) := by decide +kernel
theorem dM_crash_80 : decode xM_crash.2.1 80 = .ok (.iconst 0, 1) := by decide +kernel
theorem dM_crash_81 : decode xM_crash.2.1 81 = .ok (.iastore, 1) := by decide +kernel
theorem dM_crash_82 : decode xM_crash.2.1 82 = .ok (.aload_n 0, 1) := by decide +kernel
theorem dM_crash_83 : decode xM_crash.2.1 83 = .ok (.getfield 74, 3) := by decide +kernel
theorem dM_crash_86 : decode xM_crash.2.1 86 = .ok (.iload_n 1, 1) := by decide +kernel
theorem dM_crash_87 : decode xM_crash.2.1 87 = .ok (.iconst 0, 1) := by decide +kernel
theorem dM_crash_88 : decode xM_crash.2.1 88 = .ok (.iastore, 1) := by decide +kernel
theorem dM_crash_89 : decode xM_crash.2.1 89 = .ok (.iconst 0, 1) := by decide +kernel
theorem dM_crash_90 : decode xM_crash.2.1 90 = .ok (.istore_n 2, 1) := by decide +kernel
theorem dM_crash_91 : decode xM_crash.2.1 91 = .ok (.iload_n 2, 1) := by decide +kernel
theorem dM_crash_92 : decode xM_crash.2.1 92 = .ok (.iconst 4, 1) := by decide +kernel
theorem dM_crash_93 : decode xM_crash.2.1 93 = .ok (.if_icmp .ge 42, 3) := by decide +kernel
theorem dM_crash_96 : decode xM_crash.2.1 96 = .ok (.aload_n 0, 1) := by decide +kernel
theorem dM_crash_97 : decode xM_crash.2.1 97 = .ok (.getfield 59, 3) := by decide +kernel
theorem dM_crash_100 : decode xM_crash.2.1 100 = .ok (.iconst 4, 1) := by decide +kernel
theorem dM_crash_101 : decode xM_crash.2.1 101 = .ok (.iload_n 1, 1) := by decide +kernel
theorem dM_crash_102 : decode xM_crash.2.1 102 = .ok (.imul, 1) := by decide +kernel
theorem dM_crash_103 : decode xM_crash.2.1 103 = .ok (.iload_n 2, 1) := by decide +kernel
theorem dM_crash_104 : decode xM_crash.2.1 104 = .ok (.iadd, 1) := by decide +kernel
theorem dM_crash_105 : decode xM_crash.2.1 105 = .ok (.iconst 0, 1) := by decide +kernel
theorem dM_crash_106 : decode xM_crash.2.1 106 = .ok (.iastore, 1) := by decide +kernel
theorem dM_crash_107 : decode xM_crash.2.1 107 = .ok (.aload_n 0, 1) := by decide +kernel
theorem dM_crash_108 : decode xM_crash.2.1 108 = .ok (.getfield 65, 3) := by decide +kernel
theorem dM_crash_111 : decode xM_crash.2.1 111 = .ok (.iconst 4, 1) := by decide +kernel
theorem dM_crash_112 : decode xM_crash.2.1 112 = .ok (.iload_n 1, 1) := by decide +kernel
theorem dM_crash_113 : decode xM_crash.2.1 113 = .ok (.imul, 1) := by decide +kernel
theorem dM_crash_114 : decode xM_crash.2.1 114 = .ok (.iload_n 2, 1) := by decide +kernel
theorem dM_crash_115 : decode xM_crash.2.1 115 = .ok (.iadd, 1) := by decide +kernel
theorem dM_crash_116 : decode xM_crash.2.1 116 = .ok (.iconst 0, 1) := by decide +kernel
theorem dM_crash_117 : decode xM_crash.2.1 117 = .ok (.bastore, 1) := by decide +kernel
theorem dM_crash_118 : decode xM_crash.2.1 118 = .ok (.aload_n 0, 1) := by decide +kernel
theorem dM_crash_119 : decode xM_crash.2.1 119 = .ok (.getfield 68, 3) := by decide +kernel
theorem dM_crash_122 : decode xM_crash.2.1 122 = .ok (.iconst 4, 1) := by decide +kernel
theorem dM_crash_123 : decode xM_crash.2.1 123 = .ok (.iload_n 1, 1) := by decide +kernel
theorem dM_crash_124 : decode xM_crash.2.1 124 = .ok (.imul, 1) := by decide +kernel
theorem dM_crash_125 : decode xM_crash.2.1 125 = .ok (.iload_n 2, 1) := by decide +kernel
theorem dM_crash_126 : decode xM_crash.2.1 126 = .ok (.iadd, 1) := by decide +kernel
theorem dM_crash_127 : decode xM_crash.2.1 127 = .ok (.iconst 0, 1) := by decide +kernel
theorem dM_crash_128 : decode xM_crash.2.1 128 = .ok (.bastore, 1) := by decide +kernel
theorem dM_crash_129 : decode xM_crash.2.1 129 = .ok (.iinc 2 1, 3) := by decide +kernel
theorem dM_crash_132 : decode xM_crash.2.1 132 = .ok (.goto (-41), 3) := by decide +kernel
theorem dM_crash_135 : decode xM_crash.2.1 135 = .ok (.iconst 1, 1) := by decide +kernel
theorem dM_crash_136 : decode xM_crash.2.1 136 = .ok (.ireturn, 1) := by decide +kernel
def xM_restart : mt_X := (⟨"LeasedPagesModel", "restart", "(I)Z"⟩, prog_12_method_37_code, 2, (Option.some FieldType.boolean))
theorem dM_restart_0 : decode xM_restart.2.1 0 = .ok (.iload_n 1, 1) := by decide +kernel
theorem dM_restart_1 : decode xM_restart.2.1 1 = .ok (.iconst 0, 1) := by decide +kernel
theorem dM_restart_2 : decode xM_restart.2.1 2 = .ok (.iconst 3, 1) := by decide +kernel
theorem dM_restart_3 : decode xM_restart.2.1 3 = .ok (.invokestatic 138, 3) := by decide +kernel
theorem dM_restart_6 : decode xM_restart.2.1 6 = .ok (.ifCond .eq 12, 3) := by decide +kernel
theorem dM_restart_9 : decode xM_restart.2.1 9 = .ok (.aload_n 0, 1) := by decide +kernel
theorem dM_restart_10 : decode xM_restart.2.1 10 = .ok (.getfield 7, 3) := by decide +kernel
theorem dM_restart_13 : decode xM_restart.2.1 13 = .ok (.iload_n 1, 1) := by decide +kernel
theorem dM_restart_14 : decode xM_restart.2.1 14 = .ok (.baload, 1) := by decide +kernel
theorem dM_restart_15 : decode xM_restart.2.1 15 = .ok (.ifCond .ne 5, 3) := by decide +kernel
theorem dM_restart_18 : decode xM_restart.2.1 18 = .ok (.iconst 0, 1) := by decide +kernel
theorem dM_restart_19 : decode xM_restart.2.1 19 = .ok (.ireturn, 1) := by decide +kernel
theorem dM_restart_20 : decode xM_restart.2.1 20 = .ok (.aload_n 0, 1) := by decide +kernel
theorem dM_restart_21 : decode xM_restart.2.1 21 = .ok (.getfield 7, 3) := by decide +kernel
theorem dM_restart_24 : decode xM_restart.2.1 24 = .ok (.iload_n 1, 1) := by decide +kernel
theorem dM_restart_25 : decode xM_restart.2.1 25 = .ok (.iconst 0, 1) := by decide +kernel
theorem dM_restart_26 : decode xM_restart.2.1 26 = .ok (.bastore, 1) := by decide +kernel
theorem dM_restart_27 : decode xM_restart.2.1 27 = .ok (.aload_n 0, 1) := by decide +kernel
theorem dM_restart_28 : decode xM_restart.2.1 28 = .ok (.iload_n 1, 1) := by decide +kernel
theorem dM_restart_29 : decode xM_restart.2.1 29 = .ok (.iconst 3, 1) := by decide +kernel
theorem dM_restart_30 : decode xM_restart.2.1 30 = .ok (.if_icmp .ne 17, 3) := by decide +kernel
theorem dM_restart_33 : decode xM_restart.2.1 33 = .ok (.aload_n 0, 1) := by decide +kernel
theorem dM_restart_34 : decode xM_restart.2.1 34 = .ok (.getfield 13, 3) := by decide +kernel
theorem dM_restart_37 : decode xM_restart.2.1 37 = .ok (.iconst 3, 1) := by decide +kernel
theorem dM_restart_38 : decode xM_restart.2.1 38 = .ok (.iaload, 1) := by decide +kernel
theorem dM_restart_39 : decode xM_restart.2.1 39 = .ok (.aload_n 0, 1) := by decide +kernel
theorem dM_restart_40 : decode xM_restart.2.1 40 = .ok (.getfield 131, 3) := by decide +kernel
theorem dM_restart_43 : decode xM_restart.2.1 43 = .ok (.iadd, 1) := by decide +kernel
theorem dM_restart_44 : decode xM_restart.2.1 44 = .ok (.goto 7, 3) := by decide +kernel
theorem dM_restart_47 : decode xM_restart.2.1 47 = .ok (.aload_n 0, 1) := by decide +kernel
theorem dM_restart_48 : decode xM_restart.2.1 48 = .ok (.getfield 190, 3) := by decide +kernel
theorem dM_restart_51 : decode xM_restart.2.1 51 = .ok (.putfield 190, 3) := by decide +kernel
theorem dM_restart_54 : decode xM_restart.2.1 54 = .ok (.iconst 1, 1) := by decide +kernel
theorem dM_restart_55 : decode xM_restart.2.1 55 = .ok (.ireturn, 1) := by decide +kernel
def xM_clock : mt_X := (⟨"LeasedPagesModel", "clock", "(I)I"⟩, prog_12_method_38_code, 2, (Option.some FieldType.int))
theorem dM_clock_0 : decode xM_clock.2.1 0 = .ok (.iload_n 1, 1) := by decide +kernel
theorem dM_clock_1 : decode xM_clock.2.1 1 = .ok (.iconst 0, 1) := by decide +kernel
theorem dM_clock_2 : decode xM_clock.2.1 2 = .ok (.iconst 3, 1) := by decide +kernel
theorem dM_clock_3 : decode xM_clock.2.1 3 = .ok (.invokestatic 138, 3) := by decide +kernel
theorem dM_clock_6 : decode xM_clock.2.1 6 = .ok (.ifCond .eq 12, 3) := by decide +kernel
theorem dM_clock_9 : decode xM_clock.2.1 9 = .ok (.aload_n 0, 1) := by decide +kernel
theorem dM_clock_10 : decode xM_clock.2.1 10 = .ok (.getfield 13, 3) := by decide +kernel
theorem dM_clock_13 : decode xM_clock.2.1 13 = .ok (.iload_n 1, 1) := by decide +kernel
theorem dM_clock_14 : decode xM_clock.2.1 14 = .ok (.iaload, 1) := by decide +kernel
theorem dM_clock_15 : decode xM_clock.2.1 15 = .ok (.goto 4, 3) := by decide +kernel
theorem dM_clock_18 : decode xM_clock.2.1 18 = .ok (.iconst (-1), 1) := by decide +kernel
theorem dM_clock_19 : decode xM_clock.2.1 19 = .ok (.ireturn, 1) := by decide +kernel
def xM_lease : mt_X := (⟨"LeasedPagesModel", "lease", "(II)I"⟩, prog_12_method_39_code, 3, (Option.some FieldType.int))
theorem dM_lease_0 : decode xM_lease.2.1 0 = .ok (.aload_n 0, 1) := by decide +kernel
theorem dM_lease_1 : decode xM_lease.2.1 1 = .ok (.iload_n 1, 1) := by decide +kernel
theorem dM_lease_2 : decode xM_lease.2.1 2 = .ok (.invokevirtual 215, 3) := by decide +kernel
theorem dM_lease_5 : decode xM_lease.2.1 5 = .ok (.ifCond .eq 12, 3) := by decide +kernel
theorem dM_lease_8 : decode xM_lease.2.1 8 = .ok (.iload_n 2, 1) := by decide +kernel
theorem dM_lease_9 : decode xM_lease.2.1 9 = .ok (.iconst 0, 1) := by decide +kernel
theorem dM_lease_10 : decode xM_lease.2.1 10 = .ok (.iconst 3, 1) := by decide +kernel
theorem dM_lease_11 : decode xM_lease.2.1 11 = .ok (.invokestatic 138, 3) := by decide +kernel
theorem dM_lease_14 : decode xM_lease.2.1 14 = .ok (.ifCond .ne 5, 3) := by decide +kernel
theorem dM_lease_17 : decode xM_lease.2.1 17 = .ok (.iconst (-1), 1) := by decide +kernel
theorem dM_lease_18 : decode xM_lease.2.1 18 = .ok (.ireturn, 1) := by decide +kernel
theorem dM_lease_19 : decode xM_lease.2.1 19 = .ok (.aload_n 0, 1) := by decide +kernel
theorem dM_lease_20 : decode xM_lease.2.1 20 = .ok (.iload_n 1, 1) := by decide +kernel
theorem dM_lease_21 : decode xM_lease.2.1 21 = .ok (.iload_n 2, 1) := by decide +kernel
theorem dM_lease_22 : decode xM_lease.2.1 22 = .ok (.invokevirtual 221, 3) := by decide +kernel
theorem dM_lease_25 : decode xM_lease.2.1 25 = .ok (.ifCond .eq 16, 3) := by decide +kernel
theorem dM_lease_28 : decode xM_lease.2.1 28 = .ok (.aload_n 0, 1) := by decide +kernel
theorem dM_lease_29 : decode xM_lease.2.1 29 = .ok (.getfield 59, 3) := by decide +kernel
theorem dM_lease_32 : decode xM_lease.2.1 32 = .ok (.iconst 4, 1) := by decide +kernel
theorem dM_lease_33 : decode xM_lease.2.1 33 = .ok (.iload_n 1, 1) := by decide +kernel
theorem dM_lease_34 : decode xM_lease.2.1 34 = .ok (.imul, 1) := by decide +kernel
theorem dM_lease_35 : decode xM_lease.2.1 35 = .ok (.iload_n 2, 1) := by decide +kernel
theorem dM_lease_36 : decode xM_lease.2.1 36 = .ok (.iadd, 1) := by decide +kernel
theorem dM_lease_37 : decode xM_lease.2.1 37 = .ok (.iaload, 1) := by decide +kernel
theorem dM_lease_38 : decode xM_lease.2.1 38 = .ok (.goto 4, 3) := by decide +kernel
theorem dM_lease_41 : decode xM_lease.2.1 41 = .ok (.iconst 0, 1) := by decide +kernel
theorem dM_lease_42 : decode xM_lease.2.1 42 = .ok (.aload_n 0, 1) := by decide +kernel
theorem dM_lease_43 : decode xM_lease.2.1 43 = .ok (.getfield 65, 3) := by decide +kernel
theorem dM_lease_46 : decode xM_lease.2.1 46 = .ok (.iconst 4, 1) := by decide +kernel
theorem dM_lease_47 : decode xM_lease.2.1 47 = .ok (.iload_n 1, 1) := by decide +kernel
theorem dM_lease_48 : decode xM_lease.2.1 48 = .ok (.imul, 1) := by decide +kernel
theorem dM_lease_49 : decode xM_lease.2.1 49 = .ok (.iload_n 2, 1) := by decide +kernel
theorem dM_lease_50 : decode xM_lease.2.1 50 = .ok (.iadd, 1) := by decide +kernel
theorem dM_lease_51 : decode xM_lease.2.1 51 = .ok (.baload, 1) := by decide +kernel
theorem dM_lease_52 : decode xM_lease.2.1 52 = .ok (.ifCond .eq 8, 3) := by decide +kernel
theorem dM_lease_55 : decode xM_lease.2.1 55 = .ok (.bipush 10, 2) := by decide +kernel
theorem dM_lease_57 : decode xM_lease.2.1 57 = .ok (.goto 4, 3) := by decide +kernel
theorem dM_lease_60 : decode xM_lease.2.1 60 = .ok (.iconst 0, 1) := by decide +kernel
theorem dM_lease_61 : decode xM_lease.2.1 61 = .ok (.iadd, 1) := by decide +kernel
theorem dM_lease_62 : decode xM_lease.2.1 62 = .ok (.aload_n 0, 1) := by decide +kernel
theorem dM_lease_63 : decode xM_lease.2.1 63 = .ok (.getfield 68, 3) := by decide +kernel
theorem dM_lease_66 : decode xM_lease.2.1 66 = .ok (.iconst 4, 1) := by decide +kernel
theorem dM_lease_67 : decode xM_lease.2.1 67 = .ok (.iload_n 1, 1) := by decide +kernel
theorem dM_lease_68 : decode xM_lease.2.1 68 = .ok (.imul, 1) := by decide +kernel
theorem dM_lease_69 : decode xM_lease.2.1 69 = .ok (.iload_n 2, 1) := by decide +kernel
theorem dM_lease_70 : decode xM_lease.2.1 70 = .ok (.iadd, 1) := by decide +kernel
theorem dM_lease_71 : decode xM_lease.2.1 71 = .ok (.baload, 1) := by decide +kernel
theorem dM_lease_72 : decode xM_lease.2.1 72 = .ok (.ifCond .eq 8, 3) := by decide +kernel
theorem dM_lease_75 : decode xM_lease.2.1 75 = .ok (.bipush 100, 2) := by decide +kernel
theorem dM_lease_77 : decode xM_lease.2.1 77 = .ok (.goto 4, 3) := by decide +kernel
theorem dM_lease_80 : decode xM_lease.2.1 80 = .ok (.iconst 0, 1) := by decide +kernel
theorem dM_lease_81 : decode xM_lease.2.1 81 = .ok (.iadd, 1) := by decide +kernel
theorem dM_lease_82 : decode xM_lease.2.1 82 = .ok (.ireturn, 1) := by decide +kernel
def xM_dirty : mt_X := (⟨"LeasedPagesModel", "dirty", "(I)I"⟩, prog_12_method_40_code, 2, (Option.some FieldType.int))
theorem dM_dirty_0 : decode xM_dirty.2.1 0 = .ok (.aload_n 0, 1) := by decide +kernel
theorem dM_dirty_1 : decode xM_dirty.2.1 1 = .ok (.iload_n 1, 1) := by decide +kernel
theorem dM_dirty_2 : decode xM_dirty.2.1 2 = .ok (.invokevirtual 215, 3) := by decide +kernel
theorem dM_dirty_5 : decode xM_dirty.2.1 5 = .ok (.ifCond .eq 12, 3) := by decide +kernel
theorem dM_dirty_8 : decode xM_dirty.2.1 8 = .ok (.aload_n 0, 1) := by decide +kernel
theorem dM_dirty_9 : decode xM_dirty.2.1 9 = .ok (.getfield 74, 3) := by decide +kernel
theorem dM_dirty_12 : decode xM_dirty.2.1 12 = .ok (.iload_n 1, 1) := by decide +kernel
theorem dM_dirty_13 : decode xM_dirty.2.1 13 = .ok (.iaload, 1) := by decide +kernel
theorem dM_dirty_14 : decode xM_dirty.2.1 14 = .ok (.goto 4, 3) := by decide +kernel
theorem dM_dirty_17 : decode xM_dirty.2.1 17 = .ok (.iconst (-1), 1) := by decide +kernel
theorem dM_dirty_18 : decode xM_dirty.2.1 18 = .ok (.ireturn, 1) := by decide +kernel
def xM_held : mt_X := (⟨"LeasedPagesModel", "held", "(II)I"⟩, prog_12_method_41_code, 3, (Option.some FieldType.int))
theorem dM_held_0 : decode xM_held.2.1 0 = .ok (.iload_n 1, 1) := by decide +kernel
theorem dM_held_1 : decode xM_held.2.1 1 = .ok (.iconst 0, 1) := by decide +kernel
theorem dM_held_2 : decode xM_held.2.1 2 = .ok (.iconst 2, 1) := by decide +kernel
theorem dM_held_3 : decode xM_held.2.1 3 = .ok (.invokestatic 138, 3) := by decide +kernel
theorem dM_held_6 : decode xM_held.2.1 6 = .ok (.ifCond .eq 12, 3) := by decide +kernel
theorem dM_held_9 : decode xM_held.2.1 9 = .ok (.iload_n 2, 1) := by decide +kernel
theorem dM_held_10 : decode xM_held.2.1 10 = .ok (.iconst 0, 1) := by decide +kernel
theorem dM_held_11 : decode xM_held.2.1 11 = .ok (.iconst 3, 1) := by decide +kernel
theorem dM_held_12 : decode xM_held.2.1 12 = .ok (.invokestatic 138, 3) := by decide +kernel
theorem dM_held_15 : decode xM_held.2.1 15 = .ok (.ifCond .ne 5, 3) := by decide +kernel
theorem dM_held_18 : decode xM_held.2.1 18 = .ok (.iconst (-1), 1) := by decide +kernel
theorem dM_held_19 : decode xM_held.2.1 19 = .ok (.ireturn, 1) := by decide +kernel
theorem dM_held_20 : decode xM_held.2.1 20 = .ok (.aload_n 0, 1) := by decide +kernel
theorem dM_held_21 : decode xM_held.2.1 21 = .ok (.getfield 20, 3) := by decide +kernel
theorem dM_held_24 : decode xM_held.2.1 24 = .ok (.iconst 4, 1) := by decide +kernel
theorem dM_held_25 : decode xM_held.2.1 25 = .ok (.iload_n 1, 1) := by decide +kernel
theorem dM_held_26 : decode xM_held.2.1 26 = .ok (.imul, 1) := by decide +kernel
theorem dM_held_27 : decode xM_held.2.1 27 = .ok (.iload_n 2, 1) := by decide +kernel
theorem dM_held_28 : decode xM_held.2.1 28 = .ok (.iadd, 1) := by decide +kernel
theorem dM_held_29 : decode xM_held.2.1 29 = .ok (.iaload, 1) := by decide +kernel
theorem dM_held_30 : decode xM_held.2.1 30 = .ok (.ifCond .ne 7, 3) := by decide +kernel
theorem dM_held_33 : decode xM_held.2.1 33 = .ok (.iconst 0, 1) := by decide +kernel
theorem dM_held_34 : decode xM_held.2.1 34 = .ok (.goto 35, 3) := by decide +kernel
theorem dM_held_37 : decode xM_held.2.1 37 = .ok (.sipush 1000, 3) := by decide +kernel
theorem dM_held_40 : decode xM_held.2.1 40 = .ok (.aload_n 0, 1) := by decide +kernel
theorem dM_held_41 : decode xM_held.2.1 41 = .ok (.getfield 20, 3) := by decide +kernel
theorem dM_held_44 : decode xM_held.2.1 44 = .ok (.iconst 4, 1) := by decide +kernel
theorem dM_held_45 : decode xM_held.2.1 45 = .ok (.iload_n 1, 1) := by decide +kernel
theorem dM_held_46 : decode xM_held.2.1 46 = .ok (.imul, 1) := by decide +kernel
theorem dM_held_47 : decode xM_held.2.1 47 = .ok (.iload_n 2, 1) := by decide +kernel
theorem dM_held_48 : decode xM_held.2.1 48 = .ok (.iadd, 1) := by decide +kernel
theorem dM_held_49 : decode xM_held.2.1 49 = .ok (.iaload, 1) := by decide +kernel
theorem dM_held_50 : decode xM_held.2.1 50 = .ok (.imul, 1) := by decide +kernel
theorem dM_held_51 : decode xM_held.2.1 51 = .ok (.aload_n 0, 1) := by decide +kernel
theorem dM_held_52 : decode xM_held.2.1 52 = .ok (.getfield 23, 3) := by decide +kernel
theorem dM_held_55 : decode xM_held.2.1 55 = .ok (.iconst 4, 1) := by decide +kernel
theorem dM_held_56 : decode xM_held.2.1 56 = .ok (.iload_n 1, 1) := by decide +kernel
theorem dM_held_57 : decode xM_held.2.1 57 = .ok (.imul, 1) := by decide +kernel
theorem dM_held_58 : decode xM_held.2.1 58 = .ok (.iload_n 2, 1) := by decide +kernel
theorem dM_held_59 : decode xM_held.2.1 59 = .ok (.iadd, 1) := by decide +kernel
theorem dM_held_60 : decode xM_held.2.1 60 = .ok (.iaload, 1) := by decide +kernel
theorem dM_held_61 : decode xM_held.2.1 61 = .ok (.iadd, 1) := by decide +kernel
theorem dM_held_62 : decode xM_held.2.1 62 = .ok (.aload_n 0, 1) := by decide +kernel
theorem dM_held_63 : decode xM_held.2.1 63 = .ok (.getfield 13, 3) := by decide +kernel
theorem dM_held_66 : decode xM_held.2.1 66 = .ok (.iconst 3, 1) := by decide +kernel
theorem dM_held_67 : decode xM_held.2.1 67 = .ok (.iaload, 1) := by decide +kernel
theorem dM_held_68 : decode xM_held.2.1 68 = .ok (.isub, 1) := by decide +kernel
theorem dM_held_69 : decode xM_held.2.1 69 = .ok (.ireturn, 1) := by decide +kernel
def xM_waiting : mt_X := (⟨"LeasedPagesModel", "waiting", "(I)I"⟩, prog_12_method_42_code, 4, (Option.some FieldType.int))
theorem dM_waiting_0 : decode xM_waiting.2.1 0 = .ok (.iload_n 1, 1) := by decide +kernel
theorem dM_waiting_1 : decode xM_waiting.2.1 1 = .ok (.iconst 0, 1) := by decide +kernel
theorem dM_waiting_2 : decode xM_waiting.2.1 2 = .ok (.iconst 3, 1) := by decide +kernel
theorem dM_waiting_3 : decode xM_waiting.2.1 3 = .ok (.invokestatic 138, 3) := by decide +kernel
theorem dM_waiting_6 : decode xM_waiting.2.1 6 = .ok (.ifCond .ne 5, 3) := by decide +kernel
theorem dM_waiting_9 : decode xM_waiting.2.1 9 = .ok (.iconst (-1), 1) := by decide +kernel
theorem dM_waiting_10 : decode xM_waiting.2.1 10 = .ok (.ireturn, 1) := by decide +kernel
theorem dM_waiting_11 : decode xM_waiting.2.1 11 = .ok (.iconst 0, 1) := by decide +kernel
theorem dM_waiting_12 : decode xM_waiting.2.1 12 = .ok (.istore_n 2, 1) := by decide +kernel
theorem dM_waiting_13 : decode xM_waiting.2.1 13 = .ok (.iconst 0, 1) := by decide +kernel
theorem dM_waiting_14 : decode xM_waiting.2.1 14 = .ok (.istore_n 3, 1) := by decide +kernel
theorem dM_waiting_15 : decode xM_waiting.2.1 15 = .ok (.iload_n 3, 1) := by decide +kernel
theorem dM_waiting_16 : decode xM_waiting.2.1 16 = .ok (.iconst 3, 1) := by decide +kernel
theorem dM_waiting_17 : decode xM_waiting.2.1 17 = .ok (.if_icmp .ge 27, 3) := by decide +kernel
theorem dM_waiting_20 : decode xM_waiting.2.1 20 = .ok (.aload_n 0, 1) := by decide +kernel
theorem dM_waiting_21 : decode xM_waiting.2.1 21 = .ok (.getfield 44, 3) := by decide +kernel
theorem dM_waiting_24 : decode xM_waiting.2.1 24 = .ok (.iload_n 3, 1) := by decide +kernel
theorem dM_waiting_25 : decode xM_waiting.2.1 25 = .ok (.iaload, 1) := by decide +kernel
theorem dM_waiting_26 : decode xM_waiting.2.1 26 = .ok (.iload_n 1, 1) := by decide +kernel
theorem dM_waiting_27 : decode xM_waiting.2.1 27 = .ok (.if_icmp .ne 9, 3) := by decide +kernel
theorem dM_waiting_30 : decode xM_waiting.2.1 30 = .ok (.iload_n 2, 1) := by decide +kernel
theorem dM_waiting_31 : decode xM_waiting.2.1 31 = .ok (.iconst 1, 1) := by decide +kernel
theorem dM_waiting_32 : decode xM_waiting.2.1 32 = .ok (.iadd, 1) := by decide +kernel
theorem dM_waiting_33 : decode xM_waiting.2.1 33 = .ok (.goto 4, 3) := by decide +kernel
theorem dM_waiting_36 : decode xM_waiting.2.1 36 = .ok (.iload_n 2, 1) := by decide +kernel
theorem dM_waiting_37 : decode xM_waiting.2.1 37 = .ok (.istore_n 2, 1) := by decide +kernel
theorem dM_waiting_38 : decode xM_waiting.2.1 38 = .ok (.iinc 3 1, 3) := by decide +kernel
theorem dM_waiting_41 : decode xM_waiting.2.1 41 = .ok (.goto (-26), 3) := by decide +kernel
theorem dM_waiting_44 : decode xM_waiting.2.1 44 = .ok (.iload_n 2, 1) := by decide +kernel
theorem dM_waiting_45 : decode xM_waiting.2.1 45 = .ok (.ireturn, 1) := by decide +kernel
def xM_stored : mt_X := (⟨"LeasedPagesModel", "stored", "(II)I"⟩, prog_12_method_43_code, 3, (Option.some FieldType.int))
theorem dM_stored_0 : decode xM_stored.2.1 0 = .ok (.iload_n 1, 1) := by decide +kernel
theorem dM_stored_1 : decode xM_stored.2.1 1 = .ok (.iconst 0, 1) := by decide +kernel
theorem dM_stored_2 : decode xM_stored.2.1 2 = .ok (.iconst 3, 1) := by decide +kernel
theorem dM_stored_3 : decode xM_stored.2.1 3 = .ok (.invokestatic 138, 3) := by decide +kernel
theorem dM_stored_6 : decode xM_stored.2.1 6 = .ok (.ifCond .eq 25, 3) := by decide +kernel
theorem dM_stored_9 : decode xM_stored.2.1 9 = .ok (.iload_n 2, 1) := by decide +kernel
theorem dM_stored_10 : decode xM_stored.2.1 10 = .ok (.iconst 0, 1) := by decide +kernel
theorem dM_stored_11 : decode xM_stored.2.1 11 = .ok (.iconst 3, 1) := by decide +kernel
theorem dM_stored_12 : decode xM_stored.2.1 12 = .ok (.invokestatic 138, 3) := by decide +kernel
theorem dM_stored_15 : decode xM_stored.2.1 15 = .ok (.ifCond .eq 16, 3) := by decide +kernel
theorem dM_stored_18 : decode xM_stored.2.1 18 = .ok (.aload_n 0, 1) := by decide +kernel
theorem dM_stored_19 : decode xM_stored.2.1 19 = .ok (.getfield 17, 3) := by decide +kernel
theorem dM_stored_22 : decode xM_stored.2.1 22 = .ok (.iconst 4, 1) := by decide +kernel
theorem dM_stored_23 : decode xM_stored.2.1 23 = .ok (.iload_n 1, 1) := by decide +kernel
theorem dM_stored_24 : decode xM_stored.2.1 24 = .ok (.imul, 1) := by decide +kernel
theorem dM_stored_25 : decode xM_stored.2.1 25 = .ok (.iload_n 2, 1) := by decide +kernel
theorem dM_stored_26 : decode xM_stored.2.1 26 = .ok (.iadd, 1) := by decide +kernel
theorem dM_stored_27 : decode xM_stored.2.1 27 = .ok (.iaload, 1) := by decide +kernel
theorem dM_stored_28 : decode xM_stored.2.1 28 = .ok (.goto 4, 3) := by decide +kernel
theorem dM_stored_31 : decode xM_stored.2.1 31 = .ok (.iconst 0, 1) := by decide +kernel
theorem dM_stored_32 : decode xM_stored.2.1 32 = .ok (.ireturn, 1) := by decide +kernel
