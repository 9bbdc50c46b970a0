/-! Method constants and decode rows, written by wip/whole/gen/code.py out of the listing. -/
def xC_init : mt_X := (⟨"LeasedPages$Client", "<init>", "(IILLeasedPages$Network;)V"⟩, prog_2_method_1_code, 5, (Option.none : Option FieldType))
theorem dC_init_0 : decode xC_init.2.1 0 = .ok (.aload_n 0, 1) := by decide +kernel
theorem dC_init_1 : decode xC_init.2.1 1 = .ok (.invokespecial 3, 3) := by decide +kernel
theorem dC_init_4 : decode xC_init.2.1 4 = .ok (.aload_n 0, 1) := by decide +kernel
theorem dC_init_5 : decode xC_init.2.1 5 = .ok (.iconst 4, 1) := by decide +kernel
theorem dC_init_6 : decode xC_init.2.1 6 = .ok (.anewarray 9, 3) := by decide +kernel
theorem dC_init_9 : decode xC_init.2.1 9 = .ok (.putfield 11, 3) := by decide +kernel
theorem dC_init_12 : decode xC_init.2.1 12 = .ok (.aload_n 0, 1) := by decide +kernel
theorem dC_init_13 : decode xC_init.2.1 13 = .ok (.bipush 6, 2) := by decide +kernel
theorem dC_init_15 : decode xC_init.2.1 15 = .ok (.anewarray 17, 3) := by decide +kernel
theorem dC_init_18 : decode xC_init.2.1 18 = .ok (.putfield 19, 3) := by decide +kernel
theorem dC_init_21 : decode xC_init.2.1 21 = .ok (.aload_n 0, 1) := by decide +kernel
theorem dC_init_22 : decode xC_init.2.1 22 = .ok (.iconst 0, 1) := by decide +kernel
theorem dC_init_23 : decode xC_init.2.1 23 = .ok (.putfield 23, 3) := by decide +kernel
theorem dC_init_26 : decode xC_init.2.1 26 = .ok (.aload_n 0, 1) := by decide +kernel
theorem dC_init_27 : decode xC_init.2.1 27 = .ok (.iconst 1, 1) := by decide +kernel
theorem dC_init_28 : decode xC_init.2.1 28 = .ok (.putfield 27, 3) := by decide +kernel
theorem dC_init_31 : decode xC_init.2.1 31 = .ok (.aload_n 0, 1) := by decide +kernel
theorem dC_init_32 : decode xC_init.2.1 32 = .ok (.iconst 0, 1) := by decide +kernel
theorem dC_init_33 : decode xC_init.2.1 33 = .ok (.putfield 31, 3) := by decide +kernel
theorem dC_init_36 : decode xC_init.2.1 36 = .ok (.aload_n 0, 1) := by decide +kernel
theorem dC_init_37 : decode xC_init.2.1 37 = .ok (.iconst 0, 1) := by decide +kernel
theorem dC_init_38 : decode xC_init.2.1 38 = .ok (.putfield 34, 3) := by decide +kernel
theorem dC_init_41 : decode xC_init.2.1 41 = .ok (.aload_n 0, 1) := by decide +kernel
theorem dC_init_42 : decode xC_init.2.1 42 = .ok (.aconst_null, 1) := by decide +kernel
theorem dC_init_43 : decode xC_init.2.1 43 = .ok (.putfield 37, 3) := by decide +kernel
theorem dC_init_46 : decode xC_init.2.1 46 = .ok (.aload_n 0, 1) := by decide +kernel
theorem dC_init_47 : decode xC_init.2.1 47 = .ok (.iconst 0, 1) := by decide +kernel
theorem dC_init_48 : decode xC_init.2.1 48 = .ok (.putfield 41, 3) := by decide +kernel
theorem dC_init_51 : decode xC_init.2.1 51 = .ok (.aload_n 0, 1) := by decide +kernel
theorem dC_init_52 : decode xC_init.2.1 52 = .ok (.iload_n 1, 1) := by decide +kernel
theorem dC_init_53 : decode xC_init.2.1 53 = .ok (.putfield 44, 3) := by decide +kernel
theorem dC_init_56 : decode xC_init.2.1 56 = .ok (.aload_n 0, 1) := by decide +kernel
theorem dC_init_57 : decode xC_init.2.1 57 = .ok (.iload_n 2, 1) := by decide +kernel
theorem dC_init_58 : decode xC_init.2.1 58 = .ok (.putfield 47, 3) := by decide +kernel
theorem dC_init_61 : decode xC_init.2.1 61 = .ok (.aload_n 0, 1) := by decide +kernel
theorem dC_init_62 : decode xC_init.2.1 62 = .ok (.aload_n 3, 1) := by decide +kernel
theorem dC_init_63 : decode xC_init.2.1 63 = .ok (.putfield 50, 3) := by decide +kernel
theorem dC_init_66 : decode xC_init.2.1 66 = .ok (.iconst 0, 1) := by decide +kernel
theorem dC_init_67 : decode xC_init.2.1 67 = .ok (.istore 4, 2) := by decide +kernel
theorem dC_init_69 : decode xC_init.2.1 69 = .ok (.iload 4, 2) := by decide +kernel
theorem dC_init_71 : decode xC_init.2.1 71 = .ok (.iconst 4, 1) := by decide +kernel
theorem dC_init_72 : decode xC_init.2.1 72 = .ok (.if_icmp .ge 23, 3) := by decide +kernel
theorem dC_init_75 : decode xC_init.2.1 75 = .ok (.aload_n 0, 1) := by decide +kernel
theorem dC_init_76 : decode xC_init.2.1 76 = .ok (.getfield 11, 3) := by decide +kernel
theorem dC_init_79 : decode xC_init.2.1 79 = .ok (.iload 4, 2) := by decide +kernel
theorem dC_init_81 : decode xC_init.2.1 81 = .ok (.new 9, 3) := by decide +kernel
theorem dC_init_84 : decode xC_init.2.1 84 = .ok (.dup, 1) := by decide +kernel
theorem dC_init_85 : decode xC_init.2.1 85 = .ok (.invokespecial 54, 3) := by decide +kernel
theorem dC_init_88 : decode xC_init.2.1 88 = .ok (.aastore, 1) := by decide +kernel
theorem dC_init_89 : decode xC_init.2.1 89 = .ok (.iinc 4 1, 3) := by decide +kernel
theorem dC_init_92 : decode xC_init.2.1 92 = .ok (.goto (-23), 3) := by decide +kernel
theorem dC_init_95 : decode xC_init.2.1 95 = .ok (.return_, 1) := by decide +kernel
def xC_goDown : mt_X := (⟨"LeasedPages$Client", "goDown", "()V"⟩, prog_2_method_2_code, 2, (Option.none : Option FieldType))
theorem dC_goDown_0 : decode xC_goDown.2.1 0 = .ok (.aload_n 0, 1) := by decide +kernel
theorem dC_goDown_1 : decode xC_goDown.2.1 1 = .ok (.iconst 0, 1) := by decide +kernel
theorem dC_goDown_2 : decode xC_goDown.2.1 2 = .ok (.putfield 27, 3) := by decide +kernel
theorem dC_goDown_5 : decode xC_goDown.2.1 5 = .ok (.aload_n 0, 1) := by decide +kernel
theorem dC_goDown_6 : decode xC_goDown.2.1 6 = .ok (.aconst_null, 1) := by decide +kernel
theorem dC_goDown_7 : decode xC_goDown.2.1 7 = .ok (.putfield 37, 3) := by decide +kernel
theorem dC_goDown_10 : decode xC_goDown.2.1 10 = .ok (.aload_n 0, 1) := by decide +kernel
theorem dC_goDown_11 : decode xC_goDown.2.1 11 = .ok (.iconst 0, 1) := by decide +kernel
theorem dC_goDown_12 : decode xC_goDown.2.1 12 = .ok (.invokevirtual 55, 3) := by decide +kernel
theorem dC_goDown_15 : decode xC_goDown.2.1 15 = .ok (.iconst 0, 1) := by decide +kernel
theorem dC_goDown_16 : decode xC_goDown.2.1 16 = .ok (.istore_n 1, 1) := by decide +kernel
theorem dC_goDown_17 : decode xC_goDown.2.1 17 = .ok (.iload_n 1, 1) := by decide +kernel
theorem dC_goDown_18 : decode xC_goDown.2.1 18 = .ok (.iconst 4, 1) := by decide +kernel
theorem dC_goDown_19 : decode xC_goDown.2.1 19 = .ok (.if_icmp .ge 18, 3) := by decide +kernel
theorem dC_goDown_22 : decode xC_goDown.2.1 22 = .ok (.aload_n 0, 1) := by decide +kernel
theorem dC_goDown_23 : decode xC_goDown.2.1 23 = .ok (.getfield 11, 3) := by decide +kernel
theorem dC_goDown_26 : decode xC_goDown.2.1 26 = .ok (.iload_n 1, 1) := by decide +kernel
theorem dC_goDown_27 : decode xC_goDown.2.1 27 = .ok (.aaload, 1) := by decide +kernel
theorem dC_goDown_28 : decode xC_goDown.2.1 28 = .ok (.invokevirtual 59, 3) := by decide +kernel
theorem dC_goDown_31 : decode xC_goDown.2.1 31 = .ok (.iinc 1 1, 3) := by decide +kernel
theorem dC_goDown_34 : decode xC_goDown.2.1 34 = .ok (.goto (-17), 3) := by decide +kernel
theorem dC_goDown_37 : decode xC_goDown.2.1 37 = .ok (.return_, 1) := by decide +kernel
def xC_askForLease : mt_X := (⟨"LeasedPages$Client", "askForLease", "(II)I"⟩, prog_2_method_3_code, 5, (Option.some FieldType.int))
theorem dC_askForLease_0 : decode xC_askForLease.2.1 0 = .ok (.aload_n 0, 1) := by decide +kernel
theorem dC_askForLease_1 : decode xC_askForLease.2.1 1 = .ok (.getfield 11, 3) := by decide +kernel
theorem dC_askForLease_4 : decode xC_askForLease.2.1 4 = .ok (.iload_n 1, 1) := by decide +kernel
theorem dC_askForLease_5 : decode xC_askForLease.2.1 5 = .ok (.aaload, 1) := by decide +kernel
theorem dC_askForLease_6 : decode xC_askForLease.2.1 6 = .ok (.astore_n 3, 1) := by decide +kernel
theorem dC_askForLease_7 : decode xC_askForLease.2.1 7 = .ok (.aload_n 3, 1) := by decide +kernel
theorem dC_askForLease_8 : decode xC_askForLease.2.1 8 = .ok (.invokevirtual 62, 3) := by decide +kernel
theorem dC_askForLease_11 : decode xC_askForLease.2.1 11 = .ok (.ifCond .eq 6, 3) := by decide +kernel
theorem dC_askForLease_14 : decode xC_askForLease.2.1 14 = .ok (.bipush (-3), 2) := by decide +kernel
theorem dC_askForLease_16 : decode xC_askForLease.2.1 16 = .ok (.ireturn, 1) := by decide +kernel
theorem dC_askForLease_17 : decode xC_askForLease.2.1 17 = .ok (.aload_n 3, 1) := by decide +kernel
theorem dC_askForLease_18 : decode xC_askForLease.2.1 18 = .ok (.iconst 2, 1) := by decide +kernel
theorem dC_askForLease_19 : decode xC_askForLease.2.1 19 = .ok (.aload_n 0, 1) := by decide +kernel
theorem dC_askForLease_20 : decode xC_askForLease.2.1 20 = .ok (.getfield 31, 3) := by decide +kernel
theorem dC_askForLease_23 : decode xC_askForLease.2.1 23 = .ok (.invokevirtual 66, 3) := by decide +kernel
theorem dC_askForLease_26 : decode xC_askForLease.2.1 26 = .ok (.ifCond .ne 11, 3) := by decide +kernel
theorem dC_askForLease_29 : decode xC_askForLease.2.1 29 = .ok (.aload_n 0, 1) := by decide +kernel
theorem dC_askForLease_30 : decode xC_askForLease.2.1 30 = .ok (.iload_n 1, 1) := by decide +kernel
theorem dC_askForLease_31 : decode xC_askForLease.2.1 31 = .ok (.invokevirtual 70, 3) := by decide +kernel
theorem dC_askForLease_34 : decode xC_askForLease.2.1 34 = .ok (.ifCond .eq 7, 3) := by decide +kernel
theorem dC_askForLease_37 : decode xC_askForLease.2.1 37 = .ok (.iconst 2, 1) := by decide +kernel
theorem dC_askForLease_38 : decode xC_askForLease.2.1 38 = .ok (.goto 4, 3) := by decide +kernel
theorem dC_askForLease_41 : decode xC_askForLease.2.1 41 = .ok (.iload_n 2, 1) := by decide +kernel
theorem dC_askForLease_42 : decode xC_askForLease.2.1 42 = .ok (.istore 4, 2) := by decide +kernel
theorem dC_askForLease_44 : decode xC_askForLease.2.1 44 = .ok (.aload_n 0, 1) := by decide +kernel
theorem dC_askForLease_45 : decode xC_askForLease.2.1 45 = .ok (.aload_n 0, 1) := by decide +kernel
theorem dC_askForLease_46 : decode xC_askForLease.2.1 46 = .ok (.getfield 44, 3) := by decide +kernel
theorem dC_askForLease_49 : decode xC_askForLease.2.1 49 = .ok (.iload_n 1, 1) := by decide +kernel
theorem dC_askForLease_50 : decode xC_askForLease.2.1 50 = .ok (.aload_n 0, 1) := by decide +kernel
theorem dC_askForLease_51 : decode xC_askForLease.2.1 51 = .ok (.getfield 34, 3) := by decide +kernel
theorem dC_askForLease_54 : decode xC_askForLease.2.1 54 = .ok (.iconst 1, 1) := by decide +kernel
theorem dC_askForLease_55 : decode xC_askForLease.2.1 55 = .ok (.iadd, 1) := by decide +kernel
theorem dC_askForLease_56 : decode xC_askForLease.2.1 56 = .ok (.iload 4, 2) := by decide +kernel
theorem dC_askForLease_58 : decode xC_askForLease.2.1 58 = .ok (.aload_n 3, 1) := by decide +kernel
theorem dC_askForLease_59 : decode xC_askForLease.2.1 59 = .ok (.iload 4, 2) := by decide +kernel
theorem dC_askForLease_61 : decode xC_askForLease.2.1 61 = .ok (.aload_n 0, 1) := by decide +kernel
theorem dC_askForLease_62 : decode xC_askForLease.2.1 62 = .ok (.getfield 31, 3) := by decide +kernel
theorem dC_askForLease_65 : decode xC_askForLease.2.1 65 = .ok (.invokevirtual 66, 3) := by decide +kernel
theorem dC_askForLease_68 : decode xC_askForLease.2.1 68 = .ok (.invokestatic 74, 3) := by decide +kernel
theorem dC_askForLease_71 : decode xC_askForLease.2.1 71 = .ok (.invokevirtual 80, 3) := by decide +kernel
theorem dC_askForLease_74 : decode xC_askForLease.2.1 74 = .ok (.ireturn, 1) := by decide +kernel
def xC_readPage : mt_X := (⟨"LeasedPages$Client", "readPage", "(II)I"⟩, prog_2_method_4_code, 4, (Option.some FieldType.int))
theorem dC_readPage_0 : decode xC_readPage.2.1 0 = .ok (.aload_n 0, 1) := by decide +kernel
theorem dC_readPage_1 : decode xC_readPage.2.1 1 = .ok (.getfield 11, 3) := by decide +kernel
theorem dC_readPage_4 : decode xC_readPage.2.1 4 = .ok (.iload_n 1, 1) := by decide +kernel
theorem dC_readPage_5 : decode xC_readPage.2.1 5 = .ok (.aaload, 1) := by decide +kernel
theorem dC_readPage_6 : decode xC_readPage.2.1 6 = .ok (.astore_n 3, 1) := by decide +kernel
theorem dC_readPage_7 : decode xC_readPage.2.1 7 = .ok (.aload_n 3, 1) := by decide +kernel
theorem dC_readPage_8 : decode xC_readPage.2.1 8 = .ok (.invokevirtual 62, 3) := by decide +kernel
theorem dC_readPage_11 : decode xC_readPage.2.1 11 = .ok (.ifCond .eq 6, 3) := by decide +kernel
theorem dC_readPage_14 : decode xC_readPage.2.1 14 = .ok (.bipush (-3), 2) := by decide +kernel
theorem dC_readPage_16 : decode xC_readPage.2.1 16 = .ok (.ireturn, 1) := by decide +kernel
theorem dC_readPage_17 : decode xC_readPage.2.1 17 = .ok (.aload_n 3, 1) := by decide +kernel
theorem dC_readPage_18 : decode xC_readPage.2.1 18 = .ok (.iconst 1, 1) := by decide +kernel
theorem dC_readPage_19 : decode xC_readPage.2.1 19 = .ok (.aload_n 0, 1) := by decide +kernel
theorem dC_readPage_20 : decode xC_readPage.2.1 20 = .ok (.getfield 31, 3) := by decide +kernel
theorem dC_readPage_23 : decode xC_readPage.2.1 23 = .ok (.invokevirtual 66, 3) := by decide +kernel
theorem dC_readPage_26 : decode xC_readPage.2.1 26 = .ok (.ifCond .eq 12, 3) := by decide +kernel
theorem dC_readPage_29 : decode xC_readPage.2.1 29 = .ok (.aload_n 3, 1) := by decide +kernel
theorem dC_readPage_30 : decode xC_readPage.2.1 30 = .ok (.getfield 84, 3) := by decide +kernel
theorem dC_readPage_33 : decode xC_readPage.2.1 33 = .ok (.iload_n 2, 1) := by decide +kernel
theorem dC_readPage_34 : decode xC_readPage.2.1 34 = .ok (.iaload, 1) := by decide +kernel
theorem dC_readPage_35 : decode xC_readPage.2.1 35 = .ok (.goto 5, 3) := by decide +kernel
theorem dC_readPage_38 : decode xC_readPage.2.1 38 = .ok (.bipush (-2), 2) := by decide +kernel
theorem dC_readPage_40 : decode xC_readPage.2.1 40 = .ok (.ireturn, 1) := by decide +kernel
def xC_canRead : mt_X := (⟨"LeasedPages$Client", "canRead", "(I)I"⟩, prog_2_method_5_code, 2, (Option.some FieldType.int))
theorem dC_canRead_0 : decode xC_canRead.2.1 0 = .ok (.aload_n 0, 1) := by decide +kernel
theorem dC_canRead_1 : decode xC_canRead.2.1 1 = .ok (.getfield 11, 3) := by decide +kernel
theorem dC_canRead_4 : decode xC_canRead.2.1 4 = .ok (.iload_n 1, 1) := by decide +kernel
theorem dC_canRead_5 : decode xC_canRead.2.1 5 = .ok (.aaload, 1) := by decide +kernel
theorem dC_canRead_6 : decode xC_canRead.2.1 6 = .ok (.getfield 88, 3) := by decide +kernel
theorem dC_canRead_9 : decode xC_canRead.2.1 9 = .ok (.ifCond .eq 6, 3) := by decide +kernel
theorem dC_canRead_12 : decode xC_canRead.2.1 12 = .ok (.bipush (-3), 2) := by decide +kernel
theorem dC_canRead_14 : decode xC_canRead.2.1 14 = .ok (.ireturn, 1) := by decide +kernel
theorem dC_canRead_15 : decode xC_canRead.2.1 15 = .ok (.aload_n 0, 1) := by decide +kernel
theorem dC_canRead_16 : decode xC_canRead.2.1 16 = .ok (.getfield 11, 3) := by decide +kernel
theorem dC_canRead_19 : decode xC_canRead.2.1 19 = .ok (.iload_n 1, 1) := by decide +kernel
theorem dC_canRead_20 : decode xC_canRead.2.1 20 = .ok (.aaload, 1) := by decide +kernel
theorem dC_canRead_21 : decode xC_canRead.2.1 21 = .ok (.iconst 1, 1) := by decide +kernel
theorem dC_canRead_22 : decode xC_canRead.2.1 22 = .ok (.aload_n 0, 1) := by decide +kernel
theorem dC_canRead_23 : decode xC_canRead.2.1 23 = .ok (.getfield 31, 3) := by decide +kernel
theorem dC_canRead_26 : decode xC_canRead.2.1 26 = .ok (.invokevirtual 66, 3) := by decide +kernel
theorem dC_canRead_29 : decode xC_canRead.2.1 29 = .ok (.ifCond .eq 7, 3) := by decide +kernel
theorem dC_canRead_32 : decode xC_canRead.2.1 32 = .ok (.iconst 1, 1) := by decide +kernel
theorem dC_canRead_33 : decode xC_canRead.2.1 33 = .ok (.goto 5, 3) := by decide +kernel
theorem dC_canRead_36 : decode xC_canRead.2.1 36 = .ok (.bipush (-2), 2) := by decide +kernel
theorem dC_canRead_38 : decode xC_canRead.2.1 38 = .ok (.ireturn, 1) := by decide +kernel
def xC_writePage : mt_X := (⟨"LeasedPages$Client", "writePage", "(III)I"⟩, prog_2_method_6_code, 5, (Option.some FieldType.int))
theorem dC_writePage_0 : decode xC_writePage.2.1 0 = .ok (.aload_n 0, 1) := by decide +kernel
theorem dC_writePage_1 : decode xC_writePage.2.1 1 = .ok (.getfield 11, 3) := by decide +kernel
theorem dC_writePage_4 : decode xC_writePage.2.1 4 = .ok (.iload_n 1, 1) := by decide +kernel
theorem dC_writePage_5 : decode xC_writePage.2.1 5 = .ok (.aaload, 1) := by decide +kernel
theorem dC_writePage_6 : decode xC_writePage.2.1 6 = .ok (.astore 4, 2) := by decide +kernel
theorem dC_writePage_8 : decode xC_writePage.2.1 8 = .ok (.aload 4, 2) := by decide +kernel
theorem dC_writePage_10 : decode xC_writePage.2.1 10 = .ok (.invokevirtual 62, 3) := by decide +kernel
theorem dC_writePage_13 : decode xC_writePage.2.1 13 = .ok (.ifCond .eq 6, 3) := by decide +kernel
theorem dC_writePage_16 : decode xC_writePage.2.1 16 = .ok (.bipush (-3), 2) := by decide +kernel
theorem dC_writePage_18 : decode xC_writePage.2.1 18 = .ok (.ireturn, 1) := by decide +kernel
theorem dC_writePage_19 : decode xC_writePage.2.1 19 = .ok (.aload 4, 2) := by decide +kernel
theorem dC_writePage_21 : decode xC_writePage.2.1 21 = .ok (.iconst 2, 1) := by decide +kernel
theorem dC_writePage_22 : decode xC_writePage.2.1 22 = .ok (.aload_n 0, 1) := by decide +kernel
theorem dC_writePage_23 : decode xC_writePage.2.1 23 = .ok (.getfield 31, 3) := by decide +kernel
theorem dC_writePage_26 : decode xC_writePage.2.1 26 = .ok (.invokevirtual 66, 3) := by decide +kernel
theorem dC_writePage_29 : decode xC_writePage.2.1 29 = .ok (.ifCond .ne 6, 3) := by decide +kernel
theorem dC_writePage_32 : decode xC_writePage.2.1 32 = .ok (.bipush (-2), 2) := by decide +kernel
theorem dC_writePage_34 : decode xC_writePage.2.1 34 = .ok (.ireturn, 1) := by decide +kernel
theorem dC_writePage_35 : decode xC_writePage.2.1 35 = .ok (.aload_n 0, 1) := by decide +kernel
theorem dC_writePage_36 : decode xC_writePage.2.1 36 = .ok (.getfield 23, 3) := by decide +kernel
theorem dC_writePage_39 : decode xC_writePage.2.1 39 = .ok (.bipush 6, 2) := by decide +kernel
theorem dC_writePage_41 : decode xC_writePage.2.1 41 = .ok (.if_icmp .lt 6, 3) := by decide +kernel
theorem dC_writePage_44 : decode xC_writePage.2.1 44 = .ok (.bipush (-4), 2) := by decide +kernel
theorem dC_writePage_46 : decode xC_writePage.2.1 46 = .ok (.ireturn, 1) := by decide +kernel
theorem dC_writePage_47 : decode xC_writePage.2.1 47 = .ok (.aload 4, 2) := by decide +kernel
theorem dC_writePage_49 : decode xC_writePage.2.1 49 = .ok (.getfield 84, 3) := by decide +kernel
theorem dC_writePage_52 : decode xC_writePage.2.1 52 = .ok (.iload_n 2, 1) := by decide +kernel
theorem dC_writePage_53 : decode xC_writePage.2.1 53 = .ok (.iload_n 3, 1) := by decide +kernel
theorem dC_writePage_54 : decode xC_writePage.2.1 54 = .ok (.iastore, 1) := by decide +kernel
theorem dC_writePage_55 : decode xC_writePage.2.1 55 = .ok (.aload_n 0, 1) := by decide +kernel
theorem dC_writePage_56 : decode xC_writePage.2.1 56 = .ok (.getfield 19, 3) := by decide +kernel
theorem dC_writePage_59 : decode xC_writePage.2.1 59 = .ok (.aload_n 0, 1) := by decide +kernel
theorem dC_writePage_60 : decode xC_writePage.2.1 60 = .ok (.getfield 23, 3) := by decide +kernel
theorem dC_writePage_63 : decode xC_writePage.2.1 63 = .ok (.new 17, 3) := by decide +kernel
theorem dC_writePage_66 : decode xC_writePage.2.1 66 = .ok (.dup, 1) := by decide +kernel
theorem dC_writePage_67 : decode xC_writePage.2.1 67 = .ok (.iload_n 1, 1) := by decide +kernel
theorem dC_writePage_68 : decode xC_writePage.2.1 68 = .ok (.iload_n 2, 1) := by decide +kernel
theorem dC_writePage_69 : decode xC_writePage.2.1 69 = .ok (.iload_n 3, 1) := by decide +kernel
theorem dC_writePage_70 : decode xC_writePage.2.1 70 = .ok (.invokespecial 91, 3) := by decide +kernel
theorem dC_writePage_73 : decode xC_writePage.2.1 73 = .ok (.aastore, 1) := by decide +kernel
theorem dC_writePage_74 : decode xC_writePage.2.1 74 = .ok (.aload_n 0, 1) := by decide +kernel
theorem dC_writePage_75 : decode xC_writePage.2.1 75 = .ok (.dup, 1) := by decide +kernel
theorem dC_writePage_76 : decode xC_writePage.2.1 76 = .ok (.getfield 23, 3) := by decide +kernel
theorem dC_writePage_79 : decode xC_writePage.2.1 79 = .ok (.iconst 1, 1) := by decide +kernel
theorem dC_writePage_80 : decode xC_writePage.2.1 80 = .ok (.iadd, 1) := by decide +kernel
theorem dC_writePage_81 : decode xC_writePage.2.1 81 = .ok (.putfield 23, 3) := by decide +kernel
theorem dC_writePage_84 : decode xC_writePage.2.1 84 = .ok (.aload_n 0, 1) := by decide +kernel
theorem dC_writePage_85 : decode xC_writePage.2.1 85 = .ok (.getfield 23, 3) := by decide +kernel
theorem dC_writePage_88 : decode xC_writePage.2.1 88 = .ok (.ireturn, 1) := by decide +kernel
def xC_storeFirstWrite : mt_X := (⟨"LeasedPages$Client", "storeFirstWrite", "()I"⟩, prog_2_method_7_code, 2, (Option.some FieldType.int))
theorem dC_storeFirstWrite_0 : decode xC_storeFirstWrite.2.1 0 = .ok (.aload_n 0, 1) := by decide +kernel
theorem dC_storeFirstWrite_1 : decode xC_storeFirstWrite.2.1 1 = .ok (.getfield 23, 3) := by decide +kernel
theorem dC_storeFirstWrite_4 : decode xC_storeFirstWrite.2.1 4 = .ok (.ifCond .ne 5, 3) := by decide +kernel
theorem dC_storeFirstWrite_7 : decode xC_storeFirstWrite.2.1 7 = .ok (.iconst (-1), 1) := by decide +kernel
theorem dC_storeFirstWrite_8 : decode xC_storeFirstWrite.2.1 8 = .ok (.ireturn, 1) := by decide +kernel
theorem dC_storeFirstWrite_9 : decode xC_storeFirstWrite.2.1 9 = .ok (.aload_n 0, 1) := by decide +kernel
theorem dC_storeFirstWrite_10 : decode xC_storeFirstWrite.2.1 10 = .ok (.getfield 19, 3) := by decide +kernel
theorem dC_storeFirstWrite_13 : decode xC_storeFirstWrite.2.1 13 = .ok (.iconst 0, 1) := by decide +kernel
theorem dC_storeFirstWrite_14 : decode xC_storeFirstWrite.2.1 14 = .ok (.aaload, 1) := by decide +kernel
theorem dC_storeFirstWrite_15 : decode xC_storeFirstWrite.2.1 15 = .ok (.astore_n 1, 1) := by decide +kernel
theorem dC_storeFirstWrite_16 : decode xC_storeFirstWrite.2.1 16 = .ok (.aload_n 0, 1) := by decide +kernel
theorem dC_storeFirstWrite_17 : decode xC_storeFirstWrite.2.1 17 = .ok (.getfield 11, 3) := by decide +kernel
theorem dC_storeFirstWrite_20 : decode xC_storeFirstWrite.2.1 20 = .ok (.aload_n 1, 1) := by decide +kernel
theorem dC_storeFirstWrite_21 : decode xC_storeFirstWrite.2.1 21 = .ok (.getfield 94, 3) := by decide +kernel
theorem dC_storeFirstWrite_24 : decode xC_storeFirstWrite.2.1 24 = .ok (.aaload, 1) := by decide +kernel
theorem dC_storeFirstWrite_25 : decode xC_storeFirstWrite.2.1 25 = .ok (.iconst 2, 1) := by decide +kernel
theorem dC_storeFirstWrite_26 : decode xC_storeFirstWrite.2.1 26 = .ok (.aload_n 0, 1) := by decide +kernel
theorem dC_storeFirstWrite_27 : decode xC_storeFirstWrite.2.1 27 = .ok (.getfield 31, 3) := by decide +kernel
theorem dC_storeFirstWrite_30 : decode xC_storeFirstWrite.2.1 30 = .ok (.invokevirtual 66, 3) := by decide +kernel
theorem dC_storeFirstWrite_33 : decode xC_storeFirstWrite.2.1 33 = .ok (.ifCond .ne 6, 3) := by decide +kernel
theorem dC_storeFirstWrite_36 : decode xC_storeFirstWrite.2.1 36 = .ok (.bipush (-2), 2) := by decide +kernel
theorem dC_storeFirstWrite_38 : decode xC_storeFirstWrite.2.1 38 = .ok (.ireturn, 1) := by decide +kernel
theorem dC_storeFirstWrite_39 : decode xC_storeFirstWrite.2.1 39 = .ok (.aload_n 0, 1) := by decide +kernel
theorem dC_storeFirstWrite_40 : decode xC_storeFirstWrite.2.1 40 = .ok (.aload_n 0, 1) := by decide +kernel
theorem dC_storeFirstWrite_41 : decode xC_storeFirstWrite.2.1 41 = .ok (.getfield 44, 3) := by decide +kernel
theorem dC_storeFirstWrite_44 : decode xC_storeFirstWrite.2.1 44 = .ok (.aload_n 0, 1) := by decide +kernel
theorem dC_storeFirstWrite_45 : decode xC_storeFirstWrite.2.1 45 = .ok (.getfield 34, 3) := by decide +kernel
theorem dC_storeFirstWrite_48 : decode xC_storeFirstWrite.2.1 48 = .ok (.iconst 1, 1) := by decide +kernel
theorem dC_storeFirstWrite_49 : decode xC_storeFirstWrite.2.1 49 = .ok (.iadd, 1) := by decide +kernel
theorem dC_storeFirstWrite_50 : decode xC_storeFirstWrite.2.1 50 = .ok (.aload_n 1, 1) := by decide +kernel
theorem dC_storeFirstWrite_51 : decode xC_storeFirstWrite.2.1 51 = .ok (.invokestatic 97, 3) := by decide +kernel
theorem dC_storeFirstWrite_54 : decode xC_storeFirstWrite.2.1 54 = .ok (.invokevirtual 80, 3) := by decide +kernel
theorem dC_storeFirstWrite_57 : decode xC_storeFirstWrite.2.1 57 = .ok (.ireturn, 1) := by decide +kernel
def xC_giveBack : mt_X := (⟨"LeasedPages$Client", "giveBack", "(I)I"⟩, prog_2_method_8_code, 3, (Option.some FieldType.int))
theorem dC_giveBack_0 : decode xC_giveBack.2.1 0 = .ok (.aload_n 0, 1) := by decide +kernel
theorem dC_giveBack_1 : decode xC_giveBack.2.1 1 = .ok (.getfield 11, 3) := by decide +kernel
theorem dC_giveBack_4 : decode xC_giveBack.2.1 4 = .ok (.iload_n 1, 1) := by decide +kernel
theorem dC_giveBack_5 : decode xC_giveBack.2.1 5 = .ok (.aaload, 1) := by decide +kernel
theorem dC_giveBack_6 : decode xC_giveBack.2.1 6 = .ok (.astore_n 2, 1) := by decide +kernel
theorem dC_giveBack_7 : decode xC_giveBack.2.1 7 = .ok (.aload_n 2, 1) := by decide +kernel
theorem dC_giveBack_8 : decode xC_giveBack.2.1 8 = .ok (.invokevirtual 62, 3) := by decide +kernel
theorem dC_giveBack_11 : decode xC_giveBack.2.1 11 = .ok (.ifCond .eq 6, 3) := by decide +kernel
theorem dC_giveBack_14 : decode xC_giveBack.2.1 14 = .ok (.bipush (-3), 2) := by decide +kernel
theorem dC_giveBack_16 : decode xC_giveBack.2.1 16 = .ok (.ireturn, 1) := by decide +kernel
theorem dC_giveBack_17 : decode xC_giveBack.2.1 17 = .ok (.aload_n 2, 1) := by decide +kernel
theorem dC_giveBack_18 : decode xC_giveBack.2.1 18 = .ok (.getfield 101, 3) := by decide +kernel
theorem dC_giveBack_21 : decode xC_giveBack.2.1 21 = .ok (.ifCond .ne 6, 3) := by decide +kernel
theorem dC_giveBack_24 : decode xC_giveBack.2.1 24 = .ok (.bipush (-2), 2) := by decide +kernel
theorem dC_giveBack_26 : decode xC_giveBack.2.1 26 = .ok (.ireturn, 1) := by decide +kernel
theorem dC_giveBack_27 : decode xC_giveBack.2.1 27 = .ok (.aload_n 2, 1) := by decide +kernel
theorem dC_giveBack_28 : decode xC_giveBack.2.1 28 = .ok (.iconst 0, 1) := by decide +kernel
theorem dC_giveBack_29 : decode xC_giveBack.2.1 29 = .ok (.putfield 101, 3) := by decide +kernel
theorem dC_giveBack_32 : decode xC_giveBack.2.1 32 = .ok (.aload_n 2, 1) := by decide +kernel
theorem dC_giveBack_33 : decode xC_giveBack.2.1 33 = .ok (.iconst 0, 1) := by decide +kernel
theorem dC_giveBack_34 : decode xC_giveBack.2.1 34 = .ok (.putfield 104, 3) := by decide +kernel
theorem dC_giveBack_37 : decode xC_giveBack.2.1 37 = .ok (.aload_n 0, 1) := by decide +kernel
theorem dC_giveBack_38 : decode xC_giveBack.2.1 38 = .ok (.aload_n 0, 1) := by decide +kernel
theorem dC_giveBack_39 : decode xC_giveBack.2.1 39 = .ok (.getfield 44, 3) := by decide +kernel
theorem dC_giveBack_42 : decode xC_giveBack.2.1 42 = .ok (.iload_n 1, 1) := by decide +kernel
theorem dC_giveBack_43 : decode xC_giveBack.2.1 43 = .ok (.aload_n 0, 1) := by decide +kernel
theorem dC_giveBack_44 : decode xC_giveBack.2.1 44 = .ok (.getfield 34, 3) := by decide +kernel
theorem dC_giveBack_47 : decode xC_giveBack.2.1 47 = .ok (.iconst 1, 1) := by decide +kernel
theorem dC_giveBack_48 : decode xC_giveBack.2.1 48 = .ok (.iadd, 1) := by decide +kernel
theorem dC_giveBack_49 : decode xC_giveBack.2.1 49 = .ok (.invokestatic 107, 3) := by decide +kernel
theorem dC_giveBack_52 : decode xC_giveBack.2.1 52 = .ok (.invokevirtual 80, 3) := by decide +kernel
theorem dC_giveBack_55 : decode xC_giveBack.2.1 55 = .ok (.ireturn, 1) := by decide +kernel
def xC_sendAgain : mt_X := (⟨"LeasedPages$Client", "sendAgain", "()I"⟩, prog_2_method_9_code, 1, (Option.some FieldType.int))
theorem dC_sendAgain_0 : decode xC_sendAgain.2.1 0 = .ok (.aload_n 0, 1) := by decide +kernel
theorem dC_sendAgain_1 : decode xC_sendAgain.2.1 1 = .ok (.getfield 37, 3) := by decide +kernel
theorem dC_sendAgain_4 : decode xC_sendAgain.2.1 4 = .ok (.ifnonnull 5, 3) := by decide +kernel
theorem dC_sendAgain_7 : decode xC_sendAgain.2.1 7 = .ok (.iconst (-1), 1) := by decide +kernel
theorem dC_sendAgain_8 : decode xC_sendAgain.2.1 8 = .ok (.ireturn, 1) := by decide +kernel
theorem dC_sendAgain_9 : decode xC_sendAgain.2.1 9 = .ok (.aload_n 0, 1) := by decide +kernel
theorem dC_sendAgain_10 : decode xC_sendAgain.2.1 10 = .ok (.getfield 50, 3) := by decide +kernel
theorem dC_sendAgain_13 : decode xC_sendAgain.2.1 13 = .ok (.aload_n 0, 1) := by decide +kernel
theorem dC_sendAgain_14 : decode xC_sendAgain.2.1 14 = .ok (.getfield 37, 3) := by decide +kernel
theorem dC_sendAgain_17 : decode xC_sendAgain.2.1 17 = .ok (.invokevirtual 111, 3) := by decide +kernel
theorem dC_sendAgain_20 : decode xC_sendAgain.2.1 20 = .ok (.pop, 1) := by decide +kernel
theorem dC_sendAgain_21 : decode xC_sendAgain.2.1 21 = .ok (.aload_n 0, 1) := by decide +kernel
theorem dC_sendAgain_22 : decode xC_sendAgain.2.1 22 = .ok (.getfield 37, 3) := by decide +kernel
theorem dC_sendAgain_25 : decode xC_sendAgain.2.1 25 = .ok (.getfield 117, 3) := by decide +kernel
theorem dC_sendAgain_28 : decode xC_sendAgain.2.1 28 = .ok (.ireturn, 1) := by decide +kernel
def xC_leaseAndMarks : mt_X := (⟨"LeasedPages$Client", "leaseAndMarks", "(I)I"⟩, prog_2_method_10_code, 4, (Option.some FieldType.int))
theorem dC_leaseAndMarks_0 : decode xC_leaseAndMarks.2.1 0 = .ok (.aload_n 0, 1) := by decide +kernel
theorem dC_leaseAndMarks_1 : decode xC_leaseAndMarks.2.1 1 = .ok (.getfield 11, 3) := by decide +kernel
theorem dC_leaseAndMarks_4 : decode xC_leaseAndMarks.2.1 4 = .ok (.iload_n 1, 1) := by decide +kernel
theorem dC_leaseAndMarks_5 : decode xC_leaseAndMarks.2.1 5 = .ok (.aaload, 1) := by decide +kernel
theorem dC_leaseAndMarks_6 : decode xC_leaseAndMarks.2.1 6 = .ok (.astore_n 2, 1) := by decide +kernel
theorem dC_leaseAndMarks_7 : decode xC_leaseAndMarks.2.1 7 = .ok (.aload_n 2, 1) := by decide +kernel
theorem dC_leaseAndMarks_8 : decode xC_leaseAndMarks.2.1 8 = .ok (.iconst 1, 1) := by decide +kernel
theorem dC_leaseAndMarks_9 : decode xC_leaseAndMarks.2.1 9 = .ok (.aload_n 0, 1) := by decide +kernel
theorem dC_leaseAndMarks_10 : decode xC_leaseAndMarks.2.1 10 = .ok (.getfield 31, 3) := by decide +kernel
theorem dC_leaseAndMarks_13 : decode xC_leaseAndMarks.2.1 13 = .ok (.invokevirtual 66, 3) := by decide +kernel
theorem dC_leaseAndMarks_16 : decode xC_leaseAndMarks.2.1 16 = .ok (.ifCond .eq 10, 3) := by decide +kernel
theorem dC_leaseAndMarks_19 : decode xC_leaseAndMarks.2.1 19 = .ok (.aload_n 2, 1) := by decide +kernel
theorem dC_leaseAndMarks_20 : decode xC_leaseAndMarks.2.1 20 = .ok (.getfield 101, 3) := by decide +kernel
theorem dC_leaseAndMarks_23 : decode xC_leaseAndMarks.2.1 23 = .ok (.goto 4, 3) := by decide +kernel
theorem dC_leaseAndMarks_26 : decode xC_leaseAndMarks.2.1 26 = .ok (.iconst 0, 1) := by decide +kernel
theorem dC_leaseAndMarks_27 : decode xC_leaseAndMarks.2.1 27 = .ok (.istore_n 3, 1) := by decide +kernel
theorem dC_leaseAndMarks_28 : decode xC_leaseAndMarks.2.1 28 = .ok (.iload_n 3, 1) := by decide +kernel
theorem dC_leaseAndMarks_29 : decode xC_leaseAndMarks.2.1 29 = .ok (.aload_n 2, 1) := by decide +kernel
theorem dC_leaseAndMarks_30 : decode xC_leaseAndMarks.2.1 30 = .ok (.getfield 104, 3) := by decide +kernel
theorem dC_leaseAndMarks_33 : decode xC_leaseAndMarks.2.1 33 = .ok (.ifCond .eq 8, 3) := by decide +kernel
theorem dC_leaseAndMarks_36 : decode xC_leaseAndMarks.2.1 36 = .ok (.bipush 10, 2) := by decide +kernel
theorem dC_leaseAndMarks_38 : decode xC_leaseAndMarks.2.1 38 = .ok (.goto 4, 3) := by decide +kernel
theorem dC_leaseAndMarks_41 : decode xC_leaseAndMarks.2.1 41 = .ok (.iconst 0, 1) := by decide +kernel
theorem dC_leaseAndMarks_42 : decode xC_leaseAndMarks.2.1 42 = .ok (.iadd, 1) := by decide +kernel
theorem dC_leaseAndMarks_43 : decode xC_leaseAndMarks.2.1 43 = .ok (.aload_n 2, 1) := by decide +kernel
theorem dC_leaseAndMarks_44 : decode xC_leaseAndMarks.2.1 44 = .ok (.getfield 88, 3) := by decide +kernel
theorem dC_leaseAndMarks_47 : decode xC_leaseAndMarks.2.1 47 = .ok (.ifCond .eq 8, 3) := by decide +kernel
theorem dC_leaseAndMarks_50 : decode xC_leaseAndMarks.2.1 50 = .ok (.bipush 100, 2) := by decide +kernel
theorem dC_leaseAndMarks_52 : decode xC_leaseAndMarks.2.1 52 = .ok (.goto 4, 3) := by decide +kernel
theorem dC_leaseAndMarks_55 : decode xC_leaseAndMarks.2.1 55 = .ok (.iconst 0, 1) := by decide +kernel
theorem dC_leaseAndMarks_56 : decode xC_leaseAndMarks.2.1 56 = .ok (.iadd, 1) := by decide +kernel
theorem dC_leaseAndMarks_57 : decode xC_leaseAndMarks.2.1 57 = .ok (.ireturn, 1) := by decide +kernel
def xC_hasWritesTo : mt_X := (⟨"LeasedPages$Client", "hasWritesTo", "(I)Z"⟩, prog_2_method_11_code, 3, (Option.some FieldType.boolean))
theorem dC_hasWritesTo_0 : decode xC_hasWritesTo.2.1 0 = .ok (.iconst 0, 1) := by decide +kernel
theorem dC_hasWritesTo_1 : decode xC_hasWritesTo.2.1 1 = .ok (.istore_n 2, 1) := by decide +kernel
theorem dC_hasWritesTo_2 : decode xC_hasWritesTo.2.1 2 = .ok (.iload_n 2, 1) := by decide +kernel
theorem dC_hasWritesTo_3 : decode xC_hasWritesTo.2.1 3 = .ok (.aload_n 0, 1) := by decide +kernel
theorem dC_hasWritesTo_4 : decode xC_hasWritesTo.2.1 4 = .ok (.getfield 23, 3) := by decide +kernel
theorem dC_hasWritesTo_7 : decode xC_hasWritesTo.2.1 7 = .ok (.if_icmp .ge 24, 3) := by decide +kernel
theorem dC_hasWritesTo_10 : decode xC_hasWritesTo.2.1 10 = .ok (.aload_n 0, 1) := by decide +kernel
theorem dC_hasWritesTo_11 : decode xC_hasWritesTo.2.1 11 = .ok (.getfield 19, 3) := by decide +kernel
theorem dC_hasWritesTo_14 : decode xC_hasWritesTo.2.1 14 = .ok (.iload_n 2, 1) := by decide +kernel
theorem dC_hasWritesTo_15 : decode xC_hasWritesTo.2.1 15 = .ok (.aaload, 1) := by decide +kernel
theorem dC_hasWritesTo_16 : decode xC_hasWritesTo.2.1 16 = .ok (.getfield 94, 3) := by decide +kernel
theorem dC_hasWritesTo_19 : decode xC_hasWritesTo.2.1 19 = .ok (.iload_n 1, 1) := by decide +kernel
theorem dC_hasWritesTo_20 : decode xC_hasWritesTo.2.1 20 = .ok (.if_icmp .ne 5, 3) := by decide +kernel
theorem dC_hasWritesTo_23 : decode xC_hasWritesTo.2.1 23 = .ok (.iconst 1, 1) := by decide +kernel
theorem dC_hasWritesTo_24 : decode xC_hasWritesTo.2.1 24 = .ok (.ireturn, 1) := by decide +kernel
theorem dC_hasWritesTo_25 : decode xC_hasWritesTo.2.1 25 = .ok (.iinc 2 1, 3) := by decide +kernel
theorem dC_hasWritesTo_28 : decode xC_hasWritesTo.2.1 28 = .ok (.goto (-26), 3) := by decide +kernel
theorem dC_hasWritesTo_31 : decode xC_hasWritesTo.2.1 31 = .ok (.iconst 0, 1) := by decide +kernel
theorem dC_hasWritesTo_32 : decode xC_hasWritesTo.2.1 32 = .ok (.ireturn, 1) := by decide +kernel
def xC_recallArrives : mt_X := (⟨"LeasedPages$Client", "recallArrives", "(I)V"⟩, prog_2_method_12_code, 2, (Option.none : Option FieldType))
theorem dC_recallArrives_0 : decode xC_recallArrives.2.1 0 = .ok (.aload_n 0, 1) := by decide +kernel
theorem dC_recallArrives_1 : decode xC_recallArrives.2.1 1 = .ok (.getfield 27, 3) := by decide +kernel
theorem dC_recallArrives_4 : decode xC_recallArrives.2.1 4 = .ok (.ifCond .eq 13, 3) := by decide +kernel
theorem dC_recallArrives_7 : decode xC_recallArrives.2.1 7 = .ok (.aload_n 0, 1) := by decide +kernel
theorem dC_recallArrives_8 : decode xC_recallArrives.2.1 8 = .ok (.getfield 11, 3) := by decide +kernel
theorem dC_recallArrives_11 : decode xC_recallArrives.2.1 11 = .ok (.iload_n 1, 1) := by decide +kernel
theorem dC_recallArrives_12 : decode xC_recallArrives.2.1 12 = .ok (.aaload, 1) := by decide +kernel
theorem dC_recallArrives_13 : decode xC_recallArrives.2.1 13 = .ok (.iconst 1, 1) := by decide +kernel
theorem dC_recallArrives_14 : decode xC_recallArrives.2.1 14 = .ok (.putfield 104, 3) := by decide +kernel
theorem dC_recallArrives_17 : decode xC_recallArrives.2.1 17 = .ok (.return_, 1) := by decide +kernel
def xC_replyArrives : mt_X := (⟨"LeasedPages$Client", "replyArrives", "(LLeasedPages$Reply;)V"⟩, prog_2_method_13_code, 3, (Option.none : Option FieldType))
theorem dC_replyArrives_0 : decode xC_replyArrives.2.1 0 = .ok (.aload_n 0, 1) := by decide +kernel
theorem dC_replyArrives_1 : decode xC_replyArrives.2.1 1 = .ok (.getfield 27, 3) := by decide +kernel
theorem dC_replyArrives_4 : decode xC_replyArrives.2.1 4 = .ok (.ifCond .eq 24, 3) := by decide +kernel
theorem dC_replyArrives_7 : decode xC_replyArrives.2.1 7 = .ok (.aload_n 0, 1) := by decide +kernel
theorem dC_replyArrives_8 : decode xC_replyArrives.2.1 8 = .ok (.getfield 37, 3) := by decide +kernel
theorem dC_replyArrives_11 : decode xC_replyArrives.2.1 11 = .ok (.ifnull 17, 3) := by decide +kernel
theorem dC_replyArrives_14 : decode xC_replyArrives.2.1 14 = .ok (.aload_n 0, 1) := by decide +kernel
theorem dC_replyArrives_15 : decode xC_replyArrives.2.1 15 = .ok (.getfield 37, 3) := by decide +kernel
theorem dC_replyArrives_18 : decode xC_replyArrives.2.1 18 = .ok (.getfield 117, 3) := by decide +kernel
theorem dC_replyArrives_21 : decode xC_replyArrives.2.1 21 = .ok (.aload_n 1, 1) := by decide +kernel
theorem dC_replyArrives_22 : decode xC_replyArrives.2.1 22 = .ok (.getfield 120, 3) := by decide +kernel
theorem dC_replyArrives_25 : decode xC_replyArrives.2.1 25 = .ok (.if_icmp .eq 4, 3) := by decide +kernel
theorem dC_replyArrives_28 : decode xC_replyArrives.2.1 28 = .ok (.return_, 1) := by decide +kernel
theorem dC_replyArrives_29 : decode xC_replyArrives.2.1 29 = .ok (.aload_n 0, 1) := by decide +kernel
theorem dC_replyArrives_30 : decode xC_replyArrives.2.1 30 = .ok (.getfield 37, 3) := by decide +kernel
theorem dC_replyArrives_33 : decode xC_replyArrives.2.1 33 = .ok (.getfield 123, 3) := by decide +kernel
theorem dC_replyArrives_36 : decode xC_replyArrives.2.1 36 = .ok (.iconst 2, 1) := by decide +kernel
theorem dC_replyArrives_37 : decode xC_replyArrives.2.1 37 = .ok (.if_icmp .ne 7, 3) := by decide +kernel
theorem dC_replyArrives_40 : decode xC_replyArrives.2.1 40 = .ok (.iconst 1, 1) := by decide +kernel
theorem dC_replyArrives_41 : decode xC_replyArrives.2.1 41 = .ok (.goto 4, 3) := by decide +kernel
theorem dC_replyArrives_44 : decode xC_replyArrives.2.1 44 = .ok (.iconst 0, 1) := by decide +kernel
theorem dC_replyArrives_45 : decode xC_replyArrives.2.1 45 = .ok (.istore_n 2, 1) := by decide +kernel
theorem dC_replyArrives_46 : decode xC_replyArrives.2.1 46 = .ok (.aload_n 0, 1) := by decide +kernel
theorem dC_replyArrives_47 : decode xC_replyArrives.2.1 47 = .ok (.aconst_null, 1) := by decide +kernel
theorem dC_replyArrives_48 : decode xC_replyArrives.2.1 48 = .ok (.putfield 37, 3) := by decide +kernel
theorem dC_replyArrives_51 : decode xC_replyArrives.2.1 51 = .ok (.aload_n 1, 1) := by decide +kernel
theorem dC_replyArrives_52 : decode xC_replyArrives.2.1 52 = .ok (.getfield 126, 3) := by decide +kernel
theorem dC_replyArrives_55 : decode xC_replyArrives.2.1 55 = .ok (.iconst 4, 1) := by decide +kernel
theorem dC_replyArrives_56 : decode xC_replyArrives.2.1 56 = .ok (.if_icmp .ne 11, 3) := by decide +kernel
theorem dC_replyArrives_59 : decode xC_replyArrives.2.1 59 = .ok (.aload_n 0, 1) := by decide +kernel
theorem dC_replyArrives_60 : decode xC_replyArrives.2.1 60 = .ok (.aload_n 1, 1) := by decide +kernel
theorem dC_replyArrives_61 : decode xC_replyArrives.2.1 61 = .ok (.invokevirtual 127, 3) := by decide +kernel
theorem dC_replyArrives_64 : decode xC_replyArrives.2.1 64 = .ok (.goto 44, 3) := by decide +kernel
theorem dC_replyArrives_67 : decode xC_replyArrives.2.1 67 = .ok (.aload_n 1, 1) := by decide +kernel
theorem dC_replyArrives_68 : decode xC_replyArrives.2.1 68 = .ok (.getfield 126, 3) := by decide +kernel
theorem dC_replyArrives_71 : decode xC_replyArrives.2.1 71 = .ok (.bipush 7, 2) := by decide +kernel
theorem dC_replyArrives_73 : decode xC_replyArrives.2.1 73 = .ok (.if_icmp .ne 14, 3) := by decide +kernel
theorem dC_replyArrives_76 : decode xC_replyArrives.2.1 76 = .ok (.aload_n 0, 1) := by decide +kernel
theorem dC_replyArrives_77 : decode xC_replyArrives.2.1 77 = .ok (.aload_n 1, 1) := by decide +kernel
theorem dC_replyArrives_78 : decode xC_replyArrives.2.1 78 = .ok (.getfield 131, 3) := by decide +kernel
theorem dC_replyArrives_81 : decode xC_replyArrives.2.1 81 = .ok (.invokevirtual 132, 3) := by decide +kernel
theorem dC_replyArrives_84 : decode xC_replyArrives.2.1 84 = .ok (.goto 24, 3) := by decide +kernel
theorem dC_replyArrives_87 : decode xC_replyArrives.2.1 87 = .ok (.aload_n 1, 1) := by decide +kernel
theorem dC_replyArrives_88 : decode xC_replyArrives.2.1 88 = .ok (.getfield 126, 3) := by decide +kernel
theorem dC_replyArrives_91 : decode xC_replyArrives.2.1 91 = .ok (.bipush 6, 2) := by decide +kernel
theorem dC_replyArrives_93 : decode xC_replyArrives.2.1 93 = .ok (.if_icmp .ne 15, 3) := by decide +kernel
theorem dC_replyArrives_96 : decode xC_replyArrives.2.1 96 = .ok (.iload_n 2, 1) := by decide +kernel
theorem dC_replyArrives_97 : decode xC_replyArrives.2.1 97 = .ok (.ifCond .eq 11, 3) := by decide +kernel
theorem dC_replyArrives_100 : decode xC_replyArrives.2.1 100 = .ok (.aload_n 0, 1) := by decide +kernel
theorem dC_replyArrives_101 : decode xC_replyArrives.2.1 101 = .ok (.aload_n 1, 1) := by decide +kernel
theorem dC_replyArrives_102 : decode xC_replyArrives.2.1 102 = .ok (.getfield 131, 3) := by decide +kernel
theorem dC_replyArrives_105 : decode xC_replyArrives.2.1 105 = .ok (.invokevirtual 135, 3) := by decide +kernel
theorem dC_replyArrives_108 : decode xC_replyArrives.2.1 108 = .ok (.return_, 1) := by decide +kernel
def xC_sendNew : mt_X := (⟨"LeasedPages$Client", "sendNew", "(LLeasedPages$Request;)I"⟩, prog_2_method_14_code, 2, (Option.some FieldType.int))
theorem dC_sendNew_0 : decode xC_sendNew.2.1 0 = .ok (.aload_n 0, 1) := by decide +kernel
theorem dC_sendNew_1 : decode xC_sendNew.2.1 1 = .ok (.aload_n 1, 1) := by decide +kernel
theorem dC_sendNew_2 : decode xC_sendNew.2.1 2 = .ok (.getfield 117, 3) := by decide +kernel
theorem dC_sendNew_5 : decode xC_sendNew.2.1 5 = .ok (.putfield 34, 3) := by decide +kernel
theorem dC_sendNew_8 : decode xC_sendNew.2.1 8 = .ok (.aload_n 0, 1) := by decide +kernel
theorem dC_sendNew_9 : decode xC_sendNew.2.1 9 = .ok (.aload_n 1, 1) := by decide +kernel
theorem dC_sendNew_10 : decode xC_sendNew.2.1 10 = .ok (.putfield 37, 3) := by decide +kernel
theorem dC_sendNew_13 : decode xC_sendNew.2.1 13 = .ok (.aload_n 0, 1) := by decide +kernel
theorem dC_sendNew_14 : decode xC_sendNew.2.1 14 = .ok (.aload_n 0, 1) := by decide +kernel
theorem dC_sendNew_15 : decode xC_sendNew.2.1 15 = .ok (.getfield 31, 3) := by decide +kernel
theorem dC_sendNew_18 : decode xC_sendNew.2.1 18 = .ok (.putfield 41, 3) := by decide +kernel
theorem dC_sendNew_21 : decode xC_sendNew.2.1 21 = .ok (.aload_n 0, 1) := by decide +kernel
theorem dC_sendNew_22 : decode xC_sendNew.2.1 22 = .ok (.getfield 50, 3) := by decide +kernel
theorem dC_sendNew_25 : decode xC_sendNew.2.1 25 = .ok (.aload_n 1, 1) := by decide +kernel
theorem dC_sendNew_26 : decode xC_sendNew.2.1 26 = .ok (.invokevirtual 111, 3) := by decide +kernel
theorem dC_sendNew_29 : decode xC_sendNew.2.1 29 = .ok (.pop, 1) := by decide +kernel
theorem dC_sendNew_30 : decode xC_sendNew.2.1 30 = .ok (.aload_n 1, 1) := by decide +kernel
theorem dC_sendNew_31 : decode xC_sendNew.2.1 31 = .ok (.getfield 117, 3) := by decide +kernel
theorem dC_sendNew_34 : decode xC_sendNew.2.1 34 = .ok (.ireturn, 1) := by decide +kernel
def xC_takeLease : mt_X := (⟨"LeasedPages$Client", "takeLease", "(LLeasedPages$Reply;)V"⟩, prog_2_method_15_code, 3, (Option.none : Option FieldType))
theorem dC_takeLease_0 : decode xC_takeLease.2.1 0 = .ok (.aload_n 0, 1) := by decide +kernel
theorem dC_takeLease_1 : decode xC_takeLease.2.1 1 = .ok (.getfield 11, 3) := by decide +kernel
theorem dC_takeLease_4 : decode xC_takeLease.2.1 4 = .ok (.aload_n 1, 1) := by decide +kernel
theorem dC_takeLease_5 : decode xC_takeLease.2.1 5 = .ok (.getfield 131, 3) := by decide +kernel
theorem dC_takeLease_8 : decode xC_takeLease.2.1 8 = .ok (.aaload, 1) := by decide +kernel
theorem dC_takeLease_9 : decode xC_takeLease.2.1 9 = .ok (.astore_n 2, 1) := by decide +kernel
theorem dC_takeLease_10 : decode xC_takeLease.2.1 10 = .ok (.aload_n 2, 1) := by decide +kernel
theorem dC_takeLease_11 : decode xC_takeLease.2.1 11 = .ok (.aload_n 1, 1) := by decide +kernel
theorem dC_takeLease_12 : decode xC_takeLease.2.1 12 = .ok (.getfield 138, 3) := by decide +kernel
theorem dC_takeLease_15 : decode xC_takeLease.2.1 15 = .ok (.putfield 101, 3) := by decide +kernel
theorem dC_takeLease_18 : decode xC_takeLease.2.1 18 = .ok (.aload_n 2, 1) := by decide +kernel
theorem dC_takeLease_19 : decode xC_takeLease.2.1 19 = .ok (.aload_n 0, 1) := by decide +kernel
theorem dC_takeLease_20 : decode xC_takeLease.2.1 20 = .ok (.getfield 41, 3) := by decide +kernel
theorem dC_takeLease_23 : decode xC_takeLease.2.1 23 = .ok (.aload_n 0, 1) := by decide +kernel
theorem dC_takeLease_24 : decode xC_takeLease.2.1 24 = .ok (.getfield 47, 3) := by decide +kernel
theorem dC_takeLease_27 : decode xC_takeLease.2.1 27 = .ok (.iadd, 1) := by decide +kernel
theorem dC_takeLease_28 : decode xC_takeLease.2.1 28 = .ok (.putfield 139, 3) := by decide +kernel
theorem dC_takeLease_31 : decode xC_takeLease.2.1 31 = .ok (.aload_n 2, 1) := by decide +kernel
theorem dC_takeLease_32 : decode xC_takeLease.2.1 32 = .ok (.iconst 0, 1) := by decide +kernel
theorem dC_takeLease_33 : decode xC_takeLease.2.1 33 = .ok (.putfield 104, 3) := by decide +kernel
theorem dC_takeLease_36 : decode xC_takeLease.2.1 36 = .ok (.aload_n 1, 1) := by decide +kernel
theorem dC_takeLease_37 : decode xC_takeLease.2.1 37 = .ok (.getfield 142, 3) := by decide +kernel
theorem dC_takeLease_40 : decode xC_takeLease.2.1 40 = .ok (.ifCond .ne 27, 3) := by decide +kernel
theorem dC_takeLease_43 : decode xC_takeLease.2.1 43 = .ok (.aload_n 0, 1) := by decide +kernel
theorem dC_takeLease_44 : decode xC_takeLease.2.1 44 = .ok (.aload_n 1, 1) := by decide +kernel
theorem dC_takeLease_45 : decode xC_takeLease.2.1 45 = .ok (.getfield 131, 3) := by decide +kernel
theorem dC_takeLease_48 : decode xC_takeLease.2.1 48 = .ok (.invokevirtual 70, 3) := by decide +kernel
theorem dC_takeLease_51 : decode xC_takeLease.2.1 51 = .ok (.ifCond .eq 16, 3) := by decide +kernel
theorem dC_takeLease_54 : decode xC_takeLease.2.1 54 = .ok (.aload_n 0, 1) := by decide +kernel
theorem dC_takeLease_55 : decode xC_takeLease.2.1 55 = .ok (.aload_n 1, 1) := by decide +kernel
theorem dC_takeLease_56 : decode xC_takeLease.2.1 56 = .ok (.getfield 131, 3) := by decide +kernel
theorem dC_takeLease_59 : decode xC_takeLease.2.1 59 = .ok (.invokevirtual 145, 3) := by decide +kernel
theorem dC_takeLease_62 : decode xC_takeLease.2.1 62 = .ok (.aload_n 2, 1) := by decide +kernel
theorem dC_takeLease_63 : decode xC_takeLease.2.1 63 = .ok (.iconst 1, 1) := by decide +kernel
theorem dC_takeLease_64 : decode xC_takeLease.2.1 64 = .ok (.putfield 88, 3) := by decide +kernel
theorem dC_takeLease_67 : decode xC_takeLease.2.1 67 = .ok (.aload_n 1, 1) := by decide +kernel
theorem dC_takeLease_68 : decode xC_takeLease.2.1 68 = .ok (.getfield 148, 3) := by decide +kernel
theorem dC_takeLease_71 : decode xC_takeLease.2.1 71 = .ok (.ifnull 17, 3) := by decide +kernel
theorem dC_takeLease_74 : decode xC_takeLease.2.1 74 = .ok (.aload_n 1, 1) := by decide +kernel
theorem dC_takeLease_75 : decode xC_takeLease.2.1 75 = .ok (.getfield 148, 3) := by decide +kernel
theorem dC_takeLease_78 : decode xC_takeLease.2.1 78 = .ok (.iconst 0, 1) := by decide +kernel
theorem dC_takeLease_79 : decode xC_takeLease.2.1 79 = .ok (.aload_n 2, 1) := by decide +kernel
theorem dC_takeLease_80 : decode xC_takeLease.2.1 80 = .ok (.getfield 84, 3) := by decide +kernel
theorem dC_takeLease_83 : decode xC_takeLease.2.1 83 = .ok (.iconst 0, 1) := by decide +kernel
theorem dC_takeLease_84 : decode xC_takeLease.2.1 84 = .ok (.iconst 4, 1) := by decide +kernel
theorem dC_takeLease_85 : decode xC_takeLease.2.1 85 = .ok (.invokestatic 149, 3) := by decide +kernel
theorem dC_takeLease_88 : decode xC_takeLease.2.1 88 = .ok (.aload_n 0, 1) := by decide +kernel
theorem dC_takeLease_89 : decode xC_takeLease.2.1 89 = .ok (.aload_n 1, 1) := by decide +kernel
theorem dC_takeLease_90 : decode xC_takeLease.2.1 90 = .ok (.getfield 131, 3) := by decide +kernel
theorem dC_takeLease_93 : decode xC_takeLease.2.1 93 = .ok (.invokevirtual 155, 3) := by decide +kernel
theorem dC_takeLease_96 : decode xC_takeLease.2.1 96 = .ok (.return_, 1) := by decide +kernel
def xC_redoWritesOn : mt_X := (⟨"LeasedPages$Client", "redoWritesOn", "(I)V"⟩, prog_2_method_16_code, 3, (Option.none : Option FieldType))
theorem dC_redoWritesOn_0 : decode xC_redoWritesOn.2.1 0 = .ok (.iconst 0, 1) := by decide +kernel
theorem dC_redoWritesOn_1 : decode xC_redoWritesOn.2.1 1 = .ok (.istore_n 2, 1) := by decide +kernel
theorem dC_redoWritesOn_2 : decode xC_redoWritesOn.2.1 2 = .ok (.iload_n 2, 1) := by decide +kernel
theorem dC_redoWritesOn_3 : decode xC_redoWritesOn.2.1 3 = .ok (.aload_n 0, 1) := by decide +kernel
theorem dC_redoWritesOn_4 : decode xC_redoWritesOn.2.1 4 = .ok (.getfield 23, 3) := by decide +kernel
theorem dC_redoWritesOn_7 : decode xC_redoWritesOn.2.1 7 = .ok (.if_icmp .ge 50, 3) := by decide +kernel
theorem dC_redoWritesOn_10 : decode xC_redoWritesOn.2.1 10 = .ok (.aload_n 0, 1) := by decide +kernel
theorem dC_redoWritesOn_11 : decode xC_redoWritesOn.2.1 11 = .ok (.getfield 19, 3) := by decide +kernel
theorem dC_redoWritesOn_14 : decode xC_redoWritesOn.2.1 14 = .ok (.iload_n 2, 1) := by decide +kernel
theorem dC_redoWritesOn_15 : decode xC_redoWritesOn.2.1 15 = .ok (.aaload, 1) := by decide +kernel
theorem dC_redoWritesOn_16 : decode xC_redoWritesOn.2.1 16 = .ok (.getfield 94, 3) := by decide +kernel
theorem dC_redoWritesOn_19 : decode xC_redoWritesOn.2.1 19 = .ok (.iload_n 1, 1) := by decide +kernel
theorem dC_redoWritesOn_20 : decode xC_redoWritesOn.2.1 20 = .ok (.if_icmp .ne 31, 3) := by decide +kernel
theorem dC_redoWritesOn_23 : decode xC_redoWritesOn.2.1 23 = .ok (.aload_n 0, 1) := by decide +kernel
theorem dC_redoWritesOn_24 : decode xC_redoWritesOn.2.1 24 = .ok (.getfield 11, 3) := by decide +kernel
theorem dC_redoWritesOn_27 : decode xC_redoWritesOn.2.1 27 = .ok (.iload_n 1, 1) := by decide +kernel
theorem dC_redoWritesOn_28 : decode xC_redoWritesOn.2.1 28 = .ok (.aaload, 1) := by decide +kernel
theorem dC_redoWritesOn_29 : decode xC_redoWritesOn.2.1 29 = .ok (.getfield 84, 3) := by decide +kernel
theorem dC_redoWritesOn_32 : decode xC_redoWritesOn.2.1 32 = .ok (.aload_n 0, 1) := by decide +kernel
theorem dC_redoWritesOn_33 : decode xC_redoWritesOn.2.1 33 = .ok (.getfield 19, 3) := by decide +kernel
theorem dC_redoWritesOn_36 : decode xC_redoWritesOn.2.1 36 = .ok (.iload_n 2, 1) := by decide +kernel
theorem dC_redoWritesOn_37 : decode xC_redoWritesOn.2.1 37 = .ok (.aaload, 1) := by decide +kernel
theorem dC_redoWritesOn_38 : decode xC_redoWritesOn.2.1 38 = .ok (.getfield 158, 3) := by decide +kernel
theorem dC_redoWritesOn_41 : decode xC_redoWritesOn.2.1 41 = .ok (.aload_n 0, 1) := by decide +kernel
theorem dC_redoWritesOn_42 : decode xC_redoWritesOn.2.1 42 = .ok (.getfield 19, 3) := by decide +kernel
theorem dC_redoWritesOn_45 : decode xC_redoWritesOn.2.1 45 = .ok (.iload_n 2, 1) := by decide +kernel
theorem dC_redoWritesOn_46 : decode xC_redoWritesOn.2.1 46 = .ok (.aaload, 1) := by decide +kernel
theorem dC_redoWritesOn_47 : decode xC_redoWritesOn.2.1 47 = .ok (.getfield 161, 3) := by decide +kernel
theorem dC_redoWritesOn_50 : decode xC_redoWritesOn.2.1 50 = .ok (.iastore, 1) := by decide +kernel
theorem dC_redoWritesOn_51 : decode xC_redoWritesOn.2.1 51 = .ok (.iinc 2 1, 3) := by decide +kernel
theorem dC_redoWritesOn_54 : decode xC_redoWritesOn.2.1 54 = .ok (.goto (-52), 3) := by decide +kernel
theorem dC_redoWritesOn_57 : decode xC_redoWritesOn.2.1 57 = .ok (.return_, 1) := by decide +kernel
def xC_loseLease : mt_X := (⟨"LeasedPages$Client", "loseLease", "(I)V"⟩, prog_2_method_17_code, 2, (Option.none : Option FieldType))
theorem dC_loseLease_0 : decode xC_loseLease.2.1 0 = .ok (.aload_n 0, 1) := by decide +kernel
theorem dC_loseLease_1 : decode xC_loseLease.2.1 1 = .ok (.iload_n 1, 1) := by decide +kernel
theorem dC_loseLease_2 : decode xC_loseLease.2.1 2 = .ok (.invokevirtual 145, 3) := by decide +kernel
theorem dC_loseLease_5 : decode xC_loseLease.2.1 5 = .ok (.aload_n 0, 1) := by decide +kernel
theorem dC_loseLease_6 : decode xC_loseLease.2.1 6 = .ok (.getfield 11, 3) := by decide +kernel
theorem dC_loseLease_9 : decode xC_loseLease.2.1 9 = .ok (.iload_n 1, 1) := by decide +kernel
theorem dC_loseLease_10 : decode xC_loseLease.2.1 10 = .ok (.aaload, 1) := by decide +kernel
theorem dC_loseLease_11 : decode xC_loseLease.2.1 11 = .ok (.iconst 1, 1) := by decide +kernel
theorem dC_loseLease_12 : decode xC_loseLease.2.1 12 = .ok (.putfield 88, 3) := by decide +kernel
theorem dC_loseLease_15 : decode xC_loseLease.2.1 15 = .ok (.aload_n 0, 1) := by decide +kernel
theorem dC_loseLease_16 : decode xC_loseLease.2.1 16 = .ok (.getfield 11, 3) := by decide +kernel
theorem dC_loseLease_19 : decode xC_loseLease.2.1 19 = .ok (.iload_n 1, 1) := by decide +kernel
theorem dC_loseLease_20 : decode xC_loseLease.2.1 20 = .ok (.aaload, 1) := by decide +kernel
theorem dC_loseLease_21 : decode xC_loseLease.2.1 21 = .ok (.iconst 0, 1) := by decide +kernel
theorem dC_loseLease_22 : decode xC_loseLease.2.1 22 = .ok (.putfield 101, 3) := by decide +kernel
theorem dC_loseLease_25 : decode xC_loseLease.2.1 25 = .ok (.return_, 1) := by decide +kernel
def xC_removeFirstWriteTo : mt_X := (⟨"LeasedPages$Client", "removeFirstWriteTo", "(I)V"⟩, prog_2_method_18_code, 5, (Option.none : Option FieldType))
theorem dC_removeFirstWriteTo_0 : decode xC_removeFirstWriteTo.2.1 0 = .ok (.iconst 0, 1) := by decide +kernel
theorem dC_removeFirstWriteTo_1 : decode xC_removeFirstWriteTo.2.1 1 = .ok (.istore_n 2, 1) := by decide +kernel
theorem dC_removeFirstWriteTo_2 : decode xC_removeFirstWriteTo.2.1 2 = .ok (.iconst 0, 1) := by decide +kernel
theorem dC_removeFirstWriteTo_3 : decode xC_removeFirstWriteTo.2.1 3 = .ok (.istore_n 3, 1) := by decide +kernel
theorem dC_removeFirstWriteTo_4 : decode xC_removeFirstWriteTo.2.1 4 = .ok (.iconst 0, 1) := by decide +kernel
theorem dC_removeFirstWriteTo_5 : decode xC_removeFirstWriteTo.2.1 5 = .ok (.istore 4, 2) := by decide +kernel
theorem dC_removeFirstWriteTo_7 : decode xC_removeFirstWriteTo.2.1 7 = .ok (.iload 4, 2) := by decide +kernel
theorem dC_removeFirstWriteTo_9 : decode xC_removeFirstWriteTo.2.1 9 = .ok (.aload_n 0, 1) := by decide +kernel
theorem dC_removeFirstWriteTo_10 : decode xC_removeFirstWriteTo.2.1 10 = .ok (.getfield 23, 3) := by decide +kernel
theorem dC_removeFirstWriteTo_13 : decode xC_removeFirstWriteTo.2.1 13 = .ok (.if_icmp .ge 48, 3) := by decide +kernel
theorem dC_removeFirstWriteTo_16 : decode xC_removeFirstWriteTo.2.1 16 = .ok (.iload_n 3, 1) := by decide +kernel
theorem dC_removeFirstWriteTo_17 : decode xC_removeFirstWriteTo.2.1 17 = .ok (.ifCond .ne 22, 3) := by decide +kernel
theorem dC_removeFirstWriteTo_20 : decode xC_removeFirstWriteTo.2.1 20 = .ok (.aload_n 0, 1) := by decide +kernel
theorem dC_removeFirstWriteTo_21 : decode xC_removeFirstWriteTo.2.1 21 = .ok (.getfield 19, 3) := by decide +kernel
theorem dC_removeFirstWriteTo_24 : decode xC_removeFirstWriteTo.2.1 24 = .ok (.iload 4, 2) := by decide +kernel
theorem dC_removeFirstWriteTo_26 : decode xC_removeFirstWriteTo.2.1 26 = .ok (.aaload, 1) := by decide +kernel
theorem dC_removeFirstWriteTo_27 : decode xC_removeFirstWriteTo.2.1 27 = .ok (.getfield 94, 3) := by decide +kernel
theorem dC_removeFirstWriteTo_30 : decode xC_removeFirstWriteTo.2.1 30 = .ok (.iload_n 1, 1) := by decide +kernel
theorem dC_removeFirstWriteTo_31 : decode xC_removeFirstWriteTo.2.1 31 = .ok (.if_icmp .ne 8, 3) := by decide +kernel
theorem dC_removeFirstWriteTo_34 : decode xC_removeFirstWriteTo.2.1 34 = .ok (.iconst 1, 1) := by decide +kernel
theorem dC_removeFirstWriteTo_35 : decode xC_removeFirstWriteTo.2.1 35 = .ok (.istore_n 3, 1) := by decide +kernel
theorem dC_removeFirstWriteTo_36 : decode xC_removeFirstWriteTo.2.1 36 = .ok (.goto 19, 3) := by decide +kernel
theorem dC_removeFirstWriteTo_39 : decode xC_removeFirstWriteTo.2.1 39 = .ok (.aload_n 0, 1) := by decide +kernel
theorem dC_removeFirstWriteTo_40 : decode xC_removeFirstWriteTo.2.1 40 = .ok (.getfield 19, 3) := by decide +kernel
theorem dC_removeFirstWriteTo_43 : decode xC_removeFirstWriteTo.2.1 43 = .ok (.iload_n 2, 1) := by decide +kernel
theorem dC_removeFirstWriteTo_44 : decode xC_removeFirstWriteTo.2.1 44 = .ok (.aload_n 0, 1) := by decide +kernel
theorem dC_removeFirstWriteTo_45 : decode xC_removeFirstWriteTo.2.1 45 = .ok (.getfield 19, 3) := by decide +kernel
theorem dC_removeFirstWriteTo_48 : decode xC_removeFirstWriteTo.2.1 48 = .ok (.iload 4, 2) := by decide +kernel
theorem dC_removeFirstWriteTo_50 : decode xC_removeFirstWriteTo.2.1 50 = .ok (.aaload, 1) := by decide +kernel
theorem dC_removeFirstWriteTo_51 : decode xC_removeFirstWriteTo.2.1 51 = .ok (.aastore, 1) := by decide +kernel
theorem dC_removeFirstWriteTo_52 : decode xC_removeFirstWriteTo.2.1 52 = .ok (.iinc 2 1, 3) := by decide +kernel
theorem dC_removeFirstWriteTo_55 : decode xC_removeFirstWriteTo.2.1 55 = .ok (.iinc 4 1, 3) := by decide +kernel
theorem dC_removeFirstWriteTo_58 : decode xC_removeFirstWriteTo.2.1 58 = .ok (.goto (-51), 3) := by decide +kernel
theorem dC_removeFirstWriteTo_61 : decode xC_removeFirstWriteTo.2.1 61 = .ok (.aload_n 0, 1) := by decide +kernel
theorem dC_removeFirstWriteTo_62 : decode xC_removeFirstWriteTo.2.1 62 = .ok (.iload_n 2, 1) := by decide +kernel
theorem dC_removeFirstWriteTo_63 : decode xC_removeFirstWriteTo.2.1 63 = .ok (.invokevirtual 55, 3) := by decide +kernel
theorem dC_removeFirstWriteTo_66 : decode xC_removeFirstWriteTo.2.1 66 = .ok (.return_, 1) := by decide +kernel
def xC_removeAllWritesTo : mt_X := (⟨"LeasedPages$Client", "removeAllWritesTo", "(I)V"⟩, prog_2_method_19_code, 4, (Option.none : Option FieldType))
theorem dC_removeAllWritesTo_0 : decode xC_removeAllWritesTo.2.1 0 = .ok (.iconst 0, 1) := by decide +kernel
theorem dC_removeAllWritesTo_1 : decode xC_removeAllWritesTo.2.1 1 = .ok (.istore_n 2, 1) := by decide +kernel
theorem dC_removeAllWritesTo_2 : decode xC_removeAllWritesTo.2.1 2 = .ok (.iconst 0, 1) := by decide +kernel
theorem dC_removeAllWritesTo_3 : decode xC_removeAllWritesTo.2.1 3 = .ok (.istore_n 3, 1) := by decide +kernel
theorem dC_removeAllWritesTo_4 : decode xC_removeAllWritesTo.2.1 4 = .ok (.iload_n 3, 1) := by decide +kernel
theorem dC_removeAllWritesTo_5 : decode xC_removeAllWritesTo.2.1 5 = .ok (.aload_n 0, 1) := by decide +kernel
theorem dC_removeAllWritesTo_6 : decode xC_removeAllWritesTo.2.1 6 = .ok (.getfield 23, 3) := by decide +kernel
theorem dC_removeAllWritesTo_9 : decode xC_removeAllWritesTo.2.1 9 = .ok (.if_icmp .ge 37, 3) := by decide +kernel
theorem dC_removeAllWritesTo_12 : decode xC_removeAllWritesTo.2.1 12 = .ok (.aload_n 0, 1) := by decide +kernel
theorem dC_removeAllWritesTo_13 : decode xC_removeAllWritesTo.2.1 13 = .ok (.getfield 19, 3) := by decide +kernel
theorem dC_removeAllWritesTo_16 : decode xC_removeAllWritesTo.2.1 16 = .ok (.iload_n 3, 1) := by decide +kernel
theorem dC_removeAllWritesTo_17 : decode xC_removeAllWritesTo.2.1 17 = .ok (.aaload, 1) := by decide +kernel
theorem dC_removeAllWritesTo_18 : decode xC_removeAllWritesTo.2.1 18 = .ok (.getfield 94, 3) := by decide +kernel
theorem dC_removeAllWritesTo_21 : decode xC_removeAllWritesTo.2.1 21 = .ok (.iload_n 1, 1) := by decide +kernel
theorem dC_removeAllWritesTo_22 : decode xC_removeAllWritesTo.2.1 22 = .ok (.if_icmp .eq 18, 3) := by decide +kernel
theorem dC_removeAllWritesTo_25 : decode xC_removeAllWritesTo.2.1 25 = .ok (.aload_n 0, 1) := by decide +kernel
theorem dC_removeAllWritesTo_26 : decode xC_removeAllWritesTo.2.1 26 = .ok (.getfield 19, 3) := by decide +kernel
theorem dC_removeAllWritesTo_29 : decode xC_removeAllWritesTo.2.1 29 = .ok (.iload_n 2, 1) := by decide +kernel
theorem dC_removeAllWritesTo_30 : decode xC_removeAllWritesTo.2.1 30 = .ok (.aload_n 0, 1) := by decide +kernel
theorem dC_removeAllWritesTo_31 : decode xC_removeAllWritesTo.2.1 31 = .ok (.getfield 19, 3) := by decide +kernel
theorem dC_removeAllWritesTo_34 : decode xC_removeAllWritesTo.2.1 34 = .ok (.iload_n 3, 1) := by decide +kernel
theorem dC_removeAllWritesTo_35 : decode xC_removeAllWritesTo.2.1 35 = .ok (.aaload, 1) := by decide +kernel
theorem dC_removeAllWritesTo_36 : decode xC_removeAllWritesTo.2.1 36 = .ok (.aastore, 1) := by decide +kernel
theorem dC_removeAllWritesTo_37 : decode xC_removeAllWritesTo.2.1 37 = .ok (.iinc 2 1, 3) := by decide +kernel
theorem dC_removeAllWritesTo_40 : decode xC_removeAllWritesTo.2.1 40 = .ok (.iinc 3 1, 3) := by decide +kernel
theorem dC_removeAllWritesTo_43 : decode xC_removeAllWritesTo.2.1 43 = .ok (.goto (-39), 3) := by decide +kernel
theorem dC_removeAllWritesTo_46 : decode xC_removeAllWritesTo.2.1 46 = .ok (.aload_n 0, 1) := by decide +kernel
theorem dC_removeAllWritesTo_47 : decode xC_removeAllWritesTo.2.1 47 = .ok (.iload_n 2, 1) := by decide +kernel
theorem dC_removeAllWritesTo_48 : decode xC_removeAllWritesTo.2.1 48 = .ok (.invokevirtual 55, 3) := by decide +kernel
theorem dC_removeAllWritesTo_51 : decode xC_removeAllWritesTo.2.1 51 = .ok (.return_, 1) := by decide +kernel
def xC_keepWrites : mt_X := (⟨"LeasedPages$Client", "keepWrites", "(I)V"⟩, prog_2_method_20_code, 3, (Option.none : Option FieldType))
theorem dC_keepWrites_0 : decode xC_keepWrites.2.1 0 = .ok (.iload_n 1, 1) := by decide +kernel
theorem dC_keepWrites_1 : decode xC_keepWrites.2.1 1 = .ok (.istore_n 2, 1) := by decide +kernel
theorem dC_keepWrites_2 : decode xC_keepWrites.2.1 2 = .ok (.iload_n 2, 1) := by decide +kernel
theorem dC_keepWrites_3 : decode xC_keepWrites.2.1 3 = .ok (.aload_n 0, 1) := by decide +kernel
theorem dC_keepWrites_4 : decode xC_keepWrites.2.1 4 = .ok (.getfield 23, 3) := by decide +kernel
theorem dC_keepWrites_7 : decode xC_keepWrites.2.1 7 = .ok (.if_icmp .ge 16, 3) := by decide +kernel
theorem dC_keepWrites_10 : decode xC_keepWrites.2.1 10 = .ok (.aload_n 0, 1) := by decide +kernel
theorem dC_keepWrites_11 : decode xC_keepWrites.2.1 11 = .ok (.getfield 19, 3) := by decide +kernel
theorem dC_keepWrites_14 : decode xC_keepWrites.2.1 14 = .ok (.iload_n 2, 1) := by decide +kernel
theorem dC_keepWrites_15 : decode xC_keepWrites.2.1 15 = .ok (.aconst_null, 1) := by decide +kernel
theorem dC_keepWrites_16 : decode xC_keepWrites.2.1 16 = .ok (.aastore, 1) := by decide +kernel
theorem dC_keepWrites_17 : decode xC_keepWrites.2.1 17 = .ok (.iinc 2 1, 3) := by decide +kernel
theorem dC_keepWrites_20 : decode xC_keepWrites.2.1 20 = .ok (.goto (-18), 3) := by decide +kernel
theorem dC_keepWrites_23 : decode xC_keepWrites.2.1 23 = .ok (.aload_n 0, 1) := by decide +kernel
theorem dC_keepWrites_24 : decode xC_keepWrites.2.1 24 = .ok (.iload_n 1, 1) := by decide +kernel
theorem dC_keepWrites_25 : decode xC_keepWrites.2.1 25 = .ok (.putfield 23, 3) := by decide +kernel
theorem dC_keepWrites_28 : decode xC_keepWrites.2.1 28 = .ok (.return_, 1) := by decide +kernel
