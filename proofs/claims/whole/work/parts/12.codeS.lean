/-! Method constants and decode rows, written by wip/whole/gen/code.py out of the listing. -/
def xS_init : mt_X := (⟨"LeasedPages$Server", "<init>", "(LLeasedPages$Network;I)V"⟩, prog_9_method_1_code, 4, (Option.none : Option FieldType))
theorem dS_init_0 : decode xS_init.2.1 0 = .ok (.aload_n 0, 1) := by decide +kernel
theorem dS_init_1 : decode xS_init.2.1 1 = .ok (.invokespecial 3, 3) := by decide +kernel
theorem dS_init_4 : decode xS_init.2.1 4 = .ok (.aload_n 0, 1) := by decide +kernel
theorem dS_init_5 : decode xS_init.2.1 5 = .ok (.iconst 4, 1) := by decide +kernel
theorem dS_init_6 : decode xS_init.2.1 6 = .ok (.iconst 4, 1) := by decide +kernel
theorem dS_init_7 : decode xS_init.2.1 7 = .ok (.multianewarray 9 2, 4) := by decide +kernel
theorem dS_init_11 : decode xS_init.2.1 11 = .ok (.putfield 11, 3) := by decide +kernel
theorem dS_init_14 : decode xS_init.2.1 14 = .ok (.aload_n 0, 1) := by decide +kernel
theorem dS_init_15 : decode xS_init.2.1 15 = .ok (.iconst 3, 1) := by decide +kernel
theorem dS_init_16 : decode xS_init.2.1 16 = .ok (.anewarray 16, 3) := by decide +kernel
theorem dS_init_19 : decode xS_init.2.1 19 = .ok (.putfield 18, 3) := by decide +kernel
theorem dS_init_22 : decode xS_init.2.1 22 = .ok (.aload_n 0, 1) := by decide +kernel
theorem dS_init_23 : decode xS_init.2.1 23 = .ok (.iconst 3, 1) := by decide +kernel
theorem dS_init_24 : decode xS_init.2.1 24 = .ok (.iconst 4, 1) := by decide +kernel
theorem dS_init_25 : decode xS_init.2.1 25 = .ok (.multianewarray 9 2, 4) := by decide +kernel
theorem dS_init_29 : decode xS_init.2.1 29 = .ok (.putfield 22, 3) := by decide +kernel
theorem dS_init_32 : decode xS_init.2.1 32 = .ok (.aload_n 0, 1) := by decide +kernel
theorem dS_init_33 : decode xS_init.2.1 33 = .ok (.iconst 3, 1) := by decide +kernel
theorem dS_init_34 : decode xS_init.2.1 34 = .ok (.iconst 4, 1) := by decide +kernel
theorem dS_init_35 : decode xS_init.2.1 35 = .ok (.multianewarray 9 2, 4) := by decide +kernel
theorem dS_init_39 : decode xS_init.2.1 39 = .ok (.putfield 25, 3) := by decide +kernel
theorem dS_init_42 : decode xS_init.2.1 42 = .ok (.aload_n 0, 1) := by decide +kernel
theorem dS_init_43 : decode xS_init.2.1 43 = .ok (.iconst 4, 1) := by decide +kernel
theorem dS_init_44 : decode xS_init.2.1 44 = .ok (.anewarray 28, 3) := by decide +kernel
theorem dS_init_47 : decode xS_init.2.1 47 = .ok (.putfield 30, 3) := by decide +kernel
theorem dS_init_50 : decode xS_init.2.1 50 = .ok (.aload_n 0, 1) := by decide +kernel
theorem dS_init_51 : decode xS_init.2.1 51 = .ok (.iconst 1, 1) := by decide +kernel
theorem dS_init_52 : decode xS_init.2.1 52 = .ok (.putfield 34, 3) := by decide +kernel
theorem dS_init_55 : decode xS_init.2.1 55 = .ok (.aload_n 0, 1) := by decide +kernel
theorem dS_init_56 : decode xS_init.2.1 56 = .ok (.iconst 0, 1) := by decide +kernel
theorem dS_init_57 : decode xS_init.2.1 57 = .ok (.putfield 38, 3) := by decide +kernel
theorem dS_init_60 : decode xS_init.2.1 60 = .ok (.aload_n 0, 1) := by decide +kernel
theorem dS_init_61 : decode xS_init.2.1 61 = .ok (.iconst 0, 1) := by decide +kernel
theorem dS_init_62 : decode xS_init.2.1 62 = .ok (.putfield 42, 3) := by decide +kernel
theorem dS_init_65 : decode xS_init.2.1 65 = .ok (.aload_n 0, 1) := by decide +kernel
theorem dS_init_66 : decode xS_init.2.1 66 = .ok (.iconst 0, 1) := by decide +kernel
theorem dS_init_67 : decode xS_init.2.1 67 = .ok (.putfield 45, 3) := by decide +kernel
theorem dS_init_70 : decode xS_init.2.1 70 = .ok (.aload_n 0, 1) := by decide +kernel
theorem dS_init_71 : decode xS_init.2.1 71 = .ok (.aload_n 1, 1) := by decide +kernel
theorem dS_init_72 : decode xS_init.2.1 72 = .ok (.putfield 48, 3) := by decide +kernel
theorem dS_init_75 : decode xS_init.2.1 75 = .ok (.aload_n 0, 1) := by decide +kernel
theorem dS_init_76 : decode xS_init.2.1 76 = .ok (.iload_n 2, 1) := by decide +kernel
theorem dS_init_77 : decode xS_init.2.1 77 = .ok (.putfield 52, 3) := by decide +kernel
theorem dS_init_80 : decode xS_init.2.1 80 = .ok (.iconst 0, 1) := by decide +kernel
theorem dS_init_81 : decode xS_init.2.1 81 = .ok (.istore_n 3, 1) := by decide +kernel
theorem dS_init_82 : decode xS_init.2.1 82 = .ok (.iload_n 3, 1) := by decide +kernel
theorem dS_init_83 : decode xS_init.2.1 83 = .ok (.iconst 4, 1) := by decide +kernel
theorem dS_init_84 : decode xS_init.2.1 84 = .ok (.if_icmp .ge 22, 3) := by decide +kernel
theorem dS_init_87 : decode xS_init.2.1 87 = .ok (.aload_n 0, 1) := by decide +kernel
theorem dS_init_88 : decode xS_init.2.1 88 = .ok (.getfield 30, 3) := by decide +kernel
theorem dS_init_91 : decode xS_init.2.1 91 = .ok (.iload_n 3, 1) := by decide +kernel
theorem dS_init_92 : decode xS_init.2.1 92 = .ok (.new 28, 3) := by decide +kernel
theorem dS_init_95 : decode xS_init.2.1 95 = .ok (.dup, 1) := by decide +kernel
theorem dS_init_96 : decode xS_init.2.1 96 = .ok (.invokespecial 55, 3) := by decide +kernel
theorem dS_init_99 : decode xS_init.2.1 99 = .ok (.aastore, 1) := by decide +kernel
theorem dS_init_100 : decode xS_init.2.1 100 = .ok (.iinc 3 1, 3) := by decide +kernel
theorem dS_init_103 : decode xS_init.2.1 103 = .ok (.goto (-21), 3) := by decide +kernel
theorem dS_init_106 : decode xS_init.2.1 106 = .ok (.return_, 1) := by decide +kernel
def xS_goDown : mt_X := (⟨"LeasedPages$Server", "goDown", "()V"⟩, prog_9_method_2_code, 2, (Option.none : Option FieldType))
theorem dS_goDown_0 : decode xS_goDown.2.1 0 = .ok (.aload_n 0, 1) := by decide +kernel
theorem dS_goDown_1 : decode xS_goDown.2.1 1 = .ok (.iconst 0, 1) := by decide +kernel
theorem dS_goDown_2 : decode xS_goDown.2.1 2 = .ok (.putfield 34, 3) := by decide +kernel
theorem dS_goDown_5 : decode xS_goDown.2.1 5 = .ok (.iconst 0, 1) := by decide +kernel
theorem dS_goDown_6 : decode xS_goDown.2.1 6 = .ok (.istore_n 1, 1) := by decide +kernel
theorem dS_goDown_7 : decode xS_goDown.2.1 7 = .ok (.iload_n 1, 1) := by decide +kernel
theorem dS_goDown_8 : decode xS_goDown.2.1 8 = .ok (.iconst 3, 1) := by decide +kernel
theorem dS_goDown_9 : decode xS_goDown.2.1 9 = .ok (.if_icmp .ge 19, 3) := by decide +kernel
theorem dS_goDown_12 : decode xS_goDown.2.1 12 = .ok (.aload_n 0, 1) := by decide +kernel
theorem dS_goDown_13 : decode xS_goDown.2.1 13 = .ok (.getfield 22, 3) := by decide +kernel
theorem dS_goDown_16 : decode xS_goDown.2.1 16 = .ok (.iload_n 1, 1) := by decide +kernel
theorem dS_goDown_17 : decode xS_goDown.2.1 17 = .ok (.aaload, 1) := by decide +kernel
theorem dS_goDown_18 : decode xS_goDown.2.1 18 = .ok (.iconst 0, 1) := by decide +kernel
theorem dS_goDown_19 : decode xS_goDown.2.1 19 = .ok (.invokestatic 56, 3) := by decide +kernel
theorem dS_goDown_22 : decode xS_goDown.2.1 22 = .ok (.iinc 1 1, 3) := by decide +kernel
theorem dS_goDown_25 : decode xS_goDown.2.1 25 = .ok (.goto (-18), 3) := by decide +kernel
theorem dS_goDown_28 : decode xS_goDown.2.1 28 = .ok (.iconst 0, 1) := by decide +kernel
theorem dS_goDown_29 : decode xS_goDown.2.1 29 = .ok (.istore_n 1, 1) := by decide +kernel
theorem dS_goDown_30 : decode xS_goDown.2.1 30 = .ok (.iload_n 1, 1) := by decide +kernel
theorem dS_goDown_31 : decode xS_goDown.2.1 31 = .ok (.iconst 4, 1) := by decide +kernel
theorem dS_goDown_32 : decode xS_goDown.2.1 32 = .ok (.if_icmp .ge 18, 3) := by decide +kernel
theorem dS_goDown_35 : decode xS_goDown.2.1 35 = .ok (.aload_n 0, 1) := by decide +kernel
theorem dS_goDown_36 : decode xS_goDown.2.1 36 = .ok (.getfield 30, 3) := by decide +kernel
theorem dS_goDown_39 : decode xS_goDown.2.1 39 = .ok (.iload_n 1, 1) := by decide +kernel
theorem dS_goDown_40 : decode xS_goDown.2.1 40 = .ok (.aaload, 1) := by decide +kernel
theorem dS_goDown_41 : decode xS_goDown.2.1 41 = .ok (.invokevirtual 62, 3) := by decide +kernel
theorem dS_goDown_44 : decode xS_goDown.2.1 44 = .ok (.iinc 1 1, 3) := by decide +kernel
theorem dS_goDown_47 : decode xS_goDown.2.1 47 = .ok (.goto (-17), 3) := by decide +kernel
theorem dS_goDown_50 : decode xS_goDown.2.1 50 = .ok (.return_, 1) := by decide +kernel
def xS_comeUp : mt_X := (⟨"LeasedPages$Server", "comeUp", "()V"⟩, prog_9_method_3_code, 1, (Option.none : Option FieldType))
theorem dS_comeUp_0 : decode xS_comeUp.2.1 0 = .ok (.aload_n 0, 1) := by decide +kernel
theorem dS_comeUp_1 : decode xS_comeUp.2.1 1 = .ok (.iconst 1, 1) := by decide +kernel
theorem dS_comeUp_2 : decode xS_comeUp.2.1 2 = .ok (.putfield 34, 3) := by decide +kernel
theorem dS_comeUp_5 : decode xS_comeUp.2.1 5 = .ok (.aload_n 0, 1) := by decide +kernel
theorem dS_comeUp_6 : decode xS_comeUp.2.1 6 = .ok (.iconst 1, 1) := by decide +kernel
theorem dS_comeUp_7 : decode xS_comeUp.2.1 7 = .ok (.putfield 42, 3) := by decide +kernel
theorem dS_comeUp_10 : decode xS_comeUp.2.1 10 = .ok (.aload_n 0, 1) := by decide +kernel
theorem dS_comeUp_11 : decode xS_comeUp.2.1 11 = .ok (.aload_n 0, 1) := by decide +kernel
theorem dS_comeUp_12 : decode xS_comeUp.2.1 12 = .ok (.getfield 38, 3) := by decide +kernel
theorem dS_comeUp_15 : decode xS_comeUp.2.1 15 = .ok (.aload_n 0, 1) := by decide +kernel
theorem dS_comeUp_16 : decode xS_comeUp.2.1 16 = .ok (.getfield 52, 3) := by decide +kernel
theorem dS_comeUp_19 : decode xS_comeUp.2.1 19 = .ok (.iadd, 1) := by decide +kernel
theorem dS_comeUp_20 : decode xS_comeUp.2.1 20 = .ok (.putfield 45, 3) := by decide +kernel
theorem dS_comeUp_23 : decode xS_comeUp.2.1 23 = .ok (.return_, 1) := by decide +kernel
def xS_advance : mt_X := (⟨"LeasedPages$Server", "advance", "(I)V"⟩, prog_9_method_4_code, 3, (Option.none : Option FieldType))
theorem dS_advance_0 : decode xS_advance.2.1 0 = .ok (.iconst 0, 1) := by decide +kernel
theorem dS_advance_1 : decode xS_advance.2.1 1 = .ok (.istore_n 2, 1) := by decide +kernel
theorem dS_advance_2 : decode xS_advance.2.1 2 = .ok (.iload_n 2, 1) := by decide +kernel
theorem dS_advance_3 : decode xS_advance.2.1 3 = .ok (.iload_n 1, 1) := by decide +kernel
theorem dS_advance_4 : decode xS_advance.2.1 4 = .ok (.if_icmp .ge 43, 3) := by decide +kernel
theorem dS_advance_7 : decode xS_advance.2.1 7 = .ok (.aload_n 0, 1) := by decide +kernel
theorem dS_advance_8 : decode xS_advance.2.1 8 = .ok (.dup, 1) := by decide +kernel
theorem dS_advance_9 : decode xS_advance.2.1 9 = .ok (.getfield 38, 3) := by decide +kernel
theorem dS_advance_12 : decode xS_advance.2.1 12 = .ok (.iconst 1, 1) := by decide +kernel
theorem dS_advance_13 : decode xS_advance.2.1 13 = .ok (.iadd, 1) := by decide +kernel
theorem dS_advance_14 : decode xS_advance.2.1 14 = .ok (.putfield 38, 3) := by decide +kernel
theorem dS_advance_17 : decode xS_advance.2.1 17 = .ok (.aload_n 0, 1) := by decide +kernel
theorem dS_advance_18 : decode xS_advance.2.1 18 = .ok (.invokevirtual 65, 3) := by decide +kernel
theorem dS_advance_21 : decode xS_advance.2.1 21 = .ok (.aload_n 0, 1) := by decide +kernel
theorem dS_advance_22 : decode xS_advance.2.1 22 = .ok (.getfield 38, 3) := by decide +kernel
theorem dS_advance_25 : decode xS_advance.2.1 25 = .ok (.aload_n 0, 1) := by decide +kernel
theorem dS_advance_26 : decode xS_advance.2.1 26 = .ok (.getfield 45, 3) := by decide +kernel
theorem dS_advance_29 : decode xS_advance.2.1 29 = .ok (.if_icmp .lt 8, 3) := by decide +kernel
theorem dS_advance_32 : decode xS_advance.2.1 32 = .ok (.aload_n 0, 1) := by decide +kernel
theorem dS_advance_33 : decode xS_advance.2.1 33 = .ok (.iconst 0, 1) := by decide +kernel
theorem dS_advance_34 : decode xS_advance.2.1 34 = .ok (.putfield 42, 3) := by decide +kernel
theorem dS_advance_37 : decode xS_advance.2.1 37 = .ok (.aload_n 0, 1) := by decide +kernel
theorem dS_advance_38 : decode xS_advance.2.1 38 = .ok (.invokevirtual 68, 3) := by decide +kernel
theorem dS_advance_41 : decode xS_advance.2.1 41 = .ok (.iinc 2 1, 3) := by decide +kernel
theorem dS_advance_44 : decode xS_advance.2.1 44 = .ok (.goto (-42), 3) := by decide +kernel
theorem dS_advance_47 : decode xS_advance.2.1 47 = .ok (.return_, 1) := by decide +kernel
def xS_leaseAndRest : mt_X := (⟨"LeasedPages$Server", "leaseAndRest", "(II)I"⟩, prog_9_method_5_code, 3, (Option.some FieldType.int))
theorem dS_leaseAndRest_0 : decode xS_leaseAndRest.2.1 0 = .ok (.aload_n 0, 1) := by decide +kernel
theorem dS_leaseAndRest_1 : decode xS_leaseAndRest.2.1 1 = .ok (.iload_n 1, 1) := by decide +kernel
theorem dS_leaseAndRest_2 : decode xS_leaseAndRest.2.1 2 = .ok (.iload_n 2, 1) := by decide +kernel
theorem dS_leaseAndRest_3 : decode xS_leaseAndRest.2.1 3 = .ok (.invokevirtual 71, 3) := by decide +kernel
theorem dS_leaseAndRest_6 : decode xS_leaseAndRest.2.1 6 = .ok (.ifCond .eq 32, 3) := by decide +kernel
theorem dS_leaseAndRest_9 : decode xS_leaseAndRest.2.1 9 = .ok (.sipush 1000, 3) := by decide +kernel
theorem dS_leaseAndRest_12 : decode xS_leaseAndRest.2.1 12 = .ok (.aload_n 0, 1) := by decide +kernel
theorem dS_leaseAndRest_13 : decode xS_leaseAndRest.2.1 13 = .ok (.getfield 22, 3) := by decide +kernel
theorem dS_leaseAndRest_16 : decode xS_leaseAndRest.2.1 16 = .ok (.iload_n 1, 1) := by decide +kernel
theorem dS_leaseAndRest_17 : decode xS_leaseAndRest.2.1 17 = .ok (.aaload, 1) := by decide +kernel
theorem dS_leaseAndRest_18 : decode xS_leaseAndRest.2.1 18 = .ok (.iload_n 2, 1) := by decide +kernel
theorem dS_leaseAndRest_19 : decode xS_leaseAndRest.2.1 19 = .ok (.iaload, 1) := by decide +kernel
theorem dS_leaseAndRest_20 : decode xS_leaseAndRest.2.1 20 = .ok (.imul, 1) := by decide +kernel
theorem dS_leaseAndRest_21 : decode xS_leaseAndRest.2.1 21 = .ok (.aload_n 0, 1) := by decide +kernel
theorem dS_leaseAndRest_22 : decode xS_leaseAndRest.2.1 22 = .ok (.getfield 25, 3) := by decide +kernel
theorem dS_leaseAndRest_25 : decode xS_leaseAndRest.2.1 25 = .ok (.iload_n 1, 1) := by decide +kernel
theorem dS_leaseAndRest_26 : decode xS_leaseAndRest.2.1 26 = .ok (.aaload, 1) := by decide +kernel
theorem dS_leaseAndRest_27 : decode xS_leaseAndRest.2.1 27 = .ok (.iload_n 2, 1) := by decide +kernel
theorem dS_leaseAndRest_28 : decode xS_leaseAndRest.2.1 28 = .ok (.iaload, 1) := by decide +kernel
theorem dS_leaseAndRest_29 : decode xS_leaseAndRest.2.1 29 = .ok (.iadd, 1) := by decide +kernel
theorem dS_leaseAndRest_30 : decode xS_leaseAndRest.2.1 30 = .ok (.aload_n 0, 1) := by decide +kernel
theorem dS_leaseAndRest_31 : decode xS_leaseAndRest.2.1 31 = .ok (.getfield 38, 3) := by decide +kernel
theorem dS_leaseAndRest_34 : decode xS_leaseAndRest.2.1 34 = .ok (.isub, 1) := by decide +kernel
theorem dS_leaseAndRest_35 : decode xS_leaseAndRest.2.1 35 = .ok (.goto 4, 3) := by decide +kernel
theorem dS_leaseAndRest_38 : decode xS_leaseAndRest.2.1 38 = .ok (.iconst 0, 1) := by decide +kernel
theorem dS_leaseAndRest_39 : decode xS_leaseAndRest.2.1 39 = .ok (.ireturn, 1) := by decide +kernel
def xS_requestArrives : mt_X := (⟨"LeasedPages$Server", "requestArrives", "(LLeasedPages$Request;)V"⟩, prog_9_method_6_code, 3, (Option.none : Option FieldType))
theorem dS_requestArrives_0 : decode xS_requestArrives.2.1 0 = .ok (.aload_n 0, 1) := by decide +kernel
theorem dS_requestArrives_1 : decode xS_requestArrives.2.1 1 = .ok (.getfield 34, 3) := by decide +kernel
theorem dS_requestArrives_4 : decode xS_requestArrives.2.1 4 = .ok (.ifCond .ne 4, 3) := by decide +kernel
theorem dS_requestArrives_7 : decode xS_requestArrives.2.1 7 = .ok (.return_, 1) := by decide +kernel
theorem dS_requestArrives_8 : decode xS_requestArrives.2.1 8 = .ok (.aload_n 0, 1) := by decide +kernel
theorem dS_requestArrives_9 : decode xS_requestArrives.2.1 9 = .ok (.getfield 18, 3) := by decide +kernel
theorem dS_requestArrives_12 : decode xS_requestArrives.2.1 12 = .ok (.aload_n 1, 1) := by decide +kernel
theorem dS_requestArrives_13 : decode xS_requestArrives.2.1 13 = .ok (.getfield 75, 3) := by decide +kernel
theorem dS_requestArrives_16 : decode xS_requestArrives.2.1 16 = .ok (.aaload, 1) := by decide +kernel
theorem dS_requestArrives_17 : decode xS_requestArrives.2.1 17 = .ok (.astore_n 2, 1) := by decide +kernel
theorem dS_requestArrives_18 : decode xS_requestArrives.2.1 18 = .ok (.aload_n 2, 1) := by decide +kernel
theorem dS_requestArrives_19 : decode xS_requestArrives.2.1 19 = .ok (.ifnull 26, 3) := by decide +kernel
theorem dS_requestArrives_22 : decode xS_requestArrives.2.1 22 = .ok (.aload_n 1, 1) := by decide +kernel
theorem dS_requestArrives_23 : decode xS_requestArrives.2.1 23 = .ok (.getfield 80, 3) := by decide +kernel
theorem dS_requestArrives_26 : decode xS_requestArrives.2.1 26 = .ok (.aload_n 2, 1) := by decide +kernel
theorem dS_requestArrives_27 : decode xS_requestArrives.2.1 27 = .ok (.getfield 83, 3) := by decide +kernel
theorem dS_requestArrives_30 : decode xS_requestArrives.2.1 30 = .ok (.if_icmp .ne 15, 3) := by decide +kernel
theorem dS_requestArrives_33 : decode xS_requestArrives.2.1 33 = .ok (.aload_n 0, 1) := by decide +kernel
theorem dS_requestArrives_34 : decode xS_requestArrives.2.1 34 = .ok (.getfield 48, 3) := by decide +kernel
theorem dS_requestArrives_37 : decode xS_requestArrives.2.1 37 = .ok (.aload_n 2, 1) := by decide +kernel
theorem dS_requestArrives_38 : decode xS_requestArrives.2.1 38 = .ok (.invokevirtual 84, 3) := by decide +kernel
theorem dS_requestArrives_41 : decode xS_requestArrives.2.1 41 = .ok (.pop, 1) := by decide +kernel
theorem dS_requestArrives_42 : decode xS_requestArrives.2.1 42 = .ok (.goto 71, 3) := by decide +kernel
theorem dS_requestArrives_45 : decode xS_requestArrives.2.1 45 = .ok (.aload_n 2, 1) := by decide +kernel
theorem dS_requestArrives_46 : decode xS_requestArrives.2.1 46 = .ok (.ifnull 14, 3) := by decide +kernel
theorem dS_requestArrives_49 : decode xS_requestArrives.2.1 49 = .ok (.aload_n 1, 1) := by decide +kernel
theorem dS_requestArrives_50 : decode xS_requestArrives.2.1 50 = .ok (.getfield 80, 3) := by decide +kernel
theorem dS_requestArrives_53 : decode xS_requestArrives.2.1 53 = .ok (.aload_n 2, 1) := by decide +kernel
theorem dS_requestArrives_54 : decode xS_requestArrives.2.1 54 = .ok (.getfield 83, 3) := by decide +kernel
theorem dS_requestArrives_57 : decode xS_requestArrives.2.1 57 = .ok (.if_icmp .le 56, 3) := by decide +kernel
theorem dS_requestArrives_60 : decode xS_requestArrives.2.1 60 = .ok (.aload_n 0, 1) := by decide +kernel
theorem dS_requestArrives_61 : decode xS_requestArrives.2.1 61 = .ok (.aload_n 1, 1) := by decide +kernel
theorem dS_requestArrives_62 : decode xS_requestArrives.2.1 62 = .ok (.invokevirtual 90, 3) := by decide +kernel
theorem dS_requestArrives_65 : decode xS_requestArrives.2.1 65 = .ok (.ifCond .ne 48, 3) := by decide +kernel
theorem dS_requestArrives_68 : decode xS_requestArrives.2.1 68 = .ok (.aload_n 0, 1) := by decide +kernel
theorem dS_requestArrives_69 : decode xS_requestArrives.2.1 69 = .ok (.aload_n 1, 1) := by decide +kernel
theorem dS_requestArrives_70 : decode xS_requestArrives.2.1 70 = .ok (.getfield 75, 3) := by decide +kernel
theorem dS_requestArrives_73 : decode xS_requestArrives.2.1 73 = .ok (.invokevirtual 94, 3) := by decide +kernel
theorem dS_requestArrives_76 : decode xS_requestArrives.2.1 76 = .ok (.aload_n 1, 1) := by decide +kernel
theorem dS_requestArrives_77 : decode xS_requestArrives.2.1 77 = .ok (.getfield 98, 3) := by decide +kernel
theorem dS_requestArrives_80 : decode xS_requestArrives.2.1 80 = .ok (.iconst 1, 1) := by decide +kernel
theorem dS_requestArrives_81 : decode xS_requestArrives.2.1 81 = .ok (.if_icmp .ne 11, 3) := by decide +kernel
theorem dS_requestArrives_84 : decode xS_requestArrives.2.1 84 = .ok (.aload_n 0, 1) := by decide +kernel
theorem dS_requestArrives_85 : decode xS_requestArrives.2.1 85 = .ok (.aload_n 1, 1) := by decide +kernel
theorem dS_requestArrives_86 : decode xS_requestArrives.2.1 86 = .ok (.invokevirtual 101, 3) := by decide +kernel
theorem dS_requestArrives_89 : decode xS_requestArrives.2.1 89 = .ok (.goto 24, 3) := by decide +kernel
theorem dS_requestArrives_92 : decode xS_requestArrives.2.1 92 = .ok (.aload_n 1, 1) := by decide +kernel
theorem dS_requestArrives_93 : decode xS_requestArrives.2.1 93 = .ok (.getfield 98, 3) := by decide +kernel
theorem dS_requestArrives_96 : decode xS_requestArrives.2.1 96 = .ok (.iconst 2, 1) := by decide +kernel
theorem dS_requestArrives_97 : decode xS_requestArrives.2.1 97 = .ok (.if_icmp .ne 11, 3) := by decide +kernel
theorem dS_requestArrives_100 : decode xS_requestArrives.2.1 100 = .ok (.aload_n 0, 1) := by decide +kernel
theorem dS_requestArrives_101 : decode xS_requestArrives.2.1 101 = .ok (.aload_n 1, 1) := by decide +kernel
theorem dS_requestArrives_102 : decode xS_requestArrives.2.1 102 = .ok (.invokevirtual 105, 3) := by decide +kernel
theorem dS_requestArrives_105 : decode xS_requestArrives.2.1 105 = .ok (.goto 8, 3) := by decide +kernel
theorem dS_requestArrives_108 : decode xS_requestArrives.2.1 108 = .ok (.aload_n 0, 1) := by decide +kernel
theorem dS_requestArrives_109 : decode xS_requestArrives.2.1 109 = .ok (.aload_n 1, 1) := by decide +kernel
theorem dS_requestArrives_110 : decode xS_requestArrives.2.1 110 = .ok (.invokevirtual 108, 3) := by decide +kernel
theorem dS_requestArrives_113 : decode xS_requestArrives.2.1 113 = .ok (.aload_n 0, 1) := by decide +kernel
theorem dS_requestArrives_114 : decode xS_requestArrives.2.1 114 = .ok (.invokevirtual 68, 3) := by decide +kernel
theorem dS_requestArrives_117 : decode xS_requestArrives.2.1 117 = .ok (.return_, 1) := by decide +kernel
def xS_serveLease : mt_X := (⟨"LeasedPages$Server", "serveLease", "(LLeasedPages$Request;)V"⟩, prog_9_method_7_code, 6, (Option.none : Option FieldType))
theorem dS_serveLease_0 : decode xS_serveLease.2.1 0 = .ok (.aload_n 0, 1) := by decide +kernel
theorem dS_serveLease_1 : decode xS_serveLease.2.1 1 = .ok (.getfield 30, 3) := by decide +kernel
theorem dS_serveLease_4 : decode xS_serveLease.2.1 4 = .ok (.aload_n 1, 1) := by decide +kernel
theorem dS_serveLease_5 : decode xS_serveLease.2.1 5 = .ok (.getfield 111, 3) := by decide +kernel
theorem dS_serveLease_8 : decode xS_serveLease.2.1 8 = .ok (.aaload, 1) := by decide +kernel
theorem dS_serveLease_9 : decode xS_serveLease.2.1 9 = .ok (.astore_n 2, 1) := by decide +kernel
theorem dS_serveLease_10 : decode xS_serveLease.2.1 10 = .ok (.aload_n 2, 1) := by decide +kernel
theorem dS_serveLease_11 : decode xS_serveLease.2.1 11 = .ok (.getfield 114, 3) := by decide +kernel
theorem dS_serveLease_14 : decode xS_serveLease.2.1 14 = .ok (.ifCond .le 7, 3) := by decide +kernel
theorem dS_serveLease_17 : decode xS_serveLease.2.1 17 = .ok (.iconst 1, 1) := by decide +kernel
theorem dS_serveLease_18 : decode xS_serveLease.2.1 18 = .ok (.goto 4, 3) := by decide +kernel
theorem dS_serveLease_21 : decode xS_serveLease.2.1 21 = .ok (.iconst 0, 1) := by decide +kernel
theorem dS_serveLease_22 : decode xS_serveLease.2.1 22 = .ok (.istore_n 3, 1) := by decide +kernel
theorem dS_serveLease_23 : decode xS_serveLease.2.1 23 = .ok (.aload_n 0, 1) := by decide +kernel
theorem dS_serveLease_24 : decode xS_serveLease.2.1 24 = .ok (.aload_n 1, 1) := by decide +kernel
theorem dS_serveLease_25 : decode xS_serveLease.2.1 25 = .ok (.getfield 75, 3) := by decide +kernel
theorem dS_serveLease_28 : decode xS_serveLease.2.1 28 = .ok (.aload_n 1, 1) := by decide +kernel
theorem dS_serveLease_29 : decode xS_serveLease.2.1 29 = .ok (.getfield 111, 3) := by decide +kernel
theorem dS_serveLease_32 : decode xS_serveLease.2.1 32 = .ok (.invokevirtual 71, 3) := by decide +kernel
theorem dS_serveLease_35 : decode xS_serveLease.2.1 35 = .ok (.istore 4, 2) := by decide +kernel
theorem dS_serveLease_37 : decode xS_serveLease.2.1 37 = .ok (.iload 4, 2) := by decide +kernel
theorem dS_serveLease_39 : decode xS_serveLease.2.1 39 = .ok (.ifCond .eq 23, 3) := by decide +kernel
theorem dS_serveLease_42 : decode xS_serveLease.2.1 42 = .ok (.iload_n 3, 1) := by decide +kernel
theorem dS_serveLease_43 : decode xS_serveLease.2.1 43 = .ok (.ifCond .eq 19, 3) := by decide +kernel
theorem dS_serveLease_46 : decode xS_serveLease.2.1 46 = .ok (.aload_n 0, 1) := by decide +kernel
theorem dS_serveLease_47 : decode xS_serveLease.2.1 47 = .ok (.new 16, 3) := by decide +kernel
theorem dS_serveLease_50 : decode xS_serveLease.2.1 50 = .ok (.dup, 1) := by decide +kernel
theorem dS_serveLease_51 : decode xS_serveLease.2.1 51 = .ok (.iconst 5, 1) := by decide +kernel
theorem dS_serveLease_52 : decode xS_serveLease.2.1 52 = .ok (.aload_n 1, 1) := by decide +kernel
theorem dS_serveLease_53 : decode xS_serveLease.2.1 53 = .ok (.iconst 0, 1) := by decide +kernel
theorem dS_serveLease_54 : decode xS_serveLease.2.1 54 = .ok (.aconst_null, 1) := by decide +kernel
theorem dS_serveLease_55 : decode xS_serveLease.2.1 55 = .ok (.invokespecial 117, 3) := by decide +kernel
theorem dS_serveLease_58 : decode xS_serveLease.2.1 58 = .ok (.invokevirtual 120, 3) := by decide +kernel
theorem dS_serveLease_61 : decode xS_serveLease.2.1 61 = .ok (.return_, 1) := by decide +kernel
theorem dS_serveLease_62 : decode xS_serveLease.2.1 62 = .ok (.aload_n 0, 1) := by decide +kernel
theorem dS_serveLease_63 : decode xS_serveLease.2.1 63 = .ok (.getfield 42, 3) := by decide +kernel
theorem dS_serveLease_66 : decode xS_serveLease.2.1 66 = .ok (.ifCond .eq 10, 3) := by decide +kernel
theorem dS_serveLease_69 : decode xS_serveLease.2.1 69 = .ok (.aload_n 1, 1) := by decide +kernel
theorem dS_serveLease_70 : decode xS_serveLease.2.1 70 = .ok (.getfield 124, 3) := by decide +kernel
theorem dS_serveLease_73 : decode xS_serveLease.2.1 73 = .ok (.goto 17, 3) := by decide +kernel
theorem dS_serveLease_76 : decode xS_serveLease.2.1 76 = .ok (.iload 4, 2) := by decide +kernel
theorem dS_serveLease_78 : decode xS_serveLease.2.1 78 = .ok (.ifCond .ne 7, 3) := by decide +kernel
theorem dS_serveLease_81 : decode xS_serveLease.2.1 81 = .ok (.iload_n 3, 1) := by decide +kernel
theorem dS_serveLease_82 : decode xS_serveLease.2.1 82 = .ok (.ifCond .ne 7, 3) := by decide +kernel
theorem dS_serveLease_85 : decode xS_serveLease.2.1 85 = .ok (.iconst 1, 1) := by decide +kernel
theorem dS_serveLease_86 : decode xS_serveLease.2.1 86 = .ok (.goto 4, 3) := by decide +kernel
theorem dS_serveLease_89 : decode xS_serveLease.2.1 89 = .ok (.iconst 0, 1) := by decide +kernel
theorem dS_serveLease_90 : decode xS_serveLease.2.1 90 = .ok (.istore 5, 2) := by decide +kernel
theorem dS_serveLease_92 : decode xS_serveLease.2.1 92 = .ok (.iload 5, 2) := by decide +kernel
theorem dS_serveLease_94 : decode xS_serveLease.2.1 94 = .ok (.ifCond .eq 19, 3) := by decide +kernel
theorem dS_serveLease_97 : decode xS_serveLease.2.1 97 = .ok (.aload_n 0, 1) := by decide +kernel
theorem dS_serveLease_98 : decode xS_serveLease.2.1 98 = .ok (.aload_n 1, 1) := by decide +kernel
theorem dS_serveLease_99 : decode xS_serveLease.2.1 99 = .ok (.invokevirtual 127, 3) := by decide +kernel
theorem dS_serveLease_102 : decode xS_serveLease.2.1 102 = .ok (.ifCond .ne 11, 3) := by decide +kernel
theorem dS_serveLease_105 : decode xS_serveLease.2.1 105 = .ok (.aload_n 0, 1) := by decide +kernel
theorem dS_serveLease_106 : decode xS_serveLease.2.1 106 = .ok (.aload_n 1, 1) := by decide +kernel
theorem dS_serveLease_107 : decode xS_serveLease.2.1 107 = .ok (.invokevirtual 130, 3) := by decide +kernel
theorem dS_serveLease_110 : decode xS_serveLease.2.1 110 = .ok (.goto 13, 3) := by decide +kernel
theorem dS_serveLease_113 : decode xS_serveLease.2.1 113 = .ok (.aload_n 2, 1) := by decide +kernel
theorem dS_serveLease_114 : decode xS_serveLease.2.1 114 = .ok (.aload_n 1, 1) := by decide +kernel
theorem dS_serveLease_115 : decode xS_serveLease.2.1 115 = .ok (.invokevirtual 133, 3) := by decide +kernel
theorem dS_serveLease_118 : decode xS_serveLease.2.1 118 = .ok (.aload_n 0, 1) := by decide +kernel
theorem dS_serveLease_119 : decode xS_serveLease.2.1 119 = .ok (.aload_n 1, 1) := by decide +kernel
theorem dS_serveLease_120 : decode xS_serveLease.2.1 120 = .ok (.invokevirtual 136, 3) := by decide +kernel
theorem dS_serveLease_123 : decode xS_serveLease.2.1 123 = .ok (.return_, 1) := by decide +kernel
def xS_serveStore : mt_X := (⟨"LeasedPages$Server", "serveStore", "(LLeasedPages$Request;)V"⟩, prog_9_method_8_code, 3, (Option.none : Option FieldType))
theorem dS_serveStore_0 : decode xS_serveStore.2.1 0 = .ok (.aload_n 0, 1) := by decide +kernel
theorem dS_serveStore_1 : decode xS_serveStore.2.1 1 = .ok (.getfield 22, 3) := by decide +kernel
theorem dS_serveStore_4 : decode xS_serveStore.2.1 4 = .ok (.aload_n 1, 1) := by decide +kernel
theorem dS_serveStore_5 : decode xS_serveStore.2.1 5 = .ok (.getfield 75, 3) := by decide +kernel
theorem dS_serveStore_8 : decode xS_serveStore.2.1 8 = .ok (.aaload, 1) := by decide +kernel
theorem dS_serveStore_9 : decode xS_serveStore.2.1 9 = .ok (.aload_n 1, 1) := by decide +kernel
theorem dS_serveStore_10 : decode xS_serveStore.2.1 10 = .ok (.getfield 111, 3) := by decide +kernel
theorem dS_serveStore_13 : decode xS_serveStore.2.1 13 = .ok (.iaload, 1) := by decide +kernel
theorem dS_serveStore_14 : decode xS_serveStore.2.1 14 = .ok (.iconst 2, 1) := by decide +kernel
theorem dS_serveStore_15 : decode xS_serveStore.2.1 15 = .ok (.if_icmp .ne 7, 3) := by decide +kernel
theorem dS_serveStore_18 : decode xS_serveStore.2.1 18 = .ok (.iconst 1, 1) := by decide +kernel
theorem dS_serveStore_19 : decode xS_serveStore.2.1 19 = .ok (.goto 4, 3) := by decide +kernel
theorem dS_serveStore_22 : decode xS_serveStore.2.1 22 = .ok (.iconst 0, 1) := by decide +kernel
theorem dS_serveStore_23 : decode xS_serveStore.2.1 23 = .ok (.istore_n 2, 1) := by decide +kernel
theorem dS_serveStore_24 : decode xS_serveStore.2.1 24 = .ok (.iload_n 2, 1) := by decide +kernel
theorem dS_serveStore_25 : decode xS_serveStore.2.1 25 = .ok (.ifCond .eq 21, 3) := by decide +kernel
theorem dS_serveStore_28 : decode xS_serveStore.2.1 28 = .ok (.aload_n 0, 1) := by decide +kernel
theorem dS_serveStore_29 : decode xS_serveStore.2.1 29 = .ok (.getfield 11, 3) := by decide +kernel
theorem dS_serveStore_32 : decode xS_serveStore.2.1 32 = .ok (.aload_n 1, 1) := by decide +kernel
theorem dS_serveStore_33 : decode xS_serveStore.2.1 33 = .ok (.getfield 111, 3) := by decide +kernel
theorem dS_serveStore_36 : decode xS_serveStore.2.1 36 = .ok (.aaload, 1) := by decide +kernel
theorem dS_serveStore_37 : decode xS_serveStore.2.1 37 = .ok (.aload_n 1, 1) := by decide +kernel
theorem dS_serveStore_38 : decode xS_serveStore.2.1 38 = .ok (.getfield 139, 3) := by decide +kernel
theorem dS_serveStore_41 : decode xS_serveStore.2.1 41 = .ok (.aload_n 1, 1) := by decide +kernel
theorem dS_serveStore_42 : decode xS_serveStore.2.1 42 = .ok (.getfield 142, 3) := by decide +kernel
theorem dS_serveStore_45 : decode xS_serveStore.2.1 45 = .ok (.iastore, 1) := by decide +kernel
theorem dS_serveStore_46 : decode xS_serveStore.2.1 46 = .ok (.aload_n 0, 1) := by decide +kernel
theorem dS_serveStore_47 : decode xS_serveStore.2.1 47 = .ok (.new 16, 3) := by decide +kernel
theorem dS_serveStore_50 : decode xS_serveStore.2.1 50 = .ok (.dup, 1) := by decide +kernel
theorem dS_serveStore_51 : decode xS_serveStore.2.1 51 = .ok (.iload_n 2, 1) := by decide +kernel
theorem dS_serveStore_52 : decode xS_serveStore.2.1 52 = .ok (.ifCond .eq 8, 3) := by decide +kernel
theorem dS_serveStore_55 : decode xS_serveStore.2.1 55 = .ok (.bipush 6, 2) := by decide +kernel
theorem dS_serveStore_57 : decode xS_serveStore.2.1 57 = .ok (.goto 5, 3) := by decide +kernel
theorem dS_serveStore_60 : decode xS_serveStore.2.1 60 = .ok (.bipush 7, 2) := by decide +kernel
theorem dS_serveStore_62 : decode xS_serveStore.2.1 62 = .ok (.aload_n 1, 1) := by decide +kernel
theorem dS_serveStore_63 : decode xS_serveStore.2.1 63 = .ok (.iconst 0, 1) := by decide +kernel
theorem dS_serveStore_64 : decode xS_serveStore.2.1 64 = .ok (.aconst_null, 1) := by decide +kernel
theorem dS_serveStore_65 : decode xS_serveStore.2.1 65 = .ok (.invokespecial 117, 3) := by decide +kernel
theorem dS_serveStore_68 : decode xS_serveStore.2.1 68 = .ok (.invokevirtual 120, 3) := by decide +kernel
theorem dS_serveStore_71 : decode xS_serveStore.2.1 71 = .ok (.return_, 1) := by decide +kernel
def xS_serveRelease : mt_X := (⟨"LeasedPages$Server", "serveRelease", "(LLeasedPages$Request;)V"⟩, prog_9_method_9_code, 2, (Option.none : Option FieldType))
theorem dS_serveRelease_0 : decode xS_serveRelease.2.1 0 = .ok (.aload_n 0, 1) := by decide +kernel
theorem dS_serveRelease_1 : decode xS_serveRelease.2.1 1 = .ok (.getfield 22, 3) := by decide +kernel
theorem dS_serveRelease_4 : decode xS_serveRelease.2.1 4 = .ok (.aload_n 1, 1) := by decide +kernel
theorem dS_serveRelease_5 : decode xS_serveRelease.2.1 5 = .ok (.getfield 75, 3) := by decide +kernel
theorem dS_serveRelease_8 : decode xS_serveRelease.2.1 8 = .ok (.aaload, 1) := by decide +kernel
theorem dS_serveRelease_9 : decode xS_serveRelease.2.1 9 = .ok (.aload_n 1, 1) := by decide +kernel
theorem dS_serveRelease_10 : decode xS_serveRelease.2.1 10 = .ok (.getfield 111, 3) := by decide +kernel
theorem dS_serveRelease_13 : decode xS_serveRelease.2.1 13 = .ok (.iconst 0, 1) := by decide +kernel
theorem dS_serveRelease_14 : decode xS_serveRelease.2.1 14 = .ok (.iastore, 1) := by decide +kernel
theorem dS_serveRelease_15 : decode xS_serveRelease.2.1 15 = .ok (.aload_n 0, 1) := by decide +kernel
theorem dS_serveRelease_16 : decode xS_serveRelease.2.1 16 = .ok (.new 16, 3) := by decide +kernel
theorem dS_serveRelease_19 : decode xS_serveRelease.2.1 19 = .ok (.dup, 1) := by decide +kernel
theorem dS_serveRelease_20 : decode xS_serveRelease.2.1 20 = .ok (.bipush 6, 2) := by decide +kernel
theorem dS_serveRelease_22 : decode xS_serveRelease.2.1 22 = .ok (.aload_n 1, 1) := by decide +kernel
theorem dS_serveRelease_23 : decode xS_serveRelease.2.1 23 = .ok (.iconst 0, 1) := by decide +kernel
theorem dS_serveRelease_24 : decode xS_serveRelease.2.1 24 = .ok (.aconst_null, 1) := by decide +kernel
theorem dS_serveRelease_25 : decode xS_serveRelease.2.1 25 = .ok (.invokespecial 117, 3) := by decide +kernel
theorem dS_serveRelease_28 : decode xS_serveRelease.2.1 28 = .ok (.invokevirtual 120, 3) := by decide +kernel
theorem dS_serveRelease_31 : decode xS_serveRelease.2.1 31 = .ok (.return_, 1) := by decide +kernel
def xS_grant : mt_X := (⟨"LeasedPages$Server", "grant", "(LLeasedPages$Request;)V"⟩, prog_9_method_10_code, 5, (Option.none : Option FieldType))
theorem dS_grant_0 : decode xS_grant.2.1 0 = .ok (.aload_n 1, 1) := by decide +kernel
theorem dS_grant_1 : decode xS_grant.2.1 1 = .ok (.getfield 75, 3) := by decide +kernel
theorem dS_grant_4 : decode xS_grant.2.1 4 = .ok (.istore_n 2, 1) := by decide +kernel
theorem dS_grant_5 : decode xS_grant.2.1 5 = .ok (.aload_n 1, 1) := by decide +kernel
theorem dS_grant_6 : decode xS_grant.2.1 6 = .ok (.getfield 111, 3) := by decide +kernel
theorem dS_grant_9 : decode xS_grant.2.1 9 = .ok (.istore_n 3, 1) := by decide +kernel
theorem dS_grant_10 : decode xS_grant.2.1 10 = .ok (.aload_n 0, 1) := by decide +kernel
theorem dS_grant_11 : decode xS_grant.2.1 11 = .ok (.iload_n 2, 1) := by decide +kernel
theorem dS_grant_12 : decode xS_grant.2.1 12 = .ok (.iload_n 3, 1) := by decide +kernel
theorem dS_grant_13 : decode xS_grant.2.1 13 = .ok (.invokevirtual 71, 3) := by decide +kernel
theorem dS_grant_16 : decode xS_grant.2.1 16 = .ok (.ifCond .ne 10, 3) := by decide +kernel
theorem dS_grant_19 : decode xS_grant.2.1 19 = .ok (.aload_n 0, 1) := by decide +kernel
theorem dS_grant_20 : decode xS_grant.2.1 20 = .ok (.getfield 42, 3) := by decide +kernel
theorem dS_grant_23 : decode xS_grant.2.1 23 = .ok (.ifCond .eq 7, 3) := by decide +kernel
theorem dS_grant_26 : decode xS_grant.2.1 26 = .ok (.iconst 1, 1) := by decide +kernel
theorem dS_grant_27 : decode xS_grant.2.1 27 = .ok (.goto 4, 3) := by decide +kernel
theorem dS_grant_30 : decode xS_grant.2.1 30 = .ok (.iconst 0, 1) := by decide +kernel
theorem dS_grant_31 : decode xS_grant.2.1 31 = .ok (.istore 4, 2) := by decide +kernel
theorem dS_grant_33 : decode xS_grant.2.1 33 = .ok (.aload_n 0, 1) := by decide +kernel
theorem dS_grant_34 : decode xS_grant.2.1 34 = .ok (.getfield 22, 3) := by decide +kernel
theorem dS_grant_37 : decode xS_grant.2.1 37 = .ok (.iload_n 2, 1) := by decide +kernel
theorem dS_grant_38 : decode xS_grant.2.1 38 = .ok (.aaload, 1) := by decide +kernel
theorem dS_grant_39 : decode xS_grant.2.1 39 = .ok (.iload_n 3, 1) := by decide +kernel
theorem dS_grant_40 : decode xS_grant.2.1 40 = .ok (.aload_n 1, 1) := by decide +kernel
theorem dS_grant_41 : decode xS_grant.2.1 41 = .ok (.getfield 145, 3) := by decide +kernel
theorem dS_grant_44 : decode xS_grant.2.1 44 = .ok (.iastore, 1) := by decide +kernel
theorem dS_grant_45 : decode xS_grant.2.1 45 = .ok (.aload_n 0, 1) := by decide +kernel
theorem dS_grant_46 : decode xS_grant.2.1 46 = .ok (.getfield 25, 3) := by decide +kernel
theorem dS_grant_49 : decode xS_grant.2.1 49 = .ok (.iload_n 2, 1) := by decide +kernel
theorem dS_grant_50 : decode xS_grant.2.1 50 = .ok (.aaload, 1) := by decide +kernel
theorem dS_grant_51 : decode xS_grant.2.1 51 = .ok (.iload_n 3, 1) := by decide +kernel
theorem dS_grant_52 : decode xS_grant.2.1 52 = .ok (.aload_n 0, 1) := by decide +kernel
theorem dS_grant_53 : decode xS_grant.2.1 53 = .ok (.getfield 38, 3) := by decide +kernel
theorem dS_grant_56 : decode xS_grant.2.1 56 = .ok (.aload_n 0, 1) := by decide +kernel
theorem dS_grant_57 : decode xS_grant.2.1 57 = .ok (.getfield 52, 3) := by decide +kernel
theorem dS_grant_60 : decode xS_grant.2.1 60 = .ok (.iadd, 1) := by decide +kernel
theorem dS_grant_61 : decode xS_grant.2.1 61 = .ok (.iastore, 1) := by decide +kernel
theorem dS_grant_62 : decode xS_grant.2.1 62 = .ok (.aload_n 0, 1) := by decide +kernel
theorem dS_grant_63 : decode xS_grant.2.1 63 = .ok (.new 16, 3) := by decide +kernel
theorem dS_grant_66 : decode xS_grant.2.1 66 = .ok (.dup, 1) := by decide +kernel
theorem dS_grant_67 : decode xS_grant.2.1 67 = .ok (.iconst 4, 1) := by decide +kernel
theorem dS_grant_68 : decode xS_grant.2.1 68 = .ok (.aload_n 1, 1) := by decide +kernel
theorem dS_grant_69 : decode xS_grant.2.1 69 = .ok (.iload 4, 2) := by decide +kernel
theorem dS_grant_71 : decode xS_grant.2.1 71 = .ok (.aload_n 0, 1) := by decide +kernel
theorem dS_grant_72 : decode xS_grant.2.1 72 = .ok (.getfield 11, 3) := by decide +kernel
theorem dS_grant_75 : decode xS_grant.2.1 75 = .ok (.iload_n 3, 1) := by decide +kernel
theorem dS_grant_76 : decode xS_grant.2.1 76 = .ok (.aaload, 1) := by decide +kernel
theorem dS_grant_77 : decode xS_grant.2.1 77 = .ok (.invokevirtual 148, 3) := by decide +kernel
theorem dS_grant_80 : decode xS_grant.2.1 80 = .ok (.checkcast 149, 3) := by decide +kernel
theorem dS_grant_83 : decode xS_grant.2.1 83 = .ok (.invokespecial 117, 3) := by decide +kernel
theorem dS_grant_86 : decode xS_grant.2.1 86 = .ok (.invokevirtual 120, 3) := by decide +kernel
theorem dS_grant_89 : decode xS_grant.2.1 89 = .ok (.return_, 1) := by decide +kernel
def xS_finish : mt_X := (⟨"LeasedPages$Server", "finish", "(LLeasedPages$Reply;)V"⟩, prog_9_method_11_code, 2, (Option.none : Option FieldType))
theorem dS_finish_0 : decode xS_finish.2.1 0 = .ok (.aload_n 0, 1) := by decide +kernel
theorem dS_finish_1 : decode xS_finish.2.1 1 = .ok (.getfield 18, 3) := by decide +kernel
theorem dS_finish_4 : decode xS_finish.2.1 4 = .ok (.aload_n 1, 1) := by decide +kernel
theorem dS_finish_5 : decode xS_finish.2.1 5 = .ok (.getfield 154, 3) := by decide +kernel
theorem dS_finish_8 : decode xS_finish.2.1 8 = .ok (.aload_n 1, 1) := by decide +kernel
theorem dS_finish_9 : decode xS_finish.2.1 9 = .ok (.aastore, 1) := by decide +kernel
theorem dS_finish_10 : decode xS_finish.2.1 10 = .ok (.aload_n 0, 1) := by decide +kernel
theorem dS_finish_11 : decode xS_finish.2.1 11 = .ok (.getfield 48, 3) := by decide +kernel
theorem dS_finish_14 : decode xS_finish.2.1 14 = .ok (.aload_n 1, 1) := by decide +kernel
theorem dS_finish_15 : decode xS_finish.2.1 15 = .ok (.invokevirtual 84, 3) := by decide +kernel
theorem dS_finish_18 : decode xS_finish.2.1 18 = .ok (.pop, 1) := by decide +kernel
theorem dS_finish_19 : decode xS_finish.2.1 19 = .ok (.return_, 1) := by decide +kernel
def xS_recallConflicting : mt_X := (⟨"LeasedPages$Server", "recallConflicting", "(LLeasedPages$Request;)V"⟩, prog_9_method_12_code, 3, (Option.none : Option FieldType))
theorem dS_recallConflicting_0 : decode xS_recallConflicting.2.1 0 = .ok (.iconst 0, 1) := by decide +kernel
theorem dS_recallConflicting_1 : decode xS_recallConflicting.2.1 1 = .ok (.istore_n 2, 1) := by decide +kernel
theorem dS_recallConflicting_2 : decode xS_recallConflicting.2.1 2 = .ok (.iload_n 2, 1) := by decide +kernel
theorem dS_recallConflicting_3 : decode xS_recallConflicting.2.1 3 = .ok (.iconst 3, 1) := by decide +kernel
theorem dS_recallConflicting_4 : decode xS_recallConflicting.2.1 4 = .ok (.if_icmp .ge 41, 3) := by decide +kernel
theorem dS_recallConflicting_7 : decode xS_recallConflicting.2.1 7 = .ok (.aload_n 0, 1) := by decide +kernel
theorem dS_recallConflicting_8 : decode xS_recallConflicting.2.1 8 = .ok (.aload_n 1, 1) := by decide +kernel
theorem dS_recallConflicting_9 : decode xS_recallConflicting.2.1 9 = .ok (.iload_n 2, 1) := by decide +kernel
theorem dS_recallConflicting_10 : decode xS_recallConflicting.2.1 10 = .ok (.invokevirtual 155, 3) := by decide +kernel
theorem dS_recallConflicting_13 : decode xS_recallConflicting.2.1 13 = .ok (.ifCond .eq 26, 3) := by decide +kernel
theorem dS_recallConflicting_16 : decode xS_recallConflicting.2.1 16 = .ok (.aload_n 0, 1) := by decide +kernel
theorem dS_recallConflicting_17 : decode xS_recallConflicting.2.1 17 = .ok (.getfield 48, 3) := by decide +kernel
theorem dS_recallConflicting_20 : decode xS_recallConflicting.2.1 20 = .ok (.new 159, 3) := by decide +kernel
theorem dS_recallConflicting_23 : decode xS_recallConflicting.2.1 23 = .ok (.dup, 1) := by decide +kernel
theorem dS_recallConflicting_24 : decode xS_recallConflicting.2.1 24 = .ok (.bipush 8, 2) := by decide +kernel
theorem dS_recallConflicting_26 : decode xS_recallConflicting.2.1 26 = .ok (.iload_n 2, 1) := by decide +kernel
theorem dS_recallConflicting_27 : decode xS_recallConflicting.2.1 27 = .ok (.aload_n 1, 1) := by decide +kernel
theorem dS_recallConflicting_28 : decode xS_recallConflicting.2.1 28 = .ok (.getfield 111, 3) := by decide +kernel
theorem dS_recallConflicting_31 : decode xS_recallConflicting.2.1 31 = .ok (.iconst 0, 1) := by decide +kernel
theorem dS_recallConflicting_32 : decode xS_recallConflicting.2.1 32 = .ok (.invokespecial 161, 3) := by decide +kernel
theorem dS_recallConflicting_35 : decode xS_recallConflicting.2.1 35 = .ok (.invokevirtual 84, 3) := by decide +kernel
theorem dS_recallConflicting_38 : decode xS_recallConflicting.2.1 38 = .ok (.pop, 1) := by decide +kernel
theorem dS_recallConflicting_39 : decode xS_recallConflicting.2.1 39 = .ok (.iinc 2 1, 3) := by decide +kernel
theorem dS_recallConflicting_42 : decode xS_recallConflicting.2.1 42 = .ok (.goto (-40), 3) := by decide +kernel
theorem dS_recallConflicting_45 : decode xS_recallConflicting.2.1 45 = .ok (.return_, 1) := by decide +kernel
def xS_goThroughLines : mt_X := (⟨"LeasedPages$Server", "goThroughLines", "()V"⟩, prog_9_method_13_code, 4, (Option.none : Option FieldType))
theorem dS_goThroughLines_0 : decode xS_goThroughLines.2.1 0 = .ok (.aload_n 0, 1) := by decide +kernel
theorem dS_goThroughLines_1 : decode xS_goThroughLines.2.1 1 = .ok (.getfield 42, 3) := by decide +kernel
theorem dS_goThroughLines_4 : decode xS_goThroughLines.2.1 4 = .ok (.ifCond .eq 4, 3) := by decide +kernel
theorem dS_goThroughLines_7 : decode xS_goThroughLines.2.1 7 = .ok (.return_, 1) := by decide +kernel
theorem dS_goThroughLines_8 : decode xS_goThroughLines.2.1 8 = .ok (.iconst 0, 1) := by decide +kernel
theorem dS_goThroughLines_9 : decode xS_goThroughLines.2.1 9 = .ok (.istore_n 1, 1) := by decide +kernel
theorem dS_goThroughLines_10 : decode xS_goThroughLines.2.1 10 = .ok (.iload_n 1, 1) := by decide +kernel
theorem dS_goThroughLines_11 : decode xS_goThroughLines.2.1 11 = .ok (.iconst 4, 1) := by decide +kernel
theorem dS_goThroughLines_12 : decode xS_goThroughLines.2.1 12 = .ok (.if_icmp .ge 65, 3) := by decide +kernel
theorem dS_goThroughLines_15 : decode xS_goThroughLines.2.1 15 = .ok (.iconst 0, 1) := by decide +kernel
theorem dS_goThroughLines_16 : decode xS_goThroughLines.2.1 16 = .ok (.istore_n 2, 1) := by decide +kernel
theorem dS_goThroughLines_17 : decode xS_goThroughLines.2.1 17 = .ok (.iload_n 2, 1) := by decide +kernel
theorem dS_goThroughLines_18 : decode xS_goThroughLines.2.1 18 = .ok (.iconst 3, 1) := by decide +kernel
theorem dS_goThroughLines_19 : decode xS_goThroughLines.2.1 19 = .ok (.if_icmp .ge 52, 3) := by decide +kernel
theorem dS_goThroughLines_22 : decode xS_goThroughLines.2.1 22 = .ok (.aload_n 0, 1) := by decide +kernel
theorem dS_goThroughLines_23 : decode xS_goThroughLines.2.1 23 = .ok (.getfield 30, 3) := by decide +kernel
theorem dS_goThroughLines_26 : decode xS_goThroughLines.2.1 26 = .ok (.iload_n 1, 1) := by decide +kernel
theorem dS_goThroughLines_27 : decode xS_goThroughLines.2.1 27 = .ok (.aaload, 1) := by decide +kernel
theorem dS_goThroughLines_28 : decode xS_goThroughLines.2.1 28 = .ok (.invokevirtual 164, 3) := by decide +kernel
theorem dS_goThroughLines_31 : decode xS_goThroughLines.2.1 31 = .ok (.astore_n 3, 1) := by decide +kernel
theorem dS_goThroughLines_32 : decode xS_goThroughLines.2.1 32 = .ok (.aload_n 3, 1) := by decide +kernel
theorem dS_goThroughLines_33 : decode xS_goThroughLines.2.1 33 = .ok (.ifnull 38, 3) := by decide +kernel
theorem dS_goThroughLines_36 : decode xS_goThroughLines.2.1 36 = .ok (.aload_n 0, 1) := by decide +kernel
theorem dS_goThroughLines_37 : decode xS_goThroughLines.2.1 37 = .ok (.aload_n 3, 1) := by decide +kernel
theorem dS_goThroughLines_38 : decode xS_goThroughLines.2.1 38 = .ok (.invokevirtual 127, 3) := by decide +kernel
theorem dS_goThroughLines_41 : decode xS_goThroughLines.2.1 41 = .ok (.ifCond .eq 6, 3) := by decide +kernel
theorem dS_goThroughLines_44 : decode xS_goThroughLines.2.1 44 = .ok (.goto 27, 3) := by decide +kernel
theorem dS_goThroughLines_47 : decode xS_goThroughLines.2.1 47 = .ok (.aload_n 0, 1) := by decide +kernel
theorem dS_goThroughLines_48 : decode xS_goThroughLines.2.1 48 = .ok (.getfield 30, 3) := by decide +kernel
theorem dS_goThroughLines_51 : decode xS_goThroughLines.2.1 51 = .ok (.iload_n 1, 1) := by decide +kernel
theorem dS_goThroughLines_52 : decode xS_goThroughLines.2.1 52 = .ok (.aaload, 1) := by decide +kernel
theorem dS_goThroughLines_53 : decode xS_goThroughLines.2.1 53 = .ok (.aload_n 3, 1) := by decide +kernel
theorem dS_goThroughLines_54 : decode xS_goThroughLines.2.1 54 = .ok (.getfield 75, 3) := by decide +kernel
theorem dS_goThroughLines_57 : decode xS_goThroughLines.2.1 57 = .ok (.invokevirtual 168, 3) := by decide +kernel
theorem dS_goThroughLines_60 : decode xS_goThroughLines.2.1 60 = .ok (.aload_n 0, 1) := by decide +kernel
theorem dS_goThroughLines_61 : decode xS_goThroughLines.2.1 61 = .ok (.aload_n 3, 1) := by decide +kernel
theorem dS_goThroughLines_62 : decode xS_goThroughLines.2.1 62 = .ok (.invokevirtual 130, 3) := by decide +kernel
theorem dS_goThroughLines_65 : decode xS_goThroughLines.2.1 65 = .ok (.iinc 2 1, 3) := by decide +kernel
theorem dS_goThroughLines_68 : decode xS_goThroughLines.2.1 68 = .ok (.goto (-51), 3) := by decide +kernel
theorem dS_goThroughLines_71 : decode xS_goThroughLines.2.1 71 = .ok (.iinc 1 1, 3) := by decide +kernel
theorem dS_goThroughLines_74 : decode xS_goThroughLines.2.1 74 = .ok (.goto (-64), 3) := by decide +kernel
theorem dS_goThroughLines_77 : decode xS_goThroughLines.2.1 77 = .ok (.return_, 1) := by decide +kernel
def xS_endLeases : mt_X := (⟨"LeasedPages$Server", "endLeases", "()V"⟩, prog_9_method_14_code, 3, (Option.none : Option FieldType))
theorem dS_endLeases_0 : decode xS_endLeases.2.1 0 = .ok (.iconst 0, 1) := by decide +kernel
theorem dS_endLeases_1 : decode xS_endLeases.2.1 1 = .ok (.istore_n 1, 1) := by decide +kernel
theorem dS_endLeases_2 : decode xS_endLeases.2.1 2 = .ok (.iload_n 1, 1) := by decide +kernel
theorem dS_endLeases_3 : decode xS_endLeases.2.1 3 = .ok (.iconst 3, 1) := by decide +kernel
theorem dS_endLeases_4 : decode xS_endLeases.2.1 4 = .ok (.if_icmp .ge 46, 3) := by decide +kernel
theorem dS_endLeases_7 : decode xS_endLeases.2.1 7 = .ok (.iconst 0, 1) := by decide +kernel
theorem dS_endLeases_8 : decode xS_endLeases.2.1 8 = .ok (.istore_n 2, 1) := by decide +kernel
theorem dS_endLeases_9 : decode xS_endLeases.2.1 9 = .ok (.iload_n 2, 1) := by decide +kernel
theorem dS_endLeases_10 : decode xS_endLeases.2.1 10 = .ok (.iconst 4, 1) := by decide +kernel
theorem dS_endLeases_11 : decode xS_endLeases.2.1 11 = .ok (.if_icmp .ge 33, 3) := by decide +kernel
theorem dS_endLeases_14 : decode xS_endLeases.2.1 14 = .ok (.aload_n 0, 1) := by decide +kernel
theorem dS_endLeases_15 : decode xS_endLeases.2.1 15 = .ok (.getfield 25, 3) := by decide +kernel
theorem dS_endLeases_18 : decode xS_endLeases.2.1 18 = .ok (.iload_n 1, 1) := by decide +kernel
theorem dS_endLeases_19 : decode xS_endLeases.2.1 19 = .ok (.aaload, 1) := by decide +kernel
theorem dS_endLeases_20 : decode xS_endLeases.2.1 20 = .ok (.iload_n 2, 1) := by decide +kernel
theorem dS_endLeases_21 : decode xS_endLeases.2.1 21 = .ok (.iaload, 1) := by decide +kernel
theorem dS_endLeases_22 : decode xS_endLeases.2.1 22 = .ok (.aload_n 0, 1) := by decide +kernel
theorem dS_endLeases_23 : decode xS_endLeases.2.1 23 = .ok (.getfield 38, 3) := by decide +kernel
theorem dS_endLeases_26 : decode xS_endLeases.2.1 26 = .ok (.if_icmp .gt 12, 3) := by decide +kernel
theorem dS_endLeases_29 : decode xS_endLeases.2.1 29 = .ok (.aload_n 0, 1) := by decide +kernel
theorem dS_endLeases_30 : decode xS_endLeases.2.1 30 = .ok (.getfield 22, 3) := by decide +kernel
theorem dS_endLeases_33 : decode xS_endLeases.2.1 33 = .ok (.iload_n 1, 1) := by decide +kernel
theorem dS_endLeases_34 : decode xS_endLeases.2.1 34 = .ok (.aaload, 1) := by decide +kernel
theorem dS_endLeases_35 : decode xS_endLeases.2.1 35 = .ok (.iload_n 2, 1) := by decide +kernel
theorem dS_endLeases_36 : decode xS_endLeases.2.1 36 = .ok (.iconst 0, 1) := by decide +kernel
theorem dS_endLeases_37 : decode xS_endLeases.2.1 37 = .ok (.iastore, 1) := by decide +kernel
theorem dS_endLeases_38 : decode xS_endLeases.2.1 38 = .ok (.iinc 2 1, 3) := by decide +kernel
theorem dS_endLeases_41 : decode xS_endLeases.2.1 41 = .ok (.goto (-32), 3) := by decide +kernel
theorem dS_endLeases_44 : decode xS_endLeases.2.1 44 = .ok (.iinc 1 1, 3) := by decide +kernel
theorem dS_endLeases_47 : decode xS_endLeases.2.1 47 = .ok (.goto (-45), 3) := by decide +kernel
theorem dS_endLeases_50 : decode xS_endLeases.2.1 50 = .ok (.return_, 1) := by decide +kernel
def xS_hasLease : mt_X := (⟨"LeasedPages$Server", "hasLease", "(II)Z"⟩, prog_9_method_15_code, 3, (Option.some FieldType.boolean))
theorem dS_hasLease_0 : decode xS_hasLease.2.1 0 = .ok (.aload_n 0, 1) := by decide +kernel
theorem dS_hasLease_1 : decode xS_hasLease.2.1 1 = .ok (.getfield 22, 3) := by decide +kernel
theorem dS_hasLease_4 : decode xS_hasLease.2.1 4 = .ok (.iload_n 1, 1) := by decide +kernel
theorem dS_hasLease_5 : decode xS_hasLease.2.1 5 = .ok (.aaload, 1) := by decide +kernel
theorem dS_hasLease_6 : decode xS_hasLease.2.1 6 = .ok (.iload_n 2, 1) := by decide +kernel
theorem dS_hasLease_7 : decode xS_hasLease.2.1 7 = .ok (.iaload, 1) := by decide +kernel
theorem dS_hasLease_8 : decode xS_hasLease.2.1 8 = .ok (.ifCond .eq 7, 3) := by decide +kernel
theorem dS_hasLease_11 : decode xS_hasLease.2.1 11 = .ok (.iconst 1, 1) := by decide +kernel
theorem dS_hasLease_12 : decode xS_hasLease.2.1 12 = .ok (.goto 4, 3) := by decide +kernel
theorem dS_hasLease_15 : decode xS_hasLease.2.1 15 = .ok (.iconst 0, 1) := by decide +kernel
theorem dS_hasLease_16 : decode xS_hasLease.2.1 16 = .ok (.ireturn, 1) := by decide +kernel
def xS_conflicts : mt_X := (⟨"LeasedPages$Server", "conflicts", "(LLeasedPages$Request;I)Z"⟩, prog_9_method_16_code, 3, (Option.some FieldType.boolean))
theorem dS_conflicts_0 : decode xS_conflicts.2.1 0 = .ok (.iload_n 2, 1) := by decide +kernel
theorem dS_conflicts_1 : decode xS_conflicts.2.1 1 = .ok (.aload_n 1, 1) := by decide +kernel
theorem dS_conflicts_2 : decode xS_conflicts.2.1 2 = .ok (.getfield 75, 3) := by decide +kernel
theorem dS_conflicts_5 : decode xS_conflicts.2.1 5 = .ok (.if_icmp .eq 42, 3) := by decide +kernel
theorem dS_conflicts_8 : decode xS_conflicts.2.1 8 = .ok (.aload_n 0, 1) := by decide +kernel
theorem dS_conflicts_9 : decode xS_conflicts.2.1 9 = .ok (.iload_n 2, 1) := by decide +kernel
theorem dS_conflicts_10 : decode xS_conflicts.2.1 10 = .ok (.aload_n 1, 1) := by decide +kernel
theorem dS_conflicts_11 : decode xS_conflicts.2.1 11 = .ok (.getfield 111, 3) := by decide +kernel
theorem dS_conflicts_14 : decode xS_conflicts.2.1 14 = .ok (.invokevirtual 71, 3) := by decide +kernel
theorem dS_conflicts_17 : decode xS_conflicts.2.1 17 = .ok (.ifCond .eq 30, 3) := by decide +kernel
theorem dS_conflicts_20 : decode xS_conflicts.2.1 20 = .ok (.aload_n 1, 1) := by decide +kernel
theorem dS_conflicts_21 : decode xS_conflicts.2.1 21 = .ok (.getfield 145, 3) := by decide +kernel
theorem dS_conflicts_24 : decode xS_conflicts.2.1 24 = .ok (.iconst 2, 1) := by decide +kernel
theorem dS_conflicts_25 : decode xS_conflicts.2.1 25 = .ok (.if_icmp .eq 18, 3) := by decide +kernel
theorem dS_conflicts_28 : decode xS_conflicts.2.1 28 = .ok (.aload_n 0, 1) := by decide +kernel
theorem dS_conflicts_29 : decode xS_conflicts.2.1 29 = .ok (.getfield 22, 3) := by decide +kernel
theorem dS_conflicts_32 : decode xS_conflicts.2.1 32 = .ok (.iload_n 2, 1) := by decide +kernel
theorem dS_conflicts_33 : decode xS_conflicts.2.1 33 = .ok (.aaload, 1) := by decide +kernel
theorem dS_conflicts_34 : decode xS_conflicts.2.1 34 = .ok (.aload_n 1, 1) := by decide +kernel
theorem dS_conflicts_35 : decode xS_conflicts.2.1 35 = .ok (.getfield 111, 3) := by decide +kernel
theorem dS_conflicts_38 : decode xS_conflicts.2.1 38 = .ok (.iaload, 1) := by decide +kernel
theorem dS_conflicts_39 : decode xS_conflicts.2.1 39 = .ok (.iconst 2, 1) := by decide +kernel
theorem dS_conflicts_40 : decode xS_conflicts.2.1 40 = .ok (.if_icmp .ne 7, 3) := by decide +kernel
theorem dS_conflicts_43 : decode xS_conflicts.2.1 43 = .ok (.iconst 1, 1) := by decide +kernel
theorem dS_conflicts_44 : decode xS_conflicts.2.1 44 = .ok (.goto 4, 3) := by decide +kernel
theorem dS_conflicts_47 : decode xS_conflicts.2.1 47 = .ok (.iconst 0, 1) := by decide +kernel
theorem dS_conflicts_48 : decode xS_conflicts.2.1 48 = .ok (.ireturn, 1) := by decide +kernel
def xS_conflictsWithAny : mt_X := (⟨"LeasedPages$Server", "conflictsWithAny", "(LLeasedPages$Request;)Z"⟩, prog_9_method_17_code, 3, (Option.some FieldType.boolean))
theorem dS_conflictsWithAny_0 : decode xS_conflictsWithAny.2.1 0 = .ok (.iconst 0, 1) := by decide +kernel
theorem dS_conflictsWithAny_1 : decode xS_conflictsWithAny.2.1 1 = .ok (.istore_n 2, 1) := by decide +kernel
theorem dS_conflictsWithAny_2 : decode xS_conflictsWithAny.2.1 2 = .ok (.iload_n 2, 1) := by decide +kernel
theorem dS_conflictsWithAny_3 : decode xS_conflictsWithAny.2.1 3 = .ok (.iconst 3, 1) := by decide +kernel
theorem dS_conflictsWithAny_4 : decode xS_conflictsWithAny.2.1 4 = .ok (.if_icmp .ge 20, 3) := by decide +kernel
theorem dS_conflictsWithAny_7 : decode xS_conflictsWithAny.2.1 7 = .ok (.aload_n 0, 1) := by decide +kernel
theorem dS_conflictsWithAny_8 : decode xS_conflictsWithAny.2.1 8 = .ok (.aload_n 1, 1) := by decide +kernel
theorem dS_conflictsWithAny_9 : decode xS_conflictsWithAny.2.1 9 = .ok (.iload_n 2, 1) := by decide +kernel
theorem dS_conflictsWithAny_10 : decode xS_conflictsWithAny.2.1 10 = .ok (.invokevirtual 155, 3) := by decide +kernel
theorem dS_conflictsWithAny_13 : decode xS_conflictsWithAny.2.1 13 = .ok (.ifCond .eq 5, 3) := by decide +kernel
theorem dS_conflictsWithAny_16 : decode xS_conflictsWithAny.2.1 16 = .ok (.iconst 1, 1) := by decide +kernel
theorem dS_conflictsWithAny_17 : decode xS_conflictsWithAny.2.1 17 = .ok (.ireturn, 1) := by decide +kernel
theorem dS_conflictsWithAny_18 : decode xS_conflictsWithAny.2.1 18 = .ok (.iinc 2 1, 3) := by decide +kernel
theorem dS_conflictsWithAny_21 : decode xS_conflictsWithAny.2.1 21 = .ok (.goto (-19), 3) := by decide +kernel
theorem dS_conflictsWithAny_24 : decode xS_conflictsWithAny.2.1 24 = .ok (.iconst 0, 1) := by decide +kernel
theorem dS_conflictsWithAny_25 : decode xS_conflictsWithAny.2.1 25 = .ok (.ireturn, 1) := by decide +kernel
def xS_waitsAlready : mt_X := (⟨"LeasedPages$Server", "waitsAlready", "(LLeasedPages$Request;)Z"⟩, prog_9_method_18_code, 3, (Option.some FieldType.boolean))
theorem dS_waitsAlready_0 : decode xS_waitsAlready.2.1 0 = .ok (.aload_n 0, 1) := by decide +kernel
theorem dS_waitsAlready_1 : decode xS_waitsAlready.2.1 1 = .ok (.getfield 30, 3) := by decide +kernel
theorem dS_waitsAlready_4 : decode xS_waitsAlready.2.1 4 = .ok (.aload_n 1, 1) := by decide +kernel
theorem dS_waitsAlready_5 : decode xS_waitsAlready.2.1 5 = .ok (.getfield 111, 3) := by decide +kernel
theorem dS_waitsAlready_8 : decode xS_waitsAlready.2.1 8 = .ok (.aaload, 1) := by decide +kernel
theorem dS_waitsAlready_9 : decode xS_waitsAlready.2.1 9 = .ok (.aload_n 1, 1) := by decide +kernel
theorem dS_waitsAlready_10 : decode xS_waitsAlready.2.1 10 = .ok (.getfield 75, 3) := by decide +kernel
theorem dS_waitsAlready_13 : decode xS_waitsAlready.2.1 13 = .ok (.invokevirtual 171, 3) := by decide +kernel
theorem dS_waitsAlready_16 : decode xS_waitsAlready.2.1 16 = .ok (.astore_n 2, 1) := by decide +kernel
theorem dS_waitsAlready_17 : decode xS_waitsAlready.2.1 17 = .ok (.aload_n 2, 1) := by decide +kernel
theorem dS_waitsAlready_18 : decode xS_waitsAlready.2.1 18 = .ok (.ifnull 18, 3) := by decide +kernel
theorem dS_waitsAlready_21 : decode xS_waitsAlready.2.1 21 = .ok (.aload_n 2, 1) := by decide +kernel
theorem dS_waitsAlready_22 : decode xS_waitsAlready.2.1 22 = .ok (.getfield 80, 3) := by decide +kernel
theorem dS_waitsAlready_25 : decode xS_waitsAlready.2.1 25 = .ok (.aload_n 1, 1) := by decide +kernel
theorem dS_waitsAlready_26 : decode xS_waitsAlready.2.1 26 = .ok (.getfield 80, 3) := by decide +kernel
theorem dS_waitsAlready_29 : decode xS_waitsAlready.2.1 29 = .ok (.if_icmp .ne 7, 3) := by decide +kernel
theorem dS_waitsAlready_32 : decode xS_waitsAlready.2.1 32 = .ok (.iconst 1, 1) := by decide +kernel
theorem dS_waitsAlready_33 : decode xS_waitsAlready.2.1 33 = .ok (.goto 4, 3) := by decide +kernel
theorem dS_waitsAlready_36 : decode xS_waitsAlready.2.1 36 = .ok (.iconst 0, 1) := by decide +kernel
theorem dS_waitsAlready_37 : decode xS_waitsAlready.2.1 37 = .ok (.ireturn, 1) := by decide +kernel
def xS_takeOutOfLines : mt_X := (⟨"LeasedPages$Server", "takeOutOfLines", "(I)V"⟩, prog_9_method_19_code, 3, (Option.none : Option FieldType))
theorem dS_takeOutOfLines_0 : decode xS_takeOutOfLines.2.1 0 = .ok (.iconst 0, 1) := by decide +kernel
theorem dS_takeOutOfLines_1 : decode xS_takeOutOfLines.2.1 1 = .ok (.istore_n 2, 1) := by decide +kernel
theorem dS_takeOutOfLines_2 : decode xS_takeOutOfLines.2.1 2 = .ok (.iload_n 2, 1) := by decide +kernel
theorem dS_takeOutOfLines_3 : decode xS_takeOutOfLines.2.1 3 = .ok (.iconst 4, 1) := by decide +kernel
theorem dS_takeOutOfLines_4 : decode xS_takeOutOfLines.2.1 4 = .ok (.if_icmp .ge 19, 3) := by decide +kernel
theorem dS_takeOutOfLines_7 : decode xS_takeOutOfLines.2.1 7 = .ok (.aload_n 0, 1) := by decide +kernel
theorem dS_takeOutOfLines_8 : decode xS_takeOutOfLines.2.1 8 = .ok (.getfield 30, 3) := by decide +kernel
theorem dS_takeOutOfLines_11 : decode xS_takeOutOfLines.2.1 11 = .ok (.iload_n 2, 1) := by decide +kernel
theorem dS_takeOutOfLines_12 : decode xS_takeOutOfLines.2.1 12 = .ok (.aaload, 1) := by decide +kernel
theorem dS_takeOutOfLines_13 : decode xS_takeOutOfLines.2.1 13 = .ok (.iload_n 1, 1) := by decide +kernel
theorem dS_takeOutOfLines_14 : decode xS_takeOutOfLines.2.1 14 = .ok (.invokevirtual 168, 3) := by decide +kernel
theorem dS_takeOutOfLines_17 : decode xS_takeOutOfLines.2.1 17 = .ok (.iinc 2 1, 3) := by decide +kernel
theorem dS_takeOutOfLines_20 : decode xS_takeOutOfLines.2.1 20 = .ok (.goto (-18), 3) := by decide +kernel
theorem dS_takeOutOfLines_23 : decode xS_takeOutOfLines.2.1 23 = .ok (.return_, 1) := by decide +kernel
