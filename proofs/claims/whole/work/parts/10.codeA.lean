/-! Method constants and decode rows, written by wip/whole/gen/code.py out of the listing. -/
def xL_init : mt_X := (⟨"LeasedPages", "<init>", "(I)V"⟩, prog_1_method_1_code, 4, (Option.none : Option FieldType))
theorem dL_init_0 : decode xL_init.2.1 0 = .ok (.aload_n 0, 1) := by decide +kernel
theorem dL_init_1 : decode xL_init.2.1 1 = .ok (.invokespecial 1, 3) := by decide +kernel
theorem dL_init_4 : decode xL_init.2.1 4 = .ok (.bipush 8, 2) := by decide +kernel
theorem dL_init_6 : decode xL_init.2.1 6 = .ok (.sipush 200, 3) := by decide +kernel
theorem dL_init_9 : decode xL_init.2.1 9 = .ok (.iload_n 1, 1) := by decide +kernel
theorem dL_init_10 : decode xL_init.2.1 10 = .ok (.invokestatic 9, 3) := by decide +kernel
theorem dL_init_13 : decode xL_init.2.1 13 = .ok (.invokestatic 15, 3) := by decide +kernel
theorem dL_init_16 : decode xL_init.2.1 16 = .ok (.istore_n 2, 1) := by decide +kernel
theorem dL_init_17 : decode xL_init.2.1 17 = .ok (.aload_n 0, 1) := by decide +kernel
theorem dL_init_18 : decode xL_init.2.1 18 = .ok (.new 18, 3) := by decide +kernel
theorem dL_init_21 : decode xL_init.2.1 21 = .ok (.dup, 1) := by decide +kernel
theorem dL_init_22 : decode xL_init.2.1 22 = .ok (.invokespecial 20, 3) := by decide +kernel
theorem dL_init_25 : decode xL_init.2.1 25 = .ok (.putfield 21, 3) := by decide +kernel
theorem dL_init_28 : decode xL_init.2.1 28 = .ok (.aload_n 0, 1) := by decide +kernel
theorem dL_init_29 : decode xL_init.2.1 29 = .ok (.new 25, 3) := by decide +kernel
theorem dL_init_32 : decode xL_init.2.1 32 = .ok (.dup, 1) := by decide +kernel
theorem dL_init_33 : decode xL_init.2.1 33 = .ok (.aload_n 0, 1) := by decide +kernel
theorem dL_init_34 : decode xL_init.2.1 34 = .ok (.getfield 21, 3) := by decide +kernel
theorem dL_init_37 : decode xL_init.2.1 37 = .ok (.iload_n 2, 1) := by decide +kernel
theorem dL_init_38 : decode xL_init.2.1 38 = .ok (.invokespecial 27, 3) := by decide +kernel
theorem dL_init_41 : decode xL_init.2.1 41 = .ok (.putfield 30, 3) := by decide +kernel
theorem dL_init_44 : decode xL_init.2.1 44 = .ok (.aload_n 0, 1) := by decide +kernel
theorem dL_init_45 : decode xL_init.2.1 45 = .ok (.iconst 3, 1) := by decide +kernel
theorem dL_init_46 : decode xL_init.2.1 46 = .ok (.anewarray 34, 3) := by decide +kernel
theorem dL_init_49 : decode xL_init.2.1 49 = .ok (.putfield 36, 3) := by decide +kernel
theorem dL_init_52 : decode xL_init.2.1 52 = .ok (.iconst 0, 1) := by decide +kernel
theorem dL_init_53 : decode xL_init.2.1 53 = .ok (.istore_n 3, 1) := by decide +kernel
theorem dL_init_54 : decode xL_init.2.1 54 = .ok (.iload_n 3, 1) := by decide +kernel
theorem dL_init_55 : decode xL_init.2.1 55 = .ok (.iconst 3, 1) := by decide +kernel
theorem dL_init_56 : decode xL_init.2.1 56 = .ok (.if_icmp .ge 32, 3) := by decide +kernel
theorem dL_init_59 : decode xL_init.2.1 59 = .ok (.aload_n 0, 1) := by decide +kernel
theorem dL_init_60 : decode xL_init.2.1 60 = .ok (.getfield 36, 3) := by decide +kernel
theorem dL_init_63 : decode xL_init.2.1 63 = .ok (.iload_n 3, 1) := by decide +kernel
theorem dL_init_64 : decode xL_init.2.1 64 = .ok (.new 34, 3) := by decide +kernel
theorem dL_init_67 : decode xL_init.2.1 67 = .ok (.dup, 1) := by decide +kernel
theorem dL_init_68 : decode xL_init.2.1 68 = .ok (.iload_n 3, 1) := by decide +kernel
theorem dL_init_69 : decode xL_init.2.1 69 = .ok (.iload_n 2, 1) := by decide +kernel
theorem dL_init_70 : decode xL_init.2.1 70 = .ok (.iconst 2, 1) := by decide +kernel
theorem dL_init_71 : decode xL_init.2.1 71 = .ok (.idiv, 1) := by decide +kernel
theorem dL_init_72 : decode xL_init.2.1 72 = .ok (.iconst 2, 1) := by decide +kernel
theorem dL_init_73 : decode xL_init.2.1 73 = .ok (.isub, 1) := by decide +kernel
theorem dL_init_74 : decode xL_init.2.1 74 = .ok (.aload_n 0, 1) := by decide +kernel
theorem dL_init_75 : decode xL_init.2.1 75 = .ok (.getfield 21, 3) := by decide +kernel
theorem dL_init_78 : decode xL_init.2.1 78 = .ok (.invokespecial 40, 3) := by decide +kernel
theorem dL_init_81 : decode xL_init.2.1 81 = .ok (.aastore, 1) := by decide +kernel
theorem dL_init_82 : decode xL_init.2.1 82 = .ok (.iinc 3 1, 3) := by decide +kernel
theorem dL_init_85 : decode xL_init.2.1 85 = .ok (.goto (-31), 3) := by decide +kernel
theorem dL_init_88 : decode xL_init.2.1 88 = .ok (.return_, 1) := by decide +kernel
def xL_acquire : mt_X := (⟨"LeasedPages", "acquire", "(III)I"⟩, prog_1_method_2_code, 5, (Option.some FieldType.int))
theorem dL_acquire_0 : decode xL_acquire.2.1 0 = .ok (.aload_n 0, 1) := by decide +kernel
theorem dL_acquire_1 : decode xL_acquire.2.1 1 = .ok (.iload_n 1, 1) := by decide +kernel
theorem dL_acquire_2 : decode xL_acquire.2.1 2 = .ok (.invokevirtual 43, 3) := by decide +kernel
theorem dL_acquire_5 : decode xL_acquire.2.1 5 = .ok (.astore 4, 2) := by decide +kernel
theorem dL_acquire_7 : decode xL_acquire.2.1 7 = .ok (.aload 4, 2) := by decide +kernel
theorem dL_acquire_9 : decode xL_acquire.2.1 9 = .ok (.ifnull 28, 3) := by decide +kernel
theorem dL_acquire_12 : decode xL_acquire.2.1 12 = .ok (.iload_n 2, 1) := by decide +kernel
theorem dL_acquire_13 : decode xL_acquire.2.1 13 = .ok (.invokestatic 47, 3) := by decide +kernel
theorem dL_acquire_16 : decode xL_acquire.2.1 16 = .ok (.ifCond .eq 21, 3) := by decide +kernel
theorem dL_acquire_19 : decode xL_acquire.2.1 19 = .ok (.iload_n 3, 1) := by decide +kernel
theorem dL_acquire_20 : decode xL_acquire.2.1 20 = .ok (.iconst 1, 1) := by decide +kernel
theorem dL_acquire_21 : decode xL_acquire.2.1 21 = .ok (.if_icmp .lt 16, 3) := by decide +kernel
theorem dL_acquire_24 : decode xL_acquire.2.1 24 = .ok (.iload_n 3, 1) := by decide +kernel
theorem dL_acquire_25 : decode xL_acquire.2.1 25 = .ok (.iconst 2, 1) := by decide +kernel
theorem dL_acquire_26 : decode xL_acquire.2.1 26 = .ok (.if_icmp .gt 11, 3) := by decide +kernel
theorem dL_acquire_29 : decode xL_acquire.2.1 29 = .ok (.aload 4, 2) := by decide +kernel
theorem dL_acquire_31 : decode xL_acquire.2.1 31 = .ok (.getfield 51, 3) := by decide +kernel
theorem dL_acquire_34 : decode xL_acquire.2.1 34 = .ok (.ifnull 5, 3) := by decide +kernel
theorem dL_acquire_37 : decode xL_acquire.2.1 37 = .ok (.iconst (-1), 1) := by decide +kernel
theorem dL_acquire_38 : decode xL_acquire.2.1 38 = .ok (.ireturn, 1) := by decide +kernel
theorem dL_acquire_39 : decode xL_acquire.2.1 39 = .ok (.aload 4, 2) := by decide +kernel
theorem dL_acquire_41 : decode xL_acquire.2.1 41 = .ok (.iload_n 2, 1) := by decide +kernel
theorem dL_acquire_42 : decode xL_acquire.2.1 42 = .ok (.iload_n 3, 1) := by decide +kernel
theorem dL_acquire_43 : decode xL_acquire.2.1 43 = .ok (.invokevirtual 55, 3) := by decide +kernel
theorem dL_acquire_46 : decode xL_acquire.2.1 46 = .ok (.ireturn, 1) := by decide +kernel
def xL_read : mt_X := (⟨"LeasedPages", "read", "(IIII)I"⟩, prog_1_method_3_code, 6, (Option.some FieldType.int))
theorem dL_read_0 : decode xL_read.2.1 0 = .ok (.aload_n 0, 1) := by decide +kernel
theorem dL_read_1 : decode xL_read.2.1 1 = .ok (.iload_n 1, 1) := by decide +kernel
theorem dL_read_2 : decode xL_read.2.1 2 = .ok (.invokevirtual 43, 3) := by decide +kernel
theorem dL_read_5 : decode xL_read.2.1 5 = .ok (.astore 5, 2) := by decide +kernel
theorem dL_read_7 : decode xL_read.2.1 7 = .ok (.aload 5, 2) := by decide +kernel
theorem dL_read_9 : decode xL_read.2.1 9 = .ok (.ifnull 28, 3) := by decide +kernel
theorem dL_read_12 : decode xL_read.2.1 12 = .ok (.iload_n 2, 1) := by decide +kernel
theorem dL_read_13 : decode xL_read.2.1 13 = .ok (.invokestatic 47, 3) := by decide +kernel
theorem dL_read_16 : decode xL_read.2.1 16 = .ok (.ifCond .eq 21, 3) := by decide +kernel
theorem dL_read_19 : decode xL_read.2.1 19 = .ok (.iload_n 3, 1) := by decide +kernel
theorem dL_read_20 : decode xL_read.2.1 20 = .ok (.invokestatic 58, 3) := by decide +kernel
theorem dL_read_23 : decode xL_read.2.1 23 = .ok (.ifCond .eq 14, 3) := by decide +kernel
theorem dL_read_26 : decode xL_read.2.1 26 = .ok (.iload 4, 2) := by decide +kernel
theorem dL_read_28 : decode xL_read.2.1 28 = .ok (.ifCond .lt 9, 3) := by decide +kernel
theorem dL_read_31 : decode xL_read.2.1 31 = .ok (.iload 4, 2) := by decide +kernel
theorem dL_read_33 : decode xL_read.2.1 33 = .ok (.iconst 1, 1) := by decide +kernel
theorem dL_read_34 : decode xL_read.2.1 34 = .ok (.if_icmp .le 5, 3) := by decide +kernel
theorem dL_read_37 : decode xL_read.2.1 37 = .ok (.iconst (-1), 1) := by decide +kernel
theorem dL_read_38 : decode xL_read.2.1 38 = .ok (.ireturn, 1) := by decide +kernel
theorem dL_read_39 : decode xL_read.2.1 39 = .ok (.iload 4, 2) := by decide +kernel
theorem dL_read_41 : decode xL_read.2.1 41 = .ok (.ifCond .ne 13, 3) := by decide +kernel
theorem dL_read_44 : decode xL_read.2.1 44 = .ok (.aload 5, 2) := by decide +kernel
theorem dL_read_46 : decode xL_read.2.1 46 = .ok (.iload_n 2, 1) := by decide +kernel
theorem dL_read_47 : decode xL_read.2.1 47 = .ok (.iload_n 3, 1) := by decide +kernel
theorem dL_read_48 : decode xL_read.2.1 48 = .ok (.invokevirtual 61, 3) := by decide +kernel
theorem dL_read_51 : decode xL_read.2.1 51 = .ok (.goto 9, 3) := by decide +kernel
theorem dL_read_54 : decode xL_read.2.1 54 = .ok (.aload 5, 2) := by decide +kernel
theorem dL_read_56 : decode xL_read.2.1 56 = .ok (.iload_n 2, 1) := by decide +kernel
theorem dL_read_57 : decode xL_read.2.1 57 = .ok (.invokevirtual 64, 3) := by decide +kernel
theorem dL_read_60 : decode xL_read.2.1 60 = .ok (.ireturn, 1) := by decide +kernel
def xL_write : mt_X := (⟨"LeasedPages", "write", "(IIII)I"⟩, prog_1_method_4_code, 6, (Option.some FieldType.int))
theorem dL_write_0 : decode xL_write.2.1 0 = .ok (.aload_n 0, 1) := by decide +kernel
theorem dL_write_1 : decode xL_write.2.1 1 = .ok (.iload_n 1, 1) := by decide +kernel
theorem dL_write_2 : decode xL_write.2.1 2 = .ok (.invokevirtual 43, 3) := by decide +kernel
theorem dL_write_5 : decode xL_write.2.1 5 = .ok (.astore 5, 2) := by decide +kernel
theorem dL_write_7 : decode xL_write.2.1 7 = .ok (.aload 5, 2) := by decide +kernel
theorem dL_write_9 : decode xL_write.2.1 9 = .ok (.ifnull 17, 3) := by decide +kernel
theorem dL_write_12 : decode xL_write.2.1 12 = .ok (.iload_n 2, 1) := by decide +kernel
theorem dL_write_13 : decode xL_write.2.1 13 = .ok (.invokestatic 47, 3) := by decide +kernel
theorem dL_write_16 : decode xL_write.2.1 16 = .ok (.ifCond .eq 10, 3) := by decide +kernel
theorem dL_write_19 : decode xL_write.2.1 19 = .ok (.iload_n 3, 1) := by decide +kernel
theorem dL_write_20 : decode xL_write.2.1 20 = .ok (.invokestatic 58, 3) := by decide +kernel
theorem dL_write_23 : decode xL_write.2.1 23 = .ok (.ifCond .ne 5, 3) := by decide +kernel
theorem dL_write_26 : decode xL_write.2.1 26 = .ok (.iconst (-1), 1) := by decide +kernel
theorem dL_write_27 : decode xL_write.2.1 27 = .ok (.ireturn, 1) := by decide +kernel
theorem dL_write_28 : decode xL_write.2.1 28 = .ok (.aload 5, 2) := by decide +kernel
theorem dL_write_30 : decode xL_write.2.1 30 = .ok (.iload_n 2, 1) := by decide +kernel
theorem dL_write_31 : decode xL_write.2.1 31 = .ok (.iload_n 3, 1) := by decide +kernel
theorem dL_write_32 : decode xL_write.2.1 32 = .ok (.iload 4, 2) := by decide +kernel
theorem dL_write_34 : decode xL_write.2.1 34 = .ok (.invokevirtual 68, 3) := by decide +kernel
theorem dL_write_37 : decode xL_write.2.1 37 = .ok (.ireturn, 1) := by decide +kernel
def xL_flush : mt_X := (⟨"LeasedPages", "flush", "(I)I"⟩, prog_1_method_5_code, 3, (Option.some FieldType.int))
theorem dL_flush_0 : decode xL_flush.2.1 0 = .ok (.aload_n 0, 1) := by decide +kernel
theorem dL_flush_1 : decode xL_flush.2.1 1 = .ok (.iload_n 1, 1) := by decide +kernel
theorem dL_flush_2 : decode xL_flush.2.1 2 = .ok (.invokevirtual 43, 3) := by decide +kernel
theorem dL_flush_5 : decode xL_flush.2.1 5 = .ok (.astore_n 2, 1) := by decide +kernel
theorem dL_flush_6 : decode xL_flush.2.1 6 = .ok (.aload_n 2, 1) := by decide +kernel
theorem dL_flush_7 : decode xL_flush.2.1 7 = .ok (.ifnull 10, 3) := by decide +kernel
theorem dL_flush_10 : decode xL_flush.2.1 10 = .ok (.aload_n 2, 1) := by decide +kernel
theorem dL_flush_11 : decode xL_flush.2.1 11 = .ok (.getfield 51, 3) := by decide +kernel
theorem dL_flush_14 : decode xL_flush.2.1 14 = .ok (.ifnull 5, 3) := by decide +kernel
theorem dL_flush_17 : decode xL_flush.2.1 17 = .ok (.iconst (-1), 1) := by decide +kernel
theorem dL_flush_18 : decode xL_flush.2.1 18 = .ok (.ireturn, 1) := by decide +kernel
theorem dL_flush_19 : decode xL_flush.2.1 19 = .ok (.aload_n 2, 1) := by decide +kernel
theorem dL_flush_20 : decode xL_flush.2.1 20 = .ok (.invokevirtual 72, 3) := by decide +kernel
theorem dL_flush_23 : decode xL_flush.2.1 23 = .ok (.ireturn, 1) := by decide +kernel
def xL_close : mt_X := (⟨"LeasedPages", "close", "(II)I"⟩, prog_1_method_6_code, 4, (Option.some FieldType.int))
theorem dL_close_0 : decode xL_close.2.1 0 = .ok (.aload_n 0, 1) := by decide +kernel
theorem dL_close_1 : decode xL_close.2.1 1 = .ok (.iload_n 1, 1) := by decide +kernel
theorem dL_close_2 : decode xL_close.2.1 2 = .ok (.invokevirtual 43, 3) := by decide +kernel
theorem dL_close_5 : decode xL_close.2.1 5 = .ok (.astore_n 3, 1) := by decide +kernel
theorem dL_close_6 : decode xL_close.2.1 6 = .ok (.aload_n 3, 1) := by decide +kernel
theorem dL_close_7 : decode xL_close.2.1 7 = .ok (.ifnull 25, 3) := by decide +kernel
theorem dL_close_10 : decode xL_close.2.1 10 = .ok (.iload_n 2, 1) := by decide +kernel
theorem dL_close_11 : decode xL_close.2.1 11 = .ok (.invokestatic 47, 3) := by decide +kernel
theorem dL_close_14 : decode xL_close.2.1 14 = .ok (.ifCond .eq 18, 3) := by decide +kernel
theorem dL_close_17 : decode xL_close.2.1 17 = .ok (.aload_n 3, 1) := by decide +kernel
theorem dL_close_18 : decode xL_close.2.1 18 = .ok (.getfield 51, 3) := by decide +kernel
theorem dL_close_21 : decode xL_close.2.1 21 = .ok (.ifnonnull 11, 3) := by decide +kernel
theorem dL_close_24 : decode xL_close.2.1 24 = .ok (.aload_n 3, 1) := by decide +kernel
theorem dL_close_25 : decode xL_close.2.1 25 = .ok (.iload_n 2, 1) := by decide +kernel
theorem dL_close_26 : decode xL_close.2.1 26 = .ok (.invokevirtual 76, 3) := by decide +kernel
theorem dL_close_29 : decode xL_close.2.1 29 = .ok (.ifCond .eq 5, 3) := by decide +kernel
theorem dL_close_32 : decode xL_close.2.1 32 = .ok (.iconst (-1), 1) := by decide +kernel
theorem dL_close_33 : decode xL_close.2.1 33 = .ok (.ireturn, 1) := by decide +kernel
theorem dL_close_34 : decode xL_close.2.1 34 = .ok (.aload_n 3, 1) := by decide +kernel
theorem dL_close_35 : decode xL_close.2.1 35 = .ok (.iload_n 2, 1) := by decide +kernel
theorem dL_close_36 : decode xL_close.2.1 36 = .ok (.invokevirtual 79, 3) := by decide +kernel
theorem dL_close_39 : decode xL_close.2.1 39 = .ok (.ireturn, 1) := by decide +kernel
def xL_retry : mt_X := (⟨"LeasedPages", "retry", "(I)I"⟩, prog_1_method_7_code, 3, (Option.some FieldType.int))
theorem dL_retry_0 : decode xL_retry.2.1 0 = .ok (.aload_n 0, 1) := by decide +kernel
theorem dL_retry_1 : decode xL_retry.2.1 1 = .ok (.iload_n 1, 1) := by decide +kernel
theorem dL_retry_2 : decode xL_retry.2.1 2 = .ok (.invokevirtual 43, 3) := by decide +kernel
theorem dL_retry_5 : decode xL_retry.2.1 5 = .ok (.astore_n 2, 1) := by decide +kernel
theorem dL_retry_6 : decode xL_retry.2.1 6 = .ok (.aload_n 2, 1) := by decide +kernel
theorem dL_retry_7 : decode xL_retry.2.1 7 = .ok (.ifnonnull 7, 3) := by decide +kernel
theorem dL_retry_10 : decode xL_retry.2.1 10 = .ok (.iconst (-1), 1) := by decide +kernel
theorem dL_retry_11 : decode xL_retry.2.1 11 = .ok (.goto 7, 3) := by decide +kernel
theorem dL_retry_14 : decode xL_retry.2.1 14 = .ok (.aload_n 2, 1) := by decide +kernel
theorem dL_retry_15 : decode xL_retry.2.1 15 = .ok (.invokevirtual 82, 3) := by decide +kernel
theorem dL_retry_18 : decode xL_retry.2.1 18 = .ok (.ireturn, 1) := by decide +kernel
def xL_messages : mt_X := (⟨"LeasedPages", "messages", "()I"⟩, prog_1_method_8_code, 1, (Option.some FieldType.int))
theorem dL_messages_0 : decode xL_messages.2.1 0 = .ok (.aload_n 0, 1) := by decide +kernel
theorem dL_messages_1 : decode xL_messages.2.1 1 = .ok (.getfield 21, 3) := by decide +kernel
theorem dL_messages_4 : decode xL_messages.2.1 4 = .ok (.getfield 85, 3) := by decide +kernel
theorem dL_messages_7 : decode xL_messages.2.1 7 = .ok (.ireturn, 1) := by decide +kernel
def xL_message : mt_X := (⟨"LeasedPages", "message", "(I)I"⟩, prog_1_method_9_code, 3, (Option.some FieldType.int))
theorem dL_message_0 : decode xL_message.2.1 0 = .ok (.aload_n 0, 1) := by decide +kernel
theorem dL_message_1 : decode xL_message.2.1 1 = .ok (.getfield 21, 3) := by decide +kernel
theorem dL_message_4 : decode xL_message.2.1 4 = .ok (.iload_n 1, 1) := by decide +kernel
theorem dL_message_5 : decode xL_message.2.1 5 = .ok (.invokevirtual 89, 3) := by decide +kernel
theorem dL_message_8 : decode xL_message.2.1 8 = .ok (.astore_n 2, 1) := by decide +kernel
theorem dL_message_9 : decode xL_message.2.1 9 = .ok (.aload_n 2, 1) := by decide +kernel
theorem dL_message_10 : decode xL_message.2.1 10 = .ok (.ifnonnull 7, 3) := by decide +kernel
theorem dL_message_13 : decode xL_message.2.1 13 = .ok (.iconst (-1), 1) := by decide +kernel
theorem dL_message_14 : decode xL_message.2.1 14 = .ok (.goto 7, 3) := by decide +kernel
theorem dL_message_17 : decode xL_message.2.1 17 = .ok (.aload_n 2, 1) := by decide +kernel
theorem dL_message_18 : decode xL_message.2.1 18 = .ok (.invokevirtual 93, 3) := by decide +kernel
theorem dL_message_21 : decode xL_message.2.1 21 = .ok (.ireturn, 1) := by decide +kernel
def xL_deliver : mt_X := (⟨"LeasedPages", "deliver", "(I)Z"⟩, prog_1_method_10_code, 5, (Option.some FieldType.boolean))
theorem dL_deliver_0 : decode xL_deliver.2.1 0 = .ok (.aload_n 0, 1) := by decide +kernel
theorem dL_deliver_1 : decode xL_deliver.2.1 1 = .ok (.getfield 21, 3) := by decide +kernel
theorem dL_deliver_4 : decode xL_deliver.2.1 4 = .ok (.iload_n 1, 1) := by decide +kernel
theorem dL_deliver_5 : decode xL_deliver.2.1 5 = .ok (.invokevirtual 98, 3) := by decide +kernel
theorem dL_deliver_8 : decode xL_deliver.2.1 8 = .ok (.astore_n 2, 1) := by decide +kernel
theorem dL_deliver_9 : decode xL_deliver.2.1 9 = .ok (.aload_n 2, 1) := by decide +kernel
theorem dL_deliver_10 : decode xL_deliver.2.1 10 = .ok (.ifnonnull 5, 3) := by decide +kernel
theorem dL_deliver_13 : decode xL_deliver.2.1 13 = .ok (.iconst 0, 1) := by decide +kernel
theorem dL_deliver_14 : decode xL_deliver.2.1 14 = .ok (.ireturn, 1) := by decide +kernel
theorem dL_deliver_15 : decode xL_deliver.2.1 15 = .ok (.aload_n 2, 1) := by decide +kernel
theorem dL_deliver_16 : decode xL_deliver.2.1 16 = .ok (.instanceof 101, 3) := by decide +kernel
theorem dL_deliver_19 : decode xL_deliver.2.1 19 = .ok (.ifCond .eq 19, 3) := by decide +kernel
theorem dL_deliver_22 : decode xL_deliver.2.1 22 = .ok (.aload_n 2, 1) := by decide +kernel
theorem dL_deliver_23 : decode xL_deliver.2.1 23 = .ok (.checkcast 101, 3) := by decide +kernel
theorem dL_deliver_26 : decode xL_deliver.2.1 26 = .ok (.astore_n 3, 1) := by decide +kernel
theorem dL_deliver_27 : decode xL_deliver.2.1 27 = .ok (.aload_n 0, 1) := by decide +kernel
theorem dL_deliver_28 : decode xL_deliver.2.1 28 = .ok (.getfield 30, 3) := by decide +kernel
theorem dL_deliver_31 : decode xL_deliver.2.1 31 = .ok (.aload_n 3, 1) := by decide +kernel
theorem dL_deliver_32 : decode xL_deliver.2.1 32 = .ok (.invokevirtual 103, 3) := by decide +kernel
theorem dL_deliver_35 : decode xL_deliver.2.1 35 = .ok (.goto 50, 3) := by decide +kernel
theorem dL_deliver_38 : decode xL_deliver.2.1 38 = .ok (.aload_n 2, 1) := by decide +kernel
theorem dL_deliver_39 : decode xL_deliver.2.1 39 = .ok (.instanceof 107, 3) := by decide +kernel
theorem dL_deliver_42 : decode xL_deliver.2.1 42 = .ok (.ifCond .eq 27, 3) := by decide +kernel
theorem dL_deliver_45 : decode xL_deliver.2.1 45 = .ok (.aload_n 2, 1) := by decide +kernel
theorem dL_deliver_46 : decode xL_deliver.2.1 46 = .ok (.checkcast 107, 3) := by decide +kernel
theorem dL_deliver_49 : decode xL_deliver.2.1 49 = .ok (.astore 4, 2) := by decide +kernel
theorem dL_deliver_51 : decode xL_deliver.2.1 51 = .ok (.aload_n 0, 1) := by decide +kernel
theorem dL_deliver_52 : decode xL_deliver.2.1 52 = .ok (.getfield 36, 3) := by decide +kernel
theorem dL_deliver_55 : decode xL_deliver.2.1 55 = .ok (.aload 4, 2) := by decide +kernel
theorem dL_deliver_57 : decode xL_deliver.2.1 57 = .ok (.getfield 109, 3) := by decide +kernel
theorem dL_deliver_60 : decode xL_deliver.2.1 60 = .ok (.aaload, 1) := by decide +kernel
theorem dL_deliver_61 : decode xL_deliver.2.1 61 = .ok (.aload 4, 2) := by decide +kernel
theorem dL_deliver_63 : decode xL_deliver.2.1 63 = .ok (.invokevirtual 112, 3) := by decide +kernel
theorem dL_deliver_66 : decode xL_deliver.2.1 66 = .ok (.goto 19, 3) := by decide +kernel
theorem dL_deliver_69 : decode xL_deliver.2.1 69 = .ok (.aload_n 0, 1) := by decide +kernel
theorem dL_deliver_70 : decode xL_deliver.2.1 70 = .ok (.getfield 36, 3) := by decide +kernel
theorem dL_deliver_73 : decode xL_deliver.2.1 73 = .ok (.aload_n 2, 1) := by decide +kernel
theorem dL_deliver_74 : decode xL_deliver.2.1 74 = .ok (.getfield 116, 3) := by decide +kernel
theorem dL_deliver_77 : decode xL_deliver.2.1 77 = .ok (.aaload, 1) := by decide +kernel
theorem dL_deliver_78 : decode xL_deliver.2.1 78 = .ok (.aload_n 2, 1) := by decide +kernel
theorem dL_deliver_79 : decode xL_deliver.2.1 79 = .ok (.getfield 117, 3) := by decide +kernel
theorem dL_deliver_82 : decode xL_deliver.2.1 82 = .ok (.invokevirtual 120, 3) := by decide +kernel
theorem dL_deliver_85 : decode xL_deliver.2.1 85 = .ok (.iconst 1, 1) := by decide +kernel
theorem dL_deliver_86 : decode xL_deliver.2.1 86 = .ok (.ireturn, 1) := by decide +kernel
def xL_drop : mt_X := (⟨"LeasedPages", "drop", "(I)Z"⟩, prog_1_method_11_code, 2, (Option.some FieldType.boolean))
theorem dL_drop_0 : decode xL_drop.2.1 0 = .ok (.aload_n 0, 1) := by decide +kernel
theorem dL_drop_1 : decode xL_drop.2.1 1 = .ok (.getfield 21, 3) := by decide +kernel
theorem dL_drop_4 : decode xL_drop.2.1 4 = .ok (.iload_n 1, 1) := by decide +kernel
theorem dL_drop_5 : decode xL_drop.2.1 5 = .ok (.invokevirtual 98, 3) := by decide +kernel
theorem dL_drop_8 : decode xL_drop.2.1 8 = .ok (.ifnull 7, 3) := by decide +kernel
theorem dL_drop_11 : decode xL_drop.2.1 11 = .ok (.iconst 1, 1) := by decide +kernel
theorem dL_drop_12 : decode xL_drop.2.1 12 = .ok (.goto 4, 3) := by decide +kernel
theorem dL_drop_15 : decode xL_drop.2.1 15 = .ok (.iconst 0, 1) := by decide +kernel
theorem dL_drop_16 : decode xL_drop.2.1 16 = .ok (.ireturn, 1) := by decide +kernel
def xL_duplicate : mt_X := (⟨"LeasedPages", "duplicate", "(I)Z"⟩, prog_1_method_12_code, 3, (Option.some FieldType.boolean))
theorem dL_duplicate_0 : decode xL_duplicate.2.1 0 = .ok (.aload_n 0, 1) := by decide +kernel
theorem dL_duplicate_1 : decode xL_duplicate.2.1 1 = .ok (.getfield 21, 3) := by decide +kernel
theorem dL_duplicate_4 : decode xL_duplicate.2.1 4 = .ok (.iload_n 1, 1) := by decide +kernel
theorem dL_duplicate_5 : decode xL_duplicate.2.1 5 = .ok (.invokevirtual 89, 3) := by decide +kernel
theorem dL_duplicate_8 : decode xL_duplicate.2.1 8 = .ok (.astore_n 2, 1) := by decide +kernel
theorem dL_duplicate_9 : decode xL_duplicate.2.1 9 = .ok (.aload_n 2, 1) := by decide +kernel
theorem dL_duplicate_10 : decode xL_duplicate.2.1 10 = .ok (.ifnull 18, 3) := by decide +kernel
theorem dL_duplicate_13 : decode xL_duplicate.2.1 13 = .ok (.aload_n 0, 1) := by decide +kernel
theorem dL_duplicate_14 : decode xL_duplicate.2.1 14 = .ok (.getfield 21, 3) := by decide +kernel
theorem dL_duplicate_17 : decode xL_duplicate.2.1 17 = .ok (.aload_n 2, 1) := by decide +kernel
theorem dL_duplicate_18 : decode xL_duplicate.2.1 18 = .ok (.invokevirtual 124, 3) := by decide +kernel
theorem dL_duplicate_21 : decode xL_duplicate.2.1 21 = .ok (.ifCond .eq 7, 3) := by decide +kernel
theorem dL_duplicate_24 : decode xL_duplicate.2.1 24 = .ok (.iconst 1, 1) := by decide +kernel
theorem dL_duplicate_25 : decode xL_duplicate.2.1 25 = .ok (.goto 4, 3) := by decide +kernel
theorem dL_duplicate_28 : decode xL_duplicate.2.1 28 = .ok (.iconst 0, 1) := by decide +kernel
theorem dL_duplicate_29 : decode xL_duplicate.2.1 29 = .ok (.ireturn, 1) := by decide +kernel
def xL_tick : mt_X := (⟨"LeasedPages", "tick", "(II)Z"⟩, prog_1_method_13_code, 3, (Option.some FieldType.boolean))
theorem dL_tick_0 : decode xL_tick.2.1 0 = .ok (.iload_n 1, 1) := by decide +kernel
theorem dL_tick_1 : decode xL_tick.2.1 1 = .ok (.invokestatic 128, 3) := by decide +kernel
theorem dL_tick_4 : decode xL_tick.2.1 4 = .ok (.ifCond .eq 22, 3) := by decide +kernel
theorem dL_tick_7 : decode xL_tick.2.1 7 = .ok (.aload_n 0, 1) := by decide +kernel
theorem dL_tick_8 : decode xL_tick.2.1 8 = .ok (.iload_n 1, 1) := by decide +kernel
theorem dL_tick_9 : decode xL_tick.2.1 9 = .ok (.invokevirtual 131, 3) := by decide +kernel
theorem dL_tick_12 : decode xL_tick.2.1 12 = .ok (.ifCond .eq 14, 3) := by decide +kernel
theorem dL_tick_15 : decode xL_tick.2.1 15 = .ok (.iload_n 2, 1) := by decide +kernel
theorem dL_tick_16 : decode xL_tick.2.1 16 = .ok (.iconst 1, 1) := by decide +kernel
theorem dL_tick_17 : decode xL_tick.2.1 17 = .ok (.if_icmp .lt 9, 3) := by decide +kernel
theorem dL_tick_20 : decode xL_tick.2.1 20 = .ok (.iload_n 2, 1) := by decide +kernel
theorem dL_tick_21 : decode xL_tick.2.1 21 = .ok (.bipush 100, 2) := by decide +kernel
theorem dL_tick_23 : decode xL_tick.2.1 23 = .ok (.if_icmp .le 5, 3) := by decide +kernel
theorem dL_tick_26 : decode xL_tick.2.1 26 = .ok (.iconst 0, 1) := by decide +kernel
theorem dL_tick_27 : decode xL_tick.2.1 27 = .ok (.ireturn, 1) := by decide +kernel
theorem dL_tick_28 : decode xL_tick.2.1 28 = .ok (.iload_n 1, 1) := by decide +kernel
theorem dL_tick_29 : decode xL_tick.2.1 29 = .ok (.iconst 3, 1) := by decide +kernel
theorem dL_tick_30 : decode xL_tick.2.1 30 = .ok (.if_icmp .ne 14, 3) := by decide +kernel
theorem dL_tick_33 : decode xL_tick.2.1 33 = .ok (.aload_n 0, 1) := by decide +kernel
theorem dL_tick_34 : decode xL_tick.2.1 34 = .ok (.getfield 30, 3) := by decide +kernel
theorem dL_tick_37 : decode xL_tick.2.1 37 = .ok (.iload_n 2, 1) := by decide +kernel
theorem dL_tick_38 : decode xL_tick.2.1 38 = .ok (.invokevirtual 134, 3) := by decide +kernel
theorem dL_tick_41 : decode xL_tick.2.1 41 = .ok (.goto 18, 3) := by decide +kernel
theorem dL_tick_44 : decode xL_tick.2.1 44 = .ok (.aload_n 0, 1) := by decide +kernel
theorem dL_tick_45 : decode xL_tick.2.1 45 = .ok (.getfield 36, 3) := by decide +kernel
theorem dL_tick_48 : decode xL_tick.2.1 48 = .ok (.iload_n 1, 1) := by decide +kernel
theorem dL_tick_49 : decode xL_tick.2.1 49 = .ok (.aaload, 1) := by decide +kernel
theorem dL_tick_50 : decode xL_tick.2.1 50 = .ok (.dup, 1) := by decide +kernel
theorem dL_tick_51 : decode xL_tick.2.1 51 = .ok (.getfield 137, 3) := by decide +kernel
theorem dL_tick_54 : decode xL_tick.2.1 54 = .ok (.iload_n 2, 1) := by decide +kernel
theorem dL_tick_55 : decode xL_tick.2.1 55 = .ok (.iadd, 1) := by decide +kernel
theorem dL_tick_56 : decode xL_tick.2.1 56 = .ok (.putfield 137, 3) := by decide +kernel
theorem dL_tick_59 : decode xL_tick.2.1 59 = .ok (.iconst 1, 1) := by decide +kernel
theorem dL_tick_60 : decode xL_tick.2.1 60 = .ok (.ireturn, 1) := by decide +kernel
def xL_crash : mt_X := (⟨"LeasedPages", "crash", "(I)Z"⟩, prog_1_method_14_code, 2, (Option.some FieldType.boolean))
theorem dL_crash_0 : decode xL_crash.2.1 0 = .ok (.iload_n 1, 1) := by decide +kernel
theorem dL_crash_1 : decode xL_crash.2.1 1 = .ok (.invokestatic 128, 3) := by decide +kernel
theorem dL_crash_4 : decode xL_crash.2.1 4 = .ok (.ifCond .eq 11, 3) := by decide +kernel
theorem dL_crash_7 : decode xL_crash.2.1 7 = .ok (.aload_n 0, 1) := by decide +kernel
theorem dL_crash_8 : decode xL_crash.2.1 8 = .ok (.iload_n 1, 1) := by decide +kernel
theorem dL_crash_9 : decode xL_crash.2.1 9 = .ok (.invokevirtual 131, 3) := by decide +kernel
theorem dL_crash_12 : decode xL_crash.2.1 12 = .ok (.ifCond .ne 5, 3) := by decide +kernel
theorem dL_crash_15 : decode xL_crash.2.1 15 = .ok (.iconst 0, 1) := by decide +kernel
theorem dL_crash_16 : decode xL_crash.2.1 16 = .ok (.ireturn, 1) := by decide +kernel
theorem dL_crash_17 : decode xL_crash.2.1 17 = .ok (.iload_n 1, 1) := by decide +kernel
theorem dL_crash_18 : decode xL_crash.2.1 18 = .ok (.iconst 3, 1) := by decide +kernel
theorem dL_crash_19 : decode xL_crash.2.1 19 = .ok (.if_icmp .ne 13, 3) := by decide +kernel
theorem dL_crash_22 : decode xL_crash.2.1 22 = .ok (.aload_n 0, 1) := by decide +kernel
theorem dL_crash_23 : decode xL_crash.2.1 23 = .ok (.getfield 30, 3) := by decide +kernel
theorem dL_crash_26 : decode xL_crash.2.1 26 = .ok (.invokevirtual 140, 3) := by decide +kernel
theorem dL_crash_29 : decode xL_crash.2.1 29 = .ok (.goto 12, 3) := by decide +kernel
theorem dL_crash_32 : decode xL_crash.2.1 32 = .ok (.aload_n 0, 1) := by decide +kernel
theorem dL_crash_33 : decode xL_crash.2.1 33 = .ok (.getfield 36, 3) := by decide +kernel
theorem dL_crash_36 : decode xL_crash.2.1 36 = .ok (.iload_n 1, 1) := by decide +kernel
theorem dL_crash_37 : decode xL_crash.2.1 37 = .ok (.aaload, 1) := by decide +kernel
theorem dL_crash_38 : decode xL_crash.2.1 38 = .ok (.invokevirtual 143, 3) := by decide +kernel
theorem dL_crash_41 : decode xL_crash.2.1 41 = .ok (.iconst 1, 1) := by decide +kernel
theorem dL_crash_42 : decode xL_crash.2.1 42 = .ok (.ireturn, 1) := by decide +kernel
def xL_restart : mt_X := (⟨"LeasedPages", "restart", "(I)Z"⟩, prog_1_method_15_code, 2, (Option.some FieldType.boolean))
theorem dL_restart_0 : decode xL_restart.2.1 0 = .ok (.iload_n 1, 1) := by decide +kernel
theorem dL_restart_1 : decode xL_restart.2.1 1 = .ok (.invokestatic 128, 3) := by decide +kernel
theorem dL_restart_4 : decode xL_restart.2.1 4 = .ok (.ifCond .eq 11, 3) := by decide +kernel
theorem dL_restart_7 : decode xL_restart.2.1 7 = .ok (.aload_n 0, 1) := by decide +kernel
theorem dL_restart_8 : decode xL_restart.2.1 8 = .ok (.iload_n 1, 1) := by decide +kernel
theorem dL_restart_9 : decode xL_restart.2.1 9 = .ok (.invokevirtual 131, 3) := by decide +kernel
theorem dL_restart_12 : decode xL_restart.2.1 12 = .ok (.ifCond .eq 5, 3) := by decide +kernel
theorem dL_restart_15 : decode xL_restart.2.1 15 = .ok (.iconst 0, 1) := by decide +kernel
theorem dL_restart_16 : decode xL_restart.2.1 16 = .ok (.ireturn, 1) := by decide +kernel
theorem dL_restart_17 : decode xL_restart.2.1 17 = .ok (.iload_n 1, 1) := by decide +kernel
theorem dL_restart_18 : decode xL_restart.2.1 18 = .ok (.iconst 3, 1) := by decide +kernel
theorem dL_restart_19 : decode xL_restart.2.1 19 = .ok (.if_icmp .ne 13, 3) := by decide +kernel
theorem dL_restart_22 : decode xL_restart.2.1 22 = .ok (.aload_n 0, 1) := by decide +kernel
theorem dL_restart_23 : decode xL_restart.2.1 23 = .ok (.getfield 30, 3) := by decide +kernel
theorem dL_restart_26 : decode xL_restart.2.1 26 = .ok (.invokevirtual 144, 3) := by decide +kernel
theorem dL_restart_29 : decode xL_restart.2.1 29 = .ok (.goto 13, 3) := by decide +kernel
theorem dL_restart_32 : decode xL_restart.2.1 32 = .ok (.aload_n 0, 1) := by decide +kernel
theorem dL_restart_33 : decode xL_restart.2.1 33 = .ok (.getfield 36, 3) := by decide +kernel
theorem dL_restart_36 : decode xL_restart.2.1 36 = .ok (.iload_n 1, 1) := by decide +kernel
theorem dL_restart_37 : decode xL_restart.2.1 37 = .ok (.aaload, 1) := by decide +kernel
theorem dL_restart_38 : decode xL_restart.2.1 38 = .ok (.iconst 1, 1) := by decide +kernel
theorem dL_restart_39 : decode xL_restart.2.1 39 = .ok (.putfield 147, 3) := by decide +kernel
theorem dL_restart_42 : decode xL_restart.2.1 42 = .ok (.iconst 1, 1) := by decide +kernel
theorem dL_restart_43 : decode xL_restart.2.1 43 = .ok (.ireturn, 1) := by decide +kernel
def xL_clock : mt_X := (⟨"LeasedPages", "clock", "(I)I"⟩, prog_1_method_16_code, 2, (Option.some FieldType.int))
theorem dL_clock_0 : decode xL_clock.2.1 0 = .ok (.iload_n 1, 1) := by decide +kernel
theorem dL_clock_1 : decode xL_clock.2.1 1 = .ok (.invokestatic 128, 3) := by decide +kernel
theorem dL_clock_4 : decode xL_clock.2.1 4 = .ok (.ifCond .ne 5, 3) := by decide +kernel
theorem dL_clock_7 : decode xL_clock.2.1 7 = .ok (.iconst (-1), 1) := by decide +kernel
theorem dL_clock_8 : decode xL_clock.2.1 8 = .ok (.ireturn, 1) := by decide +kernel
theorem dL_clock_9 : decode xL_clock.2.1 9 = .ok (.iload_n 1, 1) := by decide +kernel
theorem dL_clock_10 : decode xL_clock.2.1 10 = .ok (.iconst 3, 1) := by decide +kernel
theorem dL_clock_11 : decode xL_clock.2.1 11 = .ok (.if_icmp .ne 13, 3) := by decide +kernel
theorem dL_clock_14 : decode xL_clock.2.1 14 = .ok (.aload_n 0, 1) := by decide +kernel
theorem dL_clock_15 : decode xL_clock.2.1 15 = .ok (.getfield 30, 3) := by decide +kernel
theorem dL_clock_18 : decode xL_clock.2.1 18 = .ok (.getfield 151, 3) := by decide +kernel
theorem dL_clock_21 : decode xL_clock.2.1 21 = .ok (.goto 12, 3) := by decide +kernel
theorem dL_clock_24 : decode xL_clock.2.1 24 = .ok (.aload_n 0, 1) := by decide +kernel
theorem dL_clock_25 : decode xL_clock.2.1 25 = .ok (.getfield 36, 3) := by decide +kernel
theorem dL_clock_28 : decode xL_clock.2.1 28 = .ok (.iload_n 1, 1) := by decide +kernel
theorem dL_clock_29 : decode xL_clock.2.1 29 = .ok (.aaload, 1) := by decide +kernel
theorem dL_clock_30 : decode xL_clock.2.1 30 = .ok (.getfield 137, 3) := by decide +kernel
theorem dL_clock_33 : decode xL_clock.2.1 33 = .ok (.ireturn, 1) := by decide +kernel
def xL_lease : mt_X := (⟨"LeasedPages", "lease", "(II)I"⟩, prog_1_method_17_code, 4, (Option.some FieldType.int))
theorem dL_lease_0 : decode xL_lease.2.1 0 = .ok (.aload_n 0, 1) := by decide +kernel
theorem dL_lease_1 : decode xL_lease.2.1 1 = .ok (.iload_n 1, 1) := by decide +kernel
theorem dL_lease_2 : decode xL_lease.2.1 2 = .ok (.invokevirtual 43, 3) := by decide +kernel
theorem dL_lease_5 : decode xL_lease.2.1 5 = .ok (.astore_n 3, 1) := by decide +kernel
theorem dL_lease_6 : decode xL_lease.2.1 6 = .ok (.aload_n 3, 1) := by decide +kernel
theorem dL_lease_7 : decode xL_lease.2.1 7 = .ok (.ifnull 10, 3) := by decide +kernel
theorem dL_lease_10 : decode xL_lease.2.1 10 = .ok (.iload_n 2, 1) := by decide +kernel
theorem dL_lease_11 : decode xL_lease.2.1 11 = .ok (.invokestatic 47, 3) := by decide +kernel
theorem dL_lease_14 : decode xL_lease.2.1 14 = .ok (.ifCond .ne 7, 3) := by decide +kernel
theorem dL_lease_17 : decode xL_lease.2.1 17 = .ok (.iconst (-1), 1) := by decide +kernel
theorem dL_lease_18 : decode xL_lease.2.1 18 = .ok (.goto 8, 3) := by decide +kernel
theorem dL_lease_21 : decode xL_lease.2.1 21 = .ok (.aload_n 3, 1) := by decide +kernel
theorem dL_lease_22 : decode xL_lease.2.1 22 = .ok (.iload_n 2, 1) := by decide +kernel
theorem dL_lease_23 : decode xL_lease.2.1 23 = .ok (.invokevirtual 152, 3) := by decide +kernel
theorem dL_lease_26 : decode xL_lease.2.1 26 = .ok (.ireturn, 1) := by decide +kernel
def xL_dirty : mt_X := (⟨"LeasedPages", "dirty", "(I)I"⟩, prog_1_method_18_code, 3, (Option.some FieldType.int))
theorem dL_dirty_0 : decode xL_dirty.2.1 0 = .ok (.aload_n 0, 1) := by decide +kernel
theorem dL_dirty_1 : decode xL_dirty.2.1 1 = .ok (.iload_n 1, 1) := by decide +kernel
theorem dL_dirty_2 : decode xL_dirty.2.1 2 = .ok (.invokevirtual 43, 3) := by decide +kernel
theorem dL_dirty_5 : decode xL_dirty.2.1 5 = .ok (.astore_n 2, 1) := by decide +kernel
theorem dL_dirty_6 : decode xL_dirty.2.1 6 = .ok (.aload_n 2, 1) := by decide +kernel
theorem dL_dirty_7 : decode xL_dirty.2.1 7 = .ok (.ifnonnull 7, 3) := by decide +kernel
theorem dL_dirty_10 : decode xL_dirty.2.1 10 = .ok (.iconst (-1), 1) := by decide +kernel
theorem dL_dirty_11 : decode xL_dirty.2.1 11 = .ok (.goto 7, 3) := by decide +kernel
theorem dL_dirty_14 : decode xL_dirty.2.1 14 = .ok (.aload_n 2, 1) := by decide +kernel
theorem dL_dirty_15 : decode xL_dirty.2.1 15 = .ok (.getfield 155, 3) := by decide +kernel
theorem dL_dirty_18 : decode xL_dirty.2.1 18 = .ok (.ireturn, 1) := by decide +kernel
def xL_held : mt_X := (⟨"LeasedPages", "held", "(II)I"⟩, prog_1_method_19_code, 3, (Option.some FieldType.int))
theorem dL_held_0 : decode xL_held.2.1 0 = .ok (.iload_n 1, 1) := by decide +kernel
theorem dL_held_1 : decode xL_held.2.1 1 = .ok (.invokestatic 158, 3) := by decide +kernel
theorem dL_held_4 : decode xL_held.2.1 4 = .ok (.ifCond .eq 22, 3) := by decide +kernel
theorem dL_held_7 : decode xL_held.2.1 7 = .ok (.iload_n 2, 1) := by decide +kernel
theorem dL_held_8 : decode xL_held.2.1 8 = .ok (.invokestatic 47, 3) := by decide +kernel
theorem dL_held_11 : decode xL_held.2.1 11 = .ok (.ifCond .eq 15, 3) := by decide +kernel
theorem dL_held_14 : decode xL_held.2.1 14 = .ok (.aload_n 0, 1) := by decide +kernel
theorem dL_held_15 : decode xL_held.2.1 15 = .ok (.getfield 30, 3) := by decide +kernel
theorem dL_held_18 : decode xL_held.2.1 18 = .ok (.iload_n 1, 1) := by decide +kernel
theorem dL_held_19 : decode xL_held.2.1 19 = .ok (.iload_n 2, 1) := by decide +kernel
theorem dL_held_20 : decode xL_held.2.1 20 = .ok (.invokevirtual 161, 3) := by decide +kernel
theorem dL_held_23 : decode xL_held.2.1 23 = .ok (.goto 4, 3) := by decide +kernel
theorem dL_held_26 : decode xL_held.2.1 26 = .ok (.iconst (-1), 1) := by decide +kernel
theorem dL_held_27 : decode xL_held.2.1 27 = .ok (.ireturn, 1) := by decide +kernel
def xL_waiting : mt_X := (⟨"LeasedPages", "waiting", "(I)I"⟩, prog_1_method_20_code, 2, (Option.some FieldType.int))
theorem dL_waiting_0 : decode xL_waiting.2.1 0 = .ok (.iload_n 1, 1) := by decide +kernel
theorem dL_waiting_1 : decode xL_waiting.2.1 1 = .ok (.invokestatic 47, 3) := by decide +kernel
theorem dL_waiting_4 : decode xL_waiting.2.1 4 = .ok (.ifCond .eq 18, 3) := by decide +kernel
theorem dL_waiting_7 : decode xL_waiting.2.1 7 = .ok (.aload_n 0, 1) := by decide +kernel
theorem dL_waiting_8 : decode xL_waiting.2.1 8 = .ok (.getfield 30, 3) := by decide +kernel
theorem dL_waiting_11 : decode xL_waiting.2.1 11 = .ok (.getfield 164, 3) := by decide +kernel
theorem dL_waiting_14 : decode xL_waiting.2.1 14 = .ok (.iload_n 1, 1) := by decide +kernel
theorem dL_waiting_15 : decode xL_waiting.2.1 15 = .ok (.aaload, 1) := by decide +kernel
theorem dL_waiting_16 : decode xL_waiting.2.1 16 = .ok (.getfield 168, 3) := by decide +kernel
theorem dL_waiting_19 : decode xL_waiting.2.1 19 = .ok (.goto 4, 3) := by decide +kernel
theorem dL_waiting_22 : decode xL_waiting.2.1 22 = .ok (.iconst (-1), 1) := by decide +kernel
theorem dL_waiting_23 : decode xL_waiting.2.1 23 = .ok (.ireturn, 1) := by decide +kernel
def xL_stored : mt_X := (⟨"LeasedPages", "stored", "(II)I"⟩, prog_1_method_21_code, 3, (Option.some FieldType.int))
theorem dL_stored_0 : decode xL_stored.2.1 0 = .ok (.iload_n 1, 1) := by decide +kernel
theorem dL_stored_1 : decode xL_stored.2.1 1 = .ok (.invokestatic 47, 3) := by decide +kernel
theorem dL_stored_4 : decode xL_stored.2.1 4 = .ok (.ifCond .eq 24, 3) := by decide +kernel
theorem dL_stored_7 : decode xL_stored.2.1 7 = .ok (.iload_n 2, 1) := by decide +kernel
theorem dL_stored_8 : decode xL_stored.2.1 8 = .ok (.invokestatic 58, 3) := by decide +kernel
theorem dL_stored_11 : decode xL_stored.2.1 11 = .ok (.ifCond .eq 17, 3) := by decide +kernel
theorem dL_stored_14 : decode xL_stored.2.1 14 = .ok (.aload_n 0, 1) := by decide +kernel
theorem dL_stored_15 : decode xL_stored.2.1 15 = .ok (.getfield 30, 3) := by decide +kernel
theorem dL_stored_18 : decode xL_stored.2.1 18 = .ok (.getfield 173, 3) := by decide +kernel
theorem dL_stored_21 : decode xL_stored.2.1 21 = .ok (.iload_n 1, 1) := by decide +kernel
theorem dL_stored_22 : decode xL_stored.2.1 22 = .ok (.aaload, 1) := by decide +kernel
theorem dL_stored_23 : decode xL_stored.2.1 23 = .ok (.iload_n 2, 1) := by decide +kernel
theorem dL_stored_24 : decode xL_stored.2.1 24 = .ok (.iaload, 1) := by decide +kernel
theorem dL_stored_25 : decode xL_stored.2.1 25 = .ok (.goto 4, 3) := by decide +kernel
theorem dL_stored_28 : decode xL_stored.2.1 28 = .ok (.iconst 0, 1) := by decide +kernel
theorem dL_stored_29 : decode xL_stored.2.1 29 = .ok (.ireturn, 1) := by decide +kernel
def xL_isClient : mt_X := (⟨"LeasedPages", "isClient", "(I)Z"⟩, prog_1_method_22_code, 1, (Option.some FieldType.boolean))
theorem dL_isClient_0 : decode xL_isClient.2.1 0 = .ok (.iload_n 0, 1) := by decide +kernel
theorem dL_isClient_1 : decode xL_isClient.2.1 1 = .ok (.ifCond .lt 12, 3) := by decide +kernel
theorem dL_isClient_4 : decode xL_isClient.2.1 4 = .ok (.iload_n 0, 1) := by decide +kernel
theorem dL_isClient_5 : decode xL_isClient.2.1 5 = .ok (.iconst 3, 1) := by decide +kernel
theorem dL_isClient_6 : decode xL_isClient.2.1 6 = .ok (.if_icmp .ge 7, 3) := by decide +kernel
theorem dL_isClient_9 : decode xL_isClient.2.1 9 = .ok (.iconst 1, 1) := by decide +kernel
theorem dL_isClient_10 : decode xL_isClient.2.1 10 = .ok (.goto 4, 3) := by decide +kernel
theorem dL_isClient_13 : decode xL_isClient.2.1 13 = .ok (.iconst 0, 1) := by decide +kernel
theorem dL_isClient_14 : decode xL_isClient.2.1 14 = .ok (.ireturn, 1) := by decide +kernel
def xL_isNode : mt_X := (⟨"LeasedPages", "isNode", "(I)Z"⟩, prog_1_method_23_code, 1, (Option.some FieldType.boolean))
theorem dL_isNode_0 : decode xL_isNode.2.1 0 = .ok (.iload_n 0, 1) := by decide +kernel
theorem dL_isNode_1 : decode xL_isNode.2.1 1 = .ok (.invokestatic 158, 3) := by decide +kernel
theorem dL_isNode_4 : decode xL_isNode.2.1 4 = .ok (.ifCond .ne 8, 3) := by decide +kernel
theorem dL_isNode_7 : decode xL_isNode.2.1 7 = .ok (.iload_n 0, 1) := by decide +kernel
theorem dL_isNode_8 : decode xL_isNode.2.1 8 = .ok (.iconst 3, 1) := by decide +kernel
theorem dL_isNode_9 : decode xL_isNode.2.1 9 = .ok (.if_icmp .ne 7, 3) := by decide +kernel
theorem dL_isNode_12 : decode xL_isNode.2.1 12 = .ok (.iconst 1, 1) := by decide +kernel
theorem dL_isNode_13 : decode xL_isNode.2.1 13 = .ok (.goto 4, 3) := by decide +kernel
theorem dL_isNode_16 : decode xL_isNode.2.1 16 = .ok (.iconst 0, 1) := by decide +kernel
theorem dL_isNode_17 : decode xL_isNode.2.1 17 = .ok (.ireturn, 1) := by decide +kernel
def xL_isFile : mt_X := (⟨"LeasedPages", "isFile", "(I)Z"⟩, prog_1_method_24_code, 1, (Option.some FieldType.boolean))
theorem dL_isFile_0 : decode xL_isFile.2.1 0 = .ok (.iload_n 0, 1) := by decide +kernel
theorem dL_isFile_1 : decode xL_isFile.2.1 1 = .ok (.ifCond .lt 12, 3) := by decide +kernel
theorem dL_isFile_4 : decode xL_isFile.2.1 4 = .ok (.iload_n 0, 1) := by decide +kernel
theorem dL_isFile_5 : decode xL_isFile.2.1 5 = .ok (.iconst 4, 1) := by decide +kernel
theorem dL_isFile_6 : decode xL_isFile.2.1 6 = .ok (.if_icmp .ge 7, 3) := by decide +kernel
theorem dL_isFile_9 : decode xL_isFile.2.1 9 = .ok (.iconst 1, 1) := by decide +kernel
theorem dL_isFile_10 : decode xL_isFile.2.1 10 = .ok (.goto 4, 3) := by decide +kernel
theorem dL_isFile_13 : decode xL_isFile.2.1 13 = .ok (.iconst 0, 1) := by decide +kernel
theorem dL_isFile_14 : decode xL_isFile.2.1 14 = .ok (.ireturn, 1) := by decide +kernel
def xL_isPage : mt_X := (⟨"LeasedPages", "isPage", "(I)Z"⟩, prog_1_method_25_code, 1, (Option.some FieldType.boolean))
theorem dL_isPage_0 : decode xL_isPage.2.1 0 = .ok (.iload_n 0, 1) := by decide +kernel
theorem dL_isPage_1 : decode xL_isPage.2.1 1 = .ok (.ifCond .lt 12, 3) := by decide +kernel
theorem dL_isPage_4 : decode xL_isPage.2.1 4 = .ok (.iload_n 0, 1) := by decide +kernel
theorem dL_isPage_5 : decode xL_isPage.2.1 5 = .ok (.iconst 4, 1) := by decide +kernel
theorem dL_isPage_6 : decode xL_isPage.2.1 6 = .ok (.if_icmp .ge 7, 3) := by decide +kernel
theorem dL_isPage_9 : decode xL_isPage.2.1 9 = .ok (.iconst 1, 1) := by decide +kernel
theorem dL_isPage_10 : decode xL_isPage.2.1 10 = .ok (.goto 4, 3) := by decide +kernel
theorem dL_isPage_13 : decode xL_isPage.2.1 13 = .ok (.iconst 0, 1) := by decide +kernel
theorem dL_isPage_14 : decode xL_isPage.2.1 14 = .ok (.ireturn, 1) := by decide +kernel
def xL_isUp : mt_X := (⟨"LeasedPages", "isUp", "(I)Z"⟩, prog_1_method_26_code, 2, (Option.some FieldType.boolean))
theorem dL_isUp_0 : decode xL_isUp.2.1 0 = .ok (.iload_n 1, 1) := by decide +kernel
theorem dL_isUp_1 : decode xL_isUp.2.1 1 = .ok (.iconst 3, 1) := by decide +kernel
theorem dL_isUp_2 : decode xL_isUp.2.1 2 = .ok (.if_icmp .ne 13, 3) := by decide +kernel
theorem dL_isUp_5 : decode xL_isUp.2.1 5 = .ok (.aload_n 0, 1) := by decide +kernel
theorem dL_isUp_6 : decode xL_isUp.2.1 6 = .ok (.getfield 30, 3) := by decide +kernel
theorem dL_isUp_9 : decode xL_isUp.2.1 9 = .ok (.getfield 177, 3) := by decide +kernel
theorem dL_isUp_12 : decode xL_isUp.2.1 12 = .ok (.goto 12, 3) := by decide +kernel
theorem dL_isUp_15 : decode xL_isUp.2.1 15 = .ok (.aload_n 0, 1) := by decide +kernel
theorem dL_isUp_16 : decode xL_isUp.2.1 16 = .ok (.getfield 36, 3) := by decide +kernel
theorem dL_isUp_19 : decode xL_isUp.2.1 19 = .ok (.iload_n 1, 1) := by decide +kernel
theorem dL_isUp_20 : decode xL_isUp.2.1 20 = .ok (.aaload, 1) := by decide +kernel
theorem dL_isUp_21 : decode xL_isUp.2.1 21 = .ok (.getfield 147, 3) := by decide +kernel
theorem dL_isUp_24 : decode xL_isUp.2.1 24 = .ok (.ireturn, 1) := by decide +kernel
def xL_clientThatIsUp : mt_X := (⟨"LeasedPages", "clientThatIsUp", "(I)LLeasedPages$Client;"⟩, prog_1_method_27_code, 2, (Option.some (FieldType.object "LeasedPages$Client")))
theorem dL_clientThatIsUp_0 : decode xL_clientThatIsUp.2.1 0 = .ok (.iload_n 1, 1) := by decide +kernel
theorem dL_clientThatIsUp_1 : decode xL_clientThatIsUp.2.1 1 = .ok (.invokestatic 158, 3) := by decide +kernel
theorem dL_clientThatIsUp_4 : decode xL_clientThatIsUp.2.1 4 = .ok (.ifCond .eq 24, 3) := by decide +kernel
theorem dL_clientThatIsUp_7 : decode xL_clientThatIsUp.2.1 7 = .ok (.aload_n 0, 1) := by decide +kernel
theorem dL_clientThatIsUp_8 : decode xL_clientThatIsUp.2.1 8 = .ok (.getfield 36, 3) := by decide +kernel
theorem dL_clientThatIsUp_11 : decode xL_clientThatIsUp.2.1 11 = .ok (.iload_n 1, 1) := by decide +kernel
theorem dL_clientThatIsUp_12 : decode xL_clientThatIsUp.2.1 12 = .ok (.aaload, 1) := by decide +kernel
theorem dL_clientThatIsUp_13 : decode xL_clientThatIsUp.2.1 13 = .ok (.getfield 147, 3) := by decide +kernel
theorem dL_clientThatIsUp_16 : decode xL_clientThatIsUp.2.1 16 = .ok (.ifCond .eq 12, 3) := by decide +kernel
theorem dL_clientThatIsUp_19 : decode xL_clientThatIsUp.2.1 19 = .ok (.aload_n 0, 1) := by decide +kernel
theorem dL_clientThatIsUp_20 : decode xL_clientThatIsUp.2.1 20 = .ok (.getfield 36, 3) := by decide +kernel
theorem dL_clientThatIsUp_23 : decode xL_clientThatIsUp.2.1 23 = .ok (.iload_n 1, 1) := by decide +kernel
theorem dL_clientThatIsUp_24 : decode xL_clientThatIsUp.2.1 24 = .ok (.aaload, 1) := by decide +kernel
theorem dL_clientThatIsUp_25 : decode xL_clientThatIsUp.2.1 25 = .ok (.goto 4, 3) := by decide +kernel
theorem dL_clientThatIsUp_28 : decode xL_clientThatIsUp.2.1 28 = .ok (.aconst_null, 1) := by decide +kernel
theorem dL_clientThatIsUp_29 : decode xL_clientThatIsUp.2.1 29 = .ok (.areturn, 1) := by decide +kernel
def xK_init : mt_X := (⟨"LeasedPages$Copy", "<init>", "()V"⟩, prog_3_method_1_code, 1, (Option.none : Option FieldType))
theorem dK_init_0 : decode xK_init.2.1 0 = .ok (.aload_n 0, 1) := by decide +kernel
theorem dK_init_1 : decode xK_init.2.1 1 = .ok (.invokespecial 3, 3) := by decide +kernel
theorem dK_init_4 : decode xK_init.2.1 4 = .ok (.aload_n 0, 1) := by decide +kernel
theorem dK_init_5 : decode xK_init.2.1 5 = .ok (.iconst 4, 1) := by decide +kernel
theorem dK_init_6 : decode xK_init.2.1 6 = .ok (.newarray .int, 2) := by decide +kernel
theorem dK_init_8 : decode xK_init.2.1 8 = .ok (.putfield 9, 3) := by decide +kernel
theorem dK_init_11 : decode xK_init.2.1 11 = .ok (.aload_n 0, 1) := by decide +kernel
theorem dK_init_12 : decode xK_init.2.1 12 = .ok (.iconst 0, 1) := by decide +kernel
theorem dK_init_13 : decode xK_init.2.1 13 = .ok (.putfield 15, 3) := by decide +kernel
theorem dK_init_16 : decode xK_init.2.1 16 = .ok (.aload_n 0, 1) := by decide +kernel
theorem dK_init_17 : decode xK_init.2.1 17 = .ok (.iconst 0, 1) := by decide +kernel
theorem dK_init_18 : decode xK_init.2.1 18 = .ok (.putfield 19, 3) := by decide +kernel
theorem dK_init_21 : decode xK_init.2.1 21 = .ok (.aload_n 0, 1) := by decide +kernel
theorem dK_init_22 : decode xK_init.2.1 22 = .ok (.iconst 0, 1) := by decide +kernel
theorem dK_init_23 : decode xK_init.2.1 23 = .ok (.putfield 22, 3) := by decide +kernel
theorem dK_init_26 : decode xK_init.2.1 26 = .ok (.aload_n 0, 1) := by decide +kernel
theorem dK_init_27 : decode xK_init.2.1 27 = .ok (.iconst 0, 1) := by decide +kernel
theorem dK_init_28 : decode xK_init.2.1 28 = .ok (.putfield 26, 3) := by decide +kernel
theorem dK_init_31 : decode xK_init.2.1 31 = .ok (.return_, 1) := by decide +kernel
def xK_allows : mt_X := (⟨"LeasedPages$Copy", "allows", "(II)Z"⟩, prog_3_method_2_code, 3, (Option.some FieldType.boolean))
theorem dK_allows_0 : decode xK_allows.2.1 0 = .ok (.aload_n 0, 1) := by decide +kernel
theorem dK_allows_1 : decode xK_allows.2.1 1 = .ok (.getfield 15, 3) := by decide +kernel
theorem dK_allows_4 : decode xK_allows.2.1 4 = .ok (.iload_n 1, 1) := by decide +kernel
theorem dK_allows_5 : decode xK_allows.2.1 5 = .ok (.if_icmp .lt 15, 3) := by decide +kernel
theorem dK_allows_8 : decode xK_allows.2.1 8 = .ok (.iload_n 2, 1) := by decide +kernel
theorem dK_allows_9 : decode xK_allows.2.1 9 = .ok (.aload_n 0, 1) := by decide +kernel
theorem dK_allows_10 : decode xK_allows.2.1 10 = .ok (.getfield 19, 3) := by decide +kernel
theorem dK_allows_13 : decode xK_allows.2.1 13 = .ok (.if_icmp .ge 7, 3) := by decide +kernel
theorem dK_allows_16 : decode xK_allows.2.1 16 = .ok (.iconst 1, 1) := by decide +kernel
theorem dK_allows_17 : decode xK_allows.2.1 17 = .ok (.goto 4, 3) := by decide +kernel
theorem dK_allows_20 : decode xK_allows.2.1 20 = .ok (.iconst 0, 1) := by decide +kernel
theorem dK_allows_21 : decode xK_allows.2.1 21 = .ok (.ireturn, 1) := by decide +kernel
def xK_takeLostMark : mt_X := (⟨"LeasedPages$Copy", "takeLostMark", "()Z"⟩, prog_3_method_3_code, 2, (Option.some FieldType.boolean))
theorem dK_takeLostMark_0 : decode xK_takeLostMark.2.1 0 = .ok (.aload_n 0, 1) := by decide +kernel
theorem dK_takeLostMark_1 : decode xK_takeLostMark.2.1 1 = .ok (.getfield 26, 3) := by decide +kernel
theorem dK_takeLostMark_4 : decode xK_takeLostMark.2.1 4 = .ok (.istore_n 1, 1) := by decide +kernel
theorem dK_takeLostMark_5 : decode xK_takeLostMark.2.1 5 = .ok (.aload_n 0, 1) := by decide +kernel
theorem dK_takeLostMark_6 : decode xK_takeLostMark.2.1 6 = .ok (.iconst 0, 1) := by decide +kernel
theorem dK_takeLostMark_7 : decode xK_takeLostMark.2.1 7 = .ok (.putfield 26, 3) := by decide +kernel
theorem dK_takeLostMark_10 : decode xK_takeLostMark.2.1 10 = .ok (.iload_n 1, 1) := by decide +kernel
theorem dK_takeLostMark_11 : decode xK_takeLostMark.2.1 11 = .ok (.ireturn, 1) := by decide +kernel
def xK_forget : mt_X := (⟨"LeasedPages$Copy", "forget", "()V"⟩, prog_3_method_4_code, 1, (Option.none : Option FieldType))
theorem dK_forget_0 : decode xK_forget.2.1 0 = .ok (.aload_n 0, 1) := by decide +kernel
theorem dK_forget_1 : decode xK_forget.2.1 1 = .ok (.getfield 9, 3) := by decide +kernel
theorem dK_forget_4 : decode xK_forget.2.1 4 = .ok (.iconst 0, 1) := by decide +kernel
theorem dK_forget_5 : decode xK_forget.2.1 5 = .ok (.invokestatic 29, 3) := by decide +kernel
theorem dK_forget_8 : decode xK_forget.2.1 8 = .ok (.aload_n 0, 1) := by decide +kernel
theorem dK_forget_9 : decode xK_forget.2.1 9 = .ok (.iconst 0, 1) := by decide +kernel
theorem dK_forget_10 : decode xK_forget.2.1 10 = .ok (.putfield 15, 3) := by decide +kernel
theorem dK_forget_13 : decode xK_forget.2.1 13 = .ok (.aload_n 0, 1) := by decide +kernel
theorem dK_forget_14 : decode xK_forget.2.1 14 = .ok (.iconst 0, 1) := by decide +kernel
theorem dK_forget_15 : decode xK_forget.2.1 15 = .ok (.putfield 19, 3) := by decide +kernel
theorem dK_forget_18 : decode xK_forget.2.1 18 = .ok (.aload_n 0, 1) := by decide +kernel
theorem dK_forget_19 : decode xK_forget.2.1 19 = .ok (.iconst 0, 1) := by decide +kernel
theorem dK_forget_20 : decode xK_forget.2.1 20 = .ok (.putfield 22, 3) := by decide +kernel
theorem dK_forget_23 : decode xK_forget.2.1 23 = .ok (.aload_n 0, 1) := by decide +kernel
theorem dK_forget_24 : decode xK_forget.2.1 24 = .ok (.iconst 0, 1) := by decide +kernel
theorem dK_forget_25 : decode xK_forget.2.1 25 = .ok (.putfield 26, 3) := by decide +kernel
theorem dK_forget_28 : decode xK_forget.2.1 28 = .ok (.return_, 1) := by decide +kernel
def xQ_init : mt_X := (⟨"LeasedPages$Line", "<init>", "()V"⟩, prog_4_method_1_code, 1, (Option.none : Option FieldType))
theorem dQ_init_0 : decode xQ_init.2.1 0 = .ok (.aload_n 0, 1) := by decide +kernel
theorem dQ_init_1 : decode xQ_init.2.1 1 = .ok (.invokespecial 3, 3) := by decide +kernel
theorem dQ_init_4 : decode xQ_init.2.1 4 = .ok (.aload_n 0, 1) := by decide +kernel
theorem dQ_init_5 : decode xQ_init.2.1 5 = .ok (.iconst 3, 1) := by decide +kernel
theorem dQ_init_6 : decode xQ_init.2.1 6 = .ok (.anewarray 9, 3) := by decide +kernel
theorem dQ_init_9 : decode xQ_init.2.1 9 = .ok (.putfield 11, 3) := by decide +kernel
theorem dQ_init_12 : decode xQ_init.2.1 12 = .ok (.aload_n 0, 1) := by decide +kernel
theorem dQ_init_13 : decode xQ_init.2.1 13 = .ok (.iconst 0, 1) := by decide +kernel
theorem dQ_init_14 : decode xQ_init.2.1 14 = .ok (.putfield 17, 3) := by decide +kernel
theorem dQ_init_17 : decode xQ_init.2.1 17 = .ok (.return_, 1) := by decide +kernel
def xQ_first : mt_X := (⟨"LeasedPages$Line", "first", "()LLeasedPages$Request;"⟩, prog_4_method_2_code, 1, (Option.some (FieldType.object "LeasedPages$Request")))
theorem dQ_first_0 : decode xQ_first.2.1 0 = .ok (.aload_n 0, 1) := by decide +kernel
theorem dQ_first_1 : decode xQ_first.2.1 1 = .ok (.getfield 17, 3) := by decide +kernel
theorem dQ_first_4 : decode xQ_first.2.1 4 = .ok (.ifCond .le 12, 3) := by decide +kernel
theorem dQ_first_7 : decode xQ_first.2.1 7 = .ok (.aload_n 0, 1) := by decide +kernel
theorem dQ_first_8 : decode xQ_first.2.1 8 = .ok (.getfield 11, 3) := by decide +kernel
theorem dQ_first_11 : decode xQ_first.2.1 11 = .ok (.iconst 0, 1) := by decide +kernel
theorem dQ_first_12 : decode xQ_first.2.1 12 = .ok (.aaload, 1) := by decide +kernel
theorem dQ_first_13 : decode xQ_first.2.1 13 = .ok (.goto 4, 3) := by decide +kernel
theorem dQ_first_16 : decode xQ_first.2.1 16 = .ok (.aconst_null, 1) := by decide +kernel
theorem dQ_first_17 : decode xQ_first.2.1 17 = .ok (.areturn, 1) := by decide +kernel
def xQ_ofClient : mt_X := (⟨"LeasedPages$Line", "ofClient", "(I)LLeasedPages$Request;"⟩, prog_4_method_3_code, 3, (Option.some (FieldType.object "LeasedPages$Request")))
theorem dQ_ofClient_0 : decode xQ_ofClient.2.1 0 = .ok (.aload_n 0, 1) := by decide +kernel
theorem dQ_ofClient_1 : decode xQ_ofClient.2.1 1 = .ok (.iload_n 1, 1) := by decide +kernel
theorem dQ_ofClient_2 : decode xQ_ofClient.2.1 2 = .ok (.invokevirtual 21, 3) := by decide +kernel
theorem dQ_ofClient_5 : decode xQ_ofClient.2.1 5 = .ok (.istore_n 2, 1) := by decide +kernel
theorem dQ_ofClient_6 : decode xQ_ofClient.2.1 6 = .ok (.iload_n 2, 1) := by decide +kernel
theorem dQ_ofClient_7 : decode xQ_ofClient.2.1 7 = .ok (.aload_n 0, 1) := by decide +kernel
theorem dQ_ofClient_8 : decode xQ_ofClient.2.1 8 = .ok (.getfield 17, 3) := by decide +kernel
theorem dQ_ofClient_11 : decode xQ_ofClient.2.1 11 = .ok (.if_icmp .ge 12, 3) := by decide +kernel
theorem dQ_ofClient_14 : decode xQ_ofClient.2.1 14 = .ok (.aload_n 0, 1) := by decide +kernel
theorem dQ_ofClient_15 : decode xQ_ofClient.2.1 15 = .ok (.getfield 11, 3) := by decide +kernel
theorem dQ_ofClient_18 : decode xQ_ofClient.2.1 18 = .ok (.iload_n 2, 1) := by decide +kernel
theorem dQ_ofClient_19 : decode xQ_ofClient.2.1 19 = .ok (.aaload, 1) := by decide +kernel
theorem dQ_ofClient_20 : decode xQ_ofClient.2.1 20 = .ok (.goto 4, 3) := by decide +kernel
theorem dQ_ofClient_23 : decode xQ_ofClient.2.1 23 = .ok (.aconst_null, 1) := by decide +kernel
theorem dQ_ofClient_24 : decode xQ_ofClient.2.1 24 = .ok (.areturn, 1) := by decide +kernel
def xQ_add : mt_X := (⟨"LeasedPages$Line", "add", "(LLeasedPages$Request;)V"⟩, prog_4_method_4_code, 2, (Option.none : Option FieldType))
theorem dQ_add_0 : decode xQ_add.2.1 0 = .ok (.aload_n 0, 1) := by decide +kernel
theorem dQ_add_1 : decode xQ_add.2.1 1 = .ok (.getfield 17, 3) := by decide +kernel
theorem dQ_add_4 : decode xQ_add.2.1 4 = .ok (.iconst 3, 1) := by decide +kernel
theorem dQ_add_5 : decode xQ_add.2.1 5 = .ok (.if_icmp .ge 23, 3) := by decide +kernel
theorem dQ_add_8 : decode xQ_add.2.1 8 = .ok (.aload_n 0, 1) := by decide +kernel
theorem dQ_add_9 : decode xQ_add.2.1 9 = .ok (.getfield 11, 3) := by decide +kernel
theorem dQ_add_12 : decode xQ_add.2.1 12 = .ok (.aload_n 0, 1) := by decide +kernel
theorem dQ_add_13 : decode xQ_add.2.1 13 = .ok (.getfield 17, 3) := by decide +kernel
theorem dQ_add_16 : decode xQ_add.2.1 16 = .ok (.aload_n 1, 1) := by decide +kernel
theorem dQ_add_17 : decode xQ_add.2.1 17 = .ok (.aastore, 1) := by decide +kernel
theorem dQ_add_18 : decode xQ_add.2.1 18 = .ok (.aload_n 0, 1) := by decide +kernel
theorem dQ_add_19 : decode xQ_add.2.1 19 = .ok (.dup, 1) := by decide +kernel
theorem dQ_add_20 : decode xQ_add.2.1 20 = .ok (.getfield 17, 3) := by decide +kernel
theorem dQ_add_23 : decode xQ_add.2.1 23 = .ok (.iconst 1, 1) := by decide +kernel
theorem dQ_add_24 : decode xQ_add.2.1 24 = .ok (.iadd, 1) := by decide +kernel
theorem dQ_add_25 : decode xQ_add.2.1 25 = .ok (.putfield 17, 3) := by decide +kernel
theorem dQ_add_28 : decode xQ_add.2.1 28 = .ok (.return_, 1) := by decide +kernel
def xQ_takeOut : mt_X := (⟨"LeasedPages$Line", "takeOut", "(I)V"⟩, prog_4_method_5_code, 4, (Option.none : Option FieldType))
theorem dQ_takeOut_0 : decode xQ_takeOut.2.1 0 = .ok (.aload_n 0, 1) := by decide +kernel
theorem dQ_takeOut_1 : decode xQ_takeOut.2.1 1 = .ok (.iload_n 1, 1) := by decide +kernel
theorem dQ_takeOut_2 : decode xQ_takeOut.2.1 2 = .ok (.invokevirtual 21, 3) := by decide +kernel
theorem dQ_takeOut_5 : decode xQ_takeOut.2.1 5 = .ok (.istore_n 2, 1) := by decide +kernel
theorem dQ_takeOut_6 : decode xQ_takeOut.2.1 6 = .ok (.iload_n 2, 1) := by decide +kernel
theorem dQ_takeOut_7 : decode xQ_takeOut.2.1 7 = .ok (.aload_n 0, 1) := by decide +kernel
theorem dQ_takeOut_8 : decode xQ_takeOut.2.1 8 = .ok (.getfield 17, 3) := by decide +kernel
theorem dQ_takeOut_11 : decode xQ_takeOut.2.1 11 = .ok (.if_icmp .ge 53, 3) := by decide +kernel
theorem dQ_takeOut_14 : decode xQ_takeOut.2.1 14 = .ok (.aload_n 0, 1) := by decide +kernel
theorem dQ_takeOut_15 : decode xQ_takeOut.2.1 15 = .ok (.dup, 1) := by decide +kernel
theorem dQ_takeOut_16 : decode xQ_takeOut.2.1 16 = .ok (.getfield 17, 3) := by decide +kernel
theorem dQ_takeOut_19 : decode xQ_takeOut.2.1 19 = .ok (.iconst 1, 1) := by decide +kernel
theorem dQ_takeOut_20 : decode xQ_takeOut.2.1 20 = .ok (.isub, 1) := by decide +kernel
theorem dQ_takeOut_21 : decode xQ_takeOut.2.1 21 = .ok (.putfield 17, 3) := by decide +kernel
theorem dQ_takeOut_24 : decode xQ_takeOut.2.1 24 = .ok (.iload_n 2, 1) := by decide +kernel
theorem dQ_takeOut_25 : decode xQ_takeOut.2.1 25 = .ok (.istore_n 3, 1) := by decide +kernel
theorem dQ_takeOut_26 : decode xQ_takeOut.2.1 26 = .ok (.iload_n 3, 1) := by decide +kernel
theorem dQ_takeOut_27 : decode xQ_takeOut.2.1 27 = .ok (.aload_n 0, 1) := by decide +kernel
theorem dQ_takeOut_28 : decode xQ_takeOut.2.1 28 = .ok (.getfield 17, 3) := by decide +kernel
theorem dQ_takeOut_31 : decode xQ_takeOut.2.1 31 = .ok (.if_icmp .ge 23, 3) := by decide +kernel
theorem dQ_takeOut_34 : decode xQ_takeOut.2.1 34 = .ok (.aload_n 0, 1) := by decide +kernel
theorem dQ_takeOut_35 : decode xQ_takeOut.2.1 35 = .ok (.getfield 11, 3) := by decide +kernel
theorem dQ_takeOut_38 : decode xQ_takeOut.2.1 38 = .ok (.iload_n 3, 1) := by decide +kernel
theorem dQ_takeOut_39 : decode xQ_takeOut.2.1 39 = .ok (.aload_n 0, 1) := by decide +kernel
theorem dQ_takeOut_40 : decode xQ_takeOut.2.1 40 = .ok (.getfield 11, 3) := by decide +kernel
theorem dQ_takeOut_43 : decode xQ_takeOut.2.1 43 = .ok (.iload_n 3, 1) := by decide +kernel
theorem dQ_takeOut_44 : decode xQ_takeOut.2.1 44 = .ok (.iconst 1, 1) := by decide +kernel
theorem dQ_takeOut_45 : decode xQ_takeOut.2.1 45 = .ok (.iadd, 1) := by decide +kernel
theorem dQ_takeOut_46 : decode xQ_takeOut.2.1 46 = .ok (.aaload, 1) := by decide +kernel
theorem dQ_takeOut_47 : decode xQ_takeOut.2.1 47 = .ok (.aastore, 1) := by decide +kernel
theorem dQ_takeOut_48 : decode xQ_takeOut.2.1 48 = .ok (.iinc 3 1, 3) := by decide +kernel
theorem dQ_takeOut_51 : decode xQ_takeOut.2.1 51 = .ok (.goto (-25), 3) := by decide +kernel
theorem dQ_takeOut_54 : decode xQ_takeOut.2.1 54 = .ok (.aload_n 0, 1) := by decide +kernel
theorem dQ_takeOut_55 : decode xQ_takeOut.2.1 55 = .ok (.getfield 11, 3) := by decide +kernel
theorem dQ_takeOut_58 : decode xQ_takeOut.2.1 58 = .ok (.aload_n 0, 1) := by decide +kernel
theorem dQ_takeOut_59 : decode xQ_takeOut.2.1 59 = .ok (.getfield 17, 3) := by decide +kernel
theorem dQ_takeOut_62 : decode xQ_takeOut.2.1 62 = .ok (.aconst_null, 1) := by decide +kernel
theorem dQ_takeOut_63 : decode xQ_takeOut.2.1 63 = .ok (.aastore, 1) := by decide +kernel
theorem dQ_takeOut_64 : decode xQ_takeOut.2.1 64 = .ok (.return_, 1) := by decide +kernel
def xQ_clear : mt_X := (⟨"LeasedPages$Line", "clear", "()V"⟩, prog_4_method_6_code, 2, (Option.none : Option FieldType))
theorem dQ_clear_0 : decode xQ_clear.2.1 0 = .ok (.iconst 0, 1) := by decide +kernel
theorem dQ_clear_1 : decode xQ_clear.2.1 1 = .ok (.istore_n 1, 1) := by decide +kernel
theorem dQ_clear_2 : decode xQ_clear.2.1 2 = .ok (.iload_n 1, 1) := by decide +kernel
theorem dQ_clear_3 : decode xQ_clear.2.1 3 = .ok (.iconst 3, 1) := by decide +kernel
theorem dQ_clear_4 : decode xQ_clear.2.1 4 = .ok (.if_icmp .ge 16, 3) := by decide +kernel
theorem dQ_clear_7 : decode xQ_clear.2.1 7 = .ok (.aload_n 0, 1) := by decide +kernel
theorem dQ_clear_8 : decode xQ_clear.2.1 8 = .ok (.getfield 11, 3) := by decide +kernel
theorem dQ_clear_11 : decode xQ_clear.2.1 11 = .ok (.iload_n 1, 1) := by decide +kernel
theorem dQ_clear_12 : decode xQ_clear.2.1 12 = .ok (.aconst_null, 1) := by decide +kernel
theorem dQ_clear_13 : decode xQ_clear.2.1 13 = .ok (.aastore, 1) := by decide +kernel
theorem dQ_clear_14 : decode xQ_clear.2.1 14 = .ok (.iinc 1 1, 3) := by decide +kernel
theorem dQ_clear_17 : decode xQ_clear.2.1 17 = .ok (.goto (-15), 3) := by decide +kernel
theorem dQ_clear_20 : decode xQ_clear.2.1 20 = .ok (.aload_n 0, 1) := by decide +kernel
theorem dQ_clear_21 : decode xQ_clear.2.1 21 = .ok (.iconst 0, 1) := by decide +kernel
theorem dQ_clear_22 : decode xQ_clear.2.1 22 = .ok (.putfield 17, 3) := by decide +kernel
theorem dQ_clear_25 : decode xQ_clear.2.1 25 = .ok (.return_, 1) := by decide +kernel
def xQ_placeOf : mt_X := (⟨"LeasedPages$Line", "placeOf", "(I)I"⟩, prog_4_method_7_code, 3, (Option.some FieldType.int))
theorem dQ_placeOf_0 : decode xQ_placeOf.2.1 0 = .ok (.iconst 0, 1) := by decide +kernel
theorem dQ_placeOf_1 : decode xQ_placeOf.2.1 1 = .ok (.istore_n 2, 1) := by decide +kernel
theorem dQ_placeOf_2 : decode xQ_placeOf.2.1 2 = .ok (.iload_n 2, 1) := by decide +kernel
theorem dQ_placeOf_3 : decode xQ_placeOf.2.1 3 = .ok (.aload_n 0, 1) := by decide +kernel
theorem dQ_placeOf_4 : decode xQ_placeOf.2.1 4 = .ok (.getfield 17, 3) := by decide +kernel
theorem dQ_placeOf_7 : decode xQ_placeOf.2.1 7 = .ok (.if_icmp .ge 24, 3) := by decide +kernel
theorem dQ_placeOf_10 : decode xQ_placeOf.2.1 10 = .ok (.aload_n 0, 1) := by decide +kernel
theorem dQ_placeOf_11 : decode xQ_placeOf.2.1 11 = .ok (.getfield 11, 3) := by decide +kernel
theorem dQ_placeOf_14 : decode xQ_placeOf.2.1 14 = .ok (.iload_n 2, 1) := by decide +kernel
theorem dQ_placeOf_15 : decode xQ_placeOf.2.1 15 = .ok (.aaload, 1) := by decide +kernel
theorem dQ_placeOf_16 : decode xQ_placeOf.2.1 16 = .ok (.getfield 25, 3) := by decide +kernel
theorem dQ_placeOf_19 : decode xQ_placeOf.2.1 19 = .ok (.iload_n 1, 1) := by decide +kernel
theorem dQ_placeOf_20 : decode xQ_placeOf.2.1 20 = .ok (.if_icmp .ne 5, 3) := by decide +kernel
theorem dQ_placeOf_23 : decode xQ_placeOf.2.1 23 = .ok (.iload_n 2, 1) := by decide +kernel
theorem dQ_placeOf_24 : decode xQ_placeOf.2.1 24 = .ok (.ireturn, 1) := by decide +kernel
theorem dQ_placeOf_25 : decode xQ_placeOf.2.1 25 = .ok (.iinc 2 1, 3) := by decide +kernel
theorem dQ_placeOf_28 : decode xQ_placeOf.2.1 28 = .ok (.goto (-26), 3) := by decide +kernel
theorem dQ_placeOf_31 : decode xQ_placeOf.2.1 31 = .ok (.aload_n 0, 1) := by decide +kernel
theorem dQ_placeOf_32 : decode xQ_placeOf.2.1 32 = .ok (.getfield 17, 3) := by decide +kernel
theorem dQ_placeOf_35 : decode xQ_placeOf.2.1 35 = .ok (.ireturn, 1) := by decide +kernel
def xG_init : mt_X := (⟨"LeasedPages$Message", "<init>", "(IIII)V"⟩, prog_5_method_1_code, 5, (Option.none : Option FieldType))
theorem dG_init_0 : decode xG_init.2.1 0 = .ok (.aload_n 0, 1) := by decide +kernel
theorem dG_init_1 : decode xG_init.2.1 1 = .ok (.invokespecial 1, 3) := by decide +kernel
theorem dG_init_4 : decode xG_init.2.1 4 = .ok (.aload_n 0, 1) := by decide +kernel
theorem dG_init_5 : decode xG_init.2.1 5 = .ok (.iload_n 1, 1) := by decide +kernel
theorem dG_init_6 : decode xG_init.2.1 6 = .ok (.putfield 7, 3) := by decide +kernel
theorem dG_init_9 : decode xG_init.2.1 9 = .ok (.aload_n 0, 1) := by decide +kernel
theorem dG_init_10 : decode xG_init.2.1 10 = .ok (.iload_n 2, 1) := by decide +kernel
theorem dG_init_11 : decode xG_init.2.1 11 = .ok (.putfield 13, 3) := by decide +kernel
theorem dG_init_14 : decode xG_init.2.1 14 = .ok (.aload_n 0, 1) := by decide +kernel
theorem dG_init_15 : decode xG_init.2.1 15 = .ok (.iload_n 3, 1) := by decide +kernel
theorem dG_init_16 : decode xG_init.2.1 16 = .ok (.putfield 16, 3) := by decide +kernel
theorem dG_init_19 : decode xG_init.2.1 19 = .ok (.aload_n 0, 1) := by decide +kernel
theorem dG_init_20 : decode xG_init.2.1 20 = .ok (.iload 4, 2) := by decide +kernel
theorem dG_init_22 : decode xG_init.2.1 22 = .ok (.putfield 19, 3) := by decide +kernel
theorem dG_init_25 : decode xG_init.2.1 25 = .ok (.return_, 1) := by decide +kernel
def xG_code : mt_X := (⟨"LeasedPages$Message", "code", "()I"⟩, prog_5_method_2_code, 1, (Option.some FieldType.int))
theorem dG_code_0 : decode xG_code.2.1 0 = .ok (.ldc 22, 2) := by decide +kernel
theorem dG_code_2 : decode xG_code.2.1 2 = .ok (.aload_n 0, 1) := by decide +kernel
theorem dG_code_3 : decode xG_code.2.1 3 = .ok (.getfield 7, 3) := by decide +kernel
theorem dG_code_6 : decode xG_code.2.1 6 = .ok (.imul, 1) := by decide +kernel
theorem dG_code_7 : decode xG_code.2.1 7 = .ok (.ldc 23, 2) := by decide +kernel
theorem dG_code_9 : decode xG_code.2.1 9 = .ok (.aload_n 0, 1) := by decide +kernel
theorem dG_code_10 : decode xG_code.2.1 10 = .ok (.getfield 13, 3) := by decide +kernel
theorem dG_code_13 : decode xG_code.2.1 13 = .ok (.imul, 1) := by decide +kernel
theorem dG_code_14 : decode xG_code.2.1 14 = .ok (.iadd, 1) := by decide +kernel
theorem dG_code_15 : decode xG_code.2.1 15 = .ok (.sipush 10000, 3) := by decide +kernel
theorem dG_code_18 : decode xG_code.2.1 18 = .ok (.aload_n 0, 1) := by decide +kernel
theorem dG_code_19 : decode xG_code.2.1 19 = .ok (.getfield 16, 3) := by decide +kernel
theorem dG_code_22 : decode xG_code.2.1 22 = .ok (.imul, 1) := by decide +kernel
theorem dG_code_23 : decode xG_code.2.1 23 = .ok (.iadd, 1) := by decide +kernel
theorem dG_code_24 : decode xG_code.2.1 24 = .ok (.aload_n 0, 1) := by decide +kernel
theorem dG_code_25 : decode xG_code.2.1 25 = .ok (.getfield 19, 3) := by decide +kernel
theorem dG_code_28 : decode xG_code.2.1 28 = .ok (.iadd, 1) := by decide +kernel
theorem dG_code_29 : decode xG_code.2.1 29 = .ok (.ireturn, 1) := by decide +kernel
def xN_init : mt_X := (⟨"LeasedPages$Network", "<init>", "()V"⟩, prog_6_method_1_code, 1, (Option.none : Option FieldType))
theorem dN_init_0 : decode xN_init.2.1 0 = .ok (.aload_n 0, 1) := by decide +kernel
theorem dN_init_1 : decode xN_init.2.1 1 = .ok (.invokespecial 3, 3) := by decide +kernel
theorem dN_init_4 : decode xN_init.2.1 4 = .ok (.aload_n 0, 1) := by decide +kernel
theorem dN_init_5 : decode xN_init.2.1 5 = .ok (.bipush 60, 2) := by decide +kernel
theorem dN_init_7 : decode xN_init.2.1 7 = .ok (.anewarray 9, 3) := by decide +kernel
theorem dN_init_10 : decode xN_init.2.1 10 = .ok (.putfield 11, 3) := by decide +kernel
theorem dN_init_13 : decode xN_init.2.1 13 = .ok (.aload_n 0, 1) := by decide +kernel
theorem dN_init_14 : decode xN_init.2.1 14 = .ok (.iconst 0, 1) := by decide +kernel
theorem dN_init_15 : decode xN_init.2.1 15 = .ok (.putfield 17, 3) := by decide +kernel
theorem dN_init_18 : decode xN_init.2.1 18 = .ok (.return_, 1) := by decide +kernel
def xN_send : mt_X := (⟨"LeasedPages$Network", "send", "(LLeasedPages$Message;)Z"⟩, prog_6_method_2_code, 2, (Option.some FieldType.boolean))
theorem dN_send_0 : decode xN_send.2.1 0 = .ok (.aload_n 0, 1) := by decide +kernel
theorem dN_send_1 : decode xN_send.2.1 1 = .ok (.getfield 17, 3) := by decide +kernel
theorem dN_send_4 : decode xN_send.2.1 4 = .ok (.bipush 60, 2) := by decide +kernel
theorem dN_send_6 : decode xN_send.2.1 6 = .ok (.if_icmp .lt 5, 3) := by decide +kernel
theorem dN_send_9 : decode xN_send.2.1 9 = .ok (.iconst 0, 1) := by decide +kernel
theorem dN_send_10 : decode xN_send.2.1 10 = .ok (.ireturn, 1) := by decide +kernel
theorem dN_send_11 : decode xN_send.2.1 11 = .ok (.aload_n 0, 1) := by decide +kernel
theorem dN_send_12 : decode xN_send.2.1 12 = .ok (.getfield 11, 3) := by decide +kernel
theorem dN_send_15 : decode xN_send.2.1 15 = .ok (.aload_n 0, 1) := by decide +kernel
theorem dN_send_16 : decode xN_send.2.1 16 = .ok (.getfield 17, 3) := by decide +kernel
theorem dN_send_19 : decode xN_send.2.1 19 = .ok (.aload_n 1, 1) := by decide +kernel
theorem dN_send_20 : decode xN_send.2.1 20 = .ok (.aastore, 1) := by decide +kernel
theorem dN_send_21 : decode xN_send.2.1 21 = .ok (.aload_n 0, 1) := by decide +kernel
theorem dN_send_22 : decode xN_send.2.1 22 = .ok (.dup, 1) := by decide +kernel
theorem dN_send_23 : decode xN_send.2.1 23 = .ok (.getfield 17, 3) := by decide +kernel
theorem dN_send_26 : decode xN_send.2.1 26 = .ok (.iconst 1, 1) := by decide +kernel
theorem dN_send_27 : decode xN_send.2.1 27 = .ok (.iadd, 1) := by decide +kernel
theorem dN_send_28 : decode xN_send.2.1 28 = .ok (.putfield 17, 3) := by decide +kernel
theorem dN_send_31 : decode xN_send.2.1 31 = .ok (.iconst 1, 1) := by decide +kernel
theorem dN_send_32 : decode xN_send.2.1 32 = .ok (.ireturn, 1) := by decide +kernel
def xN_at : mt_X := (⟨"LeasedPages$Network", "at", "(I)LLeasedPages$Message;"⟩, prog_6_method_3_code, 2, (Option.some (FieldType.object "LeasedPages$Message")))
theorem dN_at_0 : decode xN_at.2.1 0 = .ok (.iload_n 1, 1) := by decide +kernel
theorem dN_at_1 : decode xN_at.2.1 1 = .ok (.ifCond .lt 20, 3) := by decide +kernel
theorem dN_at_4 : decode xN_at.2.1 4 = .ok (.iload_n 1, 1) := by decide +kernel
theorem dN_at_5 : decode xN_at.2.1 5 = .ok (.aload_n 0, 1) := by decide +kernel
theorem dN_at_6 : decode xN_at.2.1 6 = .ok (.getfield 17, 3) := by decide +kernel
theorem dN_at_9 : decode xN_at.2.1 9 = .ok (.if_icmp .ge 12, 3) := by decide +kernel
theorem dN_at_12 : decode xN_at.2.1 12 = .ok (.aload_n 0, 1) := by decide +kernel
theorem dN_at_13 : decode xN_at.2.1 13 = .ok (.getfield 11, 3) := by decide +kernel
theorem dN_at_16 : decode xN_at.2.1 16 = .ok (.iload_n 1, 1) := by decide +kernel
theorem dN_at_17 : decode xN_at.2.1 17 = .ok (.aaload, 1) := by decide +kernel
theorem dN_at_18 : decode xN_at.2.1 18 = .ok (.goto 4, 3) := by decide +kernel
theorem dN_at_21 : decode xN_at.2.1 21 = .ok (.aconst_null, 1) := by decide +kernel
theorem dN_at_22 : decode xN_at.2.1 22 = .ok (.areturn, 1) := by decide +kernel
def xN_takeOut : mt_X := (⟨"LeasedPages$Network", "takeOut", "(I)LLeasedPages$Message;"⟩, prog_6_method_4_code, 4, (Option.some (FieldType.object "LeasedPages$Message")))
theorem dN_takeOut_0 : decode xN_takeOut.2.1 0 = .ok (.aload_n 0, 1) := by decide +kernel
theorem dN_takeOut_1 : decode xN_takeOut.2.1 1 = .ok (.iload_n 1, 1) := by decide +kernel
theorem dN_takeOut_2 : decode xN_takeOut.2.1 2 = .ok (.invokevirtual 21, 3) := by decide +kernel
theorem dN_takeOut_5 : decode xN_takeOut.2.1 5 = .ok (.astore_n 2, 1) := by decide +kernel
theorem dN_takeOut_6 : decode xN_takeOut.2.1 6 = .ok (.aload_n 2, 1) := by decide +kernel
theorem dN_takeOut_7 : decode xN_takeOut.2.1 7 = .ok (.ifnull 53, 3) := by decide +kernel
theorem dN_takeOut_10 : decode xN_takeOut.2.1 10 = .ok (.aload_n 0, 1) := by decide +kernel
theorem dN_takeOut_11 : decode xN_takeOut.2.1 11 = .ok (.dup, 1) := by decide +kernel
theorem dN_takeOut_12 : decode xN_takeOut.2.1 12 = .ok (.getfield 17, 3) := by decide +kernel
theorem dN_takeOut_15 : decode xN_takeOut.2.1 15 = .ok (.iconst 1, 1) := by decide +kernel
theorem dN_takeOut_16 : decode xN_takeOut.2.1 16 = .ok (.isub, 1) := by decide +kernel
theorem dN_takeOut_17 : decode xN_takeOut.2.1 17 = .ok (.putfield 17, 3) := by decide +kernel
theorem dN_takeOut_20 : decode xN_takeOut.2.1 20 = .ok (.iload_n 1, 1) := by decide +kernel
theorem dN_takeOut_21 : decode xN_takeOut.2.1 21 = .ok (.istore_n 3, 1) := by decide +kernel
theorem dN_takeOut_22 : decode xN_takeOut.2.1 22 = .ok (.iload_n 3, 1) := by decide +kernel
theorem dN_takeOut_23 : decode xN_takeOut.2.1 23 = .ok (.aload_n 0, 1) := by decide +kernel
theorem dN_takeOut_24 : decode xN_takeOut.2.1 24 = .ok (.getfield 17, 3) := by decide +kernel
theorem dN_takeOut_27 : decode xN_takeOut.2.1 27 = .ok (.if_icmp .ge 23, 3) := by decide +kernel
theorem dN_takeOut_30 : decode xN_takeOut.2.1 30 = .ok (.aload_n 0, 1) := by decide +kernel
theorem dN_takeOut_31 : decode xN_takeOut.2.1 31 = .ok (.getfield 11, 3) := by decide +kernel
theorem dN_takeOut_34 : decode xN_takeOut.2.1 34 = .ok (.iload_n 3, 1) := by decide +kernel
theorem dN_takeOut_35 : decode xN_takeOut.2.1 35 = .ok (.aload_n 0, 1) := by decide +kernel
theorem dN_takeOut_36 : decode xN_takeOut.2.1 36 = .ok (.getfield 11, 3) := by decide +kernel
theorem dN_takeOut_39 : decode xN_takeOut.2.1 39 = .ok (.iload_n 3, 1) := by decide +kernel
theorem dN_takeOut_40 : decode xN_takeOut.2.1 40 = .ok (.iconst 1, 1) := by decide +kernel
theorem dN_takeOut_41 : decode xN_takeOut.2.1 41 = .ok (.iadd, 1) := by decide +kernel
theorem dN_takeOut_42 : decode xN_takeOut.2.1 42 = .ok (.aaload, 1) := by decide +kernel
theorem dN_takeOut_43 : decode xN_takeOut.2.1 43 = .ok (.aastore, 1) := by decide +kernel
theorem dN_takeOut_44 : decode xN_takeOut.2.1 44 = .ok (.iinc 3 1, 3) := by decide +kernel
theorem dN_takeOut_47 : decode xN_takeOut.2.1 47 = .ok (.goto (-25), 3) := by decide +kernel
theorem dN_takeOut_50 : decode xN_takeOut.2.1 50 = .ok (.aload_n 0, 1) := by decide +kernel
theorem dN_takeOut_51 : decode xN_takeOut.2.1 51 = .ok (.getfield 11, 3) := by decide +kernel
theorem dN_takeOut_54 : decode xN_takeOut.2.1 54 = .ok (.aload_n 0, 1) := by decide +kernel
theorem dN_takeOut_55 : decode xN_takeOut.2.1 55 = .ok (.getfield 17, 3) := by decide +kernel
theorem dN_takeOut_58 : decode xN_takeOut.2.1 58 = .ok (.aconst_null, 1) := by decide +kernel
theorem dN_takeOut_59 : decode xN_takeOut.2.1 59 = .ok (.aastore, 1) := by decide +kernel
theorem dN_takeOut_60 : decode xN_takeOut.2.1 60 = .ok (.aload_n 2, 1) := by decide +kernel
theorem dN_takeOut_61 : decode xN_takeOut.2.1 61 = .ok (.areturn, 1) := by decide +kernel
def xP_init : mt_X := (⟨"LeasedPages$Reply", "<init>", "(ILLeasedPages$Request;Z[I)V"⟩, prog_7_method_1_code, 5, (Option.none : Option FieldType))
theorem dP_init_0 : decode xP_init.2.1 0 = .ok (.aload_n 0, 1) := by decide +kernel
theorem dP_init_1 : decode xP_init.2.1 1 = .ok (.iload_n 1, 1) := by decide +kernel
theorem dP_init_2 : decode xP_init.2.1 2 = .ok (.aload_n 2, 1) := by decide +kernel
theorem dP_init_3 : decode xP_init.2.1 3 = .ok (.getfield 1, 3) := by decide +kernel
theorem dP_init_6 : decode xP_init.2.1 6 = .ok (.aload_n 2, 1) := by decide +kernel
theorem dP_init_7 : decode xP_init.2.1 7 = .ok (.getfield 7, 3) := by decide +kernel
theorem dP_init_10 : decode xP_init.2.1 10 = .ok (.aload_n 2, 1) := by decide +kernel
theorem dP_init_11 : decode xP_init.2.1 11 = .ok (.getfield 10, 3) := by decide +kernel
theorem dP_init_14 : decode xP_init.2.1 14 = .ok (.invokespecial 13, 3) := by decide +kernel
theorem dP_init_17 : decode xP_init.2.1 17 = .ok (.aload_n 0, 1) := by decide +kernel
theorem dP_init_18 : decode xP_init.2.1 18 = .ok (.aload_n 2, 1) := by decide +kernel
theorem dP_init_19 : decode xP_init.2.1 19 = .ok (.getfield 19, 3) := by decide +kernel
theorem dP_init_22 : decode xP_init.2.1 22 = .ok (.putfield 22, 3) := by decide +kernel
theorem dP_init_25 : decode xP_init.2.1 25 = .ok (.aload_n 0, 1) := by decide +kernel
theorem dP_init_26 : decode xP_init.2.1 26 = .ok (.iload_n 3, 1) := by decide +kernel
theorem dP_init_27 : decode xP_init.2.1 27 = .ok (.putfield 25, 3) := by decide +kernel
theorem dP_init_30 : decode xP_init.2.1 30 = .ok (.aload_n 0, 1) := by decide +kernel
theorem dP_init_31 : decode xP_init.2.1 31 = .ok (.aload 4, 2) := by decide +kernel
theorem dP_init_33 : decode xP_init.2.1 33 = .ok (.putfield 29, 3) := by decide +kernel
theorem dP_init_36 : decode xP_init.2.1 36 = .ok (.return_, 1) := by decide +kernel
def xR_init : mt_X := (⟨"LeasedPages$Request", "<init>", "(IIII)V"⟩, prog_8_method_1_code, 5, (Option.none : Option FieldType))
theorem dR_init_0 : decode xR_init.2.1 0 = .ok (.aload_n 0, 1) := by decide +kernel
theorem dR_init_1 : decode xR_init.2.1 1 = .ok (.iload_n 1, 1) := by decide +kernel
theorem dR_init_2 : decode xR_init.2.1 2 = .ok (.iload_n 2, 1) := by decide +kernel
theorem dR_init_3 : decode xR_init.2.1 3 = .ok (.iload_n 3, 1) := by decide +kernel
theorem dR_init_4 : decode xR_init.2.1 4 = .ok (.iload 4, 2) := by decide +kernel
theorem dR_init_6 : decode xR_init.2.1 6 = .ok (.invokespecial 3, 3) := by decide +kernel
theorem dR_init_9 : decode xR_init.2.1 9 = .ok (.return_, 1) := by decide +kernel
def xR_forLease : mt_X := (⟨"LeasedPages$Request", "forLease", "(IIIIZ)LLeasedPages$Request;"⟩, prog_8_method_2_code, 6, (Option.some (FieldType.object "LeasedPages$Request")))
theorem dR_forLease_0 : decode xR_forLease.2.1 0 = .ok (.new 9, 3) := by decide +kernel
theorem dR_forLease_3 : decode xR_forLease.2.1 3 = .ok (.dup, 1) := by decide +kernel
theorem dR_forLease_4 : decode xR_forLease.2.1 4 = .ok (.iconst 1, 1) := by decide +kernel
theorem dR_forLease_5 : decode xR_forLease.2.1 5 = .ok (.iload_n 0, 1) := by decide +kernel
theorem dR_forLease_6 : decode xR_forLease.2.1 6 = .ok (.iload_n 1, 1) := by decide +kernel
theorem dR_forLease_7 : decode xR_forLease.2.1 7 = .ok (.iload_n 2, 1) := by decide +kernel
theorem dR_forLease_8 : decode xR_forLease.2.1 8 = .ok (.invokespecial 11, 3) := by decide +kernel
theorem dR_forLease_11 : decode xR_forLease.2.1 11 = .ok (.astore 5, 2) := by decide +kernel
theorem dR_forLease_13 : decode xR_forLease.2.1 13 = .ok (.aload 5, 2) := by decide +kernel
theorem dR_forLease_15 : decode xR_forLease.2.1 15 = .ok (.iload_n 3, 1) := by decide +kernel
theorem dR_forLease_16 : decode xR_forLease.2.1 16 = .ok (.putfield 12, 3) := by decide +kernel
theorem dR_forLease_19 : decode xR_forLease.2.1 19 = .ok (.aload 5, 2) := by decide +kernel
theorem dR_forLease_21 : decode xR_forLease.2.1 21 = .ok (.iload 4, 2) := by decide +kernel
theorem dR_forLease_23 : decode xR_forLease.2.1 23 = .ok (.putfield 16, 3) := by decide +kernel
theorem dR_forLease_26 : decode xR_forLease.2.1 26 = .ok (.aload 5, 2) := by decide +kernel
theorem dR_forLease_28 : decode xR_forLease.2.1 28 = .ok (.areturn, 1) := by decide +kernel
def xR_forStore : mt_X := (⟨"LeasedPages$Request", "forStore", "(IILLeasedPages$Write;)LLeasedPages$Request;"⟩, prog_8_method_3_code, 4, (Option.some (FieldType.object "LeasedPages$Request")))
theorem dR_forStore_0 : decode xR_forStore.2.1 0 = .ok (.new 9, 3) := by decide +kernel
theorem dR_forStore_3 : decode xR_forStore.2.1 3 = .ok (.dup, 1) := by decide +kernel
theorem dR_forStore_4 : decode xR_forStore.2.1 4 = .ok (.iconst 2, 1) := by decide +kernel
theorem dR_forStore_5 : decode xR_forStore.2.1 5 = .ok (.iload_n 0, 1) := by decide +kernel
theorem dR_forStore_6 : decode xR_forStore.2.1 6 = .ok (.aload_n 2, 1) := by decide +kernel
theorem dR_forStore_7 : decode xR_forStore.2.1 7 = .ok (.getfield 20, 3) := by decide +kernel
theorem dR_forStore_10 : decode xR_forStore.2.1 10 = .ok (.iload_n 1, 1) := by decide +kernel
theorem dR_forStore_11 : decode xR_forStore.2.1 11 = .ok (.invokespecial 11, 3) := by decide +kernel
theorem dR_forStore_14 : decode xR_forStore.2.1 14 = .ok (.astore_n 3, 1) := by decide +kernel
theorem dR_forStore_15 : decode xR_forStore.2.1 15 = .ok (.aload_n 3, 1) := by decide +kernel
theorem dR_forStore_16 : decode xR_forStore.2.1 16 = .ok (.aload_n 2, 1) := by decide +kernel
theorem dR_forStore_17 : decode xR_forStore.2.1 17 = .ok (.getfield 25, 3) := by decide +kernel
theorem dR_forStore_20 : decode xR_forStore.2.1 20 = .ok (.putfield 28, 3) := by decide +kernel
theorem dR_forStore_23 : decode xR_forStore.2.1 23 = .ok (.aload_n 3, 1) := by decide +kernel
theorem dR_forStore_24 : decode xR_forStore.2.1 24 = .ok (.aload_n 2, 1) := by decide +kernel
theorem dR_forStore_25 : decode xR_forStore.2.1 25 = .ok (.getfield 29, 3) := by decide +kernel
theorem dR_forStore_28 : decode xR_forStore.2.1 28 = .ok (.putfield 32, 3) := by decide +kernel
theorem dR_forStore_31 : decode xR_forStore.2.1 31 = .ok (.aload_n 3, 1) := by decide +kernel
theorem dR_forStore_32 : decode xR_forStore.2.1 32 = .ok (.areturn, 1) := by decide +kernel
def xR_forRelease : mt_X := (⟨"LeasedPages$Request", "forRelease", "(III)LLeasedPages$Request;"⟩, prog_8_method_4_code, 3, (Option.some (FieldType.object "LeasedPages$Request")))
theorem dR_forRelease_0 : decode xR_forRelease.2.1 0 = .ok (.new 9, 3) := by decide +kernel
theorem dR_forRelease_3 : decode xR_forRelease.2.1 3 = .ok (.dup, 1) := by decide +kernel
theorem dR_forRelease_4 : decode xR_forRelease.2.1 4 = .ok (.iconst 3, 1) := by decide +kernel
theorem dR_forRelease_5 : decode xR_forRelease.2.1 5 = .ok (.iload_n 0, 1) := by decide +kernel
theorem dR_forRelease_6 : decode xR_forRelease.2.1 6 = .ok (.iload_n 1, 1) := by decide +kernel
theorem dR_forRelease_7 : decode xR_forRelease.2.1 7 = .ok (.iload_n 2, 1) := by decide +kernel
theorem dR_forRelease_8 : decode xR_forRelease.2.1 8 = .ok (.invokespecial 11, 3) := by decide +kernel
theorem dR_forRelease_11 : decode xR_forRelease.2.1 11 = .ok (.areturn, 1) := by decide +kernel
def xW_init : mt_X := (⟨"LeasedPages$Write", "<init>", "(III)V"⟩, prog_10_method_1_code, 4, (Option.none : Option FieldType))
theorem dW_init_0 : decode xW_init.2.1 0 = .ok (.aload_n 0, 1) := by decide +kernel
theorem dW_init_1 : decode xW_init.2.1 1 = .ok (.invokespecial 1, 3) := by decide +kernel
theorem dW_init_4 : decode xW_init.2.1 4 = .ok (.aload_n 0, 1) := by decide +kernel
theorem dW_init_5 : decode xW_init.2.1 5 = .ok (.iload_n 1, 1) := by decide +kernel
theorem dW_init_6 : decode xW_init.2.1 6 = .ok (.putfield 7, 3) := by decide +kernel
theorem dW_init_9 : decode xW_init.2.1 9 = .ok (.aload_n 0, 1) := by decide +kernel
theorem dW_init_10 : decode xW_init.2.1 10 = .ok (.iload_n 2, 1) := by decide +kernel
theorem dW_init_11 : decode xW_init.2.1 11 = .ok (.putfield 13, 3) := by decide +kernel
theorem dW_init_14 : decode xW_init.2.1 14 = .ok (.aload_n 0, 1) := by decide +kernel
theorem dW_init_15 : decode xW_init.2.1 15 = .ok (.iload_n 3, 1) := by decide +kernel
theorem dW_init_16 : decode xW_init.2.1 16 = .ok (.putfield 16, 3) := by decide +kernel
theorem dW_init_19 : decode xW_init.2.1 19 = .ok (.return_, 1) := by decide +kernel
def xA_fill : mt_X := (⟨"java/util/Arrays", "fill", "([II)V"⟩, prog_16_method_103_code, 4, (Option.none : Option FieldType))
theorem dA_fill_0 : decode xA_fill.2.1 0 = .ok (.iconst 0, 1) := by decide +kernel
theorem dA_fill_1 : decode xA_fill.2.1 1 = .ok (.istore_n 2, 1) := by decide +kernel
theorem dA_fill_2 : decode xA_fill.2.1 2 = .ok (.aload_n 0, 1) := by decide +kernel
theorem dA_fill_3 : decode xA_fill.2.1 3 = .ok (.arraylength, 1) := by decide +kernel
theorem dA_fill_4 : decode xA_fill.2.1 4 = .ok (.istore_n 3, 1) := by decide +kernel
theorem dA_fill_5 : decode xA_fill.2.1 5 = .ok (.iload_n 2, 1) := by decide +kernel
theorem dA_fill_6 : decode xA_fill.2.1 6 = .ok (.iload_n 3, 1) := by decide +kernel
theorem dA_fill_7 : decode xA_fill.2.1 7 = .ok (.if_icmp .ge 13, 3) := by decide +kernel
theorem dA_fill_10 : decode xA_fill.2.1 10 = .ok (.aload_n 0, 1) := by decide +kernel
theorem dA_fill_11 : decode xA_fill.2.1 11 = .ok (.iload_n 2, 1) := by decide +kernel
theorem dA_fill_12 : decode xA_fill.2.1 12 = .ok (.iload_n 1, 1) := by decide +kernel
theorem dA_fill_13 : decode xA_fill.2.1 13 = .ok (.iastore, 1) := by decide +kernel
theorem dA_fill_14 : decode xA_fill.2.1 14 = .ok (.iinc 2 1, 3) := by decide +kernel
theorem dA_fill_17 : decode xA_fill.2.1 17 = .ok (.goto (-12), 3) := by decide +kernel
theorem dA_fill_20 : decode xA_fill.2.1 20 = .ok (.return_, 1) := by decide +kernel
