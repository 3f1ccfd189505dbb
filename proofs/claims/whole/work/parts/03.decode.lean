theorem dX1_init_0 : decode cX1_init 0 = .ok (.aload_n 0, 1) := by decide +kernel
theorem dX1_init_1 : decode cX1_init 1 = .ok (.invokespecial 3, 3) := by decide +kernel
theorem dX1_init_4 : decode cX1_init 4 = .ok (.aload_n 0, 1) := by decide +kernel
theorem dX1_init_5 : decode cX1_init 5 = .ok (.sipush 150, 3) := by decide +kernel
theorem dX1_init_8 : decode cX1_init 8 = .ok (.newarray .int, 2) := by decide +kernel
theorem dX1_init_10 : decode cX1_init 10 = .ok (.putfield 9, 3) := by decide +kernel
theorem dX1_init_13 : decode cX1_init 13 = .ok (.aload_n 0, 1) := by decide +kernel
theorem dX1_init_14 : decode cX1_init 14 = .ok (.iconst 0, 1) := by decide +kernel
theorem dX1_init_15 : decode cX1_init 15 = .ok (.putfield 15, 3) := by decide +kernel
theorem dX1_init_18 : decode cX1_init 18 = .ok (.aload_n 0, 1) := by decide +kernel
theorem dX1_init_19 : decode cX1_init 19 = .ok (.iconst 0, 1) := by decide +kernel
theorem dX1_init_20 : decode cX1_init 20 = .ok (.putfield 19, 3) := by decide +kernel
theorem dX1_init_23 : decode cX1_init 23 = .ok (.aload_n 0, 1) := by decide +kernel
theorem dX1_init_24 : decode cX1_init 24 = .ok (.iconst (-1), 1) := by decide +kernel
theorem dX1_init_25 : decode cX1_init 25 = .ok (.putfield 22, 3) := by decide +kernel
theorem dX1_init_28 : decode cX1_init 28 = .ok (.aload_n 0, 1) := by decide +kernel
theorem dX1_init_29 : decode cX1_init 29 = .ok (.aconst_null, 1) := by decide +kernel
theorem dX1_init_30 : decode cX1_init 30 = .ok (.putfield 25, 3) := by decide +kernel
theorem dX1_init_33 : decode cX1_init 33 = .ok (.aload_n 0, 1) := by decide +kernel
theorem dX1_init_34 : decode cX1_init 34 = .ok (.iconst 0, 1) := by decide +kernel
theorem dX1_init_35 : decode cX1_init 35 = .ok (.putfield 29, 3) := by decide +kernel
theorem dX1_init_38 : decode cX1_init 38 = .ok (.aload_n 0, 1) := by decide +kernel
theorem dX1_init_39 : decode cX1_init 39 = .ok (.iconst 0, 1) := by decide +kernel
theorem dX1_init_40 : decode cX1_init 40 = .ok (.putfield 32, 3) := by decide +kernel
theorem dX1_init_43 : decode cX1_init 43 = .ok (.return_, 1) := by decide +kernel
theorem dX1_append_0 : decode cX1_append 0 = .ok (.aload_n 0, 1) := by decide +kernel
theorem dX1_append_1 : decode cX1_append 1 = .ok (.getfield 15, 3) := by decide +kernel
theorem dX1_append_4 : decode cX1_append 4 = .ok (.sipush 150, 3) := by decide +kernel
theorem dX1_append_7 : decode cX1_append 7 = .ok (.if_icmp .ge 23, 3) := by decide +kernel
theorem dX1_append_10 : decode cX1_append 10 = .ok (.aload_n 0, 1) := by decide +kernel
theorem dX1_append_11 : decode cX1_append 11 = .ok (.getfield 9, 3) := by decide +kernel
theorem dX1_append_14 : decode cX1_append 14 = .ok (.aload_n 0, 1) := by decide +kernel
theorem dX1_append_15 : decode cX1_append 15 = .ok (.getfield 15, 3) := by decide +kernel
theorem dX1_append_18 : decode cX1_append 18 = .ok (.iload_n 1, 1) := by decide +kernel
theorem dX1_append_19 : decode cX1_append 19 = .ok (.iastore, 1) := by decide +kernel
theorem dX1_append_20 : decode cX1_append 20 = .ok (.aload_n 0, 1) := by decide +kernel
theorem dX1_append_21 : decode cX1_append 21 = .ok (.dup, 1) := by decide +kernel
theorem dX1_append_22 : decode cX1_append 22 = .ok (.getfield 15, 3) := by decide +kernel
theorem dX1_append_25 : decode cX1_append 25 = .ok (.iconst 1, 1) := by decide +kernel
theorem dX1_append_26 : decode cX1_append 26 = .ok (.iadd, 1) := by decide +kernel
theorem dX1_append_27 : decode cX1_append 27 = .ok (.putfield 15, 3) := by decide +kernel
theorem dX1_append_30 : decode cX1_append 30 = .ok (.return_, 1) := by decide +kernel
theorem dX1_rewind_0 : decode cX1_rewind 0 = .ok (.aload_n 0, 1) := by decide +kernel
theorem dX1_rewind_1 : decode cX1_rewind 1 = .ok (.iconst 0, 1) := by decide +kernel
theorem dX1_rewind_2 : decode cX1_rewind 2 = .ok (.putfield 19, 3) := by decide +kernel
theorem dX1_rewind_5 : decode cX1_rewind 5 = .ok (.aload_n 0, 1) := by decide +kernel
theorem dX1_rewind_6 : decode cX1_rewind 6 = .ok (.iconst (-1), 1) := by decide +kernel
theorem dX1_rewind_7 : decode cX1_rewind 7 = .ok (.putfield 22, 3) := by decide +kernel
theorem dX1_rewind_10 : decode cX1_rewind 10 = .ok (.return_, 1) := by decide +kernel
theorem dX1_findFault_0 : decode cX1_findFault 0 = .ok (.aload_n 0, 1) := by decide +kernel
theorem dX1_findFault_1 : decode cX1_findFault 1 = .ok (.invokevirtual 35, 3) := by decide +kernel
theorem dX1_findFault_4 : decode cX1_findFault 4 = .ok (.iconst 0, 1) := by decide +kernel
theorem dX1_findFault_5 : decode cX1_findFault 5 = .ok (.istore_n 1, 1) := by decide +kernel
theorem dX1_findFault_6 : decode cX1_findFault 6 = .ok (.iload_n 1, 1) := by decide +kernel
theorem dX1_findFault_7 : decode cX1_findFault 7 = .ok (.sipush 150, 3) := by decide +kernel
theorem dX1_findFault_10 : decode cX1_findFault 10 = .ok (.if_icmp .ge 16, 3) := by decide +kernel
theorem dX1_findFault_13 : decode cX1_findFault 13 = .ok (.aload_n 0, 1) := by decide +kernel
theorem dX1_findFault_14 : decode cX1_findFault 14 = .ok (.invokevirtual 38, 3) := by decide +kernel
theorem dX1_findFault_17 : decode cX1_findFault 17 = .ok (.ifCond .eq 9, 3) := by decide +kernel
theorem dX1_findFault_20 : decode cX1_findFault 20 = .ok (.iinc 1 1, 3) := by decide +kernel
theorem dX1_findFault_23 : decode cX1_findFault 23 = .ok (.goto (-17), 3) := by decide +kernel
theorem dX1_findFault_26 : decode cX1_findFault 26 = .ok (.aload_n 0, 1) := by decide +kernel
theorem dX1_findFault_27 : decode cX1_findFault 27 = .ok (.getfield 22, 3) := by decide +kernel
theorem dX1_findFault_30 : decode cX1_findFault 30 = .ok (.ireturn, 1) := by decide +kernel
theorem dX1_readCommand_0 : decode cX1_readCommand 0 = .ok (.aload_n 0, 1) := by decide +kernel
theorem dX1_readCommand_1 : decode cX1_readCommand 1 = .ok (.invokevirtual 42, 3) := by decide +kernel
theorem dX1_readCommand_4 : decode cX1_readCommand 4 = .ok (.aload_n 0, 1) := by decide +kernel
theorem dX1_readCommand_5 : decode cX1_readCommand 5 = .ok (.invokevirtual 45, 3) := by decide +kernel
theorem dX1_readCommand_8 : decode cX1_readCommand 8 = .ok (.iconst (-1), 1) := by decide +kernel
theorem dX1_readCommand_9 : decode cX1_readCommand 9 = .ok (.if_icmp .ne 5, 3) := by decide +kernel
theorem dX1_readCommand_12 : decode cX1_readCommand 12 = .ok (.iconst 0, 1) := by decide +kernel
theorem dX1_readCommand_13 : decode cX1_readCommand 13 = .ok (.ireturn, 1) := by decide +kernel
theorem dX1_readCommand_14 : decode cX1_readCommand 14 = .ok (.aload_n 0, 1) := by decide +kernel
theorem dX1_readCommand_15 : decode cX1_readCommand 15 = .ok (.aload_n 0, 1) := by decide +kernel
theorem dX1_readCommand_16 : decode cX1_readCommand 16 = .ok (.invokevirtual 49, 3) := by decide +kernel
theorem dX1_readCommand_19 : decode cX1_readCommand 19 = .ok (.putfield 25, 3) := by decide +kernel
theorem dX1_readCommand_22 : decode cX1_readCommand 22 = .ok (.aload_n 0, 1) := by decide +kernel
theorem dX1_readCommand_23 : decode cX1_readCommand 23 = .ok (.getfield 25, 3) := by decide +kernel
theorem dX1_readCommand_26 : decode cX1_readCommand 26 = .ok (.ifnull 28, 3) := by decide +kernel
theorem dX1_readCommand_29 : decode cX1_readCommand 29 = .ok (.aload_n 0, 1) := by decide +kernel
theorem dX1_readCommand_30 : decode cX1_readCommand 30 = .ok (.aload_n 0, 1) := by decide +kernel
theorem dX1_readCommand_31 : decode cX1_readCommand 31 = .ok (.getfield 25, 3) := by decide +kernel
theorem dX1_readCommand_34 : decode cX1_readCommand 34 = .ok (.getfield 53, 3) := by decide +kernel
theorem dX1_readCommand_37 : decode cX1_readCommand 37 = .ok (.invokevirtual 58, 3) := by decide +kernel
theorem dX1_readCommand_40 : decode cX1_readCommand 40 = .ok (.ifCond .eq 14, 3) := by decide +kernel
theorem dX1_readCommand_43 : decode cX1_readCommand 43 = .ok (.aload_n 0, 1) := by decide +kernel
theorem dX1_readCommand_44 : decode cX1_readCommand 44 = .ok (.invokevirtual 62, 3) := by decide +kernel
theorem dX1_readCommand_47 : decode cX1_readCommand 47 = .ok (.ifCond .eq 7, 3) := by decide +kernel
theorem dX1_readCommand_50 : decode cX1_readCommand 50 = .ok (.iconst 1, 1) := by decide +kernel
theorem dX1_readCommand_51 : decode cX1_readCommand 51 = .ok (.goto 4, 3) := by decide +kernel
theorem dX1_readCommand_54 : decode cX1_readCommand 54 = .ok (.iconst 0, 1) := by decide +kernel
theorem dX1_readCommand_55 : decode cX1_readCommand 55 = .ok (.ireturn, 1) := by decide +kernel
theorem dX1_readWord_0 : decode cX1_readWord 0 = .ok (.aload_n 0, 1) := by decide +kernel
theorem dX1_readWord_1 : decode cX1_readWord 1 = .ok (.getfield 19, 3) := by decide +kernel
theorem dX1_readWord_4 : decode cX1_readWord 4 = .ok (.istore_n 1, 1) := by decide +kernel
theorem dX1_readWord_5 : decode cX1_readWord 5 = .ok (.aload_n 0, 1) := by decide +kernel
theorem dX1_readWord_6 : decode cX1_readWord 6 = .ok (.getfield 19, 3) := by decide +kernel
theorem dX1_readWord_9 : decode cX1_readWord 9 = .ok (.aload_n 0, 1) := by decide +kernel
theorem dX1_readWord_10 : decode cX1_readWord 10 = .ok (.getfield 15, 3) := by decide +kernel
theorem dX1_readWord_13 : decode cX1_readWord 13 = .ok (.if_icmp .ge 26, 3) := by decide +kernel
theorem dX1_readWord_16 : decode cX1_readWord 16 = .ok (.aload_n 0, 1) := by decide +kernel
theorem dX1_readWord_17 : decode cX1_readWord 17 = .ok (.invokevirtual 45, 3) := by decide +kernel
theorem dX1_readWord_20 : decode cX1_readWord 20 = .ok (.invokestatic 65, 3) := by decide +kernel
theorem dX1_readWord_23 : decode cX1_readWord 23 = .ok (.ifCond .eq 16, 3) := by decide +kernel
theorem dX1_readWord_26 : decode cX1_readWord 26 = .ok (.aload_n 0, 1) := by decide +kernel
theorem dX1_readWord_27 : decode cX1_readWord 27 = .ok (.dup, 1) := by decide +kernel
theorem dX1_readWord_28 : decode cX1_readWord 28 = .ok (.getfield 19, 3) := by decide +kernel
theorem dX1_readWord_31 : decode cX1_readWord 31 = .ok (.iconst 1, 1) := by decide +kernel
theorem dX1_readWord_32 : decode cX1_readWord 32 = .ok (.iadd, 1) := by decide +kernel
theorem dX1_readWord_33 : decode cX1_readWord 33 = .ok (.putfield 19, 3) := by decide +kernel
theorem dX1_readWord_36 : decode cX1_readWord 36 = .ok (.goto (-31), 3) := by decide +kernel
theorem dX1_readWord_39 : decode cX1_readWord 39 = .ok (.aload_n 0, 1) := by decide +kernel
theorem dX1_readWord_40 : decode cX1_readWord 40 = .ok (.iload_n 1, 1) := by decide +kernel
theorem dX1_readWord_41 : decode cX1_readWord 41 = .ok (.aload_n 0, 1) := by decide +kernel
theorem dX1_readWord_42 : decode cX1_readWord 42 = .ok (.getfield 19, 3) := by decide +kernel
theorem dX1_readWord_45 : decode cX1_readWord 45 = .ok (.invokevirtual 68, 3) := by decide +kernel
theorem dX1_readWord_48 : decode cX1_readWord 48 = .ok (.astore_n 2, 1) := by decide +kernel
theorem dX1_readWord_49 : decode cX1_readWord 49 = .ok (.aload_n 2, 1) := by decide +kernel
theorem dX1_readWord_50 : decode cX1_readWord 50 = .ok (.ifnonnull 8, 3) := by decide +kernel
theorem dX1_readWord_53 : decode cX1_readWord 53 = .ok (.aload_n 0, 1) := by decide +kernel
theorem dX1_readWord_54 : decode cX1_readWord 54 = .ok (.iload_n 1, 1) := by decide +kernel
theorem dX1_readWord_55 : decode cX1_readWord 55 = .ok (.invokevirtual 72, 3) := by decide +kernel
theorem dX1_readWord_58 : decode cX1_readWord 58 = .ok (.aload_n 2, 1) := by decide +kernel
theorem dX1_readWord_59 : decode cX1_readWord 59 = .ok (.areturn, 1) := by decide +kernel
theorem dX1_wordBetween_0 : decode cX1_wordBetween 0 = .ok (.iconst 0, 1) := by decide +kernel
theorem dX1_wordBetween_1 : decode cX1_wordBetween 1 = .ok (.istore_n 3, 1) := by decide +kernel
theorem dX1_wordBetween_2 : decode cX1_wordBetween 2 = .ok (.iload_n 3, 1) := by decide +kernel
theorem dX1_wordBetween_3 : decode cX1_wordBetween 3 = .ok (.getstatic 76, 3) := by decide +kernel
theorem dX1_wordBetween_6 : decode cX1_wordBetween 6 = .ok (.arraylength, 1) := by decide +kernel
theorem dX1_wordBetween_7 : decode cX1_wordBetween 7 = .ok (.if_icmp .ge 32, 3) := by decide +kernel
theorem dX1_wordBetween_10 : decode cX1_wordBetween 10 = .ok (.aload_n 0, 1) := by decide +kernel
theorem dX1_wordBetween_11 : decode cX1_wordBetween 11 = .ok (.getstatic 76, 3) := by decide +kernel
theorem dX1_wordBetween_14 : decode cX1_wordBetween 14 = .ok (.iload_n 3, 1) := by decide +kernel
theorem dX1_wordBetween_15 : decode cX1_wordBetween 15 = .ok (.aaload, 1) := by decide +kernel
theorem dX1_wordBetween_16 : decode cX1_wordBetween 16 = .ok (.getfield 80, 3) := by decide +kernel
theorem dX1_wordBetween_19 : decode cX1_wordBetween 19 = .ok (.iload_n 1, 1) := by decide +kernel
theorem dX1_wordBetween_20 : decode cX1_wordBetween 20 = .ok (.iload_n 2, 1) := by decide +kernel
theorem dX1_wordBetween_21 : decode cX1_wordBetween 21 = .ok (.invokevirtual 84, 3) := by decide +kernel
theorem dX1_wordBetween_24 : decode cX1_wordBetween 24 = .ok (.ifCond .eq 9, 3) := by decide +kernel
theorem dX1_wordBetween_27 : decode cX1_wordBetween 27 = .ok (.getstatic 76, 3) := by decide +kernel
theorem dX1_wordBetween_30 : decode cX1_wordBetween 30 = .ok (.iload_n 3, 1) := by decide +kernel
theorem dX1_wordBetween_31 : decode cX1_wordBetween 31 = .ok (.aaload, 1) := by decide +kernel
theorem dX1_wordBetween_32 : decode cX1_wordBetween 32 = .ok (.areturn, 1) := by decide +kernel
theorem dX1_wordBetween_33 : decode cX1_wordBetween 33 = .ok (.iinc 3 1, 3) := by decide +kernel
theorem dX1_wordBetween_36 : decode cX1_wordBetween 36 = .ok (.goto (-34), 3) := by decide +kernel
theorem dX1_wordBetween_39 : decode cX1_wordBetween 39 = .ok (.aconst_null, 1) := by decide +kernel
theorem dX1_wordBetween_40 : decode cX1_wordBetween 40 = .ok (.areturn, 1) := by decide +kernel
theorem dX1_standsBetween_0 : decode cX1_standsBetween 0 = .ok (.aload_n 1, 1) := by decide +kernel
theorem dX1_standsBetween_1 : decode cX1_standsBetween 1 = .ok (.invokevirtual 88, 3) := by decide +kernel
theorem dX1_standsBetween_4 : decode cX1_standsBetween 4 = .ok (.iload_n 3, 1) := by decide +kernel
theorem dX1_standsBetween_5 : decode cX1_standsBetween 5 = .ok (.iload_n 2, 1) := by decide +kernel
theorem dX1_standsBetween_6 : decode cX1_standsBetween 6 = .ok (.isub, 1) := by decide +kernel
theorem dX1_standsBetween_7 : decode cX1_standsBetween 7 = .ok (.if_icmp .eq 5, 3) := by decide +kernel
theorem dX1_standsBetween_10 : decode cX1_standsBetween 10 = .ok (.iconst 0, 1) := by decide +kernel
theorem dX1_standsBetween_11 : decode cX1_standsBetween 11 = .ok (.ireturn, 1) := by decide +kernel
theorem dX1_standsBetween_12 : decode cX1_standsBetween 12 = .ok (.iconst 0, 1) := by decide +kernel
theorem dX1_standsBetween_13 : decode cX1_standsBetween 13 = .ok (.istore 4, 2) := by decide +kernel
theorem dX1_standsBetween_15 : decode cX1_standsBetween 15 = .ok (.iload 4, 2) := by decide +kernel
theorem dX1_standsBetween_17 : decode cX1_standsBetween 17 = .ok (.aload_n 1, 1) := by decide +kernel
theorem dX1_standsBetween_18 : decode cX1_standsBetween 18 = .ok (.invokevirtual 88, 3) := by decide +kernel
theorem dX1_standsBetween_21 : decode cX1_standsBetween 21 = .ok (.if_icmp .ge 29, 3) := by decide +kernel
theorem dX1_standsBetween_24 : decode cX1_standsBetween 24 = .ok (.aload_n 1, 1) := by decide +kernel
theorem dX1_standsBetween_25 : decode cX1_standsBetween 25 = .ok (.iload 4, 2) := by decide +kernel
theorem dX1_standsBetween_27 : decode cX1_standsBetween 27 = .ok (.invokevirtual 92, 3) := by decide +kernel
theorem dX1_standsBetween_30 : decode cX1_standsBetween 30 = .ok (.aload_n 0, 1) := by decide +kernel
theorem dX1_standsBetween_31 : decode cX1_standsBetween 31 = .ok (.getfield 9, 3) := by decide +kernel
theorem dX1_standsBetween_34 : decode cX1_standsBetween 34 = .ok (.iload_n 2, 1) := by decide +kernel
theorem dX1_standsBetween_35 : decode cX1_standsBetween 35 = .ok (.iload 4, 2) := by decide +kernel
theorem dX1_standsBetween_37 : decode cX1_standsBetween 37 = .ok (.iadd, 1) := by decide +kernel
theorem dX1_standsBetween_38 : decode cX1_standsBetween 38 = .ok (.iaload, 1) := by decide +kernel
theorem dX1_standsBetween_39 : decode cX1_standsBetween 39 = .ok (.if_icmp .eq 5, 3) := by decide +kernel
theorem dX1_standsBetween_42 : decode cX1_standsBetween 42 = .ok (.iconst 0, 1) := by decide +kernel
theorem dX1_standsBetween_43 : decode cX1_standsBetween 43 = .ok (.ireturn, 1) := by decide +kernel
theorem dX1_standsBetween_44 : decode cX1_standsBetween 44 = .ok (.iinc 4 1, 3) := by decide +kernel
theorem dX1_standsBetween_47 : decode cX1_standsBetween 47 = .ok (.goto (-32), 3) := by decide +kernel
theorem dX1_standsBetween_50 : decode cX1_standsBetween 50 = .ok (.iconst 1, 1) := by decide +kernel
theorem dX1_standsBetween_51 : decode cX1_standsBetween 51 = .ok (.ireturn, 1) := by decide +kernel
theorem dX1_readNumbers_0 : decode cX1_readNumbers 0 = .ok (.aload_n 0, 1) := by decide +kernel
theorem dX1_readNumbers_1 : decode cX1_readNumbers 1 = .ok (.iconst 0, 1) := by decide +kernel
theorem dX1_readNumbers_2 : decode cX1_readNumbers 2 = .ok (.putfield 29, 3) := by decide +kernel
theorem dX1_readNumbers_5 : decode cX1_readNumbers 5 = .ok (.aload_n 0, 1) := by decide +kernel
theorem dX1_readNumbers_6 : decode cX1_readNumbers 6 = .ok (.iconst 0, 1) := by decide +kernel
theorem dX1_readNumbers_7 : decode cX1_readNumbers 7 = .ok (.putfield 32, 3) := by decide +kernel
theorem dX1_readNumbers_10 : decode cX1_readNumbers 10 = .ok (.iload_n 1, 1) := by decide +kernel
theorem dX1_readNumbers_11 : decode cX1_readNumbers 11 = .ok (.iconst 1, 1) := by decide +kernel
theorem dX1_readNumbers_12 : decode cX1_readNumbers 12 = .ok (.if_icmp .lt 11, 3) := by decide +kernel
theorem dX1_readNumbers_15 : decode cX1_readNumbers 15 = .ok (.aload_n 0, 1) := by decide +kernel
theorem dX1_readNumbers_16 : decode cX1_readNumbers 16 = .ok (.aload_n 0, 1) := by decide +kernel
theorem dX1_readNumbers_17 : decode cX1_readNumbers 17 = .ok (.invokevirtual 96, 3) := by decide +kernel
theorem dX1_readNumbers_20 : decode cX1_readNumbers 20 = .ok (.putfield 29, 3) := by decide +kernel
theorem dX1_readNumbers_23 : decode cX1_readNumbers 23 = .ok (.iload_n 1, 1) := by decide +kernel
theorem dX1_readNumbers_24 : decode cX1_readNumbers 24 = .ok (.iconst 2, 1) := by decide +kernel
theorem dX1_readNumbers_25 : decode cX1_readNumbers 25 = .ok (.if_icmp .lt 19, 3) := by decide +kernel
theorem dX1_readNumbers_28 : decode cX1_readNumbers 28 = .ok (.aload_n 0, 1) := by decide +kernel
theorem dX1_readNumbers_29 : decode cX1_readNumbers 29 = .ok (.getfield 29, 3) := by decide +kernel
theorem dX1_readNumbers_32 : decode cX1_readNumbers 32 = .ok (.iconst (-1), 1) := by decide +kernel
theorem dX1_readNumbers_33 : decode cX1_readNumbers 33 = .ok (.if_icmp .eq 11, 3) := by decide +kernel
theorem dX1_readNumbers_36 : decode cX1_readNumbers 36 = .ok (.aload_n 0, 1) := by decide +kernel
theorem dX1_readNumbers_37 : decode cX1_readNumbers 37 = .ok (.aload_n 0, 1) := by decide +kernel
theorem dX1_readNumbers_38 : decode cX1_readNumbers 38 = .ok (.invokevirtual 96, 3) := by decide +kernel
theorem dX1_readNumbers_41 : decode cX1_readNumbers 41 = .ok (.putfield 32, 3) := by decide +kernel
theorem dX1_readNumbers_44 : decode cX1_readNumbers 44 = .ok (.aload_n 0, 1) := by decide +kernel
theorem dX1_readNumbers_45 : decode cX1_readNumbers 45 = .ok (.getfield 29, 3) := by decide +kernel
theorem dX1_readNumbers_48 : decode cX1_readNumbers 48 = .ok (.iconst (-1), 1) := by decide +kernel
theorem dX1_readNumbers_49 : decode cX1_readNumbers 49 = .ok (.if_icmp .eq 15, 3) := by decide +kernel
theorem dX1_readNumbers_52 : decode cX1_readNumbers 52 = .ok (.aload_n 0, 1) := by decide +kernel
theorem dX1_readNumbers_53 : decode cX1_readNumbers 53 = .ok (.getfield 32, 3) := by decide +kernel
theorem dX1_readNumbers_56 : decode cX1_readNumbers 56 = .ok (.iconst (-1), 1) := by decide +kernel
theorem dX1_readNumbers_57 : decode cX1_readNumbers 57 = .ok (.if_icmp .eq 7, 3) := by decide +kernel
theorem dX1_readNumbers_60 : decode cX1_readNumbers 60 = .ok (.iconst 1, 1) := by decide +kernel
theorem dX1_readNumbers_61 : decode cX1_readNumbers 61 = .ok (.goto 4, 3) := by decide +kernel
theorem dX1_readNumbers_64 : decode cX1_readNumbers 64 = .ok (.iconst 0, 1) := by decide +kernel
theorem dX1_readNumbers_65 : decode cX1_readNumbers 65 = .ok (.ireturn, 1) := by decide +kernel
theorem dX1_readNumber_0 : decode cX1_readNumber 0 = .ok (.aload_n 0, 1) := by decide +kernel
theorem dX1_readNumber_1 : decode cX1_readNumber 1 = .ok (.invokevirtual 45, 3) := by decide +kernel
theorem dX1_readNumber_4 : decode cX1_readNumber 4 = .ok (.bipush 32, 2) := by decide +kernel
theorem dX1_readNumber_6 : decode cX1_readNumber 6 = .ok (.if_icmp .eq 13, 3) := by decide +kernel
theorem dX1_readNumber_9 : decode cX1_readNumber 9 = .ok (.aload_n 0, 1) := by decide +kernel
theorem dX1_readNumber_10 : decode cX1_readNumber 10 = .ok (.aload_n 0, 1) := by decide +kernel
theorem dX1_readNumber_11 : decode cX1_readNumber 11 = .ok (.getfield 19, 3) := by decide +kernel
theorem dX1_readNumber_14 : decode cX1_readNumber 14 = .ok (.invokevirtual 72, 3) := by decide +kernel
theorem dX1_readNumber_17 : decode cX1_readNumber 17 = .ok (.iconst (-1), 1) := by decide +kernel
theorem dX1_readNumber_18 : decode cX1_readNumber 18 = .ok (.ireturn, 1) := by decide +kernel
theorem dX1_readNumber_19 : decode cX1_readNumber 19 = .ok (.aload_n 0, 1) := by decide +kernel
theorem dX1_readNumber_20 : decode cX1_readNumber 20 = .ok (.invokevirtual 42, 3) := by decide +kernel
theorem dX1_readNumber_23 : decode cX1_readNumber 23 = .ok (.aload_n 0, 1) := by decide +kernel
theorem dX1_readNumber_24 : decode cX1_readNumber 24 = .ok (.invokevirtual 45, 3) := by decide +kernel
theorem dX1_readNumber_27 : decode cX1_readNumber 27 = .ok (.invokestatic 99, 3) := by decide +kernel
theorem dX1_readNumber_30 : decode cX1_readNumber 30 = .ok (.ifCond .ne 13, 3) := by decide +kernel
theorem dX1_readNumber_33 : decode cX1_readNumber 33 = .ok (.aload_n 0, 1) := by decide +kernel
theorem dX1_readNumber_34 : decode cX1_readNumber 34 = .ok (.aload_n 0, 1) := by decide +kernel
theorem dX1_readNumber_35 : decode cX1_readNumber 35 = .ok (.getfield 19, 3) := by decide +kernel
theorem dX1_readNumber_38 : decode cX1_readNumber 38 = .ok (.invokevirtual 72, 3) := by decide +kernel
theorem dX1_readNumber_41 : decode cX1_readNumber 41 = .ok (.iconst (-1), 1) := by decide +kernel
theorem dX1_readNumber_42 : decode cX1_readNumber 42 = .ok (.ireturn, 1) := by decide +kernel
theorem dX1_readNumber_43 : decode cX1_readNumber 43 = .ok (.aload_n 0, 1) := by decide +kernel
theorem dX1_readNumber_44 : decode cX1_readNumber 44 = .ok (.invokevirtual 45, 3) := by decide +kernel
theorem dX1_readNumber_47 : decode cX1_readNumber 47 = .ok (.bipush 48, 2) := by decide +kernel
theorem dX1_readNumber_49 : decode cX1_readNumber 49 = .ok (.isub, 1) := by decide +kernel
theorem dX1_readNumber_50 : decode cX1_readNumber 50 = .ok (.istore_n 1, 1) := by decide +kernel
theorem dX1_readNumber_51 : decode cX1_readNumber 51 = .ok (.aload_n 0, 1) := by decide +kernel
theorem dX1_readNumber_52 : decode cX1_readNumber 52 = .ok (.dup, 1) := by decide +kernel
theorem dX1_readNumber_53 : decode cX1_readNumber 53 = .ok (.getfield 19, 3) := by decide +kernel
theorem dX1_readNumber_56 : decode cX1_readNumber 56 = .ok (.iconst 1, 1) := by decide +kernel
theorem dX1_readNumber_57 : decode cX1_readNumber 57 = .ok (.iadd, 1) := by decide +kernel
theorem dX1_readNumber_58 : decode cX1_readNumber 58 = .ok (.putfield 19, 3) := by decide +kernel
theorem dX1_readNumber_61 : decode cX1_readNumber 61 = .ok (.aload_n 0, 1) := by decide +kernel
theorem dX1_readNumber_62 : decode cX1_readNumber 62 = .ok (.invokevirtual 45, 3) := by decide +kernel
theorem dX1_readNumber_65 : decode cX1_readNumber 65 = .ok (.invokestatic 99, 3) := by decide +kernel
theorem dX1_readNumber_68 : decode cX1_readNumber 68 = .ok (.ifCond .eq 26, 3) := by decide +kernel
theorem dX1_readNumber_71 : decode cX1_readNumber 71 = .ok (.bipush 10, 2) := by decide +kernel
theorem dX1_readNumber_73 : decode cX1_readNumber 73 = .ok (.iload_n 1, 1) := by decide +kernel
theorem dX1_readNumber_74 : decode cX1_readNumber 74 = .ok (.imul, 1) := by decide +kernel
theorem dX1_readNumber_75 : decode cX1_readNumber 75 = .ok (.aload_n 0, 1) := by decide +kernel
theorem dX1_readNumber_76 : decode cX1_readNumber 76 = .ok (.invokevirtual 45, 3) := by decide +kernel
theorem dX1_readNumber_79 : decode cX1_readNumber 79 = .ok (.iadd, 1) := by decide +kernel
theorem dX1_readNumber_80 : decode cX1_readNumber 80 = .ok (.bipush 48, 2) := by decide +kernel
theorem dX1_readNumber_82 : decode cX1_readNumber 82 = .ok (.isub, 1) := by decide +kernel
theorem dX1_readNumber_83 : decode cX1_readNumber 83 = .ok (.istore_n 1, 1) := by decide +kernel
theorem dX1_readNumber_84 : decode cX1_readNumber 84 = .ok (.aload_n 0, 1) := by decide +kernel
theorem dX1_readNumber_85 : decode cX1_readNumber 85 = .ok (.dup, 1) := by decide +kernel
theorem dX1_readNumber_86 : decode cX1_readNumber 86 = .ok (.getfield 19, 3) := by decide +kernel
theorem dX1_readNumber_89 : decode cX1_readNumber 89 = .ok (.iconst 1, 1) := by decide +kernel
theorem dX1_readNumber_90 : decode cX1_readNumber 90 = .ok (.iadd, 1) := by decide +kernel
theorem dX1_readNumber_91 : decode cX1_readNumber 91 = .ok (.putfield 19, 3) := by decide +kernel
theorem dX1_readNumber_94 : decode cX1_readNumber 94 = .ok (.iload_n 1, 1) := by decide +kernel
theorem dX1_readNumber_95 : decode cX1_readNumber 95 = .ok (.ireturn, 1) := by decide +kernel
theorem dX1_readSemicolon_0 : decode cX1_readSemicolon 0 = .ok (.aload_n 0, 1) := by decide +kernel
theorem dX1_readSemicolon_1 : decode cX1_readSemicolon 1 = .ok (.invokevirtual 42, 3) := by decide +kernel
theorem dX1_readSemicolon_4 : decode cX1_readSemicolon 4 = .ok (.aload_n 0, 1) := by decide +kernel
theorem dX1_readSemicolon_5 : decode cX1_readSemicolon 5 = .ok (.invokevirtual 45, 3) := by decide +kernel
theorem dX1_readSemicolon_8 : decode cX1_readSemicolon 8 = .ok (.bipush 59, 2) := by decide +kernel
theorem dX1_readSemicolon_10 : decode cX1_readSemicolon 10 = .ok (.if_icmp .eq 13, 3) := by decide +kernel
theorem dX1_readSemicolon_13 : decode cX1_readSemicolon 13 = .ok (.aload_n 0, 1) := by decide +kernel
theorem dX1_readSemicolon_14 : decode cX1_readSemicolon 14 = .ok (.aload_n 0, 1) := by decide +kernel
theorem dX1_readSemicolon_15 : decode cX1_readSemicolon 15 = .ok (.getfield 19, 3) := by decide +kernel
theorem dX1_readSemicolon_18 : decode cX1_readSemicolon 18 = .ok (.invokevirtual 72, 3) := by decide +kernel
theorem dX1_readSemicolon_21 : decode cX1_readSemicolon 21 = .ok (.iconst 0, 1) := by decide +kernel
theorem dX1_readSemicolon_22 : decode cX1_readSemicolon 22 = .ok (.ireturn, 1) := by decide +kernel
theorem dX1_readSemicolon_23 : decode cX1_readSemicolon 23 = .ok (.aload_n 0, 1) := by decide +kernel
theorem dX1_readSemicolon_24 : decode cX1_readSemicolon 24 = .ok (.dup, 1) := by decide +kernel
theorem dX1_readSemicolon_25 : decode cX1_readSemicolon 25 = .ok (.getfield 19, 3) := by decide +kernel
theorem dX1_readSemicolon_28 : decode cX1_readSemicolon 28 = .ok (.iconst 1, 1) := by decide +kernel
theorem dX1_readSemicolon_29 : decode cX1_readSemicolon 29 = .ok (.iadd, 1) := by decide +kernel
theorem dX1_readSemicolon_30 : decode cX1_readSemicolon 30 = .ok (.putfield 19, 3) := by decide +kernel
theorem dX1_readSemicolon_33 : decode cX1_readSemicolon 33 = .ok (.iconst 1, 1) := by decide +kernel
theorem dX1_readSemicolon_34 : decode cX1_readSemicolon 34 = .ok (.ireturn, 1) := by decide +kernel
theorem dX1_skipSpaces_0 : decode cX1_skipSpaces 0 = .ok (.aload_n 0, 1) := by decide +kernel
theorem dX1_skipSpaces_1 : decode cX1_skipSpaces 1 = .ok (.getfield 19, 3) := by decide +kernel
theorem dX1_skipSpaces_4 : decode cX1_skipSpaces 4 = .ok (.aload_n 0, 1) := by decide +kernel
theorem dX1_skipSpaces_5 : decode cX1_skipSpaces 5 = .ok (.getfield 15, 3) := by decide +kernel
theorem dX1_skipSpaces_8 : decode cX1_skipSpaces 8 = .ok (.if_icmp .ge 25, 3) := by decide +kernel
theorem dX1_skipSpaces_11 : decode cX1_skipSpaces 11 = .ok (.aload_n 0, 1) := by decide +kernel
theorem dX1_skipSpaces_12 : decode cX1_skipSpaces 12 = .ok (.invokevirtual 45, 3) := by decide +kernel
theorem dX1_skipSpaces_15 : decode cX1_skipSpaces 15 = .ok (.bipush 32, 2) := by decide +kernel
theorem dX1_skipSpaces_17 : decode cX1_skipSpaces 17 = .ok (.if_icmp .ne 16, 3) := by decide +kernel
theorem dX1_skipSpaces_20 : decode cX1_skipSpaces 20 = .ok (.aload_n 0, 1) := by decide +kernel
theorem dX1_skipSpaces_21 : decode cX1_skipSpaces 21 = .ok (.dup, 1) := by decide +kernel
theorem dX1_skipSpaces_22 : decode cX1_skipSpaces 22 = .ok (.getfield 19, 3) := by decide +kernel
theorem dX1_skipSpaces_25 : decode cX1_skipSpaces 25 = .ok (.iconst 1, 1) := by decide +kernel
theorem dX1_skipSpaces_26 : decode cX1_skipSpaces 26 = .ok (.iadd, 1) := by decide +kernel
theorem dX1_skipSpaces_27 : decode cX1_skipSpaces 27 = .ok (.putfield 19, 3) := by decide +kernel
theorem dX1_skipSpaces_30 : decode cX1_skipSpaces 30 = .ok (.goto (-30), 3) := by decide +kernel
theorem dX1_skipSpaces_33 : decode cX1_skipSpaces 33 = .ok (.return_, 1) := by decide +kernel
theorem dX1_failAt_0 : decode cX1_failAt 0 = .ok (.aload_n 0, 1) := by decide +kernel
theorem dX1_failAt_1 : decode cX1_failAt 1 = .ok (.iload_n 1, 1) := by decide +kernel
theorem dX1_failAt_2 : decode cX1_failAt 2 = .ok (.putfield 22, 3) := by decide +kernel
theorem dX1_failAt_5 : decode cX1_failAt 5 = .ok (.return_, 1) := by decide +kernel
theorem dX1_peek_0 : decode cX1_peek 0 = .ok (.aload_n 0, 1) := by decide +kernel
theorem dX1_peek_1 : decode cX1_peek 1 = .ok (.getfield 19, 3) := by decide +kernel
theorem dX1_peek_4 : decode cX1_peek 4 = .ok (.ifCond .lt 26, 3) := by decide +kernel
theorem dX1_peek_7 : decode cX1_peek 7 = .ok (.aload_n 0, 1) := by decide +kernel
theorem dX1_peek_8 : decode cX1_peek 8 = .ok (.getfield 19, 3) := by decide +kernel
theorem dX1_peek_11 : decode cX1_peek 11 = .ok (.aload_n 0, 1) := by decide +kernel
theorem dX1_peek_12 : decode cX1_peek 12 = .ok (.getfield 15, 3) := by decide +kernel
theorem dX1_peek_15 : decode cX1_peek 15 = .ok (.if_icmp .ge 15, 3) := by decide +kernel
theorem dX1_peek_18 : decode cX1_peek 18 = .ok (.aload_n 0, 1) := by decide +kernel
theorem dX1_peek_19 : decode cX1_peek 19 = .ok (.getfield 9, 3) := by decide +kernel
theorem dX1_peek_22 : decode cX1_peek 22 = .ok (.aload_n 0, 1) := by decide +kernel
theorem dX1_peek_23 : decode cX1_peek 23 = .ok (.getfield 19, 3) := by decide +kernel
theorem dX1_peek_26 : decode cX1_peek 26 = .ok (.iaload, 1) := by decide +kernel
theorem dX1_peek_27 : decode cX1_peek 27 = .ok (.goto 4, 3) := by decide +kernel
theorem dX1_peek_30 : decode cX1_peek 30 = .ok (.iconst (-1), 1) := by decide +kernel
theorem dX1_peek_31 : decode cX1_peek 31 = .ok (.ireturn, 1) := by decide +kernel
theorem dX1_isLetter_0 : decode cX1_isLetter 0 = .ok (.iload_n 0, 1) := by decide +kernel
theorem dX1_isLetter_1 : decode cX1_isLetter 1 = .ok (.bipush 97, 2) := by decide +kernel
theorem dX1_isLetter_3 : decode cX1_isLetter 3 = .ok (.if_icmp .lt 13, 3) := by decide +kernel
theorem dX1_isLetter_6 : decode cX1_isLetter 6 = .ok (.iload_n 0, 1) := by decide +kernel
theorem dX1_isLetter_7 : decode cX1_isLetter 7 = .ok (.bipush 122, 2) := by decide +kernel
theorem dX1_isLetter_9 : decode cX1_isLetter 9 = .ok (.if_icmp .gt 7, 3) := by decide +kernel
theorem dX1_isLetter_12 : decode cX1_isLetter 12 = .ok (.iconst 1, 1) := by decide +kernel
theorem dX1_isLetter_13 : decode cX1_isLetter 13 = .ok (.goto 4, 3) := by decide +kernel
theorem dX1_isLetter_16 : decode cX1_isLetter 16 = .ok (.iconst 0, 1) := by decide +kernel
theorem dX1_isLetter_17 : decode cX1_isLetter 17 = .ok (.ireturn, 1) := by decide +kernel
theorem dX1_isDigit_0 : decode cX1_isDigit 0 = .ok (.iload_n 0, 1) := by decide +kernel
theorem dX1_isDigit_1 : decode cX1_isDigit 1 = .ok (.bipush 48, 2) := by decide +kernel
theorem dX1_isDigit_3 : decode cX1_isDigit 3 = .ok (.if_icmp .lt 13, 3) := by decide +kernel
theorem dX1_isDigit_6 : decode cX1_isDigit 6 = .ok (.iload_n 0, 1) := by decide +kernel
theorem dX1_isDigit_7 : decode cX1_isDigit 7 = .ok (.bipush 57, 2) := by decide +kernel
theorem dX1_isDigit_9 : decode cX1_isDigit 9 = .ok (.if_icmp .gt 7, 3) := by decide +kernel
theorem dX1_isDigit_12 : decode cX1_isDigit 12 = .ok (.iconst 1, 1) := by decide +kernel
theorem dX1_isDigit_13 : decode cX1_isDigit 13 = .ok (.goto 4, 3) := by decide +kernel
theorem dX1_isDigit_16 : decode cX1_isDigit 16 = .ok (.iconst 0, 1) := by decide +kernel
theorem dX1_isDigit_17 : decode cX1_isDigit 17 = .ok (.ireturn, 1) := by decide +kernel
theorem dX2_init_0 : decode cX2_init 0 = .ok (.aload_n 0, 1) := by decide +kernel
theorem dX2_init_1 : decode cX2_init 1 = .ok (.invokespecial 3, 3) := by decide +kernel
theorem dX2_init_4 : decode cX2_init 4 = .ok (.aload_n 0, 1) := by decide +kernel
theorem dX2_init_5 : decode cX2_init 5 = .ok (.bipush 6, 2) := by decide +kernel
theorem dX2_init_7 : decode cX2_init 7 = .ok (.putfield 9, 3) := by decide +kernel
theorem dX2_init_10 : decode cX2_init 10 = .ok (.aload_n 0, 1) := by decide +kernel
theorem dX2_init_11 : decode cX2_init 11 = .ok (.iconst 1, 1) := by decide +kernel
theorem dX2_init_12 : decode cX2_init 12 = .ok (.putfield 15, 3) := by decide +kernel
theorem dX2_init_15 : decode cX2_init 15 = .ok (.return_, 1) := by decide +kernel
theorem dX2_become_0 : decode cX2_become 0 = .ok (.aload_n 0, 1) := by decide +kernel
theorem dX2_become_1 : decode cX2_become 1 = .ok (.iload_n 1, 1) := by decide +kernel
theorem dX2_become_2 : decode cX2_become 2 = .ok (.putfield 9, 3) := by decide +kernel
theorem dX2_become_5 : decode cX2_become 5 = .ok (.aload_n 0, 1) := by decide +kernel
theorem dX2_become_6 : decode cX2_become 6 = .ok (.iload_n 2, 1) := by decide +kernel
theorem dX2_become_7 : decode cX2_become 7 = .ok (.putfield 15, 3) := by decide +kernel
theorem dX2_become_10 : decode cX2_become 10 = .ok (.return_, 1) := by decide +kernel
theorem dX2_count_0 : decode cX2_count 0 = .ok (.aload_n 0, 1) := by decide +kernel
theorem dX2_count_1 : decode cX2_count 1 = .ok (.getfield 9, 3) := by decide +kernel
theorem dX2_count_4 : decode cX2_count 4 = .ok (.aload_n 0, 1) := by decide +kernel
theorem dX2_count_5 : decode cX2_count 5 = .ok (.getfield 15, 3) := by decide +kernel
theorem dX2_count_8 : decode cX2_count 8 = .ok (.imul, 1) := by decide +kernel
theorem dX2_count_9 : decode cX2_count 9 = .ok (.ireturn, 1) := by decide +kernel
theorem dX2_has_0 : decode cX2_has 0 = .ok (.iload_n 1, 1) := by decide +kernel
theorem dX2_has_1 : decode cX2_has 1 = .ok (.ifCond .lt 15, 3) := by decide +kernel
theorem dX2_has_4 : decode cX2_has 4 = .ok (.iload_n 1, 1) := by decide +kernel
theorem dX2_has_5 : decode cX2_has 5 = .ok (.aload_n 0, 1) := by decide +kernel
theorem dX2_has_6 : decode cX2_has 6 = .ok (.invokevirtual 18, 3) := by decide +kernel
theorem dX2_has_9 : decode cX2_has 9 = .ok (.if_icmp .ge 7, 3) := by decide +kernel
theorem dX2_has_12 : decode cX2_has 12 = .ok (.iconst 1, 1) := by decide +kernel
theorem dX2_has_13 : decode cX2_has 13 = .ok (.goto 4, 3) := by decide +kernel
theorem dX2_has_16 : decode cX2_has 16 = .ok (.iconst 0, 1) := by decide +kernel
theorem dX2_has_17 : decode cX2_has 17 = .ok (.ireturn, 1) := by decide +kernel
theorem dX2_plus_0 : decode cX2_plus 0 = .ok (.iload_n 1, 1) := by decide +kernel
theorem dX2_plus_1 : decode cX2_plus 1 = .ok (.iload_n 2, 1) := by decide +kernel
theorem dX2_plus_2 : decode cX2_plus 2 = .ok (.iadd, 1) := by decide +kernel
theorem dX2_plus_3 : decode cX2_plus 3 = .ok (.aload_n 0, 1) := by decide +kernel
theorem dX2_plus_4 : decode cX2_plus 4 = .ok (.getfield 9, 3) := by decide +kernel
theorem dX2_plus_7 : decode cX2_plus 7 = .ok (.invokestatic 22, 3) := by decide +kernel
theorem dX2_plus_10 : decode cX2_plus 10 = .ok (.istore_n 3, 1) := by decide +kernel
theorem dX2_plus_11 : decode cX2_plus 11 = .ok (.iload_n 1, 1) := by decide +kernel
theorem dX2_plus_12 : decode cX2_plus 12 = .ok (.aload_n 0, 1) := by decide +kernel
theorem dX2_plus_13 : decode cX2_plus 13 = .ok (.getfield 9, 3) := by decide +kernel
theorem dX2_plus_16 : decode cX2_plus 16 = .ok (.invokestatic 26, 3) := by decide +kernel
theorem dX2_plus_19 : decode cX2_plus 19 = .ok (.iload_n 2, 1) := by decide +kernel
theorem dX2_plus_20 : decode cX2_plus 20 = .ok (.aload_n 0, 1) := by decide +kernel
theorem dX2_plus_21 : decode cX2_plus 21 = .ok (.getfield 9, 3) := by decide +kernel
theorem dX2_plus_24 : decode cX2_plus 24 = .ok (.invokestatic 26, 3) := by decide +kernel
theorem dX2_plus_27 : decode cX2_plus 27 = .ok (.iadd, 1) := by decide +kernel
theorem dX2_plus_28 : decode cX2_plus 28 = .ok (.aload_n 0, 1) := by decide +kernel
theorem dX2_plus_29 : decode cX2_plus 29 = .ok (.getfield 15, 3) := by decide +kernel
theorem dX2_plus_32 : decode cX2_plus 32 = .ok (.invokestatic 22, 3) := by decide +kernel
theorem dX2_plus_35 : decode cX2_plus 35 = .ok (.istore 4, 2) := by decide +kernel
theorem dX2_plus_37 : decode cX2_plus 37 = .ok (.aload_n 0, 1) := by decide +kernel
theorem dX2_plus_38 : decode cX2_plus 38 = .ok (.getfield 9, 3) := by decide +kernel
theorem dX2_plus_41 : decode cX2_plus 41 = .ok (.iload 4, 2) := by decide +kernel
theorem dX2_plus_43 : decode cX2_plus 43 = .ok (.imul, 1) := by decide +kernel
theorem dX2_plus_44 : decode cX2_plus 44 = .ok (.iload_n 3, 1) := by decide +kernel
theorem dX2_plus_45 : decode cX2_plus 45 = .ok (.iadd, 1) := by decide +kernel
theorem dX2_plus_46 : decode cX2_plus 46 = .ok (.ireturn, 1) := by decide +kernel
theorem dX2_opposite_0 : decode cX2_opposite 0 = .ok (.aload_n 0, 1) := by decide +kernel
theorem dX2_opposite_1 : decode cX2_opposite 1 = .ok (.getfield 9, 3) := by decide +kernel
theorem dX2_opposite_4 : decode cX2_opposite 4 = .ok (.iload_n 1, 1) := by decide +kernel
theorem dX2_opposite_5 : decode cX2_opposite 5 = .ok (.aload_n 0, 1) := by decide +kernel
theorem dX2_opposite_6 : decode cX2_opposite 6 = .ok (.getfield 9, 3) := by decide +kernel
theorem dX2_opposite_9 : decode cX2_opposite 9 = .ok (.invokestatic 22, 3) := by decide +kernel
theorem dX2_opposite_12 : decode cX2_opposite 12 = .ok (.isub, 1) := by decide +kernel
theorem dX2_opposite_13 : decode cX2_opposite 13 = .ok (.aload_n 0, 1) := by decide +kernel
theorem dX2_opposite_14 : decode cX2_opposite 14 = .ok (.getfield 9, 3) := by decide +kernel
theorem dX2_opposite_17 : decode cX2_opposite 17 = .ok (.invokestatic 22, 3) := by decide +kernel
theorem dX2_opposite_20 : decode cX2_opposite 20 = .ok (.istore_n 2, 1) := by decide +kernel
theorem dX2_opposite_21 : decode cX2_opposite 21 = .ok (.aload_n 0, 1) := by decide +kernel
theorem dX2_opposite_22 : decode cX2_opposite 22 = .ok (.getfield 15, 3) := by decide +kernel
theorem dX2_opposite_25 : decode cX2_opposite 25 = .ok (.iload_n 1, 1) := by decide +kernel
theorem dX2_opposite_26 : decode cX2_opposite 26 = .ok (.aload_n 0, 1) := by decide +kernel
theorem dX2_opposite_27 : decode cX2_opposite 27 = .ok (.getfield 9, 3) := by decide +kernel
theorem dX2_opposite_30 : decode cX2_opposite 30 = .ok (.invokestatic 26, 3) := by decide +kernel
theorem dX2_opposite_33 : decode cX2_opposite 33 = .ok (.isub, 1) := by decide +kernel
theorem dX2_opposite_34 : decode cX2_opposite 34 = .ok (.aload_n 0, 1) := by decide +kernel
theorem dX2_opposite_35 : decode cX2_opposite 35 = .ok (.getfield 15, 3) := by decide +kernel
theorem dX2_opposite_38 : decode cX2_opposite 38 = .ok (.invokestatic 22, 3) := by decide +kernel
theorem dX2_opposite_41 : decode cX2_opposite 41 = .ok (.istore_n 3, 1) := by decide +kernel
theorem dX2_opposite_42 : decode cX2_opposite 42 = .ok (.aload_n 0, 1) := by decide +kernel
theorem dX2_opposite_43 : decode cX2_opposite 43 = .ok (.getfield 9, 3) := by decide +kernel
theorem dX2_opposite_46 : decode cX2_opposite 46 = .ok (.iload_n 3, 1) := by decide +kernel
theorem dX2_opposite_47 : decode cX2_opposite 47 = .ok (.imul, 1) := by decide +kernel
theorem dX2_opposite_48 : decode cX2_opposite 48 = .ok (.iload_n 2, 1) := by decide +kernel
theorem dX2_opposite_49 : decode cX2_opposite 49 = .ok (.iadd, 1) := by decide +kernel
theorem dX2_opposite_50 : decode cX2_opposite 50 = .ok (.ireturn, 1) := by decide +kernel
theorem dX2_orderOf_0 : decode cX2_orderOf 0 = .ok (.iconst 1, 1) := by decide +kernel
theorem dX2_orderOf_1 : decode cX2_orderOf 1 = .ok (.istore_n 2, 1) := by decide +kernel
theorem dX2_orderOf_2 : decode cX2_orderOf 2 = .ok (.iload_n 1, 1) := by decide +kernel
theorem dX2_orderOf_3 : decode cX2_orderOf 3 = .ok (.istore_n 3, 1) := by decide +kernel
theorem dX2_orderOf_4 : decode cX2_orderOf 4 = .ok (.iload_n 3, 1) := by decide +kernel
theorem dX2_orderOf_5 : decode cX2_orderOf 5 = .ok (.ifCond .eq 24, 3) := by decide +kernel
theorem dX2_orderOf_8 : decode cX2_orderOf 8 = .ok (.iload_n 2, 1) := by decide +kernel
theorem dX2_orderOf_9 : decode cX2_orderOf 9 = .ok (.aload_n 0, 1) := by decide +kernel
theorem dX2_orderOf_10 : decode cX2_orderOf 10 = .ok (.invokevirtual 18, 3) := by decide +kernel
theorem dX2_orderOf_13 : decode cX2_orderOf 13 = .ok (.if_icmp .ge 16, 3) := by decide +kernel
theorem dX2_orderOf_16 : decode cX2_orderOf 16 = .ok (.aload_n 0, 1) := by decide +kernel
theorem dX2_orderOf_17 : decode cX2_orderOf 17 = .ok (.iload_n 3, 1) := by decide +kernel
theorem dX2_orderOf_18 : decode cX2_orderOf 18 = .ok (.iload_n 1, 1) := by decide +kernel
theorem dX2_orderOf_19 : decode cX2_orderOf 19 = .ok (.invokevirtual 29, 3) := by decide +kernel
theorem dX2_orderOf_22 : decode cX2_orderOf 22 = .ok (.istore_n 3, 1) := by decide +kernel
theorem dX2_orderOf_23 : decode cX2_orderOf 23 = .ok (.iinc 2 1, 3) := by decide +kernel
theorem dX2_orderOf_26 : decode cX2_orderOf 26 = .ok (.goto (-22), 3) := by decide +kernel
theorem dX2_orderOf_29 : decode cX2_orderOf 29 = .ok (.iload_n 2, 1) := by decide +kernel
theorem dX2_orderOf_30 : decode cX2_orderOf 30 = .ok (.ireturn, 1) := by decide +kernel
theorem dX2_commonDivisor_0 : decode cX2_commonDivisor 0 = .ok (.iconst 1, 1) := by decide +kernel
theorem dX2_commonDivisor_1 : decode cX2_commonDivisor 1 = .ok (.istore_n 1, 1) := by decide +kernel
theorem dX2_commonDivisor_2 : decode cX2_commonDivisor 2 = .ok (.iconst 1, 1) := by decide +kernel
theorem dX2_commonDivisor_3 : decode cX2_commonDivisor 3 = .ok (.istore_n 2, 1) := by decide +kernel
theorem dX2_commonDivisor_4 : decode cX2_commonDivisor 4 = .ok (.iload_n 2, 1) := by decide +kernel
theorem dX2_commonDivisor_5 : decode cX2_commonDivisor 5 = .ok (.aload_n 0, 1) := by decide +kernel
theorem dX2_commonDivisor_6 : decode cX2_commonDivisor 6 = .ok (.getfield 9, 3) := by decide +kernel
theorem dX2_commonDivisor_9 : decode cX2_commonDivisor 9 = .ok (.if_icmp .gt 33, 3) := by decide +kernel
theorem dX2_commonDivisor_12 : decode cX2_commonDivisor 12 = .ok (.aload_n 0, 1) := by decide +kernel
theorem dX2_commonDivisor_13 : decode cX2_commonDivisor 13 = .ok (.getfield 9, 3) := by decide +kernel
theorem dX2_commonDivisor_16 : decode cX2_commonDivisor 16 = .ok (.iload_n 2, 1) := by decide +kernel
theorem dX2_commonDivisor_17 : decode cX2_commonDivisor 17 = .ok (.invokestatic 22, 3) := by decide +kernel
theorem dX2_commonDivisor_20 : decode cX2_commonDivisor 20 = .ok (.ifCond .ne 16, 3) := by decide +kernel
theorem dX2_commonDivisor_23 : decode cX2_commonDivisor 23 = .ok (.aload_n 0, 1) := by decide +kernel
theorem dX2_commonDivisor_24 : decode cX2_commonDivisor 24 = .ok (.getfield 15, 3) := by decide +kernel
theorem dX2_commonDivisor_27 : decode cX2_commonDivisor 27 = .ok (.iload_n 2, 1) := by decide +kernel
theorem dX2_commonDivisor_28 : decode cX2_commonDivisor 28 = .ok (.invokestatic 22, 3) := by decide +kernel
theorem dX2_commonDivisor_31 : decode cX2_commonDivisor 31 = .ok (.ifCond .ne 5, 3) := by decide +kernel
theorem dX2_commonDivisor_34 : decode cX2_commonDivisor 34 = .ok (.iload_n 2, 1) := by decide +kernel
theorem dX2_commonDivisor_35 : decode cX2_commonDivisor 35 = .ok (.istore_n 1, 1) := by decide +kernel
theorem dX2_commonDivisor_36 : decode cX2_commonDivisor 36 = .ok (.iinc 2 1, 3) := by decide +kernel
theorem dX2_commonDivisor_39 : decode cX2_commonDivisor 39 = .ok (.goto (-35), 3) := by decide +kernel
theorem dX2_commonDivisor_42 : decode cX2_commonDivisor 42 = .ok (.iload_n 1, 1) := by decide +kernel
theorem dX2_commonDivisor_43 : decode cX2_commonDivisor 43 = .ok (.ireturn, 1) := by decide +kernel
theorem dX2_exponent_0 : decode cX2_exponent 0 = .ok (.aload_n 0, 1) := by decide +kernel
theorem dX2_exponent_1 : decode cX2_exponent 1 = .ok (.getfield 9, 3) := by decide +kernel
theorem dX2_exponent_4 : decode cX2_exponent 4 = .ok (.aload_n 0, 1) := by decide +kernel
theorem dX2_exponent_5 : decode cX2_exponent 5 = .ok (.getfield 15, 3) := by decide +kernel
theorem dX2_exponent_8 : decode cX2_exponent 8 = .ok (.imul, 1) := by decide +kernel
theorem dX2_exponent_9 : decode cX2_exponent 9 = .ok (.aload_n 0, 1) := by decide +kernel
theorem dX2_exponent_10 : decode cX2_exponent 10 = .ok (.invokevirtual 32, 3) := by decide +kernel
theorem dX2_exponent_13 : decode cX2_exponent 13 = .ok (.invokestatic 26, 3) := by decide +kernel
theorem dX2_exponent_16 : decode cX2_exponent 16 = .ok (.ireturn, 1) := by decide +kernel
theorem dX2_reachedWith_0 : decode cX2_reachedWith 0 = .ok (.lload_n 1, 1) := by decide +kernel
theorem dX2_reachedWith_1 : decode cX2_reachedWith 1 = .ok (.lconst 1, 1) := by decide +kernel
theorem dX2_reachedWith_2 : decode cX2_reachedWith 2 = .ok (.iload_n 3, 1) := by decide +kernel
theorem dX2_reachedWith_3 : decode cX2_reachedWith 3 = .ok (.lshl, 1) := by decide +kernel
theorem dX2_reachedWith_4 : decode cX2_reachedWith 4 = .ok (.lor, 1) := by decide +kernel
theorem dX2_reachedWith_5 : decode cX2_reachedWith 5 = .ok (.lstore 4, 2) := by decide +kernel
theorem dX2_reachedWith_7 : decode cX2_reachedWith 7 = .ok (.iconst 0, 1) := by decide +kernel
theorem dX2_reachedWith_8 : decode cX2_reachedWith 8 = .ok (.istore 6, 2) := by decide +kernel
theorem dX2_reachedWith_10 : decode cX2_reachedWith 10 = .ok (.iload 6, 2) := by decide +kernel
theorem dX2_reachedWith_12 : decode cX2_reachedWith 12 = .ok (.aload_n 0, 1) := by decide +kernel
theorem dX2_reachedWith_13 : decode cX2_reachedWith 13 = .ok (.invokevirtual 18, 3) := by decide +kernel
theorem dX2_reachedWith_16 : decode cX2_reachedWith 16 = .ok (.if_icmp .ge 32, 3) := by decide +kernel
theorem dX2_reachedWith_19 : decode cX2_reachedWith 19 = .ok (.lload_n 1, 1) := by decide +kernel
theorem dX2_reachedWith_20 : decode cX2_reachedWith 20 = .ok (.iload 6, 2) := by decide +kernel
theorem dX2_reachedWith_22 : decode cX2_reachedWith 22 = .ok (.invokestatic 35, 3) := by decide +kernel
theorem dX2_reachedWith_25 : decode cX2_reachedWith 25 = .ok (.ifCond .eq 17, 3) := by decide +kernel
theorem dX2_reachedWith_28 : decode cX2_reachedWith 28 = .ok (.lload 4, 2) := by decide +kernel
theorem dX2_reachedWith_30 : decode cX2_reachedWith 30 = .ok (.lconst 1, 1) := by decide +kernel
theorem dX2_reachedWith_31 : decode cX2_reachedWith 31 = .ok (.aload_n 0, 1) := by decide +kernel
theorem dX2_reachedWith_32 : decode cX2_reachedWith 32 = .ok (.iload 6, 2) := by decide +kernel
theorem dX2_reachedWith_34 : decode cX2_reachedWith 34 = .ok (.iload_n 3, 1) := by decide +kernel
theorem dX2_reachedWith_35 : decode cX2_reachedWith 35 = .ok (.invokevirtual 29, 3) := by decide +kernel
theorem dX2_reachedWith_38 : decode cX2_reachedWith 38 = .ok (.lshl, 1) := by decide +kernel
theorem dX2_reachedWith_39 : decode cX2_reachedWith 39 = .ok (.lor, 1) := by decide +kernel
theorem dX2_reachedWith_40 : decode cX2_reachedWith 40 = .ok (.lstore 4, 2) := by decide +kernel
theorem dX2_reachedWith_42 : decode cX2_reachedWith 42 = .ok (.iinc 6 1, 3) := by decide +kernel
theorem dX2_reachedWith_45 : decode cX2_reachedWith 45 = .ok (.goto (-35), 3) := by decide +kernel
theorem dX2_reachedWith_48 : decode cX2_reachedWith 48 = .ok (.lload 4, 2) := by decide +kernel
theorem dX2_reachedWith_50 : decode cX2_reachedWith 50 = .ok (.lreturn, 1) := by decide +kernel
theorem dX2_lowestFree_0 : decode cX2_lowestFree 0 = .ok (.lload_n 1, 1) := by decide +kernel
theorem dX2_lowestFree_1 : decode cX2_lowestFree 1 = .ok (.iconst 0, 1) := by decide +kernel
theorem dX2_lowestFree_2 : decode cX2_lowestFree 2 = .ok (.invokestatic 35, 3) := by decide +kernel
theorem dX2_lowestFree_5 : decode cX2_lowestFree 5 = .ok (.ifCond .eq 5, 3) := by decide +kernel
theorem dX2_lowestFree_8 : decode cX2_lowestFree 8 = .ok (.iconst (-1), 1) := by decide +kernel
theorem dX2_lowestFree_9 : decode cX2_lowestFree 9 = .ok (.ireturn, 1) := by decide +kernel
theorem dX2_lowestFree_10 : decode cX2_lowestFree 10 = .ok (.iconst 1, 1) := by decide +kernel
theorem dX2_lowestFree_11 : decode cX2_lowestFree 11 = .ok (.istore_n 3, 1) := by decide +kernel
theorem dX2_lowestFree_12 : decode cX2_lowestFree 12 = .ok (.iload_n 3, 1) := by decide +kernel
theorem dX2_lowestFree_13 : decode cX2_lowestFree 13 = .ok (.aload_n 0, 1) := by decide +kernel
theorem dX2_lowestFree_14 : decode cX2_lowestFree 14 = .ok (.invokevirtual 18, 3) := by decide +kernel
theorem dX2_lowestFree_17 : decode cX2_lowestFree 17 = .ok (.if_icmp .ge 23, 3) := by decide +kernel
theorem dX2_lowestFree_20 : decode cX2_lowestFree 20 = .ok (.lload_n 1, 1) := by decide +kernel
theorem dX2_lowestFree_21 : decode cX2_lowestFree 21 = .ok (.aload_n 0, 1) := by decide +kernel
theorem dX2_lowestFree_22 : decode cX2_lowestFree 22 = .ok (.iload_n 3, 1) := by decide +kernel
theorem dX2_lowestFree_23 : decode cX2_lowestFree 23 = .ok (.invokevirtual 39, 3) := by decide +kernel
theorem dX2_lowestFree_26 : decode cX2_lowestFree 26 = .ok (.invokestatic 35, 3) := by decide +kernel
theorem dX2_lowestFree_29 : decode cX2_lowestFree 29 = .ok (.ifCond .ne 5, 3) := by decide +kernel
theorem dX2_lowestFree_32 : decode cX2_lowestFree 32 = .ok (.iload_n 3, 1) := by decide +kernel
theorem dX2_lowestFree_33 : decode cX2_lowestFree 33 = .ok (.ireturn, 1) := by decide +kernel
theorem dX2_lowestFree_34 : decode cX2_lowestFree 34 = .ok (.iinc 3 1, 3) := by decide +kernel
theorem dX2_lowestFree_37 : decode cX2_lowestFree 37 = .ok (.goto (-25), 3) := by decide +kernel
theorem dX2_lowestFree_40 : decode cX2_lowestFree 40 = .ok (.iconst (-1), 1) := by decide +kernel
theorem dX2_lowestFree_41 : decode cX2_lowestFree 41 = .ok (.ireturn, 1) := by decide +kernel
theorem dX2_remainder_0 : decode cX2_remainder 0 = .ok (.iload_n 1, 1) := by decide +kernel
theorem dX2_remainder_1 : decode cX2_remainder 1 = .ok (.ifCond .le 9, 3) := by decide +kernel
theorem dX2_remainder_4 : decode cX2_remainder 4 = .ok (.iload_n 0, 1) := by decide +kernel
theorem dX2_remainder_5 : decode cX2_remainder 5 = .ok (.iload_n 1, 1) := by decide +kernel
theorem dX2_remainder_6 : decode cX2_remainder 6 = .ok (.irem, 1) := by decide +kernel
theorem dX2_remainder_7 : decode cX2_remainder 7 = .ok (.goto 4, 3) := by decide +kernel
theorem dX2_remainder_10 : decode cX2_remainder 10 = .ok (.iconst 0, 1) := by decide +kernel
theorem dX2_remainder_11 : decode cX2_remainder 11 = .ok (.ireturn, 1) := by decide +kernel
theorem dX2_quotient_0 : decode cX2_quotient 0 = .ok (.iload_n 1, 1) := by decide +kernel
theorem dX2_quotient_1 : decode cX2_quotient 1 = .ok (.ifCond .le 9, 3) := by decide +kernel
theorem dX2_quotient_4 : decode cX2_quotient 4 = .ok (.iload_n 0, 1) := by decide +kernel
theorem dX2_quotient_5 : decode cX2_quotient 5 = .ok (.iload_n 1, 1) := by decide +kernel
theorem dX2_quotient_6 : decode cX2_quotient 6 = .ok (.idiv, 1) := by decide +kernel
theorem dX2_quotient_7 : decode cX2_quotient 7 = .ok (.goto 4, 3) := by decide +kernel
theorem dX2_quotient_10 : decode cX2_quotient 10 = .ok (.iconst 0, 1) := by decide +kernel
theorem dX2_quotient_11 : decode cX2_quotient 11 = .ok (.ireturn, 1) := by decide +kernel
theorem dX3_init_0 : decode cX3_init 0 = .ok (.aload_n 0, 1) := by decide +kernel
theorem dX3_init_1 : decode cX3_init 1 = .ok (.invokespecial 3, 3) := by decide +kernel
theorem dX3_init_4 : decode cX3_init 4 = .ok (.aload_n 0, 1) := by decide +kernel
theorem dX3_init_5 : decode cX3_init 5 = .ok (.iconst 4, 1) := by decide +kernel
theorem dX3_init_6 : decode cX3_init 6 = .ok (.anewarray 9, 3) := by decide +kernel
theorem dX3_init_9 : decode cX3_init 9 = .ok (.putfield 11, 3) := by decide +kernel
theorem dX3_init_12 : decode cX3_init 12 = .ok (.iconst 0, 1) := by decide +kernel
theorem dX3_init_13 : decode cX3_init 13 = .ok (.istore_n 1, 1) := by decide +kernel
theorem dX3_init_14 : decode cX3_init 14 = .ok (.iload_n 1, 1) := by decide +kernel
theorem dX3_init_15 : decode cX3_init 15 = .ok (.iconst 4, 1) := by decide +kernel
theorem dX3_init_16 : decode cX3_init 16 = .ok (.if_icmp .ge 22, 3) := by decide +kernel
theorem dX3_init_19 : decode cX3_init 19 = .ok (.aload_n 0, 1) := by decide +kernel
theorem dX3_init_20 : decode cX3_init 20 = .ok (.getfield 11, 3) := by decide +kernel
theorem dX3_init_23 : decode cX3_init 23 = .ok (.iload_n 1, 1) := by decide +kernel
theorem dX3_init_24 : decode cX3_init 24 = .ok (.new 9, 3) := by decide +kernel
theorem dX3_init_27 : decode cX3_init 27 = .ok (.dup, 1) := by decide +kernel
theorem dX3_init_28 : decode cX3_init 28 = .ok (.invokespecial 17, 3) := by decide +kernel
theorem dX3_init_31 : decode cX3_init 31 = .ok (.aastore, 1) := by decide +kernel
theorem dX3_init_32 : decode cX3_init 32 = .ok (.iinc 1 1, 3) := by decide +kernel
theorem dX3_init_35 : decode cX3_init 35 = .ok (.goto (-21), 3) := by decide +kernel
theorem dX3_init_38 : decode cX3_init 38 = .ok (.aload_n 0, 1) := by decide +kernel
theorem dX3_init_39 : decode cX3_init 39 = .ok (.iconst 0, 1) := by decide +kernel
theorem dX3_init_40 : decode cX3_init 40 = .ok (.putfield 18, 3) := by decide +kernel
theorem dX3_init_43 : decode cX3_init 43 = .ok (.return_, 1) := by decide +kernel
theorem dX3_keep_0 : decode cX3_keep 0 = .ok (.aload_n 0, 1) := by decide +kernel
theorem dX3_keep_1 : decode cX3_keep 1 = .ok (.getfield 18, 3) := by decide +kernel
theorem dX3_keep_4 : decode cX3_keep 4 = .ok (.iconst 4, 1) := by decide +kernel
theorem dX3_keep_5 : decode cX3_keep 5 = .ok (.if_icmp .lt 7, 3) := by decide +kernel
theorem dX3_keep_8 : decode cX3_keep 8 = .ok (.aload_n 0, 1) := by decide +kernel
theorem dX3_keep_9 : decode cX3_keep 9 = .ok (.invokevirtual 22, 3) := by decide +kernel
theorem dX3_keep_12 : decode cX3_keep 12 = .ok (.aload_n 0, 1) := by decide +kernel
theorem dX3_keep_13 : decode cX3_keep 13 = .ok (.getfield 11, 3) := by decide +kernel
theorem dX3_keep_16 : decode cX3_keep 16 = .ok (.aload_n 0, 1) := by decide +kernel
theorem dX3_keep_17 : decode cX3_keep 17 = .ok (.getfield 18, 3) := by decide +kernel
theorem dX3_keep_20 : decode cX3_keep 20 = .ok (.aaload, 1) := by decide +kernel
theorem dX3_keep_21 : decode cX3_keep 21 = .ok (.aload_n 1, 1) := by decide +kernel
theorem dX3_keep_22 : decode cX3_keep 22 = .ok (.invokevirtual 25, 3) := by decide +kernel
theorem dX3_keep_25 : decode cX3_keep 25 = .ok (.aload_n 0, 1) := by decide +kernel
theorem dX3_keep_26 : decode cX3_keep 26 = .ok (.dup, 1) := by decide +kernel
theorem dX3_keep_27 : decode cX3_keep 27 = .ok (.getfield 18, 3) := by decide +kernel
theorem dX3_keep_30 : decode cX3_keep 30 = .ok (.iconst 1, 1) := by decide +kernel
theorem dX3_keep_31 : decode cX3_keep 31 = .ok (.iadd, 1) := by decide +kernel
theorem dX3_keep_32 : decode cX3_keep 32 = .ok (.putfield 18, 3) := by decide +kernel
theorem dX3_keep_35 : decode cX3_keep 35 = .ok (.return_, 1) := by decide +kernel
theorem dX3_bringBack_0 : decode cX3_bringBack 0 = .ok (.aload_n 0, 1) := by decide +kernel
theorem dX3_bringBack_1 : decode cX3_bringBack 1 = .ok (.getfield 18, 3) := by decide +kernel
theorem dX3_bringBack_4 : decode cX3_bringBack 4 = .ok (.ifCond .le 26, 3) := by decide +kernel
theorem dX3_bringBack_7 : decode cX3_bringBack 7 = .ok (.aload_n 0, 1) := by decide +kernel
theorem dX3_bringBack_8 : decode cX3_bringBack 8 = .ok (.dup, 1) := by decide +kernel
theorem dX3_bringBack_9 : decode cX3_bringBack 9 = .ok (.getfield 18, 3) := by decide +kernel
theorem dX3_bringBack_12 : decode cX3_bringBack 12 = .ok (.iconst 1, 1) := by decide +kernel
theorem dX3_bringBack_13 : decode cX3_bringBack 13 = .ok (.isub, 1) := by decide +kernel
theorem dX3_bringBack_14 : decode cX3_bringBack 14 = .ok (.putfield 18, 3) := by decide +kernel
theorem dX3_bringBack_17 : decode cX3_bringBack 17 = .ok (.aload_n 1, 1) := by decide +kernel
theorem dX3_bringBack_18 : decode cX3_bringBack 18 = .ok (.aload_n 0, 1) := by decide +kernel
theorem dX3_bringBack_19 : decode cX3_bringBack 19 = .ok (.getfield 11, 3) := by decide +kernel
theorem dX3_bringBack_22 : decode cX3_bringBack 22 = .ok (.aload_n 0, 1) := by decide +kernel
theorem dX3_bringBack_23 : decode cX3_bringBack 23 = .ok (.getfield 18, 3) := by decide +kernel
theorem dX3_bringBack_26 : decode cX3_bringBack 26 = .ok (.aaload, 1) := by decide +kernel
theorem dX3_bringBack_27 : decode cX3_bringBack 27 = .ok (.invokevirtual 25, 3) := by decide +kernel
theorem dX3_bringBack_30 : decode cX3_bringBack 30 = .ok (.return_, 1) := by decide +kernel
theorem dX3_dropOldest_0 : decode cX3_dropOldest 0 = .ok (.aload_n 0, 1) := by decide +kernel
theorem dX3_dropOldest_1 : decode cX3_dropOldest 1 = .ok (.getfield 11, 3) := by decide +kernel
theorem dX3_dropOldest_4 : decode cX3_dropOldest 4 = .ok (.iconst 0, 1) := by decide +kernel
theorem dX3_dropOldest_5 : decode cX3_dropOldest 5 = .ok (.aaload, 1) := by decide +kernel
theorem dX3_dropOldest_6 : decode cX3_dropOldest 6 = .ok (.astore_n 1, 1) := by decide +kernel
theorem dX3_dropOldest_7 : decode cX3_dropOldest 7 = .ok (.iconst 1, 1) := by decide +kernel
theorem dX3_dropOldest_8 : decode cX3_dropOldest 8 = .ok (.istore_n 2, 1) := by decide +kernel
theorem dX3_dropOldest_9 : decode cX3_dropOldest 9 = .ok (.iload_n 2, 1) := by decide +kernel
theorem dX3_dropOldest_10 : decode cX3_dropOldest 10 = .ok (.iconst 4, 1) := by decide +kernel
theorem dX3_dropOldest_11 : decode cX3_dropOldest 11 = .ok (.if_icmp .ge 23, 3) := by decide +kernel
theorem dX3_dropOldest_14 : decode cX3_dropOldest 14 = .ok (.aload_n 0, 1) := by decide +kernel
theorem dX3_dropOldest_15 : decode cX3_dropOldest 15 = .ok (.getfield 11, 3) := by decide +kernel
theorem dX3_dropOldest_18 : decode cX3_dropOldest 18 = .ok (.iload_n 2, 1) := by decide +kernel
theorem dX3_dropOldest_19 : decode cX3_dropOldest 19 = .ok (.iconst 1, 1) := by decide +kernel
theorem dX3_dropOldest_20 : decode cX3_dropOldest 20 = .ok (.isub, 1) := by decide +kernel
theorem dX3_dropOldest_21 : decode cX3_dropOldest 21 = .ok (.aload_n 0, 1) := by decide +kernel
theorem dX3_dropOldest_22 : decode cX3_dropOldest 22 = .ok (.getfield 11, 3) := by decide +kernel
theorem dX3_dropOldest_25 : decode cX3_dropOldest 25 = .ok (.iload_n 2, 1) := by decide +kernel
theorem dX3_dropOldest_26 : decode cX3_dropOldest 26 = .ok (.aaload, 1) := by decide +kernel
theorem dX3_dropOldest_27 : decode cX3_dropOldest 27 = .ok (.aastore, 1) := by decide +kernel
theorem dX3_dropOldest_28 : decode cX3_dropOldest 28 = .ok (.iinc 2 1, 3) := by decide +kernel
theorem dX3_dropOldest_31 : decode cX3_dropOldest 31 = .ok (.goto (-22), 3) := by decide +kernel
theorem dX3_dropOldest_34 : decode cX3_dropOldest 34 = .ok (.aload_n 0, 1) := by decide +kernel
theorem dX3_dropOldest_35 : decode cX3_dropOldest 35 = .ok (.getfield 11, 3) := by decide +kernel
theorem dX3_dropOldest_38 : decode cX3_dropOldest 38 = .ok (.iconst 3, 1) := by decide +kernel
theorem dX3_dropOldest_39 : decode cX3_dropOldest 39 = .ok (.aload_n 1, 1) := by decide +kernel
theorem dX3_dropOldest_40 : decode cX3_dropOldest 40 = .ok (.aastore, 1) := by decide +kernel
theorem dX3_dropOldest_41 : decode cX3_dropOldest 41 = .ok (.aload_n 0, 1) := by decide +kernel
theorem dX3_dropOldest_42 : decode cX3_dropOldest 42 = .ok (.iconst 3, 1) := by decide +kernel
theorem dX3_dropOldest_43 : decode cX3_dropOldest 43 = .ok (.putfield 18, 3) := by decide +kernel
theorem dX3_dropOldest_46 : decode cX3_dropOldest 46 = .ok (.return_, 1) := by decide +kernel
theorem dX4_init_0 : decode cX4_init 0 = .ok (.aload_n 0, 1) := by decide +kernel
theorem dX4_init_1 : decode cX4_init 1 = .ok (.invokespecial 3, 3) := by decide +kernel
theorem dX4_init_4 : decode cX4_init 4 = .ok (.aload_n 0, 1) := by decide +kernel
theorem dX4_init_5 : decode cX4_init 5 = .ok (.new 9, 3) := by decide +kernel
theorem dX4_init_8 : decode cX4_init 8 = .ok (.dup, 1) := by decide +kernel
theorem dX4_init_9 : decode cX4_init 9 = .ok (.invokespecial 11, 3) := by decide +kernel
theorem dX4_init_12 : decode cX4_init 12 = .ok (.putfield 12, 3) := by decide +kernel
theorem dX4_init_15 : decode cX4_init 15 = .ok (.aload_n 0, 1) := by decide +kernel
theorem dX4_init_16 : decode cX4_init 16 = .ok (.bipush 10, 2) := by decide +kernel
theorem dX4_init_18 : decode cX4_init 18 = .ok (.newarray .int, 2) := by decide +kernel
theorem dX4_init_20 : decode cX4_init 20 = .ok (.putfield 18, 3) := by decide +kernel
theorem dX4_init_23 : decode cX4_init 23 = .ok (.aload_n 0, 1) := by decide +kernel
theorem dX4_init_24 : decode cX4_init 24 = .ok (.bipush 10, 2) := by decide +kernel
theorem dX4_init_26 : decode cX4_init 26 = .ok (.newarray .int, 2) := by decide +kernel
theorem dX4_init_28 : decode cX4_init 28 = .ok (.putfield 22, 3) := by decide +kernel
theorem dX4_init_31 : decode cX4_init 31 = .ok (.aload_n 0, 1) := by decide +kernel
theorem dX4_init_32 : decode cX4_init 32 = .ok (.iconst 0, 1) := by decide +kernel
theorem dX4_init_33 : decode cX4_init 33 = .ok (.putfield 25, 3) := by decide +kernel
theorem dX4_init_36 : decode cX4_init 36 = .ok (.return_, 1) := by decide +kernel
theorem dX4_copyFrom_0 : decode cX4_copyFrom 0 = .ok (.aload_n 0, 1) := by decide +kernel
theorem dX4_copyFrom_1 : decode cX4_copyFrom 1 = .ok (.getfield 12, 3) := by decide +kernel
theorem dX4_copyFrom_4 : decode cX4_copyFrom 4 = .ok (.aload_n 1, 1) := by decide +kernel
theorem dX4_copyFrom_5 : decode cX4_copyFrom 5 = .ok (.getfield 12, 3) := by decide +kernel
theorem dX4_copyFrom_8 : decode cX4_copyFrom 8 = .ok (.getfield 29, 3) := by decide +kernel
theorem dX4_copyFrom_11 : decode cX4_copyFrom 11 = .ok (.aload_n 1, 1) := by decide +kernel
theorem dX4_copyFrom_12 : decode cX4_copyFrom 12 = .ok (.getfield 12, 3) := by decide +kernel
theorem dX4_copyFrom_15 : decode cX4_copyFrom 15 = .ok (.getfield 32, 3) := by decide +kernel
theorem dX4_copyFrom_18 : decode cX4_copyFrom 18 = .ok (.invokevirtual 35, 3) := by decide +kernel
theorem dX4_copyFrom_21 : decode cX4_copyFrom 21 = .ok (.aload_n 0, 1) := by decide +kernel
theorem dX4_copyFrom_22 : decode cX4_copyFrom 22 = .ok (.aload_n 1, 1) := by decide +kernel
theorem dX4_copyFrom_23 : decode cX4_copyFrom 23 = .ok (.getfield 25, 3) := by decide +kernel
theorem dX4_copyFrom_26 : decode cX4_copyFrom 26 = .ok (.putfield 25, 3) := by decide +kernel
theorem dX4_copyFrom_29 : decode cX4_copyFrom 29 = .ok (.iconst 0, 1) := by decide +kernel
theorem dX4_copyFrom_30 : decode cX4_copyFrom 30 = .ok (.istore_n 2, 1) := by decide +kernel
theorem dX4_copyFrom_31 : decode cX4_copyFrom 31 = .ok (.iload_n 2, 1) := by decide +kernel
theorem dX4_copyFrom_32 : decode cX4_copyFrom 32 = .ok (.bipush 10, 2) := by decide +kernel
theorem dX4_copyFrom_34 : decode cX4_copyFrom 34 = .ok (.if_icmp .ge 33, 3) := by decide +kernel
theorem dX4_copyFrom_37 : decode cX4_copyFrom 37 = .ok (.aload_n 0, 1) := by decide +kernel
theorem dX4_copyFrom_38 : decode cX4_copyFrom 38 = .ok (.getfield 18, 3) := by decide +kernel
theorem dX4_copyFrom_41 : decode cX4_copyFrom 41 = .ok (.iload_n 2, 1) := by decide +kernel
theorem dX4_copyFrom_42 : decode cX4_copyFrom 42 = .ok (.aload_n 1, 1) := by decide +kernel
theorem dX4_copyFrom_43 : decode cX4_copyFrom 43 = .ok (.getfield 18, 3) := by decide +kernel
theorem dX4_copyFrom_46 : decode cX4_copyFrom 46 = .ok (.iload_n 2, 1) := by decide +kernel
theorem dX4_copyFrom_47 : decode cX4_copyFrom 47 = .ok (.iaload, 1) := by decide +kernel
theorem dX4_copyFrom_48 : decode cX4_copyFrom 48 = .ok (.iastore, 1) := by decide +kernel
theorem dX4_copyFrom_49 : decode cX4_copyFrom 49 = .ok (.aload_n 0, 1) := by decide +kernel
theorem dX4_copyFrom_50 : decode cX4_copyFrom 50 = .ok (.getfield 22, 3) := by decide +kernel
theorem dX4_copyFrom_53 : decode cX4_copyFrom 53 = .ok (.iload_n 2, 1) := by decide +kernel
theorem dX4_copyFrom_54 : decode cX4_copyFrom 54 = .ok (.aload_n 1, 1) := by decide +kernel
theorem dX4_copyFrom_55 : decode cX4_copyFrom 55 = .ok (.getfield 22, 3) := by decide +kernel
theorem dX4_copyFrom_58 : decode cX4_copyFrom 58 = .ok (.iload_n 2, 1) := by decide +kernel
theorem dX4_copyFrom_59 : decode cX4_copyFrom 59 = .ok (.iaload, 1) := by decide +kernel
theorem dX4_copyFrom_60 : decode cX4_copyFrom 60 = .ok (.iastore, 1) := by decide +kernel
theorem dX4_copyFrom_61 : decode cX4_copyFrom 61 = .ok (.iinc 2 1, 3) := by decide +kernel
theorem dX4_copyFrom_64 : decode cX4_copyFrom 64 = .ok (.goto (-33), 3) := by decide +kernel
theorem dX4_copyFrom_67 : decode cX4_copyFrom 67 = .ok (.return_, 1) := by decide +kernel
theorem dX4_restart_0 : decode cX4_restart 0 = .ok (.aload_n 0, 1) := by decide +kernel
theorem dX4_restart_1 : decode cX4_restart 1 = .ok (.getfield 12, 3) := by decide +kernel
theorem dX4_restart_4 : decode cX4_restart 4 = .ok (.iload_n 1, 1) := by decide +kernel
theorem dX4_restart_5 : decode cX4_restart 5 = .ok (.iload_n 2, 1) := by decide +kernel
theorem dX4_restart_6 : decode cX4_restart 6 = .ok (.invokevirtual 35, 3) := by decide +kernel
theorem dX4_restart_9 : decode cX4_restart 9 = .ok (.aload_n 0, 1) := by decide +kernel
theorem dX4_restart_10 : decode cX4_restart 10 = .ok (.iconst 0, 1) := by decide +kernel
theorem dX4_restart_11 : decode cX4_restart 11 = .ok (.putfield 25, 3) := by decide +kernel
theorem dX4_restart_14 : decode cX4_restart 14 = .ok (.return_, 1) := by decide +kernel
theorem dX4_isFull_0 : decode cX4_isFull 0 = .ok (.aload_n 0, 1) := by decide +kernel
theorem dX4_isFull_1 : decode cX4_isFull 1 = .ok (.getfield 25, 3) := by decide +kernel
theorem dX4_isFull_4 : decode cX4_isFull 4 = .ok (.bipush 10, 2) := by decide +kernel
theorem dX4_isFull_6 : decode cX4_isFull 6 = .ok (.if_icmp .lt 7, 3) := by decide +kernel
theorem dX4_isFull_9 : decode cX4_isFull 9 = .ok (.iconst 1, 1) := by decide +kernel
theorem dX4_isFull_10 : decode cX4_isFull 10 = .ok (.goto 4, 3) := by decide +kernel
theorem dX4_isFull_13 : decode cX4_isFull 13 = .ok (.iconst 0, 1) := by decide +kernel
theorem dX4_isFull_14 : decode cX4_isFull 14 = .ok (.ireturn, 1) := by decide +kernel
theorem dX4_hasPlace_0 : decode cX4_hasPlace 0 = .ok (.iload_n 1, 1) := by decide +kernel
theorem dX4_hasPlace_1 : decode cX4_hasPlace 1 = .ok (.ifCond .lt 15, 3) := by decide +kernel
theorem dX4_hasPlace_4 : decode cX4_hasPlace 4 = .ok (.iload_n 1, 1) := by decide +kernel
theorem dX4_hasPlace_5 : decode cX4_hasPlace 5 = .ok (.aload_n 0, 1) := by decide +kernel
theorem dX4_hasPlace_6 : decode cX4_hasPlace 6 = .ok (.getfield 25, 3) := by decide +kernel
theorem dX4_hasPlace_9 : decode cX4_hasPlace 9 = .ok (.if_icmp .ge 7, 3) := by decide +kernel
theorem dX4_hasPlace_12 : decode cX4_hasPlace 12 = .ok (.iconst 1, 1) := by decide +kernel
theorem dX4_hasPlace_13 : decode cX4_hasPlace 13 = .ok (.goto 4, 3) := by decide +kernel
theorem dX4_hasPlace_16 : decode cX4_hasPlace 16 = .ok (.iconst 0, 1) := by decide +kernel
theorem dX4_hasPlace_17 : decode cX4_hasPlace 17 = .ok (.ireturn, 1) := by decide +kernel
theorem dX4_allPlaces_0 : decode cX4_allPlaces 0 = .ok (.iconst 1, 1) := by decide +kernel
theorem dX4_allPlaces_1 : decode cX4_allPlaces 1 = .ok (.aload_n 0, 1) := by decide +kernel
theorem dX4_allPlaces_2 : decode cX4_allPlaces 2 = .ok (.getfield 25, 3) := by decide +kernel
theorem dX4_allPlaces_5 : decode cX4_allPlaces 5 = .ok (.ishl, 1) := by decide +kernel
theorem dX4_allPlaces_6 : decode cX4_allPlaces 6 = .ok (.iconst 1, 1) := by decide +kernel
theorem dX4_allPlaces_7 : decode cX4_allPlaces 7 = .ok (.isub, 1) := by decide +kernel
theorem dX4_allPlaces_8 : decode cX4_allPlaces 8 = .ok (.ireturn, 1) := by decide +kernel
theorem dX4_hasPlaces_0 : decode cX4_hasPlaces 0 = .ok (.iload_n 1, 1) := by decide +kernel
theorem dX4_hasPlaces_1 : decode cX4_hasPlaces 1 = .ok (.ifCond .lt 15, 3) := by decide +kernel
theorem dX4_hasPlaces_4 : decode cX4_hasPlaces 4 = .ok (.iload_n 1, 1) := by decide +kernel
theorem dX4_hasPlaces_5 : decode cX4_hasPlaces 5 = .ok (.aload_n 0, 1) := by decide +kernel
theorem dX4_hasPlaces_6 : decode cX4_hasPlaces 6 = .ok (.invokevirtual 39, 3) := by decide +kernel
theorem dX4_hasPlaces_9 : decode cX4_hasPlaces 9 = .ok (.if_icmp .gt 7, 3) := by decide +kernel
theorem dX4_hasPlaces_12 : decode cX4_hasPlaces 12 = .ok (.iconst 1, 1) := by decide +kernel
theorem dX4_hasPlaces_13 : decode cX4_hasPlaces 13 = .ok (.goto 4, 3) := by decide +kernel
theorem dX4_hasPlaces_16 : decode cX4_hasPlaces 16 = .ok (.iconst 0, 1) := by decide +kernel
theorem dX4_hasPlaces_17 : decode cX4_hasPlaces 17 = .ok (.ireturn, 1) := by decide +kernel
theorem dX4_append_0 : decode cX4_append 0 = .ok (.aload_n 0, 1) := by decide +kernel
theorem dX4_append_1 : decode cX4_append 1 = .ok (.invokevirtual 43, 3) := by decide +kernel
theorem dX4_append_4 : decode cX4_append 4 = .ok (.ifCond .eq 4, 3) := by decide +kernel
theorem dX4_append_7 : decode cX4_append 7 = .ok (.return_, 1) := by decide +kernel
theorem dX4_append_8 : decode cX4_append 8 = .ok (.aload_n 0, 1) := by decide +kernel
theorem dX4_append_9 : decode cX4_append 9 = .ok (.getfield 18, 3) := by decide +kernel
theorem dX4_append_12 : decode cX4_append 12 = .ok (.aload_n 0, 1) := by decide +kernel
theorem dX4_append_13 : decode cX4_append 13 = .ok (.getfield 25, 3) := by decide +kernel
theorem dX4_append_16 : decode cX4_append 16 = .ok (.iload_n 1, 1) := by decide +kernel
theorem dX4_append_17 : decode cX4_append 17 = .ok (.iastore, 1) := by decide +kernel
theorem dX4_append_18 : decode cX4_append 18 = .ok (.aload_n 0, 1) := by decide +kernel
theorem dX4_append_19 : decode cX4_append 19 = .ok (.getfield 22, 3) := by decide +kernel
theorem dX4_append_22 : decode cX4_append 22 = .ok (.aload_n 0, 1) := by decide +kernel
theorem dX4_append_23 : decode cX4_append 23 = .ok (.getfield 25, 3) := by decide +kernel
theorem dX4_append_26 : decode cX4_append 26 = .ok (.iconst 0, 1) := by decide +kernel
theorem dX4_append_27 : decode cX4_append 27 = .ok (.iastore, 1) := by decide +kernel
theorem dX4_append_28 : decode cX4_append 28 = .ok (.aload_n 0, 1) := by decide +kernel
theorem dX4_append_29 : decode cX4_append 29 = .ok (.dup, 1) := by decide +kernel
theorem dX4_append_30 : decode cX4_append 30 = .ok (.getfield 25, 3) := by decide +kernel
theorem dX4_append_33 : decode cX4_append 33 = .ok (.iconst 1, 1) := by decide +kernel
theorem dX4_append_34 : decode cX4_append 34 = .ok (.iadd, 1) := by decide +kernel
theorem dX4_append_35 : decode cX4_append 35 = .ok (.putfield 25, 3) := by decide +kernel
theorem dX4_append_38 : decode cX4_append 38 = .ok (.return_, 1) := by decide +kernel
theorem dX4_takeOut_0 : decode cX4_takeOut 0 = .ok (.aload_n 0, 1) := by decide +kernel
theorem dX4_takeOut_1 : decode cX4_takeOut 1 = .ok (.iload_n 1, 1) := by decide +kernel
theorem dX4_takeOut_2 : decode cX4_takeOut 2 = .ok (.invokevirtual 47, 3) := by decide +kernel
theorem dX4_takeOut_5 : decode cX4_takeOut 5 = .ok (.ifCond .ne 5, 3) := by decide +kernel
theorem dX4_takeOut_8 : decode cX4_takeOut 8 = .ok (.iconst (-1), 1) := by decide +kernel
theorem dX4_takeOut_9 : decode cX4_takeOut 9 = .ok (.ireturn, 1) := by decide +kernel
theorem dX4_takeOut_10 : decode cX4_takeOut 10 = .ok (.aload_n 0, 1) := by decide +kernel
theorem dX4_takeOut_11 : decode cX4_takeOut 11 = .ok (.getfield 18, 3) := by decide +kernel
theorem dX4_takeOut_14 : decode cX4_takeOut 14 = .ok (.iload_n 1, 1) := by decide +kernel
theorem dX4_takeOut_15 : decode cX4_takeOut 15 = .ok (.iaload, 1) := by decide +kernel
theorem dX4_takeOut_16 : decode cX4_takeOut 16 = .ok (.istore_n 2, 1) := by decide +kernel
theorem dX4_takeOut_17 : decode cX4_takeOut 17 = .ok (.aload_n 0, 1) := by decide +kernel
theorem dX4_takeOut_18 : decode cX4_takeOut 18 = .ok (.dup, 1) := by decide +kernel
theorem dX4_takeOut_19 : decode cX4_takeOut 19 = .ok (.getfield 25, 3) := by decide +kernel
theorem dX4_takeOut_22 : decode cX4_takeOut 22 = .ok (.iconst 1, 1) := by decide +kernel
theorem dX4_takeOut_23 : decode cX4_takeOut 23 = .ok (.isub, 1) := by decide +kernel
theorem dX4_takeOut_24 : decode cX4_takeOut 24 = .ok (.putfield 25, 3) := by decide +kernel
theorem dX4_takeOut_27 : decode cX4_takeOut 27 = .ok (.iload_n 1, 1) := by decide +kernel
theorem dX4_takeOut_28 : decode cX4_takeOut 28 = .ok (.istore_n 3, 1) := by decide +kernel
theorem dX4_takeOut_29 : decode cX4_takeOut 29 = .ok (.iload_n 3, 1) := by decide +kernel
theorem dX4_takeOut_30 : decode cX4_takeOut 30 = .ok (.aload_n 0, 1) := by decide +kernel
theorem dX4_takeOut_31 : decode cX4_takeOut 31 = .ok (.getfield 25, 3) := by decide +kernel
theorem dX4_takeOut_34 : decode cX4_takeOut 34 = .ok (.if_icmp .ge 37, 3) := by decide +kernel
theorem dX4_takeOut_37 : decode cX4_takeOut 37 = .ok (.aload_n 0, 1) := by decide +kernel
theorem dX4_takeOut_38 : decode cX4_takeOut 38 = .ok (.getfield 18, 3) := by decide +kernel
theorem dX4_takeOut_41 : decode cX4_takeOut 41 = .ok (.iload_n 3, 1) := by decide +kernel
theorem dX4_takeOut_42 : decode cX4_takeOut 42 = .ok (.aload_n 0, 1) := by decide +kernel
theorem dX4_takeOut_43 : decode cX4_takeOut 43 = .ok (.getfield 18, 3) := by decide +kernel
theorem dX4_takeOut_46 : decode cX4_takeOut 46 = .ok (.iload_n 3, 1) := by decide +kernel
theorem dX4_takeOut_47 : decode cX4_takeOut 47 = .ok (.iconst 1, 1) := by decide +kernel
theorem dX4_takeOut_48 : decode cX4_takeOut 48 = .ok (.iadd, 1) := by decide +kernel
theorem dX4_takeOut_49 : decode cX4_takeOut 49 = .ok (.iaload, 1) := by decide +kernel
theorem dX4_takeOut_50 : decode cX4_takeOut 50 = .ok (.iastore, 1) := by decide +kernel
theorem dX4_takeOut_51 : decode cX4_takeOut 51 = .ok (.aload_n 0, 1) := by decide +kernel
theorem dX4_takeOut_52 : decode cX4_takeOut 52 = .ok (.getfield 22, 3) := by decide +kernel
theorem dX4_takeOut_55 : decode cX4_takeOut 55 = .ok (.iload_n 3, 1) := by decide +kernel
theorem dX4_takeOut_56 : decode cX4_takeOut 56 = .ok (.aload_n 0, 1) := by decide +kernel
theorem dX4_takeOut_57 : decode cX4_takeOut 57 = .ok (.getfield 22, 3) := by decide +kernel
theorem dX4_takeOut_60 : decode cX4_takeOut 60 = .ok (.iload_n 3, 1) := by decide +kernel
theorem dX4_takeOut_61 : decode cX4_takeOut 61 = .ok (.iconst 1, 1) := by decide +kernel
theorem dX4_takeOut_62 : decode cX4_takeOut 62 = .ok (.iadd, 1) := by decide +kernel
theorem dX4_takeOut_63 : decode cX4_takeOut 63 = .ok (.iaload, 1) := by decide +kernel
theorem dX4_takeOut_64 : decode cX4_takeOut 64 = .ok (.iastore, 1) := by decide +kernel
theorem dX4_takeOut_65 : decode cX4_takeOut 65 = .ok (.iinc 3 1, 3) := by decide +kernel
theorem dX4_takeOut_68 : decode cX4_takeOut 68 = .ok (.goto (-39), 3) := by decide +kernel
theorem dX4_takeOut_71 : decode cX4_takeOut 71 = .ok (.iload_n 2, 1) := by decide +kernel
theorem dX4_takeOut_72 : decode cX4_takeOut 72 = .ok (.ireturn, 1) := by decide +kernel
theorem dX4_timesOf_0 : decode cX4_timesOf 0 = .ok (.iconst 0, 1) := by decide +kernel
theorem dX4_timesOf_1 : decode cX4_timesOf 1 = .ok (.istore_n 3, 1) := by decide +kernel
theorem dX4_timesOf_2 : decode cX4_timesOf 2 = .ok (.iconst 0, 1) := by decide +kernel
theorem dX4_timesOf_3 : decode cX4_timesOf 3 = .ok (.istore 4, 2) := by decide +kernel
theorem dX4_timesOf_5 : decode cX4_timesOf 5 = .ok (.iload 4, 2) := by decide +kernel
theorem dX4_timesOf_7 : decode cX4_timesOf 7 = .ok (.aload_n 0, 1) := by decide +kernel
theorem dX4_timesOf_8 : decode cX4_timesOf 8 = .ok (.getfield 25, 3) := by decide +kernel
theorem dX4_timesOf_11 : decode cX4_timesOf 11 = .ok (.if_icmp .ge 32, 3) := by decide +kernel
theorem dX4_timesOf_14 : decode cX4_timesOf 14 = .ok (.aload_n 0, 1) := by decide +kernel
theorem dX4_timesOf_15 : decode cX4_timesOf 15 = .ok (.getfield 18, 3) := by decide +kernel
theorem dX4_timesOf_18 : decode cX4_timesOf 18 = .ok (.iload 4, 2) := by decide +kernel
theorem dX4_timesOf_20 : decode cX4_timesOf 20 = .ok (.iaload, 1) := by decide +kernel
theorem dX4_timesOf_21 : decode cX4_timesOf 21 = .ok (.iload_n 1, 1) := by decide +kernel
theorem dX4_timesOf_22 : decode cX4_timesOf 22 = .ok (.if_icmp .ne 15, 3) := by decide +kernel
theorem dX4_timesOf_25 : decode cX4_timesOf 25 = .ok (.iload_n 2, 1) := by decide +kernel
theorem dX4_timesOf_26 : decode cX4_timesOf 26 = .ok (.iload 4, 2) := by decide +kernel
theorem dX4_timesOf_28 : decode cX4_timesOf 28 = .ok (.ishr, 1) := by decide +kernel
theorem dX4_timesOf_29 : decode cX4_timesOf 29 = .ok (.iconst 1, 1) := by decide +kernel
theorem dX4_timesOf_30 : decode cX4_timesOf 30 = .ok (.iand, 1) := by decide +kernel
theorem dX4_timesOf_31 : decode cX4_timesOf 31 = .ok (.ifCond .eq 6, 3) := by decide +kernel
theorem dX4_timesOf_34 : decode cX4_timesOf 34 = .ok (.iinc 3 1, 3) := by decide +kernel
theorem dX4_timesOf_37 : decode cX4_timesOf 37 = .ok (.iinc 4 1, 3) := by decide +kernel
theorem dX4_timesOf_40 : decode cX4_timesOf 40 = .ok (.goto (-35), 3) := by decide +kernel
theorem dX4_timesOf_43 : decode cX4_timesOf 43 = .ok (.iload_n 3, 1) := by decide +kernel
theorem dX4_timesOf_44 : decode cX4_timesOf 44 = .ok (.ireturn, 1) := by decide +kernel
theorem dX4_placesOf_0 : decode cX4_placesOf 0 = .ok (.iconst 0, 1) := by decide +kernel
theorem dX4_placesOf_1 : decode cX4_placesOf 1 = .ok (.istore_n 2, 1) := by decide +kernel
theorem dX4_placesOf_2 : decode cX4_placesOf 2 = .ok (.iconst 0, 1) := by decide +kernel
theorem dX4_placesOf_3 : decode cX4_placesOf 3 = .ok (.istore_n 3, 1) := by decide +kernel
theorem dX4_placesOf_4 : decode cX4_placesOf 4 = .ok (.iload_n 3, 1) := by decide +kernel
theorem dX4_placesOf_5 : decode cX4_placesOf 5 = .ok (.aload_n 0, 1) := by decide +kernel
theorem dX4_placesOf_6 : decode cX4_placesOf 6 = .ok (.getfield 25, 3) := by decide +kernel
theorem dX4_placesOf_9 : decode cX4_placesOf 9 = .ok (.if_icmp .ge 25, 3) := by decide +kernel
theorem dX4_placesOf_12 : decode cX4_placesOf 12 = .ok (.aload_n 0, 1) := by decide +kernel
theorem dX4_placesOf_13 : decode cX4_placesOf 13 = .ok (.getfield 22, 3) := by decide +kernel
theorem dX4_placesOf_16 : decode cX4_placesOf 16 = .ok (.iload_n 3, 1) := by decide +kernel
theorem dX4_placesOf_17 : decode cX4_placesOf 17 = .ok (.iaload, 1) := by decide +kernel
theorem dX4_placesOf_18 : decode cX4_placesOf 18 = .ok (.iload_n 1, 1) := by decide +kernel
theorem dX4_placesOf_19 : decode cX4_placesOf 19 = .ok (.if_icmp .ne 9, 3) := by decide +kernel
theorem dX4_placesOf_22 : decode cX4_placesOf 22 = .ok (.iload_n 2, 1) := by decide +kernel
theorem dX4_placesOf_23 : decode cX4_placesOf 23 = .ok (.iconst 1, 1) := by decide +kernel
theorem dX4_placesOf_24 : decode cX4_placesOf 24 = .ok (.iload_n 3, 1) := by decide +kernel
theorem dX4_placesOf_25 : decode cX4_placesOf 25 = .ok (.ishl, 1) := by decide +kernel
theorem dX4_placesOf_26 : decode cX4_placesOf 26 = .ok (.ior, 1) := by decide +kernel
theorem dX4_placesOf_27 : decode cX4_placesOf 27 = .ok (.istore_n 2, 1) := by decide +kernel
theorem dX4_placesOf_28 : decode cX4_placesOf 28 = .ok (.iinc 3 1, 3) := by decide +kernel
theorem dX4_placesOf_31 : decode cX4_placesOf 31 = .ok (.goto (-27), 3) := by decide +kernel
theorem dX4_placesOf_34 : decode cX4_placesOf 34 = .ok (.iload_n 2, 1) := by decide +kernel
theorem dX4_placesOf_35 : decode cX4_placesOf 35 = .ok (.ireturn, 1) := by decide +kernel
theorem dX4_layPlaces_0 : decode cX4_layPlaces 0 = .ok (.iconst 0, 1) := by decide +kernel
theorem dX4_layPlaces_1 : decode cX4_layPlaces 1 = .ok (.istore_n 3, 1) := by decide +kernel
theorem dX4_layPlaces_2 : decode cX4_layPlaces 2 = .ok (.iload_n 3, 1) := by decide +kernel
theorem dX4_layPlaces_3 : decode cX4_layPlaces 3 = .ok (.aload_n 0, 1) := by decide +kernel
theorem dX4_layPlaces_4 : decode cX4_layPlaces 4 = .ok (.getfield 25, 3) := by decide +kernel
theorem dX4_layPlaces_7 : decode cX4_layPlaces 7 = .ok (.if_icmp .ge 24, 3) := by decide +kernel
theorem dX4_layPlaces_10 : decode cX4_layPlaces 10 = .ok (.iload_n 1, 1) := by decide +kernel
theorem dX4_layPlaces_11 : decode cX4_layPlaces 11 = .ok (.iload_n 3, 1) := by decide +kernel
theorem dX4_layPlaces_12 : decode cX4_layPlaces 12 = .ok (.ishr, 1) := by decide +kernel
theorem dX4_layPlaces_13 : decode cX4_layPlaces 13 = .ok (.iconst 1, 1) := by decide +kernel
theorem dX4_layPlaces_14 : decode cX4_layPlaces 14 = .ok (.iand, 1) := by decide +kernel
theorem dX4_layPlaces_15 : decode cX4_layPlaces 15 = .ok (.ifCond .eq 10, 3) := by decide +kernel
theorem dX4_layPlaces_18 : decode cX4_layPlaces 18 = .ok (.aload_n 0, 1) := by decide +kernel
theorem dX4_layPlaces_19 : decode cX4_layPlaces 19 = .ok (.getfield 22, 3) := by decide +kernel
theorem dX4_layPlaces_22 : decode cX4_layPlaces 22 = .ok (.iload_n 3, 1) := by decide +kernel
theorem dX4_layPlaces_23 : decode cX4_layPlaces 23 = .ok (.iload_n 2, 1) := by decide +kernel
theorem dX4_layPlaces_24 : decode cX4_layPlaces 24 = .ok (.iastore, 1) := by decide +kernel
theorem dX4_layPlaces_25 : decode cX4_layPlaces 25 = .ok (.iinc 3 1, 3) := by decide +kernel
theorem dX4_layPlaces_28 : decode cX4_layPlaces 28 = .ok (.goto (-26), 3) := by decide +kernel
theorem dX4_layPlaces_31 : decode cX4_layPlaces 31 = .ok (.return_, 1) := by decide +kernel
theorem dX4_takesFirstOnes_0 : decode cX4_takesFirstOnes 0 = .ok (.iconst 1, 1) := by decide +kernel
theorem dX4_takesFirstOnes_1 : decode cX4_takesFirstOnes 1 = .ok (.istore_n 2, 1) := by decide +kernel
theorem dX4_takesFirstOnes_2 : decode cX4_takesFirstOnes 2 = .ok (.iload_n 2, 1) := by decide +kernel
theorem dX4_takesFirstOnes_3 : decode cX4_takesFirstOnes 3 = .ok (.aload_n 0, 1) := by decide +kernel
theorem dX4_takesFirstOnes_4 : decode cX4_takesFirstOnes 4 = .ok (.getfield 25, 3) := by decide +kernel
theorem dX4_takesFirstOnes_7 : decode cX4_takesFirstOnes 7 = .ok (.if_icmp .ge 28, 3) := by decide +kernel
theorem dX4_takesFirstOnes_10 : decode cX4_takesFirstOnes 10 = .ok (.iload_n 1, 1) := by decide +kernel
theorem dX4_takesFirstOnes_11 : decode cX4_takesFirstOnes 11 = .ok (.iload_n 2, 1) := by decide +kernel
theorem dX4_takesFirstOnes_12 : decode cX4_takesFirstOnes 12 = .ok (.ishr, 1) := by decide +kernel
theorem dX4_takesFirstOnes_13 : decode cX4_takesFirstOnes 13 = .ok (.iconst 1, 1) := by decide +kernel
theorem dX4_takesFirstOnes_14 : decode cX4_takesFirstOnes 14 = .ok (.iand, 1) := by decide +kernel
theorem dX4_takesFirstOnes_15 : decode cX4_takesFirstOnes 15 = .ok (.ifCond .eq 14, 3) := by decide +kernel
theorem dX4_takesFirstOnes_18 : decode cX4_takesFirstOnes 18 = .ok (.aload_n 0, 1) := by decide +kernel
theorem dX4_takesFirstOnes_19 : decode cX4_takesFirstOnes 19 = .ok (.iload_n 2, 1) := by decide +kernel
theorem dX4_takesFirstOnes_20 : decode cX4_takesFirstOnes 20 = .ok (.iload_n 1, 1) := by decide +kernel
theorem dX4_takesFirstOnes_21 : decode cX4_takesFirstOnes 21 = .ok (.invokevirtual 51, 3) := by decide +kernel
theorem dX4_takesFirstOnes_24 : decode cX4_takesFirstOnes 24 = .ok (.ifCond .eq 5, 3) := by decide +kernel
theorem dX4_takesFirstOnes_27 : decode cX4_takesFirstOnes 27 = .ok (.iconst 0, 1) := by decide +kernel
theorem dX4_takesFirstOnes_28 : decode cX4_takesFirstOnes 28 = .ok (.ireturn, 1) := by decide +kernel
theorem dX4_takesFirstOnes_29 : decode cX4_takesFirstOnes 29 = .ok (.iinc 2 1, 3) := by decide +kernel
theorem dX4_takesFirstOnes_32 : decode cX4_takesFirstOnes 32 = .ok (.goto (-30), 3) := by decide +kernel
theorem dX4_takesFirstOnes_35 : decode cX4_takesFirstOnes 35 = .ok (.iconst 1, 1) := by decide +kernel
theorem dX4_takesFirstOnes_36 : decode cX4_takesFirstOnes 36 = .ok (.ireturn, 1) := by decide +kernel
theorem dX4_skipsBefore_0 : decode cX4_skipsBefore 0 = .ok (.iconst 0, 1) := by decide +kernel
theorem dX4_skipsBefore_1 : decode cX4_skipsBefore 1 = .ok (.istore_n 3, 1) := by decide +kernel
theorem dX4_skipsBefore_2 : decode cX4_skipsBefore 2 = .ok (.iload_n 3, 1) := by decide +kernel
theorem dX4_skipsBefore_3 : decode cX4_skipsBefore 3 = .ok (.iload_n 1, 1) := by decide +kernel
theorem dX4_skipsBefore_4 : decode cX4_skipsBefore 4 = .ok (.if_icmp .ge 34, 3) := by decide +kernel
theorem dX4_skipsBefore_7 : decode cX4_skipsBefore 7 = .ok (.aload_n 0, 1) := by decide +kernel
theorem dX4_skipsBefore_8 : decode cX4_skipsBefore 8 = .ok (.getfield 18, 3) := by decide +kernel
theorem dX4_skipsBefore_11 : decode cX4_skipsBefore 11 = .ok (.iload_n 3, 1) := by decide +kernel
theorem dX4_skipsBefore_12 : decode cX4_skipsBefore 12 = .ok (.iaload, 1) := by decide +kernel
theorem dX4_skipsBefore_13 : decode cX4_skipsBefore 13 = .ok (.aload_n 0, 1) := by decide +kernel
theorem dX4_skipsBefore_14 : decode cX4_skipsBefore 14 = .ok (.getfield 18, 3) := by decide +kernel
theorem dX4_skipsBefore_17 : decode cX4_skipsBefore 17 = .ok (.iload_n 1, 1) := by decide +kernel
theorem dX4_skipsBefore_18 : decode cX4_skipsBefore 18 = .ok (.iaload, 1) := by decide +kernel
theorem dX4_skipsBefore_19 : decode cX4_skipsBefore 19 = .ok (.if_icmp .ne 13, 3) := by decide +kernel
theorem dX4_skipsBefore_22 : decode cX4_skipsBefore 22 = .ok (.iload_n 2, 1) := by decide +kernel
theorem dX4_skipsBefore_23 : decode cX4_skipsBefore 23 = .ok (.iload_n 3, 1) := by decide +kernel
theorem dX4_skipsBefore_24 : decode cX4_skipsBefore 24 = .ok (.ishr, 1) := by decide +kernel
theorem dX4_skipsBefore_25 : decode cX4_skipsBefore 25 = .ok (.iconst 1, 1) := by decide +kernel
theorem dX4_skipsBefore_26 : decode cX4_skipsBefore 26 = .ok (.iand, 1) := by decide +kernel
theorem dX4_skipsBefore_27 : decode cX4_skipsBefore 27 = .ok (.ifCond .ne 5, 3) := by decide +kernel
theorem dX4_skipsBefore_30 : decode cX4_skipsBefore 30 = .ok (.iconst 1, 1) := by decide +kernel
theorem dX4_skipsBefore_31 : decode cX4_skipsBefore 31 = .ok (.ireturn, 1) := by decide +kernel
theorem dX4_skipsBefore_32 : decode cX4_skipsBefore 32 = .ok (.iinc 3 1, 3) := by decide +kernel
theorem dX4_skipsBefore_35 : decode cX4_skipsBefore 35 = .ok (.goto (-33), 3) := by decide +kernel
theorem dX4_skipsBefore_38 : decode cX4_skipsBefore 38 = .ok (.iconst 0, 1) := by decide +kernel
theorem dX4_skipsBefore_39 : decode cX4_skipsBefore 39 = .ok (.ireturn, 1) := by decide +kernel
theorem dX5_init_0 : decode cX5_init 0 = .ok (.aload_n 0, 1) := by decide +kernel
theorem dX5_init_1 : decode cX5_init 1 = .ok (.invokespecial 3, 3) := by decide +kernel
theorem dX5_init_4 : decode cX5_init 4 = .ok (.aload_n 0, 1) := by decide +kernel
theorem dX5_init_5 : decode cX5_init 5 = .ok (.new 9, 3) := by decide +kernel
theorem dX5_init_8 : decode cX5_init 8 = .ok (.dup, 1) := by decide +kernel
theorem dX5_init_9 : decode cX5_init 9 = .ok (.invokespecial 11, 3) := by decide +kernel
theorem dX5_init_12 : decode cX5_init 12 = .ok (.putfield 12, 3) := by decide +kernel
theorem dX5_init_15 : decode cX5_init 15 = .ok (.aload_n 0, 1) := by decide +kernel
theorem dX5_init_16 : decode cX5_init 16 = .ok (.sipush 1024, 3) := by decide +kernel
theorem dX5_init_19 : decode cX5_init 19 = .ok (.newarray .int, 2) := by decide +kernel
theorem dX5_init_21 : decode cX5_init 21 = .ok (.putfield 18, 3) := by decide +kernel
theorem dX5_init_24 : decode cX5_init 24 = .ok (.aload_n 0, 1) := by decide +kernel
theorem dX5_init_25 : decode cX5_init 25 = .ok (.sipush 1024, 3) := by decide +kernel
theorem dX5_init_28 : decode cX5_init 28 = .ok (.newarray .int, 2) := by decide +kernel
theorem dX5_init_30 : decode cX5_init 30 = .ok (.putfield 22, 3) := by decide +kernel
theorem dX5_init_33 : decode cX5_init 33 = .ok (.aload_n 0, 1) := by decide +kernel
theorem dX5_init_34 : decode cX5_init 34 = .ok (.sipush 1024, 3) := by decide +kernel
theorem dX5_init_37 : decode cX5_init 37 = .ok (.newarray .int, 2) := by decide +kernel
theorem dX5_init_39 : decode cX5_init 39 = .ok (.putfield 25, 3) := by decide +kernel
theorem dX5_init_42 : decode cX5_init 42 = .ok (.aload_n 0, 1) := by decide +kernel
theorem dX5_init_43 : decode cX5_init 43 = .ok (.sipush 1024, 3) := by decide +kernel
theorem dX5_init_46 : decode cX5_init 46 = .ok (.newarray .int, 2) := by decide +kernel
theorem dX5_init_48 : decode cX5_init 48 = .ok (.putfield 28, 3) := by decide +kernel
theorem dX5_init_51 : decode cX5_init 51 = .ok (.aload_n 0, 1) := by decide +kernel
theorem dX5_init_52 : decode cX5_init 52 = .ok (.sipush 1024, 3) := by decide +kernel
theorem dX5_init_55 : decode cX5_init 55 = .ok (.newarray .int, 2) := by decide +kernel
theorem dX5_init_57 : decode cX5_init 57 = .ok (.putfield 31, 3) := by decide +kernel
theorem dX5_init_60 : decode cX5_init 60 = .ok (.aload_n 0, 1) := by decide +kernel
theorem dX5_init_61 : decode cX5_init 61 = .ok (.iconst 0, 1) := by decide +kernel
theorem dX5_init_62 : decode cX5_init 62 = .ok (.putfield 34, 3) := by decide +kernel
theorem dX5_init_65 : decode cX5_init 65 = .ok (.aload_n 0, 1) := by decide +kernel
theorem dX5_init_66 : decode cX5_init 66 = .ok (.getfield 25, 3) := by decide +kernel
theorem dX5_init_69 : decode cX5_init 69 = .ok (.iconst 0, 1) := by decide +kernel
theorem dX5_init_70 : decode cX5_init 70 = .ok (.iconst 1, 1) := by decide +kernel
theorem dX5_init_71 : decode cX5_init 71 = .ok (.iastore, 1) := by decide +kernel
theorem dX5_init_72 : decode cX5_init 72 = .ok (.aload_n 0, 1) := by decide +kernel
theorem dX5_init_73 : decode cX5_init 73 = .ok (.getfield 28, 3) := by decide +kernel
theorem dX5_init_76 : decode cX5_init 76 = .ok (.iconst 0, 1) := by decide +kernel
theorem dX5_init_77 : decode cX5_init 77 = .ok (.iconst 1, 1) := by decide +kernel
theorem dX5_init_78 : decode cX5_init 78 = .ok (.iastore, 1) := by decide +kernel
theorem dX5_init_79 : decode cX5_init 79 = .ok (.aload_n 0, 1) := by decide +kernel
theorem dX5_init_80 : decode cX5_init 80 = .ok (.iconst 1, 1) := by decide +kernel
theorem dX5_init_81 : decode cX5_init 81 = .ok (.putfield 38, 3) := by decide +kernel
theorem dX5_init_84 : decode cX5_init 84 = .ok (.return_, 1) := by decide +kernel
theorem dX5_follow_0 : decode cX5_follow 0 = .ok (.aload_n 0, 1) := by decide +kernel
theorem dX5_follow_1 : decode cX5_follow 1 = .ok (.aload_n 1, 1) := by decide +kernel
theorem dX5_follow_2 : decode cX5_follow 2 = .ok (.invokevirtual 41, 3) := by decide +kernel
theorem dX5_follow_5 : decode cX5_follow 5 = .ok (.istore_n 2, 1) := by decide +kernel
theorem dX5_follow_6 : decode cX5_follow 6 = .ok (.iload_n 2, 1) := by decide +kernel
theorem dX5_follow_7 : decode cX5_follow 7 = .ok (.aload_n 0, 1) := by decide +kernel
theorem dX5_follow_8 : decode cX5_follow 8 = .ok (.getfield 12, 3) := by decide +kernel
theorem dX5_follow_11 : decode cX5_follow 11 = .ok (.getfield 45, 3) := by decide +kernel
theorem dX5_follow_14 : decode cX5_follow 14 = .ok (.if_icmp .ge 8, 3) := by decide +kernel
theorem dX5_follow_17 : decode cX5_follow 17 = .ok (.aload_n 0, 1) := by decide +kernel
theorem dX5_follow_18 : decode cX5_follow 18 = .ok (.iload_n 2, 1) := by decide +kernel
theorem dX5_follow_19 : decode cX5_follow 19 = .ok (.invokevirtual 48, 3) := by decide +kernel
theorem dX5_follow_22 : decode cX5_follow 22 = .ok (.aload_n 0, 1) := by decide +kernel
theorem dX5_follow_23 : decode cX5_follow 23 = .ok (.getfield 12, 3) := by decide +kernel
theorem dX5_follow_26 : decode cX5_follow 26 = .ok (.getfield 52, 3) := by decide +kernel
theorem dX5_follow_29 : decode cX5_follow 29 = .ok (.aload_n 1, 1) := by decide +kernel
theorem dX5_follow_30 : decode cX5_follow 30 = .ok (.getfield 52, 3) := by decide +kernel
theorem dX5_follow_33 : decode cX5_follow 33 = .ok (.getfield 56, 3) := by decide +kernel
theorem dX5_follow_36 : decode cX5_follow 36 = .ok (.aload_n 1, 1) := by decide +kernel
theorem dX5_follow_37 : decode cX5_follow 37 = .ok (.getfield 52, 3) := by decide +kernel
theorem dX5_follow_40 : decode cX5_follow 40 = .ok (.getfield 61, 3) := by decide +kernel
theorem dX5_follow_43 : decode cX5_follow 43 = .ok (.invokevirtual 64, 3) := by decide +kernel
theorem dX5_follow_46 : decode cX5_follow 46 = .ok (.iload_n 2, 1) := by decide +kernel
theorem dX5_follow_47 : decode cX5_follow 47 = .ok (.istore_n 3, 1) := by decide +kernel
theorem dX5_follow_48 : decode cX5_follow 48 = .ok (.iload_n 3, 1) := by decide +kernel
theorem dX5_follow_49 : decode cX5_follow 49 = .ok (.aload_n 1, 1) := by decide +kernel
theorem dX5_follow_50 : decode cX5_follow 50 = .ok (.getfield 45, 3) := by decide +kernel
theorem dX5_follow_53 : decode cX5_follow 53 = .ok (.if_icmp .ge 19, 3) := by decide +kernel
theorem dX5_follow_56 : decode cX5_follow 56 = .ok (.aload_n 0, 1) := by decide +kernel
theorem dX5_follow_57 : decode cX5_follow 57 = .ok (.aload_n 1, 1) := by decide +kernel
theorem dX5_follow_58 : decode cX5_follow 58 = .ok (.getfield 68, 3) := by decide +kernel
theorem dX5_follow_61 : decode cX5_follow 61 = .ok (.iload_n 3, 1) := by decide +kernel
theorem dX5_follow_62 : decode cX5_follow 62 = .ok (.iaload, 1) := by decide +kernel
theorem dX5_follow_63 : decode cX5_follow 63 = .ok (.invokevirtual 71, 3) := by decide +kernel
theorem dX5_follow_66 : decode cX5_follow 66 = .ok (.iinc 3 1, 3) := by decide +kernel
theorem dX5_follow_69 : decode cX5_follow 69 = .ok (.goto (-21), 3) := by decide +kernel
theorem dX5_follow_72 : decode cX5_follow 72 = .ok (.aload_n 0, 1) := by decide +kernel
theorem dX5_follow_73 : decode cX5_follow 73 = .ok (.areturn, 1) := by decide +kernel
theorem dX5_totalOf_0 : decode cX5_totalOf 0 = .ok (.iload_n 1, 1) := by decide +kernel
theorem dX5_totalOf_1 : decode cX5_totalOf 1 = .ok (.invokestatic 74, 3) := by decide +kernel
theorem dX5_totalOf_4 : decode cX5_totalOf 4 = .ok (.ifCond .eq 12, 3) := by decide +kernel
theorem dX5_totalOf_7 : decode cX5_totalOf 7 = .ok (.aload_n 0, 1) := by decide +kernel
theorem dX5_totalOf_8 : decode cX5_totalOf 8 = .ok (.getfield 18, 3) := by decide +kernel
theorem dX5_totalOf_11 : decode cX5_totalOf 11 = .ok (.iload_n 1, 1) := by decide +kernel
theorem dX5_totalOf_12 : decode cX5_totalOf 12 = .ok (.iaload, 1) := by decide +kernel
theorem dX5_totalOf_13 : decode cX5_totalOf 13 = .ok (.goto 4, 3) := by decide +kernel
theorem dX5_totalOf_16 : decode cX5_totalOf 16 = .ok (.iconst (-1), 1) := by decide +kernel
theorem dX5_totalOf_17 : decode cX5_totalOf 17 = .ok (.ireturn, 1) := by decide +kernel
theorem dX5_isBlock_0 : decode cX5_isBlock 0 = .ok (.iload_n 1, 1) := by decide +kernel
theorem dX5_isBlock_1 : decode cX5_isBlock 1 = .ok (.invokestatic 74, 3) := by decide +kernel
theorem dX5_isBlock_4 : decode cX5_isBlock 4 = .ok (.ifCond .eq 17, 3) := by decide +kernel
theorem dX5_isBlock_7 : decode cX5_isBlock 7 = .ok (.aload_n 0, 1) := by decide +kernel
theorem dX5_isBlock_8 : decode cX5_isBlock 8 = .ok (.getfield 22, 3) := by decide +kernel
theorem dX5_isBlock_11 : decode cX5_isBlock 11 = .ok (.iload_n 1, 1) := by decide +kernel
theorem dX5_isBlock_12 : decode cX5_isBlock 12 = .ok (.iaload, 1) := by decide +kernel
theorem dX5_isBlock_13 : decode cX5_isBlock 13 = .ok (.iconst 1, 1) := by decide +kernel
theorem dX5_isBlock_14 : decode cX5_isBlock 14 = .ok (.if_icmp .ne 7, 3) := by decide +kernel
theorem dX5_isBlock_17 : decode cX5_isBlock 17 = .ok (.iconst 1, 1) := by decide +kernel
theorem dX5_isBlock_18 : decode cX5_isBlock 18 = .ok (.goto 4, 3) := by decide +kernel
theorem dX5_isBlock_21 : decode cX5_isBlock 21 = .ok (.iconst 0, 1) := by decide +kernel
theorem dX5_isBlock_22 : decode cX5_isBlock 22 = .ok (.ireturn, 1) := by decide +kernel
theorem dX5_blockOrNone_0 : decode cX5_blockOrNone 0 = .ok (.iload_n 1, 1) := by decide +kernel
theorem dX5_blockOrNone_1 : decode cX5_blockOrNone 1 = .ok (.ifCond .lt 20, 3) := by decide +kernel
theorem dX5_blockOrNone_4 : decode cX5_blockOrNone 4 = .ok (.iload_n 1, 1) := by decide +kernel
theorem dX5_blockOrNone_5 : decode cX5_blockOrNone 5 = .ok (.aload_n 0, 1) := by decide +kernel
theorem dX5_blockOrNone_6 : decode cX5_blockOrNone 6 = .ok (.getfield 34, 3) := by decide +kernel
theorem dX5_blockOrNone_9 : decode cX5_blockOrNone 9 = .ok (.if_icmp .ge 12, 3) := by decide +kernel
theorem dX5_blockOrNone_12 : decode cX5_blockOrNone 12 = .ok (.aload_n 0, 1) := by decide +kernel
theorem dX5_blockOrNone_13 : decode cX5_blockOrNone 13 = .ok (.getfield 31, 3) := by decide +kernel
theorem dX5_blockOrNone_16 : decode cX5_blockOrNone 16 = .ok (.iload_n 1, 1) := by decide +kernel
theorem dX5_blockOrNone_17 : decode cX5_blockOrNone 17 = .ok (.iaload, 1) := by decide +kernel
theorem dX5_blockOrNone_18 : decode cX5_blockOrNone 18 = .ok (.goto 4, 3) := by decide +kernel
theorem dX5_blockOrNone_21 : decode cX5_blockOrNone 21 = .ok (.iconst (-1), 1) := by decide +kernel
theorem dX5_blockOrNone_22 : decode cX5_blockOrNone 22 = .ok (.ireturn, 1) := by decide +kernel
theorem dX5_countBlocksIn_0 : decode cX5_countBlocksIn 0 = .ok (.iconst 0, 1) := by decide +kernel
theorem dX5_countBlocksIn_1 : decode cX5_countBlocksIn 1 = .ok (.istore_n 2, 1) := by decide +kernel
theorem dX5_countBlocksIn_2 : decode cX5_countBlocksIn 2 = .ok (.iconst 0, 1) := by decide +kernel
theorem dX5_countBlocksIn_3 : decode cX5_countBlocksIn 3 = .ok (.istore_n 3, 1) := by decide +kernel
theorem dX5_countBlocksIn_4 : decode cX5_countBlocksIn 4 = .ok (.iload_n 3, 1) := by decide +kernel
theorem dX5_countBlocksIn_5 : decode cX5_countBlocksIn 5 = .ok (.aload_n 0, 1) := by decide +kernel
theorem dX5_countBlocksIn_6 : decode cX5_countBlocksIn 6 = .ok (.getfield 34, 3) := by decide +kernel
theorem dX5_countBlocksIn_9 : decode cX5_countBlocksIn 9 = .ok (.if_icmp .ge 25, 3) := by decide +kernel
theorem dX5_countBlocksIn_12 : decode cX5_countBlocksIn 12 = .ok (.aload_n 0, 1) := by decide +kernel
theorem dX5_countBlocksIn_13 : decode cX5_countBlocksIn 13 = .ok (.getfield 31, 3) := by decide +kernel
theorem dX5_countBlocksIn_16 : decode cX5_countBlocksIn 16 = .ok (.iload_n 3, 1) := by decide +kernel
theorem dX5_countBlocksIn_17 : decode cX5_countBlocksIn 17 = .ok (.iaload, 1) := by decide +kernel
theorem dX5_countBlocksIn_18 : decode cX5_countBlocksIn 18 = .ok (.iload_n 1, 1) := by decide +kernel
theorem dX5_countBlocksIn_19 : decode cX5_countBlocksIn 19 = .ok (.iconst (-1), 1) := by decide +kernel
theorem dX5_countBlocksIn_20 : decode cX5_countBlocksIn 20 = .ok (.ixor, 1) := by decide +kernel
theorem dX5_countBlocksIn_21 : decode cX5_countBlocksIn 21 = .ok (.iand, 1) := by decide +kernel
theorem dX5_countBlocksIn_22 : decode cX5_countBlocksIn 22 = .ok (.ifCond .ne 6, 3) := by decide +kernel
theorem dX5_countBlocksIn_25 : decode cX5_countBlocksIn 25 = .ok (.iinc 2 1, 3) := by decide +kernel
theorem dX5_countBlocksIn_28 : decode cX5_countBlocksIn 28 = .ok (.iinc 3 1, 3) := by decide +kernel
theorem dX5_countBlocksIn_31 : decode cX5_countBlocksIn 31 = .ok (.goto (-27), 3) := by decide +kernel
theorem dX5_countBlocksIn_34 : decode cX5_countBlocksIn 34 = .ok (.iload_n 2, 1) := by decide +kernel
theorem dX5_countBlocksIn_35 : decode cX5_countBlocksIn 35 = .ok (.ireturn, 1) := by decide +kernel
theorem dX5_countBlocksAt_0 : decode cX5_countBlocksAt 0 = .ok (.iconst 0, 1) := by decide +kernel
theorem dX5_countBlocksAt_1 : decode cX5_countBlocksAt 1 = .ok (.istore_n 2, 1) := by decide +kernel
theorem dX5_countBlocksAt_2 : decode cX5_countBlocksAt 2 = .ok (.iconst 0, 1) := by decide +kernel
theorem dX5_countBlocksAt_3 : decode cX5_countBlocksAt 3 = .ok (.istore_n 3, 1) := by decide +kernel
theorem dX5_countBlocksAt_4 : decode cX5_countBlocksAt 4 = .ok (.iload_n 3, 1) := by decide +kernel
theorem dX5_countBlocksAt_5 : decode cX5_countBlocksAt 5 = .ok (.aload_n 0, 1) := by decide +kernel
theorem dX5_countBlocksAt_6 : decode cX5_countBlocksAt 6 = .ok (.getfield 34, 3) := by decide +kernel
theorem dX5_countBlocksAt_9 : decode cX5_countBlocksAt 9 = .ok (.if_icmp .ge 25, 3) := by decide +kernel
theorem dX5_countBlocksAt_12 : decode cX5_countBlocksAt 12 = .ok (.aload_n 0, 1) := by decide +kernel
theorem dX5_countBlocksAt_13 : decode cX5_countBlocksAt 13 = .ok (.getfield 31, 3) := by decide +kernel
theorem dX5_countBlocksAt_16 : decode cX5_countBlocksAt 16 = .ok (.iload_n 3, 1) := by decide +kernel
theorem dX5_countBlocksAt_17 : decode cX5_countBlocksAt 17 = .ok (.iaload, 1) := by decide +kernel
theorem dX5_countBlocksAt_18 : decode cX5_countBlocksAt 18 = .ok (.iload_n 1, 1) := by decide +kernel
theorem dX5_countBlocksAt_19 : decode cX5_countBlocksAt 19 = .ok (.ishr, 1) := by decide +kernel
theorem dX5_countBlocksAt_20 : decode cX5_countBlocksAt 20 = .ok (.iconst 1, 1) := by decide +kernel
theorem dX5_countBlocksAt_21 : decode cX5_countBlocksAt 21 = .ok (.iand, 1) := by decide +kernel
theorem dX5_countBlocksAt_22 : decode cX5_countBlocksAt 22 = .ok (.ifCond .eq 6, 3) := by decide +kernel
theorem dX5_countBlocksAt_25 : decode cX5_countBlocksAt 25 = .ok (.iinc 2 1, 3) := by decide +kernel
theorem dX5_countBlocksAt_28 : decode cX5_countBlocksAt 28 = .ok (.iinc 3 1, 3) := by decide +kernel
theorem dX5_countBlocksAt_31 : decode cX5_countBlocksAt 31 = .ok (.goto (-27), 3) := by decide +kernel
theorem dX5_countBlocksAt_34 : decode cX5_countBlocksAt 34 = .ok (.iload_n 2, 1) := by decide +kernel
theorem dX5_countBlocksAt_35 : decode cX5_countBlocksAt 35 = .ok (.ireturn, 1) := by decide +kernel
theorem dX5_smallestBlock_0 : decode cX5_smallestBlock 0 = .ok (.iconst 0, 1) := by decide +kernel
theorem dX5_smallestBlock_1 : decode cX5_smallestBlock 1 = .ok (.istore_n 2, 1) := by decide +kernel
theorem dX5_smallestBlock_2 : decode cX5_smallestBlock 2 = .ok (.iconst 0, 1) := by decide +kernel
theorem dX5_smallestBlock_3 : decode cX5_smallestBlock 3 = .ok (.istore_n 3, 1) := by decide +kernel
theorem dX5_smallestBlock_4 : decode cX5_smallestBlock 4 = .ok (.iload_n 3, 1) := by decide +kernel
theorem dX5_smallestBlock_5 : decode cX5_smallestBlock 5 = .ok (.aload_n 0, 1) := by decide +kernel
theorem dX5_smallestBlock_6 : decode cX5_smallestBlock 6 = .ok (.getfield 34, 3) := by decide +kernel
theorem dX5_smallestBlock_9 : decode cX5_smallestBlock 9 = .ok (.if_icmp .ge 44, 3) := by decide +kernel
theorem dX5_smallestBlock_12 : decode cX5_smallestBlock 12 = .ok (.aload_n 0, 1) := by decide +kernel
theorem dX5_smallestBlock_13 : decode cX5_smallestBlock 13 = .ok (.getfield 31, 3) := by decide +kernel
theorem dX5_smallestBlock_16 : decode cX5_smallestBlock 16 = .ok (.iload_n 3, 1) := by decide +kernel
theorem dX5_smallestBlock_17 : decode cX5_smallestBlock 17 = .ok (.iaload, 1) := by decide +kernel
theorem dX5_smallestBlock_18 : decode cX5_smallestBlock 18 = .ok (.invokestatic 78, 3) := by decide +kernel
theorem dX5_smallestBlock_21 : decode cX5_smallestBlock 21 = .ok (.istore 4, 2) := by decide +kernel
theorem dX5_smallestBlock_23 : decode cX5_smallestBlock 23 = .ok (.aload_n 0, 1) := by decide +kernel
theorem dX5_smallestBlock_24 : decode cX5_smallestBlock 24 = .ok (.getfield 31, 3) := by decide +kernel
theorem dX5_smallestBlock_27 : decode cX5_smallestBlock 27 = .ok (.iload_n 3, 1) := by decide +kernel
theorem dX5_smallestBlock_28 : decode cX5_smallestBlock 28 = .ok (.iaload, 1) := by decide +kernel
theorem dX5_smallestBlock_29 : decode cX5_smallestBlock 29 = .ok (.iload_n 1, 1) := by decide +kernel
theorem dX5_smallestBlock_30 : decode cX5_smallestBlock 30 = .ok (.iand, 1) := by decide +kernel
theorem dX5_smallestBlock_31 : decode cX5_smallestBlock 31 = .ok (.ifCond .eq 16, 3) := by decide +kernel
theorem dX5_smallestBlock_34 : decode cX5_smallestBlock 34 = .ok (.iload_n 2, 1) := by decide +kernel
theorem dX5_smallestBlock_35 : decode cX5_smallestBlock 35 = .ok (.ifCond .eq 9, 3) := by decide +kernel
theorem dX5_smallestBlock_38 : decode cX5_smallestBlock 38 = .ok (.iload 4, 2) := by decide +kernel
theorem dX5_smallestBlock_40 : decode cX5_smallestBlock 40 = .ok (.iload_n 2, 1) := by decide +kernel
theorem dX5_smallestBlock_41 : decode cX5_smallestBlock 41 = .ok (.if_icmp .ge 6, 3) := by decide +kernel
theorem dX5_smallestBlock_44 : decode cX5_smallestBlock 44 = .ok (.iload 4, 2) := by decide +kernel
theorem dX5_smallestBlock_46 : decode cX5_smallestBlock 46 = .ok (.istore_n 2, 1) := by decide +kernel
theorem dX5_smallestBlock_47 : decode cX5_smallestBlock 47 = .ok (.iinc 3 1, 3) := by decide +kernel
theorem dX5_smallestBlock_50 : decode cX5_smallestBlock 50 = .ok (.goto (-46), 3) := by decide +kernel
theorem dX5_smallestBlock_53 : decode cX5_smallestBlock 53 = .ok (.iload_n 2, 1) := by decide +kernel
theorem dX5_smallestBlock_54 : decode cX5_smallestBlock 54 = .ok (.ireturn, 1) := by decide +kernel
theorem dX5_greatestBlock_0 : decode cX5_greatestBlock 0 = .ok (.iconst 0, 1) := by decide +kernel
theorem dX5_greatestBlock_1 : decode cX5_greatestBlock 1 = .ok (.istore_n 1, 1) := by decide +kernel
theorem dX5_greatestBlock_2 : decode cX5_greatestBlock 2 = .ok (.iconst 0, 1) := by decide +kernel
theorem dX5_greatestBlock_3 : decode cX5_greatestBlock 3 = .ok (.istore_n 2, 1) := by decide +kernel
theorem dX5_greatestBlock_4 : decode cX5_greatestBlock 4 = .ok (.iload_n 2, 1) := by decide +kernel
theorem dX5_greatestBlock_5 : decode cX5_greatestBlock 5 = .ok (.aload_n 0, 1) := by decide +kernel
theorem dX5_greatestBlock_6 : decode cX5_greatestBlock 6 = .ok (.getfield 34, 3) := by decide +kernel
theorem dX5_greatestBlock_9 : decode cX5_greatestBlock 9 = .ok (.if_icmp .ge 23, 3) := by decide +kernel
theorem dX5_greatestBlock_12 : decode cX5_greatestBlock 12 = .ok (.iload_n 1, 1) := by decide +kernel
theorem dX5_greatestBlock_13 : decode cX5_greatestBlock 13 = .ok (.aload_n 0, 1) := by decide +kernel
theorem dX5_greatestBlock_14 : decode cX5_greatestBlock 14 = .ok (.getfield 31, 3) := by decide +kernel
theorem dX5_greatestBlock_17 : decode cX5_greatestBlock 17 = .ok (.iload_n 2, 1) := by decide +kernel
theorem dX5_greatestBlock_18 : decode cX5_greatestBlock 18 = .ok (.iaload, 1) := by decide +kernel
theorem dX5_greatestBlock_19 : decode cX5_greatestBlock 19 = .ok (.invokestatic 78, 3) := by decide +kernel
theorem dX5_greatestBlock_22 : decode cX5_greatestBlock 22 = .ok (.invokestatic 84, 3) := by decide +kernel
theorem dX5_greatestBlock_25 : decode cX5_greatestBlock 25 = .ok (.istore_n 1, 1) := by decide +kernel
theorem dX5_greatestBlock_26 : decode cX5_greatestBlock 26 = .ok (.iinc 2 1, 3) := by decide +kernel
theorem dX5_greatestBlock_29 : decode cX5_greatestBlock 29 = .ok (.goto (-25), 3) := by decide +kernel
theorem dX5_greatestBlock_32 : decode cX5_greatestBlock 32 = .ok (.iload_n 1, 1) := by decide +kernel
theorem dX5_greatestBlock_33 : decode cX5_greatestBlock 33 = .ok (.ireturn, 1) := by decide +kernel
theorem dX5_countFreeSets_0 : decode cX5_countFreeSets 0 = .ok (.iconst 0, 1) := by decide +kernel
theorem dX5_countFreeSets_1 : decode cX5_countFreeSets 1 = .ok (.istore_n 3, 1) := by decide +kernel
theorem dX5_countFreeSets_2 : decode cX5_countFreeSets 2 = .ok (.iconst 0, 1) := by decide +kernel
theorem dX5_countFreeSets_3 : decode cX5_countFreeSets 3 = .ok (.istore 4, 2) := by decide +kernel
theorem dX5_countFreeSets_5 : decode cX5_countFreeSets 5 = .ok (.iload 4, 2) := by decide +kernel
theorem dX5_countFreeSets_7 : decode cX5_countFreeSets 7 = .ok (.iconst 1, 1) := by decide +kernel
theorem dX5_countFreeSets_8 : decode cX5_countFreeSets 8 = .ok (.aload_n 0, 1) := by decide +kernel
theorem dX5_countFreeSets_9 : decode cX5_countFreeSets 9 = .ok (.getfield 12, 3) := by decide +kernel
theorem dX5_countFreeSets_12 : decode cX5_countFreeSets 12 = .ok (.getfield 45, 3) := by decide +kernel
theorem dX5_countFreeSets_15 : decode cX5_countFreeSets 15 = .ok (.ishl, 1) := by decide +kernel
theorem dX5_countFreeSets_16 : decode cX5_countFreeSets 16 = .ok (.if_icmp .ge 42, 3) := by decide +kernel
theorem dX5_countFreeSets_19 : decode cX5_countFreeSets 19 = .ok (.iload 4, 2) := by decide +kernel
theorem dX5_countFreeSets_21 : decode cX5_countFreeSets 21 = .ok (.invokestatic 78, 3) := by decide +kernel
theorem dX5_countFreeSets_24 : decode cX5_countFreeSets 24 = .ok (.iload_n 1, 1) := by decide +kernel
theorem dX5_countFreeSets_25 : decode cX5_countFreeSets 25 = .ok (.if_icmp .ne 27, 3) := by decide +kernel
theorem dX5_countFreeSets_28 : decode cX5_countFreeSets 28 = .ok (.aload_n 0, 1) := by decide +kernel
theorem dX5_countFreeSets_29 : decode cX5_countFreeSets 29 = .ok (.getfield 22, 3) := by decide +kernel
theorem dX5_countFreeSets_32 : decode cX5_countFreeSets 32 = .ok (.iload 4, 2) := by decide +kernel
theorem dX5_countFreeSets_34 : decode cX5_countFreeSets 34 = .ok (.iaload, 1) := by decide +kernel
theorem dX5_countFreeSets_35 : decode cX5_countFreeSets 35 = .ok (.ifCond .ne 17, 3) := by decide +kernel
theorem dX5_countFreeSets_38 : decode cX5_countFreeSets 38 = .ok (.aload_n 0, 1) := by decide +kernel
theorem dX5_countFreeSets_39 : decode cX5_countFreeSets 39 = .ok (.getfield 18, 3) := by decide +kernel
theorem dX5_countFreeSets_42 : decode cX5_countFreeSets 42 = .ok (.iload 4, 2) := by decide +kernel
theorem dX5_countFreeSets_44 : decode cX5_countFreeSets 44 = .ok (.iaload, 1) := by decide +kernel
theorem dX5_countFreeSets_45 : decode cX5_countFreeSets 45 = .ok (.iload_n 2, 1) := by decide +kernel
theorem dX5_countFreeSets_46 : decode cX5_countFreeSets 46 = .ok (.if_icmp .ne 6, 3) := by decide +kernel
theorem dX5_countFreeSets_49 : decode cX5_countFreeSets 49 = .ok (.iinc 3 1, 3) := by decide +kernel
theorem dX5_countFreeSets_52 : decode cX5_countFreeSets 52 = .ok (.iinc 4 1, 3) := by decide +kernel
theorem dX5_countFreeSets_55 : decode cX5_countFreeSets 55 = .ok (.goto (-50), 3) := by decide +kernel
theorem dX5_countFreeSets_58 : decode cX5_countFreeSets 58 = .ok (.iload_n 3, 1) := by decide +kernel
theorem dX5_countFreeSets_59 : decode cX5_countFreeSets 59 = .ok (.ireturn, 1) := by decide +kernel
theorem dX5_lengthsOf_0 : decode cX5_lengthsOf 0 = .ok (.aload_n 0, 1) := by decide +kernel
theorem dX5_lengthsOf_1 : decode cX5_lengthsOf 1 = .ok (.invokevirtual 90, 3) := by decide +kernel
theorem dX5_lengthsOf_4 : decode cX5_lengthsOf 4 = .ok (.iload_n 1, 1) := by decide +kernel
theorem dX5_lengthsOf_5 : decode cX5_lengthsOf 5 = .ok (.invokestatic 74, 3) := by decide +kernel
theorem dX5_lengthsOf_8 : decode cX5_lengthsOf 8 = .ok (.ifCond .eq 12, 3) := by decide +kernel
theorem dX5_lengthsOf_11 : decode cX5_lengthsOf 11 = .ok (.aload_n 0, 1) := by decide +kernel
theorem dX5_lengthsOf_12 : decode cX5_lengthsOf 12 = .ok (.getfield 25, 3) := by decide +kernel
theorem dX5_lengthsOf_15 : decode cX5_lengthsOf 15 = .ok (.iload_n 1, 1) := by decide +kernel
theorem dX5_lengthsOf_16 : decode cX5_lengthsOf 16 = .ok (.iaload, 1) := by decide +kernel
theorem dX5_lengthsOf_17 : decode cX5_lengthsOf 17 = .ok (.goto 4, 3) := by decide +kernel
theorem dX5_lengthsOf_20 : decode cX5_lengthsOf 20 = .ok (.iconst 0, 1) := by decide +kernel
theorem dX5_lengthsOf_21 : decode cX5_lengthsOf 21 = .ok (.ireturn, 1) := by decide +kernel
theorem dX5_splitsOf_0 : decode cX5_splitsOf 0 = .ok (.aload_n 0, 1) := by decide +kernel
theorem dX5_splitsOf_1 : decode cX5_splitsOf 1 = .ok (.invokevirtual 90, 3) := by decide +kernel
theorem dX5_splitsOf_4 : decode cX5_splitsOf 4 = .ok (.iload_n 1, 1) := by decide +kernel
theorem dX5_splitsOf_5 : decode cX5_splitsOf 5 = .ok (.invokestatic 74, 3) := by decide +kernel
theorem dX5_splitsOf_8 : decode cX5_splitsOf 8 = .ok (.ifCond .eq 12, 3) := by decide +kernel
theorem dX5_splitsOf_11 : decode cX5_splitsOf 11 = .ok (.aload_n 0, 1) := by decide +kernel
theorem dX5_splitsOf_12 : decode cX5_splitsOf 12 = .ok (.getfield 28, 3) := by decide +kernel
theorem dX5_splitsOf_15 : decode cX5_splitsOf 15 = .ok (.iload_n 1, 1) := by decide +kernel
theorem dX5_splitsOf_16 : decode cX5_splitsOf 16 = .ok (.iaload, 1) := by decide +kernel
theorem dX5_splitsOf_17 : decode cX5_splitsOf 17 = .ok (.goto 4, 3) := by decide +kernel
theorem dX5_splitsOf_20 : decode cX5_splitsOf 20 = .ok (.iconst 0, 1) := by decide +kernel
theorem dX5_splitsOf_21 : decode cX5_splitsOf 21 = .ok (.ireturn, 1) := by decide +kernel
theorem dX5_mostBlocks_0 : decode cX5_mostBlocks 0 = .ok (.aload_n 0, 1) := by decide +kernel
theorem dX5_mostBlocks_1 : decode cX5_mostBlocks 1 = .ok (.iload_n 1, 1) := by decide +kernel
theorem dX5_mostBlocks_2 : decode cX5_mostBlocks 2 = .ok (.invokevirtual 93, 3) := by decide +kernel
theorem dX5_mostBlocks_5 : decode cX5_mostBlocks 5 = .ok (.istore_n 2, 1) := by decide +kernel
theorem dX5_mostBlocks_6 : decode cX5_mostBlocks 6 = .ok (.bipush 10, 2) := by decide +kernel
theorem dX5_mostBlocks_8 : decode cX5_mostBlocks 8 = .ok (.istore_n 3, 1) := by decide +kernel
theorem dX5_mostBlocks_9 : decode cX5_mostBlocks 9 = .ok (.iload_n 3, 1) := by decide +kernel
theorem dX5_mostBlocks_10 : decode cX5_mostBlocks 10 = .ok (.ifCond .lt 19, 3) := by decide +kernel
theorem dX5_mostBlocks_13 : decode cX5_mostBlocks 13 = .ok (.iload_n 2, 1) := by decide +kernel
theorem dX5_mostBlocks_14 : decode cX5_mostBlocks 14 = .ok (.iload_n 3, 1) := by decide +kernel
theorem dX5_mostBlocks_15 : decode cX5_mostBlocks 15 = .ok (.ishr, 1) := by decide +kernel
theorem dX5_mostBlocks_16 : decode cX5_mostBlocks 16 = .ok (.iconst 1, 1) := by decide +kernel
theorem dX5_mostBlocks_17 : decode cX5_mostBlocks 17 = .ok (.iand, 1) := by decide +kernel
theorem dX5_mostBlocks_18 : decode cX5_mostBlocks 18 = .ok (.ifCond .eq 5, 3) := by decide +kernel
theorem dX5_mostBlocks_21 : decode cX5_mostBlocks 21 = .ok (.iload_n 3, 1) := by decide +kernel
theorem dX5_mostBlocks_22 : decode cX5_mostBlocks 22 = .ok (.ireturn, 1) := by decide +kernel
theorem dX5_mostBlocks_23 : decode cX5_mostBlocks 23 = .ok (.iinc 3 (-1), 3) := by decide +kernel
theorem dX5_mostBlocks_26 : decode cX5_mostBlocks 26 = .ok (.goto (-17), 3) := by decide +kernel
theorem dX5_mostBlocks_29 : decode cX5_mostBlocks 29 = .ok (.iconst (-1), 1) := by decide +kernel
theorem dX5_mostBlocks_30 : decode cX5_mostBlocks 30 = .ok (.ireturn, 1) := by decide +kernel
theorem dX5_firstBlockOfSplit_0 : decode cX5_firstBlockOfSplit 0 = .ok (.iload_n 1, 1) := by decide +kernel
theorem dX5_firstBlockOfSplit_1 : decode cX5_firstBlockOfSplit 1 = .ok (.iload_n 1, 1) := by decide +kernel
theorem dX5_firstBlockOfSplit_2 : decode cX5_firstBlockOfSplit 2 = .ok (.ineg, 1) := by decide +kernel
theorem dX5_firstBlockOfSplit_3 : decode cX5_firstBlockOfSplit 3 = .ok (.iand, 1) := by decide +kernel
theorem dX5_firstBlockOfSplit_4 : decode cX5_firstBlockOfSplit 4 = .ok (.istore_n 3, 1) := by decide +kernel
theorem dX5_firstBlockOfSplit_5 : decode cX5_firstBlockOfSplit 5 = .ok (.iconst 0, 1) := by decide +kernel
theorem dX5_firstBlockOfSplit_6 : decode cX5_firstBlockOfSplit 6 = .ok (.istore 4, 2) := by decide +kernel
theorem dX5_firstBlockOfSplit_8 : decode cX5_firstBlockOfSplit 8 = .ok (.iload 4, 2) := by decide +kernel
theorem dX5_firstBlockOfSplit_10 : decode cX5_firstBlockOfSplit 10 = .ok (.aload_n 0, 1) := by decide +kernel
theorem dX5_firstBlockOfSplit_11 : decode cX5_firstBlockOfSplit 11 = .ok (.getfield 34, 3) := by decide +kernel
theorem dX5_firstBlockOfSplit_14 : decode cX5_firstBlockOfSplit 14 = .ok (.if_icmp .ge 56, 3) := by decide +kernel
theorem dX5_firstBlockOfSplit_17 : decode cX5_firstBlockOfSplit 17 = .ok (.aload_n 0, 1) := by decide +kernel
theorem dX5_firstBlockOfSplit_18 : decode cX5_firstBlockOfSplit 18 = .ok (.getfield 31, 3) := by decide +kernel
theorem dX5_firstBlockOfSplit_21 : decode cX5_firstBlockOfSplit 21 = .ok (.iload 4, 2) := by decide +kernel
theorem dX5_firstBlockOfSplit_23 : decode cX5_firstBlockOfSplit 23 = .ok (.iaload, 1) := by decide +kernel
theorem dX5_firstBlockOfSplit_24 : decode cX5_firstBlockOfSplit 24 = .ok (.istore 5, 2) := by decide +kernel
theorem dX5_firstBlockOfSplit_26 : decode cX5_firstBlockOfSplit 26 = .ok (.iload 5, 2) := by decide +kernel
theorem dX5_firstBlockOfSplit_28 : decode cX5_firstBlockOfSplit 28 = .ok (.iload_n 3, 1) := by decide +kernel
theorem dX5_firstBlockOfSplit_29 : decode cX5_firstBlockOfSplit 29 = .ok (.iand, 1) := by decide +kernel
theorem dX5_firstBlockOfSplit_30 : decode cX5_firstBlockOfSplit 30 = .ok (.ifCond .eq 34, 3) := by decide +kernel
theorem dX5_firstBlockOfSplit_33 : decode cX5_firstBlockOfSplit 33 = .ok (.iload 5, 2) := by decide +kernel
theorem dX5_firstBlockOfSplit_35 : decode cX5_firstBlockOfSplit 35 = .ok (.iload_n 1, 1) := by decide +kernel
theorem dX5_firstBlockOfSplit_36 : decode cX5_firstBlockOfSplit 36 = .ok (.iconst (-1), 1) := by decide +kernel
theorem dX5_firstBlockOfSplit_37 : decode cX5_firstBlockOfSplit 37 = .ok (.ixor, 1) := by decide +kernel
theorem dX5_firstBlockOfSplit_38 : decode cX5_firstBlockOfSplit 38 = .ok (.iand, 1) := by decide +kernel
theorem dX5_firstBlockOfSplit_39 : decode cX5_firstBlockOfSplit 39 = .ok (.ifCond .ne 25, 3) := by decide +kernel
theorem dX5_firstBlockOfSplit_42 : decode cX5_firstBlockOfSplit 42 = .ok (.aload_n 0, 1) := by decide +kernel
theorem dX5_firstBlockOfSplit_43 : decode cX5_firstBlockOfSplit 43 = .ok (.iload_n 1, 1) := by decide +kernel
theorem dX5_firstBlockOfSplit_44 : decode cX5_firstBlockOfSplit 44 = .ok (.iload 5, 2) := by decide +kernel
theorem dX5_firstBlockOfSplit_46 : decode cX5_firstBlockOfSplit 46 = .ok (.iconst (-1), 1) := by decide +kernel
theorem dX5_firstBlockOfSplit_47 : decode cX5_firstBlockOfSplit 47 = .ok (.ixor, 1) := by decide +kernel
theorem dX5_firstBlockOfSplit_48 : decode cX5_firstBlockOfSplit 48 = .ok (.iand, 1) := by decide +kernel
theorem dX5_firstBlockOfSplit_49 : decode cX5_firstBlockOfSplit 49 = .ok (.invokevirtual 93, 3) := by decide +kernel
theorem dX5_firstBlockOfSplit_52 : decode cX5_firstBlockOfSplit 52 = .ok (.iload_n 2, 1) := by decide +kernel
theorem dX5_firstBlockOfSplit_53 : decode cX5_firstBlockOfSplit 53 = .ok (.iconst 1, 1) := by decide +kernel
theorem dX5_firstBlockOfSplit_54 : decode cX5_firstBlockOfSplit 54 = .ok (.isub, 1) := by decide +kernel
theorem dX5_firstBlockOfSplit_55 : decode cX5_firstBlockOfSplit 55 = .ok (.ishr, 1) := by decide +kernel
theorem dX5_firstBlockOfSplit_56 : decode cX5_firstBlockOfSplit 56 = .ok (.iconst 1, 1) := by decide +kernel
theorem dX5_firstBlockOfSplit_57 : decode cX5_firstBlockOfSplit 57 = .ok (.iand, 1) := by decide +kernel
theorem dX5_firstBlockOfSplit_58 : decode cX5_firstBlockOfSplit 58 = .ok (.ifCond .eq 6, 3) := by decide +kernel
theorem dX5_firstBlockOfSplit_61 : decode cX5_firstBlockOfSplit 61 = .ok (.iload 5, 2) := by decide +kernel
theorem dX5_firstBlockOfSplit_63 : decode cX5_firstBlockOfSplit 63 = .ok (.ireturn, 1) := by decide +kernel
theorem dX5_firstBlockOfSplit_64 : decode cX5_firstBlockOfSplit 64 = .ok (.iinc 4 1, 3) := by decide +kernel
theorem dX5_firstBlockOfSplit_67 : decode cX5_firstBlockOfSplit 67 = .ok (.goto (-59), 3) := by decide +kernel
theorem dX5_firstBlockOfSplit_70 : decode cX5_firstBlockOfSplit 70 = .ok (.iconst 0, 1) := by decide +kernel
theorem dX5_firstBlockOfSplit_71 : decode cX5_firstBlockOfSplit 71 = .ok (.ireturn, 1) := by decide +kernel
theorem dX5_samePlaces_0 : decode cX5_samePlaces 0 = .ok (.aload_n 0, 1) := by decide +kernel
theorem dX5_samePlaces_1 : decode cX5_samePlaces 1 = .ok (.getfield 12, 3) := by decide +kernel
theorem dX5_samePlaces_4 : decode cX5_samePlaces 4 = .ok (.getfield 52, 3) := by decide +kernel
theorem dX5_samePlaces_7 : decode cX5_samePlaces 7 = .ok (.getfield 56, 3) := by decide +kernel
theorem dX5_samePlaces_10 : decode cX5_samePlaces 10 = .ok (.aload_n 1, 1) := by decide +kernel
theorem dX5_samePlaces_11 : decode cX5_samePlaces 11 = .ok (.getfield 52, 3) := by decide +kernel
theorem dX5_samePlaces_14 : decode cX5_samePlaces 14 = .ok (.getfield 56, 3) := by decide +kernel
theorem dX5_samePlaces_17 : decode cX5_samePlaces 17 = .ok (.if_icmp .ne 23, 3) := by decide +kernel
theorem dX5_samePlaces_20 : decode cX5_samePlaces 20 = .ok (.aload_n 0, 1) := by decide +kernel
theorem dX5_samePlaces_21 : decode cX5_samePlaces 21 = .ok (.getfield 12, 3) := by decide +kernel
theorem dX5_samePlaces_24 : decode cX5_samePlaces 24 = .ok (.getfield 52, 3) := by decide +kernel
theorem dX5_samePlaces_27 : decode cX5_samePlaces 27 = .ok (.getfield 61, 3) := by decide +kernel
theorem dX5_samePlaces_30 : decode cX5_samePlaces 30 = .ok (.aload_n 1, 1) := by decide +kernel
theorem dX5_samePlaces_31 : decode cX5_samePlaces 31 = .ok (.getfield 52, 3) := by decide +kernel
theorem dX5_samePlaces_34 : decode cX5_samePlaces 34 = .ok (.getfield 61, 3) := by decide +kernel
theorem dX5_samePlaces_37 : decode cX5_samePlaces 37 = .ok (.if_icmp .eq 5, 3) := by decide +kernel
theorem dX5_samePlaces_40 : decode cX5_samePlaces 40 = .ok (.iconst 0, 1) := by decide +kernel
theorem dX5_samePlaces_41 : decode cX5_samePlaces 41 = .ok (.ireturn, 1) := by decide +kernel
theorem dX5_samePlaces_42 : decode cX5_samePlaces 42 = .ok (.aload_n 0, 1) := by decide +kernel
theorem dX5_samePlaces_43 : decode cX5_samePlaces 43 = .ok (.getfield 12, 3) := by decide +kernel
theorem dX5_samePlaces_46 : decode cX5_samePlaces 46 = .ok (.getfield 45, 3) := by decide +kernel
theorem dX5_samePlaces_49 : decode cX5_samePlaces 49 = .ok (.aload_n 1, 1) := by decide +kernel
theorem dX5_samePlaces_50 : decode cX5_samePlaces 50 = .ok (.getfield 45, 3) := by decide +kernel
theorem dX5_samePlaces_53 : decode cX5_samePlaces 53 = .ok (.invokestatic 96, 3) := by decide +kernel
theorem dX5_samePlaces_56 : decode cX5_samePlaces 56 = .ok (.istore_n 2, 1) := by decide +kernel
theorem dX5_samePlaces_57 : decode cX5_samePlaces 57 = .ok (.iconst 0, 1) := by decide +kernel
theorem dX5_samePlaces_58 : decode cX5_samePlaces 58 = .ok (.istore_n 3, 1) := by decide +kernel
theorem dX5_samePlaces_59 : decode cX5_samePlaces 59 = .ok (.iload_n 3, 1) := by decide +kernel
theorem dX5_samePlaces_60 : decode cX5_samePlaces 60 = .ok (.iload_n 2, 1) := by decide +kernel
theorem dX5_samePlaces_61 : decode cX5_samePlaces 61 = .ok (.if_icmp .ge 27, 3) := by decide +kernel
theorem dX5_samePlaces_64 : decode cX5_samePlaces 64 = .ok (.aload_n 0, 1) := by decide +kernel
theorem dX5_samePlaces_65 : decode cX5_samePlaces 65 = .ok (.getfield 12, 3) := by decide +kernel
theorem dX5_samePlaces_68 : decode cX5_samePlaces 68 = .ok (.getfield 68, 3) := by decide +kernel
theorem dX5_samePlaces_71 : decode cX5_samePlaces 71 = .ok (.iload_n 3, 1) := by decide +kernel
theorem dX5_samePlaces_72 : decode cX5_samePlaces 72 = .ok (.iaload, 1) := by decide +kernel
theorem dX5_samePlaces_73 : decode cX5_samePlaces 73 = .ok (.aload_n 1, 1) := by decide +kernel
theorem dX5_samePlaces_74 : decode cX5_samePlaces 74 = .ok (.getfield 68, 3) := by decide +kernel
theorem dX5_samePlaces_77 : decode cX5_samePlaces 77 = .ok (.iload_n 3, 1) := by decide +kernel
theorem dX5_samePlaces_78 : decode cX5_samePlaces 78 = .ok (.iaload, 1) := by decide +kernel
theorem dX5_samePlaces_79 : decode cX5_samePlaces 79 = .ok (.if_icmp .ne 9, 3) := by decide +kernel
theorem dX5_samePlaces_82 : decode cX5_samePlaces 82 = .ok (.iinc 3 1, 3) := by decide +kernel
theorem dX5_samePlaces_85 : decode cX5_samePlaces 85 = .ok (.goto (-26), 3) := by decide +kernel
theorem dX5_samePlaces_88 : decode cX5_samePlaces 88 = .ok (.iload_n 3, 1) := by decide +kernel
theorem dX5_samePlaces_89 : decode cX5_samePlaces 89 = .ok (.ireturn, 1) := by decide +kernel
theorem dX5_cutTo_0 : decode cX5_cutTo 0 = .ok (.aload_n 0, 1) := by decide +kernel
theorem dX5_cutTo_1 : decode cX5_cutTo 1 = .ok (.getfield 12, 3) := by decide +kernel
theorem dX5_cutTo_4 : decode cX5_cutTo 4 = .ok (.iload_n 1, 1) := by decide +kernel
theorem dX5_cutTo_5 : decode cX5_cutTo 5 = .ok (.putfield 45, 3) := by decide +kernel
theorem dX5_cutTo_8 : decode cX5_cutTo 8 = .ok (.iconst 1, 1) := by decide +kernel
theorem dX5_cutTo_9 : decode cX5_cutTo 9 = .ok (.iload_n 1, 1) := by decide +kernel
theorem dX5_cutTo_10 : decode cX5_cutTo 10 = .ok (.ishl, 1) := by decide +kernel
theorem dX5_cutTo_11 : decode cX5_cutTo 11 = .ok (.istore_n 2, 1) := by decide +kernel
theorem dX5_cutTo_12 : decode cX5_cutTo 12 = .ok (.aload_n 0, 1) := by decide +kernel
theorem dX5_cutTo_13 : decode cX5_cutTo 13 = .ok (.getfield 34, 3) := by decide +kernel
theorem dX5_cutTo_16 : decode cX5_cutTo 16 = .ok (.ifCond .le 31, 3) := by decide +kernel
theorem dX5_cutTo_19 : decode cX5_cutTo 19 = .ok (.aload_n 0, 1) := by decide +kernel
theorem dX5_cutTo_20 : decode cX5_cutTo 20 = .ok (.getfield 31, 3) := by decide +kernel
theorem dX5_cutTo_23 : decode cX5_cutTo 23 = .ok (.aload_n 0, 1) := by decide +kernel
theorem dX5_cutTo_24 : decode cX5_cutTo 24 = .ok (.getfield 34, 3) := by decide +kernel
theorem dX5_cutTo_27 : decode cX5_cutTo 27 = .ok (.iconst 1, 1) := by decide +kernel
theorem dX5_cutTo_28 : decode cX5_cutTo 28 = .ok (.isub, 1) := by decide +kernel
theorem dX5_cutTo_29 : decode cX5_cutTo 29 = .ok (.iaload, 1) := by decide +kernel
theorem dX5_cutTo_30 : decode cX5_cutTo 30 = .ok (.iload_n 2, 1) := by decide +kernel
theorem dX5_cutTo_31 : decode cX5_cutTo 31 = .ok (.if_icmp .lt 16, 3) := by decide +kernel
theorem dX5_cutTo_34 : decode cX5_cutTo 34 = .ok (.aload_n 0, 1) := by decide +kernel
theorem dX5_cutTo_35 : decode cX5_cutTo 35 = .ok (.dup, 1) := by decide +kernel
theorem dX5_cutTo_36 : decode cX5_cutTo 36 = .ok (.getfield 34, 3) := by decide +kernel
theorem dX5_cutTo_39 : decode cX5_cutTo 39 = .ok (.iconst 1, 1) := by decide +kernel
theorem dX5_cutTo_40 : decode cX5_cutTo 40 = .ok (.isub, 1) := by decide +kernel
theorem dX5_cutTo_41 : decode cX5_cutTo 41 = .ok (.putfield 34, 3) := by decide +kernel
theorem dX5_cutTo_44 : decode cX5_cutTo 44 = .ok (.goto (-32), 3) := by decide +kernel
theorem dX5_cutTo_47 : decode cX5_cutTo 47 = .ok (.aload_n 0, 1) := by decide +kernel
theorem dX5_cutTo_48 : decode cX5_cutTo 48 = .ok (.aload_n 0, 1) := by decide +kernel
theorem dX5_cutTo_49 : decode cX5_cutTo 49 = .ok (.getfield 38, 3) := by decide +kernel
theorem dX5_cutTo_52 : decode cX5_cutTo 52 = .ok (.iload_n 2, 1) := by decide +kernel
theorem dX5_cutTo_53 : decode cX5_cutTo 53 = .ok (.invokestatic 96, 3) := by decide +kernel
theorem dX5_cutTo_56 : decode cX5_cutTo 56 = .ok (.putfield 38, 3) := by decide +kernel
theorem dX5_cutTo_59 : decode cX5_cutTo 59 = .ok (.return_, 1) := by decide +kernel
theorem dX5_tablePlace_0 : decode cX5_tablePlace 0 = .ok (.aload_n 0, 1) := by decide +kernel
theorem dX5_tablePlace_1 : decode cX5_tablePlace 1 = .ok (.getfield 12, 3) := by decide +kernel
theorem dX5_tablePlace_4 : decode cX5_tablePlace 4 = .ok (.invokevirtual 99, 3) := by decide +kernel
theorem dX5_tablePlace_7 : decode cX5_tablePlace 7 = .ok (.ifCond .eq 4, 3) := by decide +kernel
theorem dX5_tablePlace_10 : decode cX5_tablePlace 10 = .ok (.return_, 1) := by decide +kernel
theorem dX5_tablePlace_11 : decode cX5_tablePlace 11 = .ok (.iconst 1, 1) := by decide +kernel
theorem dX5_tablePlace_12 : decode cX5_tablePlace 12 = .ok (.aload_n 0, 1) := by decide +kernel
theorem dX5_tablePlace_13 : decode cX5_tablePlace 13 = .ok (.getfield 12, 3) := by decide +kernel
theorem dX5_tablePlace_16 : decode cX5_tablePlace 16 = .ok (.getfield 45, 3) := by decide +kernel
theorem dX5_tablePlace_19 : decode cX5_tablePlace 19 = .ok (.ishl, 1) := by decide +kernel
theorem dX5_tablePlace_20 : decode cX5_tablePlace 20 = .ok (.istore_n 2, 1) := by decide +kernel
theorem dX5_tablePlace_21 : decode cX5_tablePlace 21 = .ok (.aload_n 0, 1) := by decide +kernel
theorem dX5_tablePlace_22 : decode cX5_tablePlace 22 = .ok (.getfield 12, 3) := by decide +kernel
theorem dX5_tablePlace_25 : decode cX5_tablePlace 25 = .ok (.iload_n 1, 1) := by decide +kernel
theorem dX5_tablePlace_26 : decode cX5_tablePlace 26 = .ok (.invokevirtual 103, 3) := by decide +kernel
theorem dX5_tablePlace_29 : decode cX5_tablePlace 29 = .ok (.iload_n 2, 1) := by decide +kernel
theorem dX5_tablePlace_30 : decode cX5_tablePlace 30 = .ok (.istore_n 3, 1) := by decide +kernel
theorem dX5_tablePlace_31 : decode cX5_tablePlace 31 = .ok (.iload_n 3, 1) := by decide +kernel
theorem dX5_tablePlace_32 : decode cX5_tablePlace 32 = .ok (.iload_n 2, 1) := by decide +kernel
theorem dX5_tablePlace_33 : decode cX5_tablePlace 33 = .ok (.iconst 1, 1) := by decide +kernel
theorem dX5_tablePlace_34 : decode cX5_tablePlace 34 = .ok (.ishl, 1) := by decide +kernel
theorem dX5_tablePlace_35 : decode cX5_tablePlace 35 = .ok (.if_icmp .ge 85, 3) := by decide +kernel
theorem dX5_tablePlace_38 : decode cX5_tablePlace 38 = .ok (.aload_n 0, 1) := by decide +kernel
theorem dX5_tablePlace_39 : decode cX5_tablePlace 39 = .ok (.getfield 18, 3) := by decide +kernel
theorem dX5_tablePlace_42 : decode cX5_tablePlace 42 = .ok (.iload_n 3, 1) := by decide +kernel
theorem dX5_tablePlace_43 : decode cX5_tablePlace 43 = .ok (.aload_n 0, 1) := by decide +kernel
theorem dX5_tablePlace_44 : decode cX5_tablePlace 44 = .ok (.getfield 12, 3) := by decide +kernel
theorem dX5_tablePlace_47 : decode cX5_tablePlace 47 = .ok (.getfield 52, 3) := by decide +kernel
theorem dX5_tablePlace_50 : decode cX5_tablePlace 50 = .ok (.aload_n 0, 1) := by decide +kernel
theorem dX5_tablePlace_51 : decode cX5_tablePlace 51 = .ok (.getfield 18, 3) := by decide +kernel
theorem dX5_tablePlace_54 : decode cX5_tablePlace 54 = .ok (.iload_n 3, 1) := by decide +kernel
theorem dX5_tablePlace_55 : decode cX5_tablePlace 55 = .ok (.iload_n 2, 1) := by decide +kernel
theorem dX5_tablePlace_56 : decode cX5_tablePlace 56 = .ok (.ixor, 1) := by decide +kernel
theorem dX5_tablePlace_57 : decode cX5_tablePlace 57 = .ok (.iaload, 1) := by decide +kernel
theorem dX5_tablePlace_58 : decode cX5_tablePlace 58 = .ok (.iload_n 1, 1) := by decide +kernel
theorem dX5_tablePlace_59 : decode cX5_tablePlace 59 = .ok (.invokevirtual 106, 3) := by decide +kernel
theorem dX5_tablePlace_62 : decode cX5_tablePlace 62 = .ok (.iastore, 1) := by decide +kernel
theorem dX5_tablePlace_63 : decode cX5_tablePlace 63 = .ok (.aload_n 0, 1) := by decide +kernel
theorem dX5_tablePlace_64 : decode cX5_tablePlace 64 = .ok (.getfield 22, 3) := by decide +kernel
theorem dX5_tablePlace_67 : decode cX5_tablePlace 67 = .ok (.iload_n 3, 1) := by decide +kernel
theorem dX5_tablePlace_68 : decode cX5_tablePlace 68 = .ok (.aload_n 0, 1) := by decide +kernel
theorem dX5_tablePlace_69 : decode cX5_tablePlace 69 = .ok (.iload_n 3, 1) := by decide +kernel
theorem dX5_tablePlace_70 : decode cX5_tablePlace 70 = .ok (.invokevirtual 109, 3) := by decide +kernel
theorem dX5_tablePlace_73 : decode cX5_tablePlace 73 = .ok (.iastore, 1) := by decide +kernel
theorem dX5_tablePlace_74 : decode cX5_tablePlace 74 = .ok (.aload_n 0, 1) := by decide +kernel
theorem dX5_tablePlace_75 : decode cX5_tablePlace 75 = .ok (.getfield 22, 3) := by decide +kernel
theorem dX5_tablePlace_78 : decode cX5_tablePlace 78 = .ok (.iload_n 3, 1) := by decide +kernel
theorem dX5_tablePlace_79 : decode cX5_tablePlace 79 = .ok (.iaload, 1) := by decide +kernel
theorem dX5_tablePlace_80 : decode cX5_tablePlace 80 = .ok (.iconst 1, 1) := by decide +kernel
theorem dX5_tablePlace_81 : decode cX5_tablePlace 81 = .ok (.if_icmp .ne 33, 3) := by decide +kernel
theorem dX5_tablePlace_84 : decode cX5_tablePlace 84 = .ok (.aload_n 0, 1) := by decide +kernel
theorem dX5_tablePlace_85 : decode cX5_tablePlace 85 = .ok (.getfield 34, 3) := by decide +kernel
theorem dX5_tablePlace_88 : decode cX5_tablePlace 88 = .ok (.sipush 1024, 3) := by decide +kernel
theorem dX5_tablePlace_91 : decode cX5_tablePlace 91 = .ok (.if_icmp .ge 23, 3) := by decide +kernel
theorem dX5_tablePlace_94 : decode cX5_tablePlace 94 = .ok (.aload_n 0, 1) := by decide +kernel
theorem dX5_tablePlace_95 : decode cX5_tablePlace 95 = .ok (.getfield 31, 3) := by decide +kernel
theorem dX5_tablePlace_98 : decode cX5_tablePlace 98 = .ok (.aload_n 0, 1) := by decide +kernel
theorem dX5_tablePlace_99 : decode cX5_tablePlace 99 = .ok (.getfield 34, 3) := by decide +kernel
theorem dX5_tablePlace_102 : decode cX5_tablePlace 102 = .ok (.iload_n 3, 1) := by decide +kernel
theorem dX5_tablePlace_103 : decode cX5_tablePlace 103 = .ok (.iastore, 1) := by decide +kernel
theorem dX5_tablePlace_104 : decode cX5_tablePlace 104 = .ok (.aload_n 0, 1) := by decide +kernel
theorem dX5_tablePlace_105 : decode cX5_tablePlace 105 = .ok (.dup, 1) := by decide +kernel
theorem dX5_tablePlace_106 : decode cX5_tablePlace 106 = .ok (.getfield 34, 3) := by decide +kernel
theorem dX5_tablePlace_109 : decode cX5_tablePlace 109 = .ok (.iconst 1, 1) := by decide +kernel
theorem dX5_tablePlace_110 : decode cX5_tablePlace 110 = .ok (.iadd, 1) := by decide +kernel
theorem dX5_tablePlace_111 : decode cX5_tablePlace 111 = .ok (.putfield 34, 3) := by decide +kernel
theorem dX5_tablePlace_114 : decode cX5_tablePlace 114 = .ok (.iinc 3 1, 3) := by decide +kernel
theorem dX5_tablePlace_117 : decode cX5_tablePlace 117 = .ok (.goto (-86), 3) := by decide +kernel
theorem dX5_tablePlace_120 : decode cX5_tablePlace 120 = .ok (.return_, 1) := by decide +kernel
theorem dX5_kindOf_0 : decode cX5_kindOf 0 = .ok (.iconst 0, 1) := by decide +kernel
theorem dX5_kindOf_1 : decode cX5_kindOf 1 = .ok (.istore_n 2, 1) := by decide +kernel
theorem dX5_kindOf_2 : decode cX5_kindOf 2 = .ok (.iload_n 2, 1) := by decide +kernel
theorem dX5_kindOf_3 : decode cX5_kindOf 3 = .ok (.aload_n 0, 1) := by decide +kernel
theorem dX5_kindOf_4 : decode cX5_kindOf 4 = .ok (.getfield 12, 3) := by decide +kernel
theorem dX5_kindOf_7 : decode cX5_kindOf 7 = .ok (.getfield 45, 3) := by decide +kernel
theorem dX5_kindOf_10 : decode cX5_kindOf 10 = .ok (.if_icmp .ge 34, 3) := by decide +kernel
theorem dX5_kindOf_13 : decode cX5_kindOf 13 = .ok (.iload_n 1, 1) := by decide +kernel
theorem dX5_kindOf_14 : decode cX5_kindOf 14 = .ok (.iload_n 2, 1) := by decide +kernel
theorem dX5_kindOf_15 : decode cX5_kindOf 15 = .ok (.ishr, 1) := by decide +kernel
theorem dX5_kindOf_16 : decode cX5_kindOf 16 = .ok (.iconst 1, 1) := by decide +kernel
theorem dX5_kindOf_17 : decode cX5_kindOf 17 = .ok (.iand, 1) := by decide +kernel
theorem dX5_kindOf_18 : decode cX5_kindOf 18 = .ok (.ifCond .eq 20, 3) := by decide +kernel
theorem dX5_kindOf_21 : decode cX5_kindOf 21 = .ok (.aload_n 0, 1) := by decide +kernel
theorem dX5_kindOf_22 : decode cX5_kindOf 22 = .ok (.getfield 22, 3) := by decide +kernel
theorem dX5_kindOf_25 : decode cX5_kindOf 25 = .ok (.iload_n 1, 1) := by decide +kernel
theorem dX5_kindOf_26 : decode cX5_kindOf 26 = .ok (.iconst 1, 1) := by decide +kernel
theorem dX5_kindOf_27 : decode cX5_kindOf 27 = .ok (.iload_n 2, 1) := by decide +kernel
theorem dX5_kindOf_28 : decode cX5_kindOf 28 = .ok (.ishl, 1) := by decide +kernel
theorem dX5_kindOf_29 : decode cX5_kindOf 29 = .ok (.iconst (-1), 1) := by decide +kernel
theorem dX5_kindOf_30 : decode cX5_kindOf 30 = .ok (.ixor, 1) := by decide +kernel
theorem dX5_kindOf_31 : decode cX5_kindOf 31 = .ok (.iand, 1) := by decide +kernel
theorem dX5_kindOf_32 : decode cX5_kindOf 32 = .ok (.iaload, 1) := by decide +kernel
theorem dX5_kindOf_33 : decode cX5_kindOf 33 = .ok (.ifCond .eq 5, 3) := by decide +kernel
theorem dX5_kindOf_36 : decode cX5_kindOf 36 = .ok (.iconst 2, 1) := by decide +kernel
theorem dX5_kindOf_37 : decode cX5_kindOf 37 = .ok (.ireturn, 1) := by decide +kernel
theorem dX5_kindOf_38 : decode cX5_kindOf 38 = .ok (.iinc 2 1, 3) := by decide +kernel
theorem dX5_kindOf_41 : decode cX5_kindOf 41 = .ok (.goto (-39), 3) := by decide +kernel
theorem dX5_kindOf_44 : decode cX5_kindOf 44 = .ok (.aload_n 0, 1) := by decide +kernel
theorem dX5_kindOf_45 : decode cX5_kindOf 45 = .ok (.getfield 18, 3) := by decide +kernel
theorem dX5_kindOf_48 : decode cX5_kindOf 48 = .ok (.iload_n 1, 1) := by decide +kernel
theorem dX5_kindOf_49 : decode cX5_kindOf 49 = .ok (.iaload, 1) := by decide +kernel
theorem dX5_kindOf_50 : decode cX5_kindOf 50 = .ok (.ifCond .ne 7, 3) := by decide +kernel
theorem dX5_kindOf_53 : decode cX5_kindOf 53 = .ok (.iconst 1, 1) := by decide +kernel
theorem dX5_kindOf_54 : decode cX5_kindOf 54 = .ok (.goto 4, 3) := by decide +kernel
theorem dX5_kindOf_57 : decode cX5_kindOf 57 = .ok (.iconst 0, 1) := by decide +kernel
theorem dX5_kindOf_58 : decode cX5_kindOf 58 = .ok (.ireturn, 1) := by decide +kernel
theorem dX5_isSet_0 : decode cX5_isSet 0 = .ok (.iload_n 0, 1) := by decide +kernel
theorem dX5_isSet_1 : decode cX5_isSet 1 = .ok (.ifCond .lt 14, 3) := by decide +kernel
theorem dX5_isSet_4 : decode cX5_isSet 4 = .ok (.iload_n 0, 1) := by decide +kernel
theorem dX5_isSet_5 : decode cX5_isSet 5 = .ok (.sipush 1024, 3) := by decide +kernel
theorem dX5_isSet_8 : decode cX5_isSet 8 = .ok (.if_icmp .ge 7, 3) := by decide +kernel
theorem dX5_isSet_11 : decode cX5_isSet 11 = .ok (.iconst 1, 1) := by decide +kernel
theorem dX5_isSet_12 : decode cX5_isSet 12 = .ok (.goto 4, 3) := by decide +kernel
theorem dX5_isSet_15 : decode cX5_isSet 15 = .ok (.iconst 0, 1) := by decide +kernel
theorem dX5_isSet_16 : decode cX5_isSet 16 = .ok (.ireturn, 1) := by decide +kernel
theorem dX5_tableSplits_0 : decode cX5_tableSplits 0 = .ok (.iconst 1, 1) := by decide +kernel
theorem dX5_tableSplits_1 : decode cX5_tableSplits 1 = .ok (.aload_n 0, 1) := by decide +kernel
theorem dX5_tableSplits_2 : decode cX5_tableSplits 2 = .ok (.getfield 12, 3) := by decide +kernel
theorem dX5_tableSplits_5 : decode cX5_tableSplits 5 = .ok (.getfield 45, 3) := by decide +kernel
theorem dX5_tableSplits_8 : decode cX5_tableSplits 8 = .ok (.ishl, 1) := by decide +kernel
theorem dX5_tableSplits_9 : decode cX5_tableSplits 9 = .ok (.istore_n 1, 1) := by decide +kernel
theorem dX5_tableSplits_10 : decode cX5_tableSplits 10 = .ok (.aload_n 0, 1) := by decide +kernel
theorem dX5_tableSplits_11 : decode cX5_tableSplits 11 = .ok (.getfield 38, 3) := by decide +kernel
theorem dX5_tableSplits_14 : decode cX5_tableSplits 14 = .ok (.istore_n 2, 1) := by decide +kernel
theorem dX5_tableSplits_15 : decode cX5_tableSplits 15 = .ok (.iload_n 2, 1) := by decide +kernel
theorem dX5_tableSplits_16 : decode cX5_tableSplits 16 = .ok (.iload_n 1, 1) := by decide +kernel
theorem dX5_tableSplits_17 : decode cX5_tableSplits 17 = .ok (.if_icmp .ge 14, 3) := by decide +kernel
theorem dX5_tableSplits_20 : decode cX5_tableSplits 20 = .ok (.aload_n 0, 1) := by decide +kernel
theorem dX5_tableSplits_21 : decode cX5_tableSplits 21 = .ok (.iload_n 2, 1) := by decide +kernel
theorem dX5_tableSplits_22 : decode cX5_tableSplits 22 = .ok (.invokevirtual 112, 3) := by decide +kernel
theorem dX5_tableSplits_25 : decode cX5_tableSplits 25 = .ok (.iinc 2 1, 3) := by decide +kernel
theorem dX5_tableSplits_28 : decode cX5_tableSplits 28 = .ok (.goto (-13), 3) := by decide +kernel
theorem dX5_tableSplits_31 : decode cX5_tableSplits 31 = .ok (.aload_n 0, 1) := by decide +kernel
theorem dX5_tableSplits_32 : decode cX5_tableSplits 32 = .ok (.iload_n 1, 1) := by decide +kernel
theorem dX5_tableSplits_33 : decode cX5_tableSplits 33 = .ok (.putfield 38, 3) := by decide +kernel
theorem dX5_tableSplits_36 : decode cX5_tableSplits 36 = .ok (.return_, 1) := by decide +kernel
theorem dX5_tableSplitsOf_0 : decode cX5_tableSplitsOf 0 = .ok (.iload_n 1, 1) := by decide +kernel
theorem dX5_tableSplitsOf_1 : decode cX5_tableSplitsOf 1 = .ok (.iload_n 1, 1) := by decide +kernel
theorem dX5_tableSplitsOf_2 : decode cX5_tableSplitsOf 2 = .ok (.ineg, 1) := by decide +kernel
theorem dX5_tableSplitsOf_3 : decode cX5_tableSplitsOf 3 = .ok (.iand, 1) := by decide +kernel
theorem dX5_tableSplitsOf_4 : decode cX5_tableSplitsOf 4 = .ok (.istore_n 2, 1) := by decide +kernel
theorem dX5_tableSplitsOf_5 : decode cX5_tableSplitsOf 5 = .ok (.iconst 0, 1) := by decide +kernel
theorem dX5_tableSplitsOf_6 : decode cX5_tableSplitsOf 6 = .ok (.istore_n 3, 1) := by decide +kernel
theorem dX5_tableSplitsOf_7 : decode cX5_tableSplitsOf 7 = .ok (.iconst 0, 1) := by decide +kernel
theorem dX5_tableSplitsOf_8 : decode cX5_tableSplitsOf 8 = .ok (.istore 4, 2) := by decide +kernel
theorem dX5_tableSplitsOf_10 : decode cX5_tableSplitsOf 10 = .ok (.aload_n 0, 1) := by decide +kernel
theorem dX5_tableSplitsOf_11 : decode cX5_tableSplitsOf 11 = .ok (.getfield 18, 3) := by decide +kernel
theorem dX5_tableSplitsOf_14 : decode cX5_tableSplitsOf 14 = .ok (.iload_n 1, 1) := by decide +kernel
theorem dX5_tableSplitsOf_15 : decode cX5_tableSplitsOf 15 = .ok (.iaload, 1) := by decide +kernel
theorem dX5_tableSplitsOf_16 : decode cX5_tableSplitsOf 16 = .ok (.ifCond .ne 85, 3) := by decide +kernel
theorem dX5_tableSplitsOf_19 : decode cX5_tableSplitsOf 19 = .ok (.iconst 0, 1) := by decide +kernel
theorem dX5_tableSplitsOf_20 : decode cX5_tableSplitsOf 20 = .ok (.istore 5, 2) := by decide +kernel
theorem dX5_tableSplitsOf_22 : decode cX5_tableSplitsOf 22 = .ok (.iload 5, 2) := by decide +kernel
theorem dX5_tableSplitsOf_24 : decode cX5_tableSplitsOf 24 = .ok (.aload_n 0, 1) := by decide +kernel
theorem dX5_tableSplitsOf_25 : decode cX5_tableSplitsOf 25 = .ok (.getfield 34, 3) := by decide +kernel
theorem dX5_tableSplitsOf_28 : decode cX5_tableSplitsOf 28 = .ok (.if_icmp .ge 73, 3) := by decide +kernel
theorem dX5_tableSplitsOf_31 : decode cX5_tableSplitsOf 31 = .ok (.aload_n 0, 1) := by decide +kernel
theorem dX5_tableSplitsOf_32 : decode cX5_tableSplitsOf 32 = .ok (.getfield 31, 3) := by decide +kernel
theorem dX5_tableSplitsOf_35 : decode cX5_tableSplitsOf 35 = .ok (.iload 5, 2) := by decide +kernel
theorem dX5_tableSplitsOf_37 : decode cX5_tableSplitsOf 37 = .ok (.iaload, 1) := by decide +kernel
theorem dX5_tableSplitsOf_38 : decode cX5_tableSplitsOf 38 = .ok (.iload_n 1, 1) := by decide +kernel
theorem dX5_tableSplitsOf_39 : decode cX5_tableSplitsOf 39 = .ok (.if_icmp .gt 62, 3) := by decide +kernel
theorem dX5_tableSplitsOf_42 : decode cX5_tableSplitsOf 42 = .ok (.aload_n 0, 1) := by decide +kernel
theorem dX5_tableSplitsOf_43 : decode cX5_tableSplitsOf 43 = .ok (.getfield 31, 3) := by decide +kernel
theorem dX5_tableSplitsOf_46 : decode cX5_tableSplitsOf 46 = .ok (.iload 5, 2) := by decide +kernel
theorem dX5_tableSplitsOf_48 : decode cX5_tableSplitsOf 48 = .ok (.iaload, 1) := by decide +kernel
theorem dX5_tableSplitsOf_49 : decode cX5_tableSplitsOf 49 = .ok (.istore 6, 2) := by decide +kernel
theorem dX5_tableSplitsOf_51 : decode cX5_tableSplitsOf 51 = .ok (.iload 6, 2) := by decide +kernel
theorem dX5_tableSplitsOf_53 : decode cX5_tableSplitsOf 53 = .ok (.iload_n 2, 1) := by decide +kernel
theorem dX5_tableSplitsOf_54 : decode cX5_tableSplitsOf 54 = .ok (.iand, 1) := by decide +kernel
theorem dX5_tableSplitsOf_55 : decode cX5_tableSplitsOf 55 = .ok (.ifCond .eq 40, 3) := by decide +kernel
theorem dX5_tableSplitsOf_58 : decode cX5_tableSplitsOf 58 = .ok (.iload 6, 2) := by decide +kernel
theorem dX5_tableSplitsOf_60 : decode cX5_tableSplitsOf 60 = .ok (.iload_n 1, 1) := by decide +kernel
theorem dX5_tableSplitsOf_61 : decode cX5_tableSplitsOf 61 = .ok (.iconst (-1), 1) := by decide +kernel
theorem dX5_tableSplitsOf_62 : decode cX5_tableSplitsOf 62 = .ok (.ixor, 1) := by decide +kernel
theorem dX5_tableSplitsOf_63 : decode cX5_tableSplitsOf 63 = .ok (.iand, 1) := by decide +kernel
theorem dX5_tableSplitsOf_64 : decode cX5_tableSplitsOf 64 = .ok (.ifCond .ne 31, 3) := by decide +kernel
theorem dX5_tableSplitsOf_67 : decode cX5_tableSplitsOf 67 = .ok (.iload_n 3, 1) := by decide +kernel
theorem dX5_tableSplitsOf_68 : decode cX5_tableSplitsOf 68 = .ok (.aload_n 0, 1) := by decide +kernel
theorem dX5_tableSplitsOf_69 : decode cX5_tableSplitsOf 69 = .ok (.getfield 25, 3) := by decide +kernel
theorem dX5_tableSplitsOf_72 : decode cX5_tableSplitsOf 72 = .ok (.iload_n 1, 1) := by decide +kernel
theorem dX5_tableSplitsOf_73 : decode cX5_tableSplitsOf 73 = .ok (.iload 6, 2) := by decide +kernel
theorem dX5_tableSplitsOf_75 : decode cX5_tableSplitsOf 75 = .ok (.ixor, 1) := by decide +kernel
theorem dX5_tableSplitsOf_76 : decode cX5_tableSplitsOf 76 = .ok (.iaload, 1) := by decide +kernel
theorem dX5_tableSplitsOf_77 : decode cX5_tableSplitsOf 77 = .ok (.iconst 1, 1) := by decide +kernel
theorem dX5_tableSplitsOf_78 : decode cX5_tableSplitsOf 78 = .ok (.ishl, 1) := by decide +kernel
theorem dX5_tableSplitsOf_79 : decode cX5_tableSplitsOf 79 = .ok (.ior, 1) := by decide +kernel
theorem dX5_tableSplitsOf_80 : decode cX5_tableSplitsOf 80 = .ok (.istore_n 3, 1) := by decide +kernel
theorem dX5_tableSplitsOf_81 : decode cX5_tableSplitsOf 81 = .ok (.iload 4, 2) := by decide +kernel
theorem dX5_tableSplitsOf_83 : decode cX5_tableSplitsOf 83 = .ok (.aload_n 0, 1) := by decide +kernel
theorem dX5_tableSplitsOf_84 : decode cX5_tableSplitsOf 84 = .ok (.getfield 28, 3) := by decide +kernel
theorem dX5_tableSplitsOf_87 : decode cX5_tableSplitsOf 87 = .ok (.iload_n 1, 1) := by decide +kernel
theorem dX5_tableSplitsOf_88 : decode cX5_tableSplitsOf 88 = .ok (.iload 6, 2) := by decide +kernel
theorem dX5_tableSplitsOf_90 : decode cX5_tableSplitsOf 90 = .ok (.ixor, 1) := by decide +kernel
theorem dX5_tableSplitsOf_91 : decode cX5_tableSplitsOf 91 = .ok (.iaload, 1) := by decide +kernel
theorem dX5_tableSplitsOf_92 : decode cX5_tableSplitsOf 92 = .ok (.iadd, 1) := by decide +kernel
theorem dX5_tableSplitsOf_93 : decode cX5_tableSplitsOf 93 = .ok (.istore 4, 2) := by decide +kernel
theorem dX5_tableSplitsOf_95 : decode cX5_tableSplitsOf 95 = .ok (.iinc 5 1, 3) := by decide +kernel
theorem dX5_tableSplitsOf_98 : decode cX5_tableSplitsOf 98 = .ok (.goto (-76), 3) := by decide +kernel
theorem dX5_tableSplitsOf_101 : decode cX5_tableSplitsOf 101 = .ok (.aload_n 0, 1) := by decide +kernel
theorem dX5_tableSplitsOf_102 : decode cX5_tableSplitsOf 102 = .ok (.getfield 25, 3) := by decide +kernel
theorem dX5_tableSplitsOf_105 : decode cX5_tableSplitsOf 105 = .ok (.iload_n 1, 1) := by decide +kernel
theorem dX5_tableSplitsOf_106 : decode cX5_tableSplitsOf 106 = .ok (.iload_n 3, 1) := by decide +kernel
theorem dX5_tableSplitsOf_107 : decode cX5_tableSplitsOf 107 = .ok (.iastore, 1) := by decide +kernel
theorem dX5_tableSplitsOf_108 : decode cX5_tableSplitsOf 108 = .ok (.aload_n 0, 1) := by decide +kernel
theorem dX5_tableSplitsOf_109 : decode cX5_tableSplitsOf 109 = .ok (.getfield 28, 3) := by decide +kernel
theorem dX5_tableSplitsOf_112 : decode cX5_tableSplitsOf 112 = .ok (.iload_n 1, 1) := by decide +kernel
theorem dX5_tableSplitsOf_113 : decode cX5_tableSplitsOf 113 = .ok (.iload 4, 2) := by decide +kernel
theorem dX5_tableSplitsOf_115 : decode cX5_tableSplitsOf 115 = .ok (.iastore, 1) := by decide +kernel
theorem dX5_tableSplitsOf_116 : decode cX5_tableSplitsOf 116 = .ok (.return_, 1) := by decide +kernel
theorem dX7_init_0 : decode cX7_init 0 = .ok (.aload_n 0, 1) := by decide +kernel
theorem dX7_init_1 : decode cX7_init 1 = .ok (.invokespecial 3, 3) := by decide +kernel
theorem dX7_init_4 : decode cX7_init 4 = .ok (.aload_n 0, 1) := by decide +kernel
theorem dX7_init_5 : decode cX7_init 5 = .ok (.new 9, 3) := by decide +kernel
theorem dX7_init_8 : decode cX7_init 8 = .ok (.dup, 1) := by decide +kernel
theorem dX7_init_9 : decode cX7_init 9 = .ok (.invokespecial 11, 3) := by decide +kernel
theorem dX7_init_12 : decode cX7_init 12 = .ok (.putfield 12, 3) := by decide +kernel
theorem dX7_init_15 : decode cX7_init 15 = .ok (.aload_n 0, 1) := by decide +kernel
theorem dX7_init_16 : decode cX7_init 16 = .ok (.new 16, 3) := by decide +kernel
theorem dX7_init_19 : decode cX7_init 19 = .ok (.dup, 1) := by decide +kernel
theorem dX7_init_20 : decode cX7_init 20 = .ok (.invokespecial 18, 3) := by decide +kernel
theorem dX7_init_23 : decode cX7_init 23 = .ok (.putfield 19, 3) := by decide +kernel
theorem dX7_init_26 : decode cX7_init 26 = .ok (.aload_n 0, 1) := by decide +kernel
theorem dX7_init_27 : decode cX7_init 27 = .ok (.new 23, 3) := by decide +kernel
theorem dX7_init_30 : decode cX7_init 30 = .ok (.dup, 1) := by decide +kernel
theorem dX7_init_31 : decode cX7_init 31 = .ok (.invokespecial 25, 3) := by decide +kernel
theorem dX7_init_34 : decode cX7_init 34 = .ok (.putfield 26, 3) := by decide +kernel
theorem dX7_init_37 : decode cX7_init 37 = .ok (.aload_n 0, 1) := by decide +kernel
theorem dX7_init_38 : decode cX7_init 38 = .ok (.new 30, 3) := by decide +kernel
theorem dX7_init_41 : decode cX7_init 41 = .ok (.dup, 1) := by decide +kernel
theorem dX7_init_42 : decode cX7_init 42 = .ok (.invokespecial 32, 3) := by decide +kernel
theorem dX7_init_45 : decode cX7_init 45 = .ok (.putfield 33, 3) := by decide +kernel
theorem dX7_init_48 : decode cX7_init 48 = .ok (.return_, 1) := by decide +kernel
theorem dX7_begin_0 : decode cX7_begin 0 = .ok (.iload_n 1, 1) := by decide +kernel
theorem dX7_begin_1 : decode cX7_begin 1 = .ok (.invokestatic 37, 3) := by decide +kernel
theorem dX7_begin_4 : decode cX7_begin 4 = .ok (.ifCond .eq 10, 3) := by decide +kernel
theorem dX7_begin_7 : decode cX7_begin 7 = .ok (.iload_n 2, 1) := by decide +kernel
theorem dX7_begin_8 : decode cX7_begin 8 = .ok (.invokestatic 37, 3) := by decide +kernel
theorem dX7_begin_11 : decode cX7_begin 11 = .ok (.ifCond .ne 13, 3) := by decide +kernel
theorem dX7_begin_14 : decode cX7_begin 14 = .ok (.new 41, 3) := by decide +kernel
theorem dX7_begin_17 : decode cX7_begin 17 = .ok (.dup, 1) := by decide +kernel
theorem dX7_begin_18 : decode cX7_begin 18 = .ok (.ldc 43, 2) := by decide +kernel
theorem dX7_begin_20 : decode cX7_begin 20 = .ok (.invokespecial 45, 3) := by decide +kernel
theorem dX7_begin_23 : decode cX7_begin 23 = .ok (.athrow, 1) := by decide +kernel
theorem dX7_begin_24 : decode cX7_begin 24 = .ok (.aload_n 0, 1) := by decide +kernel
theorem dX7_begin_25 : decode cX7_begin 25 = .ok (.getfield 19, 3) := by decide +kernel
theorem dX7_begin_28 : decode cX7_begin 28 = .ok (.aload_n 0, 1) := by decide +kernel
theorem dX7_begin_29 : decode cX7_begin 29 = .ok (.getfield 12, 3) := by decide +kernel
theorem dX7_begin_32 : decode cX7_begin 32 = .ok (.invokevirtual 48, 3) := by decide +kernel
theorem dX7_begin_35 : decode cX7_begin 35 = .ok (.aload_n 0, 1) := by decide +kernel
theorem dX7_begin_36 : decode cX7_begin 36 = .ok (.getfield 12, 3) := by decide +kernel
theorem dX7_begin_39 : decode cX7_begin 39 = .ok (.iload_n 1, 1) := by decide +kernel
theorem dX7_begin_40 : decode cX7_begin 40 = .ok (.iload_n 2, 1) := by decide +kernel
theorem dX7_begin_41 : decode cX7_begin 41 = .ok (.invokevirtual 52, 3) := by decide +kernel
theorem dX7_begin_44 : decode cX7_begin 44 = .ok (.aload_n 0, 1) := by decide +kernel
theorem dX7_begin_45 : decode cX7_begin 45 = .ok (.getfield 12, 3) := by decide +kernel
theorem dX7_begin_48 : decode cX7_begin 48 = .ok (.getfield 56, 3) := by decide +kernel
theorem dX7_begin_51 : decode cX7_begin 51 = .ok (.invokevirtual 60, 3) := by decide +kernel
theorem dX7_begin_54 : decode cX7_begin 54 = .ok (.ireturn, 1) := by decide +kernel
theorem dX7_add_0 : decode cX7_add 0 = .ok (.aload_n 0, 1) := by decide +kernel
theorem dX7_add_1 : decode cX7_add 1 = .ok (.getfield 12, 3) := by decide +kernel
theorem dX7_add_4 : decode cX7_add 4 = .ok (.getfield 56, 3) := by decide +kernel
theorem dX7_add_7 : decode cX7_add 7 = .ok (.iload_n 1, 1) := by decide +kernel
theorem dX7_add_8 : decode cX7_add 8 = .ok (.invokevirtual 66, 3) := by decide +kernel
theorem dX7_add_11 : decode cX7_add 11 = .ok (.ifCond .ne 13, 3) := by decide +kernel
theorem dX7_add_14 : decode cX7_add 14 = .ok (.new 69, 3) := by decide +kernel
theorem dX7_add_17 : decode cX7_add 17 = .ok (.dup, 1) := by decide +kernel
theorem dX7_add_18 : decode cX7_add 18 = .ok (.ldc 71, 2) := by decide +kernel
theorem dX7_add_20 : decode cX7_add 20 = .ok (.invokespecial 73, 3) := by decide +kernel
theorem dX7_add_23 : decode cX7_add 23 = .ok (.athrow, 1) := by decide +kernel
theorem dX7_add_24 : decode cX7_add 24 = .ok (.aload_n 0, 1) := by decide +kernel
theorem dX7_add_25 : decode cX7_add 25 = .ok (.getfield 12, 3) := by decide +kernel
theorem dX7_add_28 : decode cX7_add 28 = .ok (.invokevirtual 74, 3) := by decide +kernel
theorem dX7_add_31 : decode cX7_add 31 = .ok (.ifCond .eq 13, 3) := by decide +kernel
theorem dX7_add_34 : decode cX7_add 34 = .ok (.new 78, 3) := by decide +kernel
theorem dX7_add_37 : decode cX7_add 37 = .ok (.dup, 1) := by decide +kernel
theorem dX7_add_38 : decode cX7_add 38 = .ok (.ldc 80, 2) := by decide +kernel
theorem dX7_add_40 : decode cX7_add 40 = .ok (.invokespecial 82, 3) := by decide +kernel
theorem dX7_add_43 : decode cX7_add 43 = .ok (.athrow, 1) := by decide +kernel
theorem dX7_add_44 : decode cX7_add 44 = .ok (.aload_n 0, 1) := by decide +kernel
theorem dX7_add_45 : decode cX7_add 45 = .ok (.getfield 19, 3) := by decide +kernel
theorem dX7_add_48 : decode cX7_add 48 = .ok (.aload_n 0, 1) := by decide +kernel
theorem dX7_add_49 : decode cX7_add 49 = .ok (.getfield 12, 3) := by decide +kernel
theorem dX7_add_52 : decode cX7_add 52 = .ok (.invokevirtual 48, 3) := by decide +kernel
theorem dX7_add_55 : decode cX7_add 55 = .ok (.aload_n 0, 1) := by decide +kernel
theorem dX7_add_56 : decode cX7_add 56 = .ok (.getfield 12, 3) := by decide +kernel
theorem dX7_add_59 : decode cX7_add 59 = .ok (.iload_n 1, 1) := by decide +kernel
theorem dX7_add_60 : decode cX7_add 60 = .ok (.invokevirtual 83, 3) := by decide +kernel
theorem dX7_add_63 : decode cX7_add 63 = .ok (.aload_n 0, 1) := by decide +kernel
theorem dX7_add_64 : decode cX7_add 64 = .ok (.getfield 12, 3) := by decide +kernel
theorem dX7_add_67 : decode cX7_add 67 = .ok (.getfield 87, 3) := by decide +kernel
theorem dX7_add_70 : decode cX7_add 70 = .ok (.iconst 1, 1) := by decide +kernel
theorem dX7_add_71 : decode cX7_add 71 = .ok (.isub, 1) := by decide +kernel
theorem dX7_add_72 : decode cX7_add 72 = .ok (.ireturn, 1) := by decide +kernel
theorem dX7_removeAt_0 : decode cX7_removeAt 0 = .ok (.aload_n 0, 1) := by decide +kernel
theorem dX7_removeAt_1 : decode cX7_removeAt 1 = .ok (.getfield 12, 3) := by decide +kernel
theorem dX7_removeAt_4 : decode cX7_removeAt 4 = .ok (.iload_n 1, 1) := by decide +kernel
theorem dX7_removeAt_5 : decode cX7_removeAt 5 = .ok (.invokevirtual 91, 3) := by decide +kernel
theorem dX7_removeAt_8 : decode cX7_removeAt 8 = .ok (.ifCond .ne 13, 3) := by decide +kernel
theorem dX7_removeAt_11 : decode cX7_removeAt 11 = .ok (.new 69, 3) := by decide +kernel
theorem dX7_removeAt_14 : decode cX7_removeAt 14 = .ok (.dup, 1) := by decide +kernel
theorem dX7_removeAt_15 : decode cX7_removeAt 15 = .ok (.ldc 94, 2) := by decide +kernel
theorem dX7_removeAt_17 : decode cX7_removeAt 17 = .ok (.invokespecial 73, 3) := by decide +kernel
theorem dX7_removeAt_20 : decode cX7_removeAt 20 = .ok (.athrow, 1) := by decide +kernel
theorem dX7_removeAt_21 : decode cX7_removeAt 21 = .ok (.aload_n 0, 1) := by decide +kernel
theorem dX7_removeAt_22 : decode cX7_removeAt 22 = .ok (.getfield 19, 3) := by decide +kernel
theorem dX7_removeAt_25 : decode cX7_removeAt 25 = .ok (.aload_n 0, 1) := by decide +kernel
theorem dX7_removeAt_26 : decode cX7_removeAt 26 = .ok (.getfield 12, 3) := by decide +kernel
theorem dX7_removeAt_29 : decode cX7_removeAt 29 = .ok (.invokevirtual 48, 3) := by decide +kernel
theorem dX7_removeAt_32 : decode cX7_removeAt 32 = .ok (.aload_n 0, 1) := by decide +kernel
theorem dX7_removeAt_33 : decode cX7_removeAt 33 = .ok (.getfield 12, 3) := by decide +kernel
theorem dX7_removeAt_36 : decode cX7_removeAt 36 = .ok (.iload_n 1, 1) := by decide +kernel
theorem dX7_removeAt_37 : decode cX7_removeAt 37 = .ok (.invokevirtual 96, 3) := by decide +kernel
theorem dX7_removeAt_40 : decode cX7_removeAt 40 = .ok (.ireturn, 1) := by decide +kernel
theorem dX7_lay_0 : decode cX7_lay 0 = .ok (.aload_n 0, 1) := by decide +kernel
theorem dX7_lay_1 : decode cX7_lay 1 = .ok (.getfield 12, 3) := by decide +kernel
theorem dX7_lay_4 : decode cX7_lay 4 = .ok (.iload_n 1, 1) := by decide +kernel
theorem dX7_lay_5 : decode cX7_lay 5 = .ok (.invokevirtual 91, 3) := by decide +kernel
theorem dX7_lay_8 : decode cX7_lay 8 = .ok (.ifCond .ne 13, 3) := by decide +kernel
theorem dX7_lay_11 : decode cX7_lay 11 = .ok (.new 69, 3) := by decide +kernel
theorem dX7_lay_14 : decode cX7_lay 14 = .ok (.dup, 1) := by decide +kernel
theorem dX7_lay_15 : decode cX7_lay 15 = .ok (.ldc 94, 2) := by decide +kernel
theorem dX7_lay_17 : decode cX7_lay 17 = .ok (.invokespecial 73, 3) := by decide +kernel
theorem dX7_lay_20 : decode cX7_lay 20 = .ok (.athrow, 1) := by decide +kernel
theorem dX7_lay_21 : decode cX7_lay 21 = .ok (.iload_n 2, 1) := by decide +kernel
theorem dX7_lay_22 : decode cX7_lay 22 = .ok (.invokestatic 100, 3) := by decide +kernel
theorem dX7_lay_25 : decode cX7_lay 25 = .ok (.ifCond .ne 13, 3) := by decide +kernel
theorem dX7_lay_28 : decode cX7_lay 28 = .ok (.new 41, 3) := by decide +kernel
theorem dX7_lay_31 : decode cX7_lay 31 = .ok (.dup, 1) := by decide +kernel
theorem dX7_lay_32 : decode cX7_lay 32 = .ok (.ldc 103, 2) := by decide +kernel
theorem dX7_lay_34 : decode cX7_lay 34 = .ok (.invokespecial 45, 3) := by decide +kernel
theorem dX7_lay_37 : decode cX7_lay 37 = .ok (.athrow, 1) := by decide +kernel
theorem dX7_lay_38 : decode cX7_lay 38 = .ok (.aload_n 0, 1) := by decide +kernel
theorem dX7_lay_39 : decode cX7_lay 39 = .ok (.getfield 19, 3) := by decide +kernel
theorem dX7_lay_42 : decode cX7_lay 42 = .ok (.aload_n 0, 1) := by decide +kernel
theorem dX7_lay_43 : decode cX7_lay 43 = .ok (.getfield 12, 3) := by decide +kernel
theorem dX7_lay_46 : decode cX7_lay 46 = .ok (.invokevirtual 48, 3) := by decide +kernel
theorem dX7_lay_49 : decode cX7_lay 49 = .ok (.aload_n 0, 1) := by decide +kernel
theorem dX7_lay_50 : decode cX7_lay 50 = .ok (.getfield 12, 3) := by decide +kernel
theorem dX7_lay_53 : decode cX7_lay 53 = .ok (.getfield 105, 3) := by decide +kernel
theorem dX7_lay_56 : decode cX7_lay 56 = .ok (.iload_n 1, 1) := by decide +kernel
theorem dX7_lay_57 : decode cX7_lay 57 = .ok (.iaload, 1) := by decide +kernel
theorem dX7_lay_58 : decode cX7_lay 58 = .ok (.istore_n 3, 1) := by decide +kernel
theorem dX7_lay_59 : decode cX7_lay 59 = .ok (.aload_n 0, 1) := by decide +kernel
theorem dX7_lay_60 : decode cX7_lay 60 = .ok (.getfield 12, 3) := by decide +kernel
theorem dX7_lay_63 : decode cX7_lay 63 = .ok (.getfield 105, 3) := by decide +kernel
theorem dX7_lay_66 : decode cX7_lay 66 = .ok (.iload_n 1, 1) := by decide +kernel
theorem dX7_lay_67 : decode cX7_lay 67 = .ok (.iload_n 2, 1) := by decide +kernel
theorem dX7_lay_68 : decode cX7_lay 68 = .ok (.iastore, 1) := by decide +kernel
theorem dX7_lay_69 : decode cX7_lay 69 = .ok (.iload_n 3, 1) := by decide +kernel
theorem dX7_lay_70 : decode cX7_lay 70 = .ok (.ireturn, 1) := by decide +kernel
theorem dX7_laySplit_0 : decode cX7_laySplit 0 = .ok (.aload_n 0, 1) := by decide +kernel
theorem dX7_laySplit_1 : decode cX7_laySplit 1 = .ok (.invokevirtual 109, 3) := by decide +kernel
theorem dX7_laySplit_4 : decode cX7_laySplit 4 = .ok (.ifCond .ne 13, 3) := by decide +kernel
theorem dX7_laySplit_7 : decode cX7_laySplit 7 = .ok (.new 78, 3) := by decide +kernel
theorem dX7_laySplit_10 : decode cX7_laySplit 10 = .ok (.dup, 1) := by decide +kernel
theorem dX7_laySplit_11 : decode cX7_laySplit 11 = .ok (.ldc 112, 2) := by decide +kernel
theorem dX7_laySplit_13 : decode cX7_laySplit 13 = .ok (.invokespecial 82, 3) := by decide +kernel
theorem dX7_laySplit_16 : decode cX7_laySplit 16 = .ok (.athrow, 1) := by decide +kernel
theorem dX7_laySplit_17 : decode cX7_laySplit 17 = .ok (.aload_n 0, 1) := by decide +kernel
theorem dX7_laySplit_18 : decode cX7_laySplit 18 = .ok (.getfield 19, 3) := by decide +kernel
theorem dX7_laySplit_21 : decode cX7_laySplit 21 = .ok (.aload_n 0, 1) := by decide +kernel
theorem dX7_laySplit_22 : decode cX7_laySplit 22 = .ok (.getfield 12, 3) := by decide +kernel
theorem dX7_laySplit_25 : decode cX7_laySplit 25 = .ok (.invokevirtual 48, 3) := by decide +kernel
theorem dX7_laySplit_28 : decode cX7_laySplit 28 = .ok (.aload_n 0, 1) := by decide +kernel
theorem dX7_laySplit_29 : decode cX7_laySplit 29 = .ok (.invokevirtual 114, 3) := by decide +kernel
theorem dX7_laySplit_32 : decode cX7_laySplit 32 = .ok (.ireturn, 1) := by decide +kernel
theorem dX7_sum_0 : decode cX7_sum 0 = .ok (.aload_n 0, 1) := by decide +kernel
theorem dX7_sum_1 : decode cX7_sum 1 = .ok (.getfield 12, 3) := by decide +kernel
theorem dX7_sum_4 : decode cX7_sum 4 = .ok (.getfield 56, 3) := by decide +kernel
theorem dX7_sum_7 : decode cX7_sum 7 = .ok (.iload_n 1, 1) := by decide +kernel
theorem dX7_sum_8 : decode cX7_sum 8 = .ok (.invokevirtual 66, 3) := by decide +kernel
theorem dX7_sum_11 : decode cX7_sum 11 = .ok (.ifCond .eq 17, 3) := by decide +kernel
theorem dX7_sum_14 : decode cX7_sum 14 = .ok (.aload_n 0, 1) := by decide +kernel
theorem dX7_sum_15 : decode cX7_sum 15 = .ok (.getfield 12, 3) := by decide +kernel
theorem dX7_sum_18 : decode cX7_sum 18 = .ok (.getfield 56, 3) := by decide +kernel
theorem dX7_sum_21 : decode cX7_sum 21 = .ok (.iload_n 2, 1) := by decide +kernel
theorem dX7_sum_22 : decode cX7_sum 22 = .ok (.invokevirtual 66, 3) := by decide +kernel
theorem dX7_sum_25 : decode cX7_sum 25 = .ok (.ifCond .ne 13, 3) := by decide +kernel
theorem dX7_sum_28 : decode cX7_sum 28 = .ok (.new 69, 3) := by decide +kernel
theorem dX7_sum_31 : decode cX7_sum 31 = .ok (.dup, 1) := by decide +kernel
theorem dX7_sum_32 : decode cX7_sum 32 = .ok (.ldc 71, 2) := by decide +kernel
theorem dX7_sum_34 : decode cX7_sum 34 = .ok (.invokespecial 73, 3) := by decide +kernel
theorem dX7_sum_37 : decode cX7_sum 37 = .ok (.athrow, 1) := by decide +kernel
theorem dX7_sum_38 : decode cX7_sum 38 = .ok (.aload_n 0, 1) := by decide +kernel
theorem dX7_sum_39 : decode cX7_sum 39 = .ok (.getfield 12, 3) := by decide +kernel
theorem dX7_sum_42 : decode cX7_sum 42 = .ok (.getfield 56, 3) := by decide +kernel
theorem dX7_sum_45 : decode cX7_sum 45 = .ok (.iload_n 1, 1) := by decide +kernel
theorem dX7_sum_46 : decode cX7_sum 46 = .ok (.iload_n 2, 1) := by decide +kernel
theorem dX7_sum_47 : decode cX7_sum 47 = .ok (.invokevirtual 117, 3) := by decide +kernel
theorem dX7_sum_50 : decode cX7_sum 50 = .ok (.ireturn, 1) := by decide +kernel
theorem dX7_element_0 : decode cX7_element 0 = .ok (.aload_n 0, 1) := by decide +kernel
theorem dX7_element_1 : decode cX7_element 1 = .ok (.getfield 12, 3) := by decide +kernel
theorem dX7_element_4 : decode cX7_element 4 = .ok (.getfield 56, 3) := by decide +kernel
theorem dX7_element_7 : decode cX7_element 7 = .ok (.iload_n 1, 1) := by decide +kernel
theorem dX7_element_8 : decode cX7_element 8 = .ok (.invokevirtual 66, 3) := by decide +kernel
theorem dX7_element_11 : decode cX7_element 11 = .ok (.ifCond .ne 13, 3) := by decide +kernel
theorem dX7_element_14 : decode cX7_element 14 = .ok (.new 69, 3) := by decide +kernel
theorem dX7_element_17 : decode cX7_element 17 = .ok (.dup, 1) := by decide +kernel
theorem dX7_element_18 : decode cX7_element 18 = .ok (.ldc 71, 2) := by decide +kernel
theorem dX7_element_20 : decode cX7_element 20 = .ok (.invokespecial 73, 3) := by decide +kernel
theorem dX7_element_23 : decode cX7_element 23 = .ok (.athrow, 1) := by decide +kernel
theorem dX7_element_24 : decode cX7_element 24 = .ok (.iload_n 2, 1) := by decide +kernel
theorem dX7_element_25 : decode cX7_element 25 = .ok (.tableswitch 88 0 3 #[31, 43, 55, 71], 31) := by decide +kernel
theorem dX7_element_56 : decode cX7_element 56 = .ok (.aload_n 0, 1) := by decide +kernel
theorem dX7_element_57 : decode cX7_element 57 = .ok (.getfield 12, 3) := by decide +kernel
theorem dX7_element_60 : decode cX7_element 60 = .ok (.getfield 56, 3) := by decide +kernel
theorem dX7_element_63 : decode cX7_element 63 = .ok (.iload_n 1, 1) := by decide +kernel
theorem dX7_element_64 : decode cX7_element 64 = .ok (.invokevirtual 121, 3) := by decide +kernel
theorem dX7_element_67 : decode cX7_element 67 = .ok (.ireturn, 1) := by decide +kernel
theorem dX7_element_68 : decode cX7_element 68 = .ok (.aload_n 0, 1) := by decide +kernel
theorem dX7_element_69 : decode cX7_element 69 = .ok (.getfield 12, 3) := by decide +kernel
theorem dX7_element_72 : decode cX7_element 72 = .ok (.getfield 56, 3) := by decide +kernel
theorem dX7_element_75 : decode cX7_element 75 = .ok (.iload_n 1, 1) := by decide +kernel
theorem dX7_element_76 : decode cX7_element 76 = .ok (.invokevirtual 124, 3) := by decide +kernel
theorem dX7_element_79 : decode cX7_element 79 = .ok (.ireturn, 1) := by decide +kernel
theorem dX7_element_80 : decode cX7_element 80 = .ok (.aload_n 0, 1) := by decide +kernel
theorem dX7_element_81 : decode cX7_element 81 = .ok (.getfield 12, 3) := by decide +kernel
theorem dX7_element_84 : decode cX7_element 84 = .ok (.iload_n 1, 1) := by decide +kernel
theorem dX7_element_85 : decode cX7_element 85 = .ok (.aload_n 0, 1) := by decide +kernel
theorem dX7_element_86 : decode cX7_element 86 = .ok (.getfield 12, 3) := by decide +kernel
theorem dX7_element_89 : decode cX7_element 89 = .ok (.invokevirtual 127, 3) := by decide +kernel
theorem dX7_element_92 : decode cX7_element 92 = .ok (.invokevirtual 130, 3) := by decide +kernel
theorem dX7_element_95 : decode cX7_element 95 = .ok (.ireturn, 1) := by decide +kernel
theorem dX7_element_96 : decode cX7_element 96 = .ok (.aload_n 0, 1) := by decide +kernel
theorem dX7_element_97 : decode cX7_element 97 = .ok (.invokevirtual 133, 3) := by decide +kernel
theorem dX7_element_100 : decode cX7_element 100 = .ok (.iload_n 1, 1) := by decide +kernel
theorem dX7_element_101 : decode cX7_element 101 = .ok (.invokestatic 137, 3) := by decide +kernel
theorem dX7_element_104 : decode cX7_element 104 = .ok (.ifCond .eq 7, 3) := by decide +kernel
theorem dX7_element_107 : decode cX7_element 107 = .ok (.iconst 1, 1) := by decide +kernel
theorem dX7_element_108 : decode cX7_element 108 = .ok (.goto 4, 3) := by decide +kernel
theorem dX7_element_111 : decode cX7_element 111 = .ok (.iconst 0, 1) := by decide +kernel
theorem dX7_element_112 : decode cX7_element 112 = .ok (.ireturn, 1) := by decide +kernel
theorem dX7_element_113 : decode cX7_element 113 = .ok (.new 41, 3) := by decide +kernel
theorem dX7_element_116 : decode cX7_element 116 = .ok (.dup, 1) := by decide +kernel
theorem dX7_element_117 : decode cX7_element 117 = .ok (.ldc 141, 2) := by decide +kernel
theorem dX7_element_119 : decode cX7_element 119 = .ok (.invokespecial 45, 3) := by decide +kernel
theorem dX7_element_122 : decode cX7_element 122 = .ok (.athrow, 1) := by decide +kernel
theorem dX7_bound_0 : decode cX7_bound 0 = .ok (.aload_n 0, 1) := by decide +kernel
theorem dX7_bound_1 : decode cX7_bound 1 = .ok (.getfield 12, 3) := by decide +kernel
theorem dX7_bound_4 : decode cX7_bound 4 = .ok (.getfield 56, 3) := by decide +kernel
theorem dX7_bound_7 : decode cX7_bound 7 = .ok (.invokevirtual 143, 3) := by decide +kernel
theorem dX7_bound_10 : decode cX7_bound 10 = .ok (.aload_n 0, 1) := by decide +kernel
theorem dX7_bound_11 : decode cX7_bound 11 = .ok (.getfield 12, 3) := by decide +kernel
theorem dX7_bound_14 : decode cX7_bound 14 = .ok (.getfield 56, 3) := by decide +kernel
theorem dX7_bound_17 : decode cX7_bound 17 = .ok (.invokevirtual 146, 3) := by decide +kernel
theorem dX7_bound_20 : decode cX7_bound 20 = .ok (.iadd, 1) := by decide +kernel
theorem dX7_bound_21 : decode cX7_bound 21 = .ok (.iconst 1, 1) := by decide +kernel
theorem dX7_bound_22 : decode cX7_bound 22 = .ok (.isub, 1) := by decide +kernel
theorem dX7_bound_23 : decode cX7_bound 23 = .ok (.ireturn, 1) := by decide +kernel
theorem dX7_at_0 : decode cX7_at 0 = .ok (.aload_n 0, 1) := by decide +kernel
theorem dX7_at_1 : decode cX7_at 1 = .ok (.getfield 12, 3) := by decide +kernel
theorem dX7_at_4 : decode cX7_at 4 = .ok (.iload_n 1, 1) := by decide +kernel
theorem dX7_at_5 : decode cX7_at 5 = .ok (.invokevirtual 91, 3) := by decide +kernel
theorem dX7_at_8 : decode cX7_at 8 = .ok (.ifCond .ne 13, 3) := by decide +kernel
theorem dX7_at_11 : decode cX7_at 11 = .ok (.new 69, 3) := by decide +kernel
theorem dX7_at_14 : decode cX7_at 14 = .ok (.dup, 1) := by decide +kernel
theorem dX7_at_15 : decode cX7_at 15 = .ok (.ldc 94, 2) := by decide +kernel
theorem dX7_at_17 : decode cX7_at 17 = .ok (.invokespecial 73, 3) := by decide +kernel
theorem dX7_at_20 : decode cX7_at 20 = .ok (.athrow, 1) := by decide +kernel
theorem dX7_at_21 : decode cX7_at 21 = .ok (.iload_n 2, 1) := by decide +kernel
theorem dX7_at_22 : decode cX7_at 22 = .ok (.tableswitch 84 0 3 #[30, 40, 50, 66], 30) := by decide +kernel
theorem dX7_at_52 : decode cX7_at 52 = .ok (.aload_n 0, 1) := by decide +kernel
theorem dX7_at_53 : decode cX7_at 53 = .ok (.getfield 12, 3) := by decide +kernel
theorem dX7_at_56 : decode cX7_at 56 = .ok (.getfield 149, 3) := by decide +kernel
theorem dX7_at_59 : decode cX7_at 59 = .ok (.iload_n 1, 1) := by decide +kernel
theorem dX7_at_60 : decode cX7_at 60 = .ok (.iaload, 1) := by decide +kernel
theorem dX7_at_61 : decode cX7_at 61 = .ok (.ireturn, 1) := by decide +kernel
theorem dX7_at_62 : decode cX7_at 62 = .ok (.aload_n 0, 1) := by decide +kernel
theorem dX7_at_63 : decode cX7_at 63 = .ok (.getfield 12, 3) := by decide +kernel
theorem dX7_at_66 : decode cX7_at 66 = .ok (.getfield 105, 3) := by decide +kernel
theorem dX7_at_69 : decode cX7_at 69 = .ok (.iload_n 1, 1) := by decide +kernel
theorem dX7_at_70 : decode cX7_at 70 = .ok (.iaload, 1) := by decide +kernel
theorem dX7_at_71 : decode cX7_at 71 = .ok (.ireturn, 1) := by decide +kernel
theorem dX7_at_72 : decode cX7_at 72 = .ok (.aload_n 0, 1) := by decide +kernel
theorem dX7_at_73 : decode cX7_at 73 = .ok (.getfield 26, 3) := by decide +kernel
theorem dX7_at_76 : decode cX7_at 76 = .ok (.aload_n 0, 1) := by decide +kernel
theorem dX7_at_77 : decode cX7_at 77 = .ok (.getfield 12, 3) := by decide +kernel
theorem dX7_at_80 : decode cX7_at 80 = .ok (.invokevirtual 152, 3) := by decide +kernel
theorem dX7_at_83 : decode cX7_at 83 = .ok (.iload_n 1, 1) := by decide +kernel
theorem dX7_at_84 : decode cX7_at 84 = .ok (.invokevirtual 156, 3) := by decide +kernel
theorem dX7_at_87 : decode cX7_at 87 = .ok (.ireturn, 1) := by decide +kernel
theorem dX7_at_88 : decode cX7_at 88 = .ok (.aload_n 0, 1) := by decide +kernel
theorem dX7_at_89 : decode cX7_at 89 = .ok (.getfield 26, 3) := by decide +kernel
theorem dX7_at_92 : decode cX7_at 92 = .ok (.aload_n 0, 1) := by decide +kernel
theorem dX7_at_93 : decode cX7_at 93 = .ok (.getfield 12, 3) := by decide +kernel
theorem dX7_at_96 : decode cX7_at 96 = .ok (.invokevirtual 152, 3) := by decide +kernel
theorem dX7_at_99 : decode cX7_at 99 = .ok (.iconst 1, 1) := by decide +kernel
theorem dX7_at_100 : decode cX7_at 100 = .ok (.iload_n 1, 1) := by decide +kernel
theorem dX7_at_101 : decode cX7_at 101 = .ok (.ishl, 1) := by decide +kernel
theorem dX7_at_102 : decode cX7_at 102 = .ok (.invokevirtual 159, 3) := by decide +kernel
theorem dX7_at_105 : decode cX7_at 105 = .ok (.ireturn, 1) := by decide +kernel
theorem dX7_at_106 : decode cX7_at 106 = .ok (.new 41, 3) := by decide +kernel
theorem dX7_at_109 : decode cX7_at 109 = .ok (.dup, 1) := by decide +kernel
theorem dX7_at_110 : decode cX7_at 110 = .ok (.ldc 141, 2) := by decide +kernel
theorem dX7_at_112 : decode cX7_at 112 = .ok (.invokespecial 45, 3) := by decide +kernel
theorem dX7_at_115 : decode cX7_at 115 = .ok (.athrow, 1) := by decide +kernel
theorem dX7_set_0 : decode cX7_set 0 = .ok (.aload_n 0, 1) := by decide +kernel
theorem dX7_set_1 : decode cX7_set 1 = .ok (.getfield 12, 3) := by decide +kernel
theorem dX7_set_4 : decode cX7_set 4 = .ok (.iload_n 1, 1) := by decide +kernel
theorem dX7_set_5 : decode cX7_set 5 = .ok (.invokevirtual 162, 3) := by decide +kernel
theorem dX7_set_8 : decode cX7_set 8 = .ok (.ifCond .ne 13, 3) := by decide +kernel
theorem dX7_set_11 : decode cX7_set 11 = .ok (.new 41, 3) := by decide +kernel
theorem dX7_set_14 : decode cX7_set 14 = .ok (.dup, 1) := by decide +kernel
theorem dX7_set_15 : decode cX7_set 15 = .ok (.ldc 165, 2) := by decide +kernel
theorem dX7_set_17 : decode cX7_set 17 = .ok (.invokespecial 45, 3) := by decide +kernel
theorem dX7_set_20 : decode cX7_set 20 = .ok (.athrow, 1) := by decide +kernel
theorem dX7_set_21 : decode cX7_set 21 = .ok (.iload_n 2, 1) := by decide +kernel
theorem dX7_set_22 : decode cX7_set 22 = .ok (.tableswitch 131 0 5 #[38, 43, 59, 83, 99, 115], 38) := by decide +kernel
theorem dX7_set_60 : decode cX7_set 60 = .ok (.iload_n 1, 1) := by decide +kernel
theorem dX7_set_61 : decode cX7_set 61 = .ok (.invokestatic 167, 3) := by decide +kernel
theorem dX7_set_64 : decode cX7_set 64 = .ok (.ireturn, 1) := by decide +kernel
theorem dX7_set_65 : decode cX7_set 65 = .ok (.aload_n 0, 1) := by decide +kernel
theorem dX7_set_66 : decode cX7_set 66 = .ok (.getfield 26, 3) := by decide +kernel
theorem dX7_set_69 : decode cX7_set 69 = .ok (.aload_n 0, 1) := by decide +kernel
theorem dX7_set_70 : decode cX7_set 70 = .ok (.getfield 12, 3) := by decide +kernel
theorem dX7_set_73 : decode cX7_set 73 = .ok (.invokevirtual 152, 3) := by decide +kernel
theorem dX7_set_76 : decode cX7_set 76 = .ok (.iload_n 1, 1) := by decide +kernel
theorem dX7_set_77 : decode cX7_set 77 = .ok (.invokevirtual 172, 3) := by decide +kernel
theorem dX7_set_80 : decode cX7_set 80 = .ok (.ireturn, 1) := by decide +kernel
theorem dX7_set_81 : decode cX7_set 81 = .ok (.aload_n 0, 1) := by decide +kernel
theorem dX7_set_82 : decode cX7_set 82 = .ok (.getfield 26, 3) := by decide +kernel
theorem dX7_set_85 : decode cX7_set 85 = .ok (.aload_n 0, 1) := by decide +kernel
theorem dX7_set_86 : decode cX7_set 86 = .ok (.getfield 12, 3) := by decide +kernel
theorem dX7_set_89 : decode cX7_set 89 = .ok (.invokevirtual 152, 3) := by decide +kernel
theorem dX7_set_92 : decode cX7_set 92 = .ok (.iload_n 1, 1) := by decide +kernel
theorem dX7_set_93 : decode cX7_set 93 = .ok (.invokevirtual 175, 3) := by decide +kernel
theorem dX7_set_96 : decode cX7_set 96 = .ok (.ifCond .eq 7, 3) := by decide +kernel
theorem dX7_set_99 : decode cX7_set 99 = .ok (.iconst 1, 1) := by decide +kernel
theorem dX7_set_100 : decode cX7_set 100 = .ok (.goto 4, 3) := by decide +kernel
theorem dX7_set_103 : decode cX7_set 103 = .ok (.iconst 0, 1) := by decide +kernel
theorem dX7_set_104 : decode cX7_set 104 = .ok (.ireturn, 1) := by decide +kernel
theorem dX7_set_105 : decode cX7_set 105 = .ok (.aload_n 0, 1) := by decide +kernel
theorem dX7_set_106 : decode cX7_set 106 = .ok (.getfield 26, 3) := by decide +kernel
theorem dX7_set_109 : decode cX7_set 109 = .ok (.aload_n 0, 1) := by decide +kernel
theorem dX7_set_110 : decode cX7_set 110 = .ok (.getfield 12, 3) := by decide +kernel
theorem dX7_set_113 : decode cX7_set 113 = .ok (.invokevirtual 152, 3) := by decide +kernel
theorem dX7_set_116 : decode cX7_set 116 = .ok (.iload_n 1, 1) := by decide +kernel
theorem dX7_set_117 : decode cX7_set 117 = .ok (.invokevirtual 178, 3) := by decide +kernel
theorem dX7_set_120 : decode cX7_set 120 = .ok (.ireturn, 1) := by decide +kernel
theorem dX7_set_121 : decode cX7_set 121 = .ok (.aload_n 0, 1) := by decide +kernel
theorem dX7_set_122 : decode cX7_set 122 = .ok (.getfield 26, 3) := by decide +kernel
theorem dX7_set_125 : decode cX7_set 125 = .ok (.aload_n 0, 1) := by decide +kernel
theorem dX7_set_126 : decode cX7_set 126 = .ok (.getfield 12, 3) := by decide +kernel
theorem dX7_set_129 : decode cX7_set 129 = .ok (.invokevirtual 152, 3) := by decide +kernel
theorem dX7_set_132 : decode cX7_set 132 = .ok (.iload_n 1, 1) := by decide +kernel
theorem dX7_set_133 : decode cX7_set 133 = .ok (.invokevirtual 181, 3) := by decide +kernel
theorem dX7_set_136 : decode cX7_set 136 = .ok (.ireturn, 1) := by decide +kernel
theorem dX7_set_137 : decode cX7_set 137 = .ok (.aload_n 0, 1) := by decide +kernel
theorem dX7_set_138 : decode cX7_set 138 = .ok (.getfield 26, 3) := by decide +kernel
theorem dX7_set_141 : decode cX7_set 141 = .ok (.aload_n 0, 1) := by decide +kernel
theorem dX7_set_142 : decode cX7_set 142 = .ok (.getfield 12, 3) := by decide +kernel
theorem dX7_set_145 : decode cX7_set 145 = .ok (.invokevirtual 152, 3) := by decide +kernel
theorem dX7_set_148 : decode cX7_set 148 = .ok (.iload_n 1, 1) := by decide +kernel
theorem dX7_set_149 : decode cX7_set 149 = .ok (.invokevirtual 184, 3) := by decide +kernel
theorem dX7_set_152 : decode cX7_set 152 = .ok (.ireturn, 1) := by decide +kernel
theorem dX7_set_153 : decode cX7_set 153 = .ok (.new 41, 3) := by decide +kernel
theorem dX7_set_156 : decode cX7_set 156 = .ok (.dup, 1) := by decide +kernel
theorem dX7_set_157 : decode cX7_set 157 = .ok (.ldc 187, 2) := by decide +kernel
theorem dX7_set_159 : decode cX7_set 159 = .ok (.invokespecial 45, 3) := by decide +kernel
theorem dX7_set_162 : decode cX7_set 162 = .ok (.athrow, 1) := by decide +kernel
theorem dX7_block_0 : decode cX7_block 0 = .ok (.iload_n 1, 1) := by decide +kernel
theorem dX7_block_1 : decode cX7_block 1 = .ok (.ifCond .ge 13, 3) := by decide +kernel
theorem dX7_block_4 : decode cX7_block 4 = .ok (.new 41, 3) := by decide +kernel
theorem dX7_block_7 : decode cX7_block 7 = .ok (.dup, 1) := by decide +kernel
theorem dX7_block_8 : decode cX7_block 8 = .ok (.ldc 189, 2) := by decide +kernel
theorem dX7_block_10 : decode cX7_block 10 = .ok (.invokespecial 45, 3) := by decide +kernel
theorem dX7_block_13 : decode cX7_block 13 = .ok (.athrow, 1) := by decide +kernel
theorem dX7_block_14 : decode cX7_block 14 = .ok (.aload_n 0, 1) := by decide +kernel
theorem dX7_block_15 : decode cX7_block 15 = .ok (.getfield 26, 3) := by decide +kernel
theorem dX7_block_18 : decode cX7_block 18 = .ok (.aload_n 0, 1) := by decide +kernel
theorem dX7_block_19 : decode cX7_block 19 = .ok (.getfield 12, 3) := by decide +kernel
theorem dX7_block_22 : decode cX7_block 22 = .ok (.invokevirtual 152, 3) := by decide +kernel
theorem dX7_block_25 : decode cX7_block 25 = .ok (.iload_n 1, 1) := by decide +kernel
theorem dX7_block_26 : decode cX7_block 26 = .ok (.invokevirtual 191, 3) := by decide +kernel
theorem dX7_block_29 : decode cX7_block 29 = .ok (.ireturn, 1) := by decide +kernel
theorem dX7_part_0 : decode cX7_part 0 = .ok (.iload_n 1, 1) := by decide +kernel
theorem dX7_part_1 : decode cX7_part 1 = .ok (.invokestatic 100, 3) := by decide +kernel
theorem dX7_part_4 : decode cX7_part 4 = .ok (.ifCond .ne 13, 3) := by decide +kernel
theorem dX7_part_7 : decode cX7_part 7 = .ok (.new 41, 3) := by decide +kernel
theorem dX7_part_10 : decode cX7_part 10 = .ok (.dup, 1) := by decide +kernel
theorem dX7_part_11 : decode cX7_part 11 = .ok (.ldc 103, 2) := by decide +kernel
theorem dX7_part_13 : decode cX7_part 13 = .ok (.invokespecial 45, 3) := by decide +kernel
theorem dX7_part_16 : decode cX7_part 16 = .ok (.athrow, 1) := by decide +kernel
theorem dX7_part_17 : decode cX7_part 17 = .ok (.aload_n 0, 1) := by decide +kernel
theorem dX7_part_18 : decode cX7_part 18 = .ok (.getfield 12, 3) := by decide +kernel
theorem dX7_part_21 : decode cX7_part 21 = .ok (.iload_n 1, 1) := by decide +kernel
theorem dX7_part_22 : decode cX7_part 22 = .ok (.invokevirtual 194, 3) := by decide +kernel
theorem dX7_part_25 : decode cX7_part 25 = .ok (.istore_n 3, 1) := by decide +kernel
theorem dX7_part_26 : decode cX7_part 26 = .ok (.iload_n 2, 1) := by decide +kernel
theorem dX7_part_27 : decode cX7_part 27 = .ok (.tableswitch 67 0 2 #[25, 27, 43], 25) := by decide +kernel
theorem dX7_part_52 : decode cX7_part 52 = .ok (.iload_n 3, 1) := by decide +kernel
theorem dX7_part_53 : decode cX7_part 53 = .ok (.ireturn, 1) := by decide +kernel
theorem dX7_part_54 : decode cX7_part 54 = .ok (.aload_n 0, 1) := by decide +kernel
theorem dX7_part_55 : decode cX7_part 55 = .ok (.getfield 26, 3) := by decide +kernel
theorem dX7_part_58 : decode cX7_part 58 = .ok (.aload_n 0, 1) := by decide +kernel
theorem dX7_part_59 : decode cX7_part 59 = .ok (.getfield 12, 3) := by decide +kernel
theorem dX7_part_62 : decode cX7_part 62 = .ok (.invokevirtual 152, 3) := by decide +kernel
theorem dX7_part_65 : decode cX7_part 65 = .ok (.iload_n 3, 1) := by decide +kernel
theorem dX7_part_66 : decode cX7_part 66 = .ok (.invokevirtual 172, 3) := by decide +kernel
theorem dX7_part_69 : decode cX7_part 69 = .ok (.ireturn, 1) := by decide +kernel
theorem dX7_part_70 : decode cX7_part 70 = .ok (.aload_n 0, 1) := by decide +kernel
theorem dX7_part_71 : decode cX7_part 71 = .ok (.getfield 26, 3) := by decide +kernel
theorem dX7_part_74 : decode cX7_part 74 = .ok (.aload_n 0, 1) := by decide +kernel
theorem dX7_part_75 : decode cX7_part 75 = .ok (.getfield 12, 3) := by decide +kernel
theorem dX7_part_78 : decode cX7_part 78 = .ok (.invokevirtual 152, 3) := by decide +kernel
theorem dX7_part_81 : decode cX7_part 81 = .ok (.iload_n 3, 1) := by decide +kernel
theorem dX7_part_82 : decode cX7_part 82 = .ok (.invokevirtual 175, 3) := by decide +kernel
theorem dX7_part_85 : decode cX7_part 85 = .ok (.ifCond .eq 7, 3) := by decide +kernel
theorem dX7_part_88 : decode cX7_part 88 = .ok (.iconst 1, 1) := by decide +kernel
theorem dX7_part_89 : decode cX7_part 89 = .ok (.goto 4, 3) := by decide +kernel
theorem dX7_part_92 : decode cX7_part 92 = .ok (.iconst 0, 1) := by decide +kernel
theorem dX7_part_93 : decode cX7_part 93 = .ok (.ireturn, 1) := by decide +kernel
theorem dX7_part_94 : decode cX7_part 94 = .ok (.new 41, 3) := by decide +kernel
theorem dX7_part_97 : decode cX7_part 97 = .ok (.dup, 1) := by decide +kernel
theorem dX7_part_98 : decode cX7_part 98 = .ok (.ldc 197, 2) := by decide +kernel
theorem dX7_part_100 : decode cX7_part 100 = .ok (.invokespecial 45, 3) := by decide +kernel
theorem dX7_part_103 : decode cX7_part 103 = .ok (.athrow, 1) := by decide +kernel
theorem dX7_whole_0 : decode cX7_whole 0 = .ok (.iload_n 1, 1) := by decide +kernel
theorem dX7_whole_1 : decode cX7_whole 1 = .ok (.tableswitch 240 0 13 #[71, 82, 93, 104, 115, 123, 145, 162, 177, 199, 214, 219, 224, 232], 71) := by decide +kernel
theorem dX7_whole_72 : decode cX7_whole 72 = .ok (.aload_n 0, 1) := by decide +kernel
theorem dX7_whole_73 : decode cX7_whole 73 = .ok (.getfield 12, 3) := by decide +kernel
theorem dX7_whole_76 : decode cX7_whole 76 = .ok (.getfield 56, 3) := by decide +kernel
theorem dX7_whole_79 : decode cX7_whole 79 = .ok (.getfield 199, 3) := by decide +kernel
theorem dX7_whole_82 : decode cX7_whole 82 = .ok (.ireturn, 1) := by decide +kernel
theorem dX7_whole_83 : decode cX7_whole 83 = .ok (.aload_n 0, 1) := by decide +kernel
theorem dX7_whole_84 : decode cX7_whole 84 = .ok (.getfield 12, 3) := by decide +kernel
theorem dX7_whole_87 : decode cX7_whole 87 = .ok (.getfield 56, 3) := by decide +kernel
theorem dX7_whole_90 : decode cX7_whole 90 = .ok (.getfield 202, 3) := by decide +kernel
theorem dX7_whole_93 : decode cX7_whole 93 = .ok (.ireturn, 1) := by decide +kernel
theorem dX7_whole_94 : decode cX7_whole 94 = .ok (.aload_n 0, 1) := by decide +kernel
theorem dX7_whole_95 : decode cX7_whole 95 = .ok (.getfield 12, 3) := by decide +kernel
theorem dX7_whole_98 : decode cX7_whole 98 = .ok (.getfield 56, 3) := by decide +kernel
theorem dX7_whole_101 : decode cX7_whole 101 = .ok (.invokevirtual 60, 3) := by decide +kernel
theorem dX7_whole_104 : decode cX7_whole 104 = .ok (.ireturn, 1) := by decide +kernel
theorem dX7_whole_105 : decode cX7_whole 105 = .ok (.aload_n 0, 1) := by decide +kernel
theorem dX7_whole_106 : decode cX7_whole 106 = .ok (.getfield 12, 3) := by decide +kernel
theorem dX7_whole_109 : decode cX7_whole 109 = .ok (.getfield 56, 3) := by decide +kernel
theorem dX7_whole_112 : decode cX7_whole 112 = .ok (.invokevirtual 146, 3) := by decide +kernel
theorem dX7_whole_115 : decode cX7_whole 115 = .ok (.ireturn, 1) := by decide +kernel
theorem dX7_whole_116 : decode cX7_whole 116 = .ok (.aload_n 0, 1) := by decide +kernel
theorem dX7_whole_117 : decode cX7_whole 117 = .ok (.getfield 12, 3) := by decide +kernel
theorem dX7_whole_120 : decode cX7_whole 120 = .ok (.getfield 87, 3) := by decide +kernel
theorem dX7_whole_123 : decode cX7_whole 123 = .ok (.ireturn, 1) := by decide +kernel
theorem dX7_whole_124 : decode cX7_whole 124 = .ok (.aload_n 0, 1) := by decide +kernel
theorem dX7_whole_125 : decode cX7_whole 125 = .ok (.getfield 26, 3) := by decide +kernel
theorem dX7_whole_128 : decode cX7_whole 128 = .ok (.aload_n 0, 1) := by decide +kernel
theorem dX7_whole_129 : decode cX7_whole 129 = .ok (.getfield 12, 3) := by decide +kernel
theorem dX7_whole_132 : decode cX7_whole 132 = .ok (.invokevirtual 152, 3) := by decide +kernel
theorem dX7_whole_135 : decode cX7_whole 135 = .ok (.aload_n 0, 1) := by decide +kernel
theorem dX7_whole_136 : decode cX7_whole 136 = .ok (.getfield 12, 3) := by decide +kernel
theorem dX7_whole_139 : decode cX7_whole 139 = .ok (.invokevirtual 127, 3) := by decide +kernel
theorem dX7_whole_142 : decode cX7_whole 142 = .ok (.invokevirtual 172, 3) := by decide +kernel
theorem dX7_whole_145 : decode cX7_whole 145 = .ok (.ireturn, 1) := by decide +kernel
theorem dX7_whole_146 : decode cX7_whole 146 = .ok (.aload_n 0, 1) := by decide +kernel
theorem dX7_whole_147 : decode cX7_whole 147 = .ok (.invokevirtual 133, 3) := by decide +kernel
theorem dX7_whole_150 : decode cX7_whole 150 = .ok (.iconst 0, 1) := by decide +kernel
theorem dX7_whole_151 : decode cX7_whole 151 = .ok (.invokestatic 137, 3) := by decide +kernel
theorem dX7_whole_154 : decode cX7_whole 154 = .ok (.ifCond .eq 7, 3) := by decide +kernel
theorem dX7_whole_157 : decode cX7_whole 157 = .ok (.iconst 0, 1) := by decide +kernel
theorem dX7_whole_158 : decode cX7_whole 158 = .ok (.goto 4, 3) := by decide +kernel
theorem dX7_whole_161 : decode cX7_whole 161 = .ok (.iconst 1, 1) := by decide +kernel
theorem dX7_whole_162 : decode cX7_whole 162 = .ok (.ireturn, 1) := by decide +kernel
theorem dX7_whole_163 : decode cX7_whole 163 = .ok (.aload_n 0, 1) := by decide +kernel
theorem dX7_whole_164 : decode cX7_whole 164 = .ok (.getfield 26, 3) := by decide +kernel
theorem dX7_whole_167 : decode cX7_whole 167 = .ok (.aload_n 0, 1) := by decide +kernel
theorem dX7_whole_168 : decode cX7_whole 168 = .ok (.getfield 12, 3) := by decide +kernel
theorem dX7_whole_171 : decode cX7_whole 171 = .ok (.invokevirtual 152, 3) := by decide +kernel
theorem dX7_whole_174 : decode cX7_whole 174 = .ok (.getfield 205, 3) := by decide +kernel
theorem dX7_whole_177 : decode cX7_whole 177 = .ok (.ireturn, 1) := by decide +kernel
theorem dX7_whole_178 : decode cX7_whole 178 = .ok (.aload_n 0, 1) := by decide +kernel
theorem dX7_whole_179 : decode cX7_whole 179 = .ok (.getfield 26, 3) := by decide +kernel
theorem dX7_whole_182 : decode cX7_whole 182 = .ok (.aload_n 0, 1) := by decide +kernel
theorem dX7_whole_183 : decode cX7_whole 183 = .ok (.getfield 12, 3) := by decide +kernel
theorem dX7_whole_186 : decode cX7_whole 186 = .ok (.invokevirtual 152, 3) := by decide +kernel
theorem dX7_whole_189 : decode cX7_whole 189 = .ok (.aload_n 0, 1) := by decide +kernel
theorem dX7_whole_190 : decode cX7_whole 190 = .ok (.getfield 12, 3) := by decide +kernel
theorem dX7_whole_193 : decode cX7_whole 193 = .ok (.invokevirtual 127, 3) := by decide +kernel
theorem dX7_whole_196 : decode cX7_whole 196 = .ok (.invokevirtual 159, 3) := by decide +kernel
theorem dX7_whole_199 : decode cX7_whole 199 = .ok (.ireturn, 1) := by decide +kernel
theorem dX7_whole_200 : decode cX7_whole 200 = .ok (.aload_n 0, 1) := by decide +kernel
theorem dX7_whole_201 : decode cX7_whole 201 = .ok (.getfield 26, 3) := by decide +kernel
theorem dX7_whole_204 : decode cX7_whole 204 = .ok (.aload_n 0, 1) := by decide +kernel
theorem dX7_whole_205 : decode cX7_whole 205 = .ok (.getfield 12, 3) := by decide +kernel
theorem dX7_whole_208 : decode cX7_whole 208 = .ok (.invokevirtual 152, 3) := by decide +kernel
theorem dX7_whole_211 : decode cX7_whole 211 = .ok (.invokevirtual 208, 3) := by decide +kernel
theorem dX7_whole_214 : decode cX7_whole 214 = .ok (.ireturn, 1) := by decide +kernel
theorem dX7_whole_215 : decode cX7_whole 215 = .ok (.aload_n 0, 1) := by decide +kernel
theorem dX7_whole_216 : decode cX7_whole 216 = .ok (.invokevirtual 211, 3) := by decide +kernel
theorem dX7_whole_219 : decode cX7_whole 219 = .ok (.ireturn, 1) := by decide +kernel
theorem dX7_whole_220 : decode cX7_whole 220 = .ok (.aload_n 0, 1) := by decide +kernel
theorem dX7_whole_221 : decode cX7_whole 221 = .ok (.invokevirtual 214, 3) := by decide +kernel
theorem dX7_whole_224 : decode cX7_whole 224 = .ok (.ireturn, 1) := by decide +kernel
theorem dX7_whole_225 : decode cX7_whole 225 = .ok (.aload_n 0, 1) := by decide +kernel
theorem dX7_whole_226 : decode cX7_whole 226 = .ok (.invokevirtual 133, 3) := by decide +kernel
theorem dX7_whole_229 : decode cX7_whole 229 = .ok (.invokestatic 217, 3) := by decide +kernel
theorem dX7_whole_232 : decode cX7_whole 232 = .ok (.ireturn, 1) := by decide +kernel
theorem dX7_whole_233 : decode cX7_whole 233 = .ok (.aload_n 0, 1) := by decide +kernel
theorem dX7_whole_234 : decode cX7_whole 234 = .ok (.getfield 33, 3) := by decide +kernel
theorem dX7_whole_237 : decode cX7_whole 237 = .ok (.getfield 222, 3) := by decide +kernel
theorem dX7_whole_240 : decode cX7_whole 240 = .ok (.ireturn, 1) := by decide +kernel
theorem dX7_whole_241 : decode cX7_whole 241 = .ok (.new 41, 3) := by decide +kernel
theorem dX7_whole_244 : decode cX7_whole 244 = .ok (.dup, 1) := by decide +kernel
theorem dX7_whole_245 : decode cX7_whole 245 = .ok (.ldc 225, 2) := by decide +kernel
theorem dX7_whole_247 : decode cX7_whole 247 = .ok (.invokespecial 45, 3) := by decide +kernel
theorem dX7_whole_250 : decode cX7_whole 250 = .ok (.athrow, 1) := by decide +kernel
theorem dX7_sums_0 : decode cX7_sums 0 = .ok (.lconst 0, 1) := by decide +kernel
theorem dX7_sums_1 : decode cX7_sums 1 = .ok (.lstore_n 1, 1) := by decide +kernel
theorem dX7_sums_2 : decode cX7_sums 2 = .ok (.iconst 0, 1) := by decide +kernel
theorem dX7_sums_3 : decode cX7_sums 3 = .ok (.istore_n 3, 1) := by decide +kernel
theorem dX7_sums_4 : decode cX7_sums 4 = .ok (.iload_n 3, 1) := by decide +kernel
theorem dX7_sums_5 : decode cX7_sums 5 = .ok (.aload_n 0, 1) := by decide +kernel
theorem dX7_sums_6 : decode cX7_sums 6 = .ok (.getfield 12, 3) := by decide +kernel
theorem dX7_sums_9 : decode cX7_sums 9 = .ok (.getfield 87, 3) := by decide +kernel
theorem dX7_sums_12 : decode cX7_sums 12 = .ok (.if_icmp .ge 30, 3) := by decide +kernel
theorem dX7_sums_15 : decode cX7_sums 15 = .ok (.aload_n 0, 1) := by decide +kernel
theorem dX7_sums_16 : decode cX7_sums 16 = .ok (.getfield 12, 3) := by decide +kernel
theorem dX7_sums_19 : decode cX7_sums 19 = .ok (.getfield 56, 3) := by decide +kernel
theorem dX7_sums_22 : decode cX7_sums 22 = .ok (.lload_n 1, 1) := by decide +kernel
theorem dX7_sums_23 : decode cX7_sums 23 = .ok (.aload_n 0, 1) := by decide +kernel
theorem dX7_sums_24 : decode cX7_sums 24 = .ok (.getfield 12, 3) := by decide +kernel
theorem dX7_sums_27 : decode cX7_sums 27 = .ok (.getfield 149, 3) := by decide +kernel
theorem dX7_sums_30 : decode cX7_sums 30 = .ok (.iload_n 3, 1) := by decide +kernel
theorem dX7_sums_31 : decode cX7_sums 31 = .ok (.iaload, 1) := by decide +kernel
theorem dX7_sums_32 : decode cX7_sums 32 = .ok (.invokevirtual 227, 3) := by decide +kernel
theorem dX7_sums_35 : decode cX7_sums 35 = .ok (.lstore_n 1, 1) := by decide +kernel
theorem dX7_sums_36 : decode cX7_sums 36 = .ok (.iinc 3 1, 3) := by decide +kernel
theorem dX7_sums_39 : decode cX7_sums 39 = .ok (.goto (-35), 3) := by decide +kernel
theorem dX7_sums_42 : decode cX7_sums 42 = .ok (.lload_n 1, 1) := by decide +kernel
theorem dX7_sums_43 : decode cX7_sums 43 = .ok (.lreturn, 1) := by decide +kernel
theorem dX7_cross_0 : decode cX7_cross 0 = .ok (.dconst 0, 1) := by decide +kernel
theorem dX7_cross_1 : decode cX7_cross 1 = .ok (.dstore_n 1, 1) := by decide +kernel
theorem dX7_cross_2 : decode cX7_cross 2 = .ok (.iconst 0, 1) := by decide +kernel
theorem dX7_cross_3 : decode cX7_cross 3 = .ok (.istore_n 3, 1) := by decide +kernel
theorem dX7_cross_4 : decode cX7_cross 4 = .ok (.iload_n 3, 1) := by decide +kernel
theorem dX7_cross_5 : decode cX7_cross 5 = .ok (.aload_n 0, 1) := by decide +kernel
theorem dX7_cross_6 : decode cX7_cross 6 = .ok (.getfield 12, 3) := by decide +kernel
theorem dX7_cross_9 : decode cX7_cross 9 = .ok (.getfield 87, 3) := by decide +kernel
theorem dX7_cross_12 : decode cX7_cross 12 = .ok (.if_icmp .ge 34, 3) := by decide +kernel
theorem dX7_cross_15 : decode cX7_cross 15 = .ok (.dload_n 1, 1) := by decide +kernel
theorem dX7_cross_16 : decode cX7_cross 16 = .ok (.dconst 1, 1) := by decide +kernel
theorem dX7_cross_17 : decode cX7_cross 17 = .ok (.aload_n 0, 1) := by decide +kernel
theorem dX7_cross_18 : decode cX7_cross 18 = .ok (.getfield 12, 3) := by decide +kernel
theorem dX7_cross_21 : decode cX7_cross 21 = .ok (.getfield 56, 3) := by decide +kernel
theorem dX7_cross_24 : decode cX7_cross 24 = .ok (.aload_n 0, 1) := by decide +kernel
theorem dX7_cross_25 : decode cX7_cross 25 = .ok (.getfield 12, 3) := by decide +kernel
theorem dX7_cross_28 : decode cX7_cross 28 = .ok (.getfield 149, 3) := by decide +kernel
theorem dX7_cross_31 : decode cX7_cross 31 = .ok (.iload_n 3, 1) := by decide +kernel
theorem dX7_cross_32 : decode cX7_cross 32 = .ok (.iaload, 1) := by decide +kernel
theorem dX7_cross_33 : decode cX7_cross 33 = .ok (.invokevirtual 121, 3) := by decide +kernel
theorem dX7_cross_36 : decode cX7_cross 36 = .ok (.i2d, 1) := by decide +kernel
theorem dX7_cross_37 : decode cX7_cross 37 = .ok (.ddiv, 1) := by decide +kernel
theorem dX7_cross_38 : decode cX7_cross 38 = .ok (.dadd, 1) := by decide +kernel
theorem dX7_cross_39 : decode cX7_cross 39 = .ok (.dstore_n 1, 1) := by decide +kernel
theorem dX7_cross_40 : decode cX7_cross 40 = .ok (.iinc 3 1, 3) := by decide +kernel
theorem dX7_cross_43 : decode cX7_cross 43 = .ok (.goto (-39), 3) := by decide +kernel
theorem dX7_cross_46 : decode cX7_cross 46 = .ok (.dload_n 1, 1) := by decide +kernel
theorem dX7_cross_47 : decode cX7_cross 47 = .ok (.dreturn, 1) := by decide +kernel
theorem dX7_reason_0 : decode cX7_reason 0 = .ok (.iload_n 1, 1) := by decide +kernel
theorem dX7_reason_1 : decode cX7_reason 1 = .ok (.invokestatic 100, 3) := by decide +kernel
theorem dX7_reason_4 : decode cX7_reason 4 = .ok (.ifCond .ne 13, 3) := by decide +kernel
theorem dX7_reason_7 : decode cX7_reason 7 = .ok (.new 41, 3) := by decide +kernel
theorem dX7_reason_10 : decode cX7_reason 10 = .ok (.dup, 1) := by decide +kernel
theorem dX7_reason_11 : decode cX7_reason 11 = .ok (.ldc 103, 2) := by decide +kernel
theorem dX7_reason_13 : decode cX7_reason 13 = .ok (.invokespecial 45, 3) := by decide +kernel
theorem dX7_reason_16 : decode cX7_reason 16 = .ok (.athrow, 1) := by decide +kernel
theorem dX7_reason_17 : decode cX7_reason 17 = .ok (.aload_n 0, 1) := by decide +kernel
theorem dX7_reason_18 : decode cX7_reason 18 = .ok (.getfield 12, 3) := by decide +kernel
theorem dX7_reason_21 : decode cX7_reason 21 = .ok (.iload_n 1, 1) := by decide +kernel
theorem dX7_reason_22 : decode cX7_reason 22 = .ok (.invokevirtual 194, 3) := by decide +kernel
theorem dX7_reason_25 : decode cX7_reason 25 = .ok (.istore_n 2, 1) := by decide +kernel
theorem dX7_reason_26 : decode cX7_reason 26 = .ok (.iload_n 2, 1) := by decide +kernel
theorem dX7_reason_27 : decode cX7_reason 27 = .ok (.ifCond .ne 5, 3) := by decide +kernel
theorem dX7_reason_30 : decode cX7_reason 30 = .ok (.iconst 1, 1) := by decide +kernel
theorem dX7_reason_31 : decode cX7_reason 31 = .ok (.ireturn, 1) := by decide +kernel
theorem dX7_reason_32 : decode cX7_reason 32 = .ok (.aload_n 0, 1) := by decide +kernel
theorem dX7_reason_33 : decode cX7_reason 33 = .ok (.getfield 26, 3) := by decide +kernel
theorem dX7_reason_36 : decode cX7_reason 36 = .ok (.aload_n 0, 1) := by decide +kernel
theorem dX7_reason_37 : decode cX7_reason 37 = .ok (.getfield 12, 3) := by decide +kernel
theorem dX7_reason_40 : decode cX7_reason 40 = .ok (.invokevirtual 152, 3) := by decide +kernel
theorem dX7_reason_43 : decode cX7_reason 43 = .ok (.pop, 1) := by decide +kernel
theorem dX7_reason_44 : decode cX7_reason 44 = .ok (.aload_n 0, 1) := by decide +kernel
theorem dX7_reason_45 : decode cX7_reason 45 = .ok (.getfield 26, 3) := by decide +kernel
theorem dX7_reason_48 : decode cX7_reason 48 = .ok (.iload_n 2, 1) := by decide +kernel
theorem dX7_reason_49 : decode cX7_reason 49 = .ok (.invokevirtual 172, 3) := by decide +kernel
theorem dX7_reason_52 : decode cX7_reason 52 = .ok (.ifCond .eq 5, 3) := by decide +kernel
theorem dX7_reason_55 : decode cX7_reason 55 = .ok (.iconst 2, 1) := by decide +kernel
theorem dX7_reason_56 : decode cX7_reason 56 = .ok (.ireturn, 1) := by decide +kernel
theorem dX7_reason_57 : decode cX7_reason 57 = .ok (.aload_n 0, 1) := by decide +kernel
theorem dX7_reason_58 : decode cX7_reason 58 = .ok (.getfield 26, 3) := by decide +kernel
theorem dX7_reason_61 : decode cX7_reason 61 = .ok (.iload_n 2, 1) := by decide +kernel
theorem dX7_reason_62 : decode cX7_reason 62 = .ok (.invokevirtual 175, 3) := by decide +kernel
theorem dX7_reason_65 : decode cX7_reason 65 = .ok (.ifCond .eq 7, 3) := by decide +kernel
theorem dX7_reason_68 : decode cX7_reason 68 = .ok (.iconst 0, 1) := by decide +kernel
theorem dX7_reason_69 : decode cX7_reason 69 = .ok (.goto 4, 3) := by decide +kernel
theorem dX7_reason_72 : decode cX7_reason 72 = .ok (.iconst 3, 1) := by decide +kernel
theorem dX7_reason_73 : decode cX7_reason 73 = .ok (.ireturn, 1) := by decide +kernel
theorem dX7_freeElement_0 : decode cX7_freeElement 0 = .ok (.aload_n 0, 1) := by decide +kernel
theorem dX7_freeElement_1 : decode cX7_freeElement 1 = .ok (.getfield 12, 3) := by decide +kernel
theorem dX7_freeElement_4 : decode cX7_freeElement 4 = .ok (.getfield 56, 3) := by decide +kernel
theorem dX7_freeElement_7 : decode cX7_freeElement 7 = .ok (.aload_n 0, 1) := by decide +kernel
theorem dX7_freeElement_8 : decode cX7_freeElement 8 = .ok (.invokevirtual 133, 3) := by decide +kernel
theorem dX7_freeElement_11 : decode cX7_freeElement 11 = .ok (.invokevirtual 231, 3) := by decide +kernel
theorem dX7_freeElement_14 : decode cX7_freeElement 14 = .ok (.ireturn, 1) := by decide +kernel
theorem dX7_freeFor_0 : decode cX7_freeFor 0 = .ok (.aload_n 0, 1) := by decide +kernel
theorem dX7_freeFor_1 : decode cX7_freeFor 1 = .ok (.invokevirtual 133, 3) := by decide +kernel
theorem dX7_freeFor_4 : decode cX7_freeFor 4 = .ok (.lstore_n 1, 1) := by decide +kernel
theorem dX7_freeFor_5 : decode cX7_freeFor 5 = .ok (.iconst 0, 1) := by decide +kernel
theorem dX7_freeFor_6 : decode cX7_freeFor 6 = .ok (.istore_n 3, 1) := by decide +kernel
theorem dX7_freeFor_7 : decode cX7_freeFor 7 = .ok (.aload_n 0, 1) := by decide +kernel
theorem dX7_freeFor_8 : decode cX7_freeFor 8 = .ok (.getfield 12, 3) := by decide +kernel
theorem dX7_freeFor_11 : decode cX7_freeFor 11 = .ok (.getfield 56, 3) := by decide +kernel
theorem dX7_freeFor_14 : decode cX7_freeFor 14 = .ok (.lload_n 1, 1) := by decide +kernel
theorem dX7_freeFor_15 : decode cX7_freeFor 15 = .ok (.invokevirtual 231, 3) := by decide +kernel
theorem dX7_freeFor_18 : decode cX7_freeFor 18 = .ok (.istore 4, 2) := by decide +kernel
theorem dX7_freeFor_20 : decode cX7_freeFor 20 = .ok (.iload 4, 2) := by decide +kernel
theorem dX7_freeFor_22 : decode cX7_freeFor 22 = .ok (.iconst (-1), 1) := by decide +kernel
theorem dX7_freeFor_23 : decode cX7_freeFor 23 = .ok (.if_icmp .eq 50, 3) := by decide +kernel
theorem dX7_freeFor_26 : decode cX7_freeFor 26 = .ok (.iload_n 3, 1) := by decide +kernel
theorem dX7_freeFor_27 : decode cX7_freeFor 27 = .ok (.aload_n 0, 1) := by decide +kernel
theorem dX7_freeFor_28 : decode cX7_freeFor 28 = .ok (.getfield 12, 3) := by decide +kernel
theorem dX7_freeFor_31 : decode cX7_freeFor 31 = .ok (.getfield 56, 3) := by decide +kernel
theorem dX7_freeFor_34 : decode cX7_freeFor 34 = .ok (.invokevirtual 60, 3) := by decide +kernel
theorem dX7_freeFor_37 : decode cX7_freeFor 37 = .ok (.if_icmp .ge 36, 3) := by decide +kernel
theorem dX7_freeFor_40 : decode cX7_freeFor 40 = .ok (.aload_n 0, 1) := by decide +kernel
theorem dX7_freeFor_41 : decode cX7_freeFor 41 = .ok (.getfield 12, 3) := by decide +kernel
theorem dX7_freeFor_44 : decode cX7_freeFor 44 = .ok (.getfield 56, 3) := by decide +kernel
theorem dX7_freeFor_47 : decode cX7_freeFor 47 = .ok (.lload_n 1, 1) := by decide +kernel
theorem dX7_freeFor_48 : decode cX7_freeFor 48 = .ok (.iload 4, 2) := by decide +kernel
theorem dX7_freeFor_50 : decode cX7_freeFor 50 = .ok (.invokevirtual 227, 3) := by decide +kernel
theorem dX7_freeFor_53 : decode cX7_freeFor 53 = .ok (.lstore_n 1, 1) := by decide +kernel
theorem dX7_freeFor_54 : decode cX7_freeFor 54 = .ok (.iinc 3 1, 3) := by decide +kernel
theorem dX7_freeFor_57 : decode cX7_freeFor 57 = .ok (.aload_n 0, 1) := by decide +kernel
theorem dX7_freeFor_58 : decode cX7_freeFor 58 = .ok (.getfield 12, 3) := by decide +kernel
theorem dX7_freeFor_61 : decode cX7_freeFor 61 = .ok (.getfield 56, 3) := by decide +kernel
theorem dX7_freeFor_64 : decode cX7_freeFor 64 = .ok (.lload_n 1, 1) := by decide +kernel
theorem dX7_freeFor_65 : decode cX7_freeFor 65 = .ok (.invokevirtual 231, 3) := by decide +kernel
theorem dX7_freeFor_68 : decode cX7_freeFor 68 = .ok (.istore 4, 2) := by decide +kernel
theorem dX7_freeFor_70 : decode cX7_freeFor 70 = .ok (.goto (-50), 3) := by decide +kernel
theorem dX7_freeFor_73 : decode cX7_freeFor 73 = .ok (.iload_n 3, 1) := by decide +kernel
theorem dX7_freeFor_74 : decode cX7_freeFor 74 = .ok (.ireturn, 1) := by decide +kernel
theorem dX7_blocksWith_0 : decode cX7_blocksWith 0 = .ok (.aload_n 0, 1) := by decide +kernel
theorem dX7_blocksWith_1 : decode cX7_blocksWith 1 = .ok (.getfield 12, 3) := by decide +kernel
theorem dX7_blocksWith_4 : decode cX7_blocksWith 4 = .ok (.getfield 56, 3) := by decide +kernel
theorem dX7_blocksWith_7 : decode cX7_blocksWith 7 = .ok (.iload_n 1, 1) := by decide +kernel
theorem dX7_blocksWith_8 : decode cX7_blocksWith 8 = .ok (.invokevirtual 66, 3) := by decide +kernel
theorem dX7_blocksWith_11 : decode cX7_blocksWith 11 = .ok (.ifCond .ne 13, 3) := by decide +kernel
theorem dX7_blocksWith_14 : decode cX7_blocksWith 14 = .ok (.new 69, 3) := by decide +kernel
theorem dX7_blocksWith_17 : decode cX7_blocksWith 17 = .ok (.dup, 1) := by decide +kernel
theorem dX7_blocksWith_18 : decode cX7_blocksWith 18 = .ok (.ldc 71, 2) := by decide +kernel
theorem dX7_blocksWith_20 : decode cX7_blocksWith 20 = .ok (.invokespecial 73, 3) := by decide +kernel
theorem dX7_blocksWith_23 : decode cX7_blocksWith 23 = .ok (.athrow, 1) := by decide +kernel
theorem dX7_blocksWith_24 : decode cX7_blocksWith 24 = .ok (.iload_n 2, 1) := by decide +kernel
theorem dX7_blocksWith_25 : decode cX7_blocksWith 25 = .ok (.iconst 1, 1) := by decide +kernel
theorem dX7_blocksWith_26 : decode cX7_blocksWith 26 = .ok (.if_icmp .lt 9, 3) := by decide +kernel
theorem dX7_blocksWith_29 : decode cX7_blocksWith 29 = .ok (.iload_n 2, 1) := by decide +kernel
theorem dX7_blocksWith_30 : decode cX7_blocksWith 30 = .ok (.bipush 11, 2) := by decide +kernel
theorem dX7_blocksWith_32 : decode cX7_blocksWith 32 = .ok (.if_icmp .le 13, 3) := by decide +kernel
theorem dX7_blocksWith_35 : decode cX7_blocksWith 35 = .ok (.new 41, 3) := by decide +kernel
theorem dX7_blocksWith_38 : decode cX7_blocksWith 38 = .ok (.dup, 1) := by decide +kernel
theorem dX7_blocksWith_39 : decode cX7_blocksWith 39 = .ok (.ldc 234, 2) := by decide +kernel
theorem dX7_blocksWith_41 : decode cX7_blocksWith 41 = .ok (.invokespecial 45, 3) := by decide +kernel
theorem dX7_blocksWith_44 : decode cX7_blocksWith 44 = .ok (.athrow, 1) := by decide +kernel
theorem dX7_blocksWith_45 : decode cX7_blocksWith 45 = .ok (.aload_n 0, 1) := by decide +kernel
theorem dX7_blocksWith_46 : decode cX7_blocksWith 46 = .ok (.getfield 26, 3) := by decide +kernel
theorem dX7_blocksWith_49 : decode cX7_blocksWith 49 = .ok (.aload_n 0, 1) := by decide +kernel
theorem dX7_blocksWith_50 : decode cX7_blocksWith 50 = .ok (.getfield 12, 3) := by decide +kernel
theorem dX7_blocksWith_53 : decode cX7_blocksWith 53 = .ok (.invokevirtual 152, 3) := by decide +kernel
theorem dX7_blocksWith_56 : decode cX7_blocksWith 56 = .ok (.iload_n 2, 1) := by decide +kernel
theorem dX7_blocksWith_57 : decode cX7_blocksWith 57 = .ok (.iconst 1, 1) := by decide +kernel
theorem dX7_blocksWith_58 : decode cX7_blocksWith 58 = .ok (.isub, 1) := by decide +kernel
theorem dX7_blocksWith_59 : decode cX7_blocksWith 59 = .ok (.aload_n 0, 1) := by decide +kernel
theorem dX7_blocksWith_60 : decode cX7_blocksWith 60 = .ok (.getfield 12, 3) := by decide +kernel
theorem dX7_blocksWith_63 : decode cX7_blocksWith 63 = .ok (.getfield 56, 3) := by decide +kernel
theorem dX7_blocksWith_66 : decode cX7_blocksWith 66 = .ok (.iload_n 1, 1) := by decide +kernel
theorem dX7_blocksWith_67 : decode cX7_blocksWith 67 = .ok (.invokevirtual 124, 3) := by decide +kernel
theorem dX7_blocksWith_70 : decode cX7_blocksWith 70 = .ok (.invokevirtual 236, 3) := by decide +kernel
theorem dX7_blocksWith_73 : decode cX7_blocksWith 73 = .ok (.ireturn, 1) := by decide +kernel
theorem dX7_alike_0 : decode cX7_alike 0 = .ok (.aload_n 0, 1) := by decide +kernel
theorem dX7_alike_1 : decode cX7_alike 1 = .ok (.getfield 12, 3) := by decide +kernel
theorem dX7_alike_4 : decode cX7_alike 4 = .ok (.iload_n 1, 1) := by decide +kernel
theorem dX7_alike_5 : decode cX7_alike 5 = .ok (.invokevirtual 162, 3) := by decide +kernel
theorem dX7_alike_8 : decode cX7_alike 8 = .ok (.ifCond .eq 14, 3) := by decide +kernel
theorem dX7_alike_11 : decode cX7_alike 11 = .ok (.aload_n 0, 1) := by decide +kernel
theorem dX7_alike_12 : decode cX7_alike 12 = .ok (.getfield 12, 3) := by decide +kernel
theorem dX7_alike_15 : decode cX7_alike 15 = .ok (.iload_n 2, 1) := by decide +kernel
theorem dX7_alike_16 : decode cX7_alike 16 = .ok (.invokevirtual 162, 3) := by decide +kernel
theorem dX7_alike_19 : decode cX7_alike 19 = .ok (.ifCond .ne 13, 3) := by decide +kernel
theorem dX7_alike_22 : decode cX7_alike 22 = .ok (.new 41, 3) := by decide +kernel
theorem dX7_alike_25 : decode cX7_alike 25 = .ok (.dup, 1) := by decide +kernel
theorem dX7_alike_26 : decode cX7_alike 26 = .ok (.ldc 165, 2) := by decide +kernel
theorem dX7_alike_28 : decode cX7_alike 28 = .ok (.invokespecial 45, 3) := by decide +kernel
theorem dX7_alike_31 : decode cX7_alike 31 = .ok (.athrow, 1) := by decide +kernel
theorem dX7_alike_32 : decode cX7_alike 32 = .ok (.iconst 0, 1) := by decide +kernel
theorem dX7_alike_33 : decode cX7_alike 33 = .ok (.istore_n 3, 1) := by decide +kernel
theorem dX7_alike_34 : decode cX7_alike 34 = .ok (.iload_n 3, 1) := by decide +kernel
theorem dX7_alike_35 : decode cX7_alike 35 = .ok (.aload_n 0, 1) := by decide +kernel
theorem dX7_alike_36 : decode cX7_alike 36 = .ok (.getfield 12, 3) := by decide +kernel
theorem dX7_alike_39 : decode cX7_alike 39 = .ok (.getfield 87, 3) := by decide +kernel
theorem dX7_alike_42 : decode cX7_alike 42 = .ok (.if_icmp .ge 45, 3) := by decide +kernel
theorem dX7_alike_45 : decode cX7_alike 45 = .ok (.aload_n 0, 1) := by decide +kernel
theorem dX7_alike_46 : decode cX7_alike 46 = .ok (.getfield 12, 3) := by decide +kernel
theorem dX7_alike_49 : decode cX7_alike 49 = .ok (.getfield 149, 3) := by decide +kernel
theorem dX7_alike_52 : decode cX7_alike 52 = .ok (.iload_n 3, 1) := by decide +kernel
theorem dX7_alike_53 : decode cX7_alike 53 = .ok (.iaload, 1) := by decide +kernel
theorem dX7_alike_54 : decode cX7_alike 54 = .ok (.istore 4, 2) := by decide +kernel
theorem dX7_alike_56 : decode cX7_alike 56 = .ok (.aload_n 0, 1) := by decide +kernel
theorem dX7_alike_57 : decode cX7_alike 57 = .ok (.getfield 12, 3) := by decide +kernel
theorem dX7_alike_60 : decode cX7_alike 60 = .ok (.iload 4, 2) := by decide +kernel
theorem dX7_alike_62 : decode cX7_alike 62 = .ok (.iload_n 1, 1) := by decide +kernel
theorem dX7_alike_63 : decode cX7_alike 63 = .ok (.invokevirtual 130, 3) := by decide +kernel
theorem dX7_alike_66 : decode cX7_alike 66 = .ok (.aload_n 0, 1) := by decide +kernel
theorem dX7_alike_67 : decode cX7_alike 67 = .ok (.getfield 12, 3) := by decide +kernel
theorem dX7_alike_70 : decode cX7_alike 70 = .ok (.iload 4, 2) := by decide +kernel
theorem dX7_alike_72 : decode cX7_alike 72 = .ok (.iload_n 2, 1) := by decide +kernel
theorem dX7_alike_73 : decode cX7_alike 73 = .ok (.invokevirtual 130, 3) := by decide +kernel
theorem dX7_alike_76 : decode cX7_alike 76 = .ok (.if_icmp .eq 5, 3) := by decide +kernel
theorem dX7_alike_79 : decode cX7_alike 79 = .ok (.iconst 0, 1) := by decide +kernel
theorem dX7_alike_80 : decode cX7_alike 80 = .ok (.ireturn, 1) := by decide +kernel
theorem dX7_alike_81 : decode cX7_alike 81 = .ok (.iinc 3 1, 3) := by decide +kernel
theorem dX7_alike_84 : decode cX7_alike 84 = .ok (.goto (-50), 3) := by decide +kernel
theorem dX7_alike_87 : decode cX7_alike 87 = .ok (.iconst 1, 1) := by decide +kernel
theorem dX7_alike_88 : decode cX7_alike 88 = .ok (.ireturn, 1) := by decide +kernel
theorem dX7_unlikeBlocks_0 : decode cX7_unlikeBlocks 0 = .ok (.aload_n 0, 1) := by decide +kernel
theorem dX7_unlikeBlocks_1 : decode cX7_unlikeBlocks 1 = .ok (.getfield 26, 3) := by decide +kernel
theorem dX7_unlikeBlocks_4 : decode cX7_unlikeBlocks 4 = .ok (.aload_n 0, 1) := by decide +kernel
theorem dX7_unlikeBlocks_5 : decode cX7_unlikeBlocks 5 = .ok (.getfield 12, 3) := by decide +kernel
theorem dX7_unlikeBlocks_8 : decode cX7_unlikeBlocks 8 = .ok (.invokevirtual 152, 3) := by decide +kernel
theorem dX7_unlikeBlocks_11 : decode cX7_unlikeBlocks 11 = .ok (.pop, 1) := by decide +kernel
theorem dX7_unlikeBlocks_12 : decode cX7_unlikeBlocks 12 = .ok (.iconst 0, 1) := by decide +kernel
theorem dX7_unlikeBlocks_13 : decode cX7_unlikeBlocks 13 = .ok (.istore_n 1, 1) := by decide +kernel
theorem dX7_unlikeBlocks_14 : decode cX7_unlikeBlocks 14 = .ok (.iconst 0, 1) := by decide +kernel
theorem dX7_unlikeBlocks_15 : decode cX7_unlikeBlocks 15 = .ok (.istore_n 2, 1) := by decide +kernel
theorem dX7_unlikeBlocks_16 : decode cX7_unlikeBlocks 16 = .ok (.iload_n 2, 1) := by decide +kernel
theorem dX7_unlikeBlocks_17 : decode cX7_unlikeBlocks 17 = .ok (.aload_n 0, 1) := by decide +kernel
theorem dX7_unlikeBlocks_18 : decode cX7_unlikeBlocks 18 = .ok (.getfield 26, 3) := by decide +kernel
theorem dX7_unlikeBlocks_21 : decode cX7_unlikeBlocks 21 = .ok (.getfield 205, 3) := by decide +kernel
theorem dX7_unlikeBlocks_24 : decode cX7_unlikeBlocks 24 = .ok (.if_icmp .ge 31, 3) := by decide +kernel
theorem dX7_unlikeBlocks_27 : decode cX7_unlikeBlocks 27 = .ok (.aload_n 0, 1) := by decide +kernel
theorem dX7_unlikeBlocks_28 : decode cX7_unlikeBlocks 28 = .ok (.getfield 12, 3) := by decide +kernel
theorem dX7_unlikeBlocks_31 : decode cX7_unlikeBlocks 31 = .ok (.aload_n 0, 1) := by decide +kernel
theorem dX7_unlikeBlocks_32 : decode cX7_unlikeBlocks 32 = .ok (.getfield 26, 3) := by decide +kernel
theorem dX7_unlikeBlocks_35 : decode cX7_unlikeBlocks 35 = .ok (.getfield 239, 3) := by decide +kernel
theorem dX7_unlikeBlocks_38 : decode cX7_unlikeBlocks 38 = .ok (.iload_n 2, 1) := by decide +kernel
theorem dX7_unlikeBlocks_39 : decode cX7_unlikeBlocks 39 = .ok (.iaload, 1) := by decide +kernel
theorem dX7_unlikeBlocks_40 : decode cX7_unlikeBlocks 40 = .ok (.invokevirtual 242, 3) := by decide +kernel
theorem dX7_unlikeBlocks_43 : decode cX7_unlikeBlocks 43 = .ok (.ifCond .eq 6, 3) := by decide +kernel
theorem dX7_unlikeBlocks_46 : decode cX7_unlikeBlocks 46 = .ok (.iinc 1 1, 3) := by decide +kernel
theorem dX7_unlikeBlocks_49 : decode cX7_unlikeBlocks 49 = .ok (.iinc 2 1, 3) := by decide +kernel
theorem dX7_unlikeBlocks_52 : decode cX7_unlikeBlocks 52 = .ok (.goto (-36), 3) := by decide +kernel
theorem dX7_unlikeBlocks_55 : decode cX7_unlikeBlocks 55 = .ok (.iload_n 1, 1) := by decide +kernel
theorem dX7_unlikeBlocks_56 : decode cX7_unlikeBlocks 56 = .ok (.ireturn, 1) := by decide +kernel
theorem dX7_type_0 : decode cX7_type 0 = .ok (.iload_n 1, 1) := by decide +kernel
theorem dX7_type_1 : decode cX7_type 1 = .ok (.ifCond .lt 9, 3) := by decide +kernel
theorem dX7_type_4 : decode cX7_type 4 = .ok (.iload_n 1, 1) := by decide +kernel
theorem dX7_type_5 : decode cX7_type 5 = .ok (.bipush 127, 2) := by decide +kernel
theorem dX7_type_7 : decode cX7_type 7 = .ok (.if_icmp .le 13, 3) := by decide +kernel
theorem dX7_type_10 : decode cX7_type 10 = .ok (.new 41, 3) := by decide +kernel
theorem dX7_type_13 : decode cX7_type 13 = .ok (.dup, 1) := by decide +kernel
theorem dX7_type_14 : decode cX7_type 14 = .ok (.ldc 245, 2) := by decide +kernel
theorem dX7_type_16 : decode cX7_type 16 = .ok (.invokespecial 45, 3) := by decide +kernel
theorem dX7_type_19 : decode cX7_type 19 = .ok (.athrow, 1) := by decide +kernel
theorem dX7_type_20 : decode cX7_type 20 = .ok (.aload_n 0, 1) := by decide +kernel
theorem dX7_type_21 : decode cX7_type 21 = .ok (.getfield 33, 3) := by decide +kernel
theorem dX7_type_24 : decode cX7_type 24 = .ok (.getfield 222, 3) := by decide +kernel
theorem dX7_type_27 : decode cX7_type 27 = .ok (.sipush 150, 3) := by decide +kernel
theorem dX7_type_30 : decode cX7_type 30 = .ok (.if_icmp .lt 13, 3) := by decide +kernel
theorem dX7_type_33 : decode cX7_type 33 = .ok (.new 78, 3) := by decide +kernel
theorem dX7_type_36 : decode cX7_type 36 = .ok (.dup, 1) := by decide +kernel
theorem dX7_type_37 : decode cX7_type 37 = .ok (.ldc 247, 2) := by decide +kernel
theorem dX7_type_39 : decode cX7_type 39 = .ok (.invokespecial 82, 3) := by decide +kernel
theorem dX7_type_42 : decode cX7_type 42 = .ok (.athrow, 1) := by decide +kernel
theorem dX7_type_43 : decode cX7_type 43 = .ok (.aload_n 0, 1) := by decide +kernel
theorem dX7_type_44 : decode cX7_type 44 = .ok (.getfield 33, 3) := by decide +kernel
theorem dX7_type_47 : decode cX7_type 47 = .ok (.iload_n 1, 1) := by decide +kernel
theorem dX7_type_48 : decode cX7_type 48 = .ok (.invokevirtual 249, 3) := by decide +kernel
theorem dX7_type_51 : decode cX7_type 51 = .ok (.aload_n 0, 1) := by decide +kernel
theorem dX7_type_52 : decode cX7_type 52 = .ok (.getfield 33, 3) := by decide +kernel
theorem dX7_type_55 : decode cX7_type 55 = .ok (.getfield 222, 3) := by decide +kernel
theorem dX7_type_58 : decode cX7_type 58 = .ok (.ireturn, 1) := by decide +kernel
theorem dX7_clearCommands_0 : decode cX7_clearCommands 0 = .ok (.aload_n 0, 1) := by decide +kernel
theorem dX7_clearCommands_1 : decode cX7_clearCommands 1 = .ok (.getfield 33, 3) := by decide +kernel
theorem dX7_clearCommands_4 : decode cX7_clearCommands 4 = .ok (.getfield 222, 3) := by decide +kernel
theorem dX7_clearCommands_7 : decode cX7_clearCommands 7 = .ok (.istore_n 1, 1) := by decide +kernel
theorem dX7_clearCommands_8 : decode cX7_clearCommands 8 = .ok (.aload_n 0, 1) := by decide +kernel
theorem dX7_clearCommands_9 : decode cX7_clearCommands 9 = .ok (.getfield 33, 3) := by decide +kernel
theorem dX7_clearCommands_12 : decode cX7_clearCommands 12 = .ok (.iconst 0, 1) := by decide +kernel
theorem dX7_clearCommands_13 : decode cX7_clearCommands 13 = .ok (.putfield 222, 3) := by decide +kernel
theorem dX7_clearCommands_16 : decode cX7_clearCommands 16 = .ok (.iload_n 1, 1) := by decide +kernel
theorem dX7_clearCommands_17 : decode cX7_clearCommands 17 = .ok (.ireturn, 1) := by decide +kernel
theorem dX7_runCommands_0 : decode cX7_runCommands 0 = .ok (.aload_n 0, 1) := by decide +kernel
theorem dX7_runCommands_1 : decode cX7_runCommands 1 = .ok (.getfield 33, 3) := by decide +kernel
theorem dX7_runCommands_4 : decode cX7_runCommands 4 = .ok (.invokevirtual 250, 3) := by decide +kernel
theorem dX7_runCommands_7 : decode cX7_runCommands 7 = .ok (.istore_n 1, 1) := by decide +kernel
theorem dX7_runCommands_8 : decode cX7_runCommands 8 = .ok (.iload_n 1, 1) := by decide +kernel
theorem dX7_runCommands_9 : decode cX7_runCommands 9 = .ok (.iconst (-1), 1) := by decide +kernel
theorem dX7_runCommands_10 : decode cX7_runCommands 10 = .ok (.if_icmp .eq 8, 3) := by decide +kernel
theorem dX7_runCommands_13 : decode cX7_runCommands 13 = .ok (.bipush (-10), 2) := by decide +kernel
theorem dX7_runCommands_15 : decode cX7_runCommands 15 = .ok (.iload_n 1, 1) := by decide +kernel
theorem dX7_runCommands_16 : decode cX7_runCommands 16 = .ok (.isub, 1) := by decide +kernel
theorem dX7_runCommands_17 : decode cX7_runCommands 17 = .ok (.ireturn, 1) := by decide +kernel
theorem dX7_runCommands_18 : decode cX7_runCommands 18 = .ok (.aload_n 0, 1) := by decide +kernel
theorem dX7_runCommands_19 : decode cX7_runCommands 19 = .ok (.getfield 19, 3) := by decide +kernel
theorem dX7_runCommands_22 : decode cX7_runCommands 22 = .ok (.aload_n 0, 1) := by decide +kernel
theorem dX7_runCommands_23 : decode cX7_runCommands 23 = .ok (.getfield 12, 3) := by decide +kernel
theorem dX7_runCommands_26 : decode cX7_runCommands 26 = .ok (.invokevirtual 48, 3) := by decide +kernel
theorem dX7_runCommands_29 : decode cX7_runCommands 29 = .ok (.aload_n 0, 1) := by decide +kernel
theorem dX7_runCommands_30 : decode cX7_runCommands 30 = .ok (.getfield 33, 3) := by decide +kernel
theorem dX7_runCommands_33 : decode cX7_runCommands 33 = .ok (.invokevirtual 253, 3) := by decide +kernel
theorem dX7_runCommands_36 : decode cX7_runCommands 36 = .ok (.iconst 0, 1) := by decide +kernel
theorem dX7_runCommands_37 : decode cX7_runCommands 37 = .ok (.istore_n 2, 1) := by decide +kernel
theorem dX7_runCommands_38 : decode cX7_runCommands 38 = .ok (.iload_n 2, 1) := by decide +kernel
theorem dX7_runCommands_39 : decode cX7_runCommands 39 = .ok (.sipush 150, 3) := by decide +kernel
theorem dX7_runCommands_42 : decode cX7_runCommands 42 = .ok (.if_icmp .ge 33, 3) := by decide +kernel
theorem dX7_runCommands_45 : decode cX7_runCommands 45 = .ok (.aload_n 0, 1) := by decide +kernel
theorem dX7_runCommands_46 : decode cX7_runCommands 46 = .ok (.getfield 33, 3) := by decide +kernel
theorem dX7_runCommands_49 : decode cX7_runCommands 49 = .ok (.invokevirtual 256, 3) := by decide +kernel
theorem dX7_runCommands_52 : decode cX7_runCommands 52 = .ok (.ifCond .eq 23, 3) := by decide +kernel
theorem dX7_runCommands_55 : decode cX7_runCommands 55 = .ok (.aload_n 0, 1) := by decide +kernel
theorem dX7_runCommands_56 : decode cX7_runCommands 56 = .ok (.aload_n 0, 1) := by decide +kernel
theorem dX7_runCommands_57 : decode cX7_runCommands 57 = .ok (.getfield 33, 3) := by decide +kernel
theorem dX7_runCommands_60 : decode cX7_runCommands 60 = .ok (.getfield 259, 3) := by decide +kernel
theorem dX7_runCommands_63 : decode cX7_runCommands 63 = .ok (.invokevirtual 263, 3) := by decide +kernel
theorem dX7_runCommands_66 : decode cX7_runCommands 66 = .ok (.ifCond .eq 9, 3) := by decide +kernel
theorem dX7_runCommands_69 : decode cX7_runCommands 69 = .ok (.iinc 2 1, 3) := by decide +kernel
theorem dX7_runCommands_72 : decode cX7_runCommands 72 = .ok (.goto (-34), 3) := by decide +kernel
theorem dX7_runCommands_75 : decode cX7_runCommands 75 = .ok (.iload_n 2, 1) := by decide +kernel
theorem dX7_runCommands_76 : decode cX7_runCommands 76 = .ok (.ireturn, 1) := by decide +kernel
theorem dX7_undo_0 : decode cX7_undo 0 = .ok (.aload_n 0, 1) := by decide +kernel
theorem dX7_undo_1 : decode cX7_undo 1 = .ok (.getfield 19, 3) := by decide +kernel
theorem dX7_undo_4 : decode cX7_undo 4 = .ok (.getfield 267, 3) := by decide +kernel
theorem dX7_undo_7 : decode cX7_undo 7 = .ok (.ifCond .ne 14, 3) := by decide +kernel
theorem dX7_undo_10 : decode cX7_undo 10 = .ok (.new 78, 3) := by decide +kernel
theorem dX7_undo_13 : decode cX7_undo 13 = .ok (.dup, 1) := by decide +kernel
theorem dX7_undo_14 : decode cX7_undo 14 = .ok (.ldc_w 269, 3) := by decide +kernel
theorem dX7_undo_17 : decode cX7_undo 17 = .ok (.invokespecial 82, 3) := by decide +kernel
theorem dX7_undo_20 : decode cX7_undo 20 = .ok (.athrow, 1) := by decide +kernel
theorem dX7_undo_21 : decode cX7_undo 21 = .ok (.aload_n 0, 1) := by decide +kernel
theorem dX7_undo_22 : decode cX7_undo 22 = .ok (.getfield 19, 3) := by decide +kernel
theorem dX7_undo_25 : decode cX7_undo 25 = .ok (.aload_n 0, 1) := by decide +kernel
theorem dX7_undo_26 : decode cX7_undo 26 = .ok (.getfield 12, 3) := by decide +kernel
theorem dX7_undo_29 : decode cX7_undo 29 = .ok (.invokevirtual 271, 3) := by decide +kernel
theorem dX7_undo_32 : decode cX7_undo 32 = .ok (.aload_n 0, 1) := by decide +kernel
theorem dX7_undo_33 : decode cX7_undo 33 = .ok (.getfield 19, 3) := by decide +kernel
theorem dX7_undo_36 : decode cX7_undo 36 = .ok (.getfield 267, 3) := by decide +kernel
theorem dX7_undo_39 : decode cX7_undo 39 = .ok (.ireturn, 1) := by decide +kernel
theorem dX7_digest_0 : decode cX7_digest 0 = .ok (.ldc2_w 274, 3) := by decide +kernel
theorem dX7_digest_3 : decode cX7_digest 3 = .ok (.aload_n 0, 1) := by decide +kernel
theorem dX7_digest_4 : decode cX7_digest 4 = .ok (.getfield 19, 3) := by decide +kernel
theorem dX7_digest_7 : decode cX7_digest 7 = .ok (.getfield 267, 3) := by decide +kernel
theorem dX7_digest_10 : decode cX7_digest 10 = .ok (.i2l, 1) := by decide +kernel
theorem dX7_digest_11 : decode cX7_digest 11 = .ok (.invokestatic 276, 3) := by decide +kernel
theorem dX7_digest_14 : decode cX7_digest 14 = .ok (.lstore_n 1, 1) := by decide +kernel
theorem dX7_digest_15 : decode cX7_digest 15 = .ok (.iconst 0, 1) := by decide +kernel
theorem dX7_digest_16 : decode cX7_digest 16 = .ok (.istore_n 3, 1) := by decide +kernel
theorem dX7_digest_17 : decode cX7_digest 17 = .ok (.iload_n 3, 1) := by decide +kernel
theorem dX7_digest_18 : decode cX7_digest 18 = .ok (.bipush 14, 2) := by decide +kernel
theorem dX7_digest_20 : decode cX7_digest 20 = .ok (.if_icmp .ge 20, 3) := by decide +kernel
theorem dX7_digest_23 : decode cX7_digest 23 = .ok (.lload_n 1, 1) := by decide +kernel
theorem dX7_digest_24 : decode cX7_digest 24 = .ok (.aload_n 0, 1) := by decide +kernel
theorem dX7_digest_25 : decode cX7_digest 25 = .ok (.iload_n 3, 1) := by decide +kernel
theorem dX7_digest_26 : decode cX7_digest 26 = .ok (.invokevirtual 280, 3) := by decide +kernel
theorem dX7_digest_29 : decode cX7_digest 29 = .ok (.i2l, 1) := by decide +kernel
theorem dX7_digest_30 : decode cX7_digest 30 = .ok (.invokestatic 276, 3) := by decide +kernel
theorem dX7_digest_33 : decode cX7_digest 33 = .ok (.lstore_n 1, 1) := by decide +kernel
theorem dX7_digest_34 : decode cX7_digest 34 = .ok (.iinc 3 1, 3) := by decide +kernel
theorem dX7_digest_37 : decode cX7_digest 37 = .ok (.goto (-20), 3) := by decide +kernel
theorem dX7_digest_40 : decode cX7_digest 40 = .ok (.lload_n 1, 1) := by decide +kernel
theorem dX7_digest_41 : decode cX7_digest 41 = .ok (.aload_n 0, 1) := by decide +kernel
theorem dX7_digest_42 : decode cX7_digest 42 = .ok (.invokevirtual 133, 3) := by decide +kernel
theorem dX7_digest_45 : decode cX7_digest 45 = .ok (.invokestatic 276, 3) := by decide +kernel
theorem dX7_digest_48 : decode cX7_digest 48 = .ok (.lstore_n 1, 1) := by decide +kernel
theorem dX7_digest_49 : decode cX7_digest 49 = .ok (.aload_n 0, 1) := by decide +kernel
theorem dX7_digest_50 : decode cX7_digest 50 = .ok (.lload_n 1, 1) := by decide +kernel
theorem dX7_digest_51 : decode cX7_digest 51 = .ok (.invokevirtual 283, 3) := by decide +kernel
theorem dX7_digest_54 : decode cX7_digest 54 = .ok (.lstore_n 1, 1) := by decide +kernel
theorem dX7_digest_55 : decode cX7_digest 55 = .ok (.aload_n 0, 1) := by decide +kernel
theorem dX7_digest_56 : decode cX7_digest 56 = .ok (.lload_n 1, 1) := by decide +kernel
theorem dX7_digest_57 : decode cX7_digest 57 = .ok (.invokevirtual 287, 3) := by decide +kernel
theorem dX7_digest_60 : decode cX7_digest 60 = .ok (.lstore_n 1, 1) := by decide +kernel
theorem dX7_digest_61 : decode cX7_digest 61 = .ok (.iconst 1, 1) := by decide +kernel
theorem dX7_digest_62 : decode cX7_digest 62 = .ok (.istore_n 3, 1) := by decide +kernel
theorem dX7_digest_63 : decode cX7_digest 63 = .ok (.iload_n 3, 1) := by decide +kernel
theorem dX7_digest_64 : decode cX7_digest 64 = .ok (.iconst 5, 1) := by decide +kernel
theorem dX7_digest_65 : decode cX7_digest 65 = .ok (.if_icmp .gt 27, 3) := by decide +kernel
theorem dX7_digest_68 : decode cX7_digest 68 = .ok (.lload_n 1, 1) := by decide +kernel
theorem dX7_digest_69 : decode cX7_digest 69 = .ok (.aload_n 0, 1) := by decide +kernel
theorem dX7_digest_70 : decode cX7_digest 70 = .ok (.aload_n 0, 1) := by decide +kernel
theorem dX7_digest_71 : decode cX7_digest 71 = .ok (.getfield 12, 3) := by decide +kernel
theorem dX7_digest_74 : decode cX7_digest 74 = .ok (.invokevirtual 127, 3) := by decide +kernel
theorem dX7_digest_77 : decode cX7_digest 77 = .ok (.iload_n 3, 1) := by decide +kernel
theorem dX7_digest_78 : decode cX7_digest 78 = .ok (.invokevirtual 290, 3) := by decide +kernel
theorem dX7_digest_81 : decode cX7_digest 81 = .ok (.i2l, 1) := by decide +kernel
theorem dX7_digest_82 : decode cX7_digest 82 = .ok (.invokestatic 276, 3) := by decide +kernel
theorem dX7_digest_85 : decode cX7_digest 85 = .ok (.lstore_n 1, 1) := by decide +kernel
theorem dX7_digest_86 : decode cX7_digest 86 = .ok (.iinc 3 1, 3) := by decide +kernel
theorem dX7_digest_89 : decode cX7_digest 89 = .ok (.goto (-26), 3) := by decide +kernel
theorem dX7_digest_92 : decode cX7_digest 92 = .ok (.aload_n 0, 1) := by decide +kernel
theorem dX7_digest_93 : decode cX7_digest 93 = .ok (.getfield 26, 3) := by decide +kernel
theorem dX7_digest_96 : decode cX7_digest 96 = .ok (.aload_n 0, 1) := by decide +kernel
theorem dX7_digest_97 : decode cX7_digest 97 = .ok (.getfield 12, 3) := by decide +kernel
theorem dX7_digest_100 : decode cX7_digest 100 = .ok (.invokevirtual 152, 3) := by decide +kernel
theorem dX7_digest_103 : decode cX7_digest 103 = .ok (.pop, 1) := by decide +kernel
theorem dX7_digest_104 : decode cX7_digest 104 = .ok (.iconst 0, 1) := by decide +kernel
theorem dX7_digest_105 : decode cX7_digest 105 = .ok (.istore_n 3, 1) := by decide +kernel
theorem dX7_digest_106 : decode cX7_digest 106 = .ok (.iload_n 3, 1) := by decide +kernel
theorem dX7_digest_107 : decode cX7_digest 107 = .ok (.aload_n 0, 1) := by decide +kernel
theorem dX7_digest_108 : decode cX7_digest 108 = .ok (.getfield 26, 3) := by decide +kernel
theorem dX7_digest_111 : decode cX7_digest 111 = .ok (.getfield 205, 3) := by decide +kernel
theorem dX7_digest_114 : decode cX7_digest 114 = .ok (.if_icmp .ge 24, 3) := by decide +kernel
theorem dX7_digest_117 : decode cX7_digest 117 = .ok (.lload_n 1, 1) := by decide +kernel
theorem dX7_digest_118 : decode cX7_digest 118 = .ok (.aload_n 0, 1) := by decide +kernel
theorem dX7_digest_119 : decode cX7_digest 119 = .ok (.getfield 26, 3) := by decide +kernel
theorem dX7_digest_122 : decode cX7_digest 122 = .ok (.getfield 239, 3) := by decide +kernel
theorem dX7_digest_125 : decode cX7_digest 125 = .ok (.iload_n 3, 1) := by decide +kernel
theorem dX7_digest_126 : decode cX7_digest 126 = .ok (.iaload, 1) := by decide +kernel
theorem dX7_digest_127 : decode cX7_digest 127 = .ok (.i2l, 1) := by decide +kernel
theorem dX7_digest_128 : decode cX7_digest 128 = .ok (.invokestatic 276, 3) := by decide +kernel
theorem dX7_digest_131 : decode cX7_digest 131 = .ok (.lstore_n 1, 1) := by decide +kernel
theorem dX7_digest_132 : decode cX7_digest 132 = .ok (.iinc 3 1, 3) := by decide +kernel
theorem dX7_digest_135 : decode cX7_digest 135 = .ok (.goto (-29), 3) := by decide +kernel
theorem dX7_digest_138 : decode cX7_digest 138 = .ok (.lload_n 1, 1) := by decide +kernel
theorem dX7_digest_139 : decode cX7_digest 139 = .ok (.aload_n 0, 1) := by decide +kernel
theorem dX7_digest_140 : decode cX7_digest 140 = .ok (.invokevirtual 293, 3) := by decide +kernel
theorem dX7_digest_143 : decode cX7_digest 143 = .ok (.i2l, 1) := by decide +kernel
theorem dX7_digest_144 : decode cX7_digest 144 = .ok (.invokestatic 276, 3) := by decide +kernel
theorem dX7_digest_147 : decode cX7_digest 147 = .ok (.lstore_n 1, 1) := by decide +kernel
theorem dX7_digest_148 : decode cX7_digest 148 = .ok (.lload_n 1, 1) := by decide +kernel
theorem dX7_digest_149 : decode cX7_digest 149 = .ok (.aload_n 0, 1) := by decide +kernel
theorem dX7_digest_150 : decode cX7_digest 150 = .ok (.invokevirtual 296, 3) := by decide +kernel
theorem dX7_digest_153 : decode cX7_digest 153 = .ok (.i2l, 1) := by decide +kernel
theorem dX7_digest_154 : decode cX7_digest 154 = .ok (.invokestatic 276, 3) := by decide +kernel
theorem dX7_digest_157 : decode cX7_digest 157 = .ok (.lstore_n 1, 1) := by decide +kernel
theorem dX7_digest_158 : decode cX7_digest 158 = .ok (.lload_n 1, 1) := by decide +kernel
theorem dX7_digest_159 : decode cX7_digest 159 = .ok (.aload_n 0, 1) := by decide +kernel
theorem dX7_digest_160 : decode cX7_digest 160 = .ok (.invokevirtual 299, 3) := by decide +kernel
theorem dX7_digest_163 : decode cX7_digest 163 = .ok (.invokestatic 303, 3) := by decide +kernel
theorem dX7_digest_166 : decode cX7_digest 166 = .ok (.invokestatic 276, 3) := by decide +kernel
theorem dX7_digest_169 : decode cX7_digest 169 = .ok (.lreturn, 1) := by decide +kernel
theorem dX7_mixed_0 : decode cX7_mixed 0 = .ok (.ldc2_w 307, 3) := by decide +kernel
theorem dX7_mixed_3 : decode cX7_mixed 3 = .ok (.lload_n 0, 1) := by decide +kernel
theorem dX7_mixed_4 : decode cX7_mixed 4 = .ok (.lmul, 1) := by decide +kernel
theorem dX7_mixed_5 : decode cX7_mixed 5 = .ok (.lload_n 2, 1) := by decide +kernel
theorem dX7_mixed_6 : decode cX7_mixed 6 = .ok (.ladd, 1) := by decide +kernel
theorem dX7_mixed_7 : decode cX7_mixed 7 = .ok (.lreturn, 1) := by decide +kernel
theorem dX7_mixedWithPlaces_0 : decode cX7_mixedWithPlaces 0 = .ok (.lload_n 1, 1) := by decide +kernel
theorem dX7_mixedWithPlaces_1 : decode cX7_mixedWithPlaces 1 = .ok (.lstore_n 3, 1) := by decide +kernel
theorem dX7_mixedWithPlaces_2 : decode cX7_mixedWithPlaces 2 = .ok (.iconst 0, 1) := by decide +kernel
theorem dX7_mixedWithPlaces_3 : decode cX7_mixedWithPlaces 3 = .ok (.istore 5, 2) := by decide +kernel
theorem dX7_mixedWithPlaces_5 : decode cX7_mixedWithPlaces 5 = .ok (.iload 5, 2) := by decide +kernel
theorem dX7_mixedWithPlaces_7 : decode cX7_mixedWithPlaces 7 = .ok (.aload_n 0, 1) := by decide +kernel
theorem dX7_mixedWithPlaces_8 : decode cX7_mixedWithPlaces 8 = .ok (.getfield 12, 3) := by decide +kernel
theorem dX7_mixedWithPlaces_11 : decode cX7_mixedWithPlaces 11 = .ok (.getfield 87, 3) := by decide +kernel
theorem dX7_mixedWithPlaces_14 : decode cX7_mixedWithPlaces 14 = .ok (.if_icmp .ge 38, 3) := by decide +kernel
theorem dX7_mixedWithPlaces_17 : decode cX7_mixedWithPlaces 17 = .ok (.iconst 0, 1) := by decide +kernel
theorem dX7_mixedWithPlaces_18 : decode cX7_mixedWithPlaces 18 = .ok (.istore 6, 2) := by decide +kernel
theorem dX7_mixedWithPlaces_20 : decode cX7_mixedWithPlaces 20 = .ok (.iload 6, 2) := by decide +kernel
theorem dX7_mixedWithPlaces_22 : decode cX7_mixedWithPlaces 22 = .ok (.iconst 3, 1) := by decide +kernel
theorem dX7_mixedWithPlaces_23 : decode cX7_mixedWithPlaces 23 = .ok (.if_icmp .gt 23, 3) := by decide +kernel
theorem dX7_mixedWithPlaces_26 : decode cX7_mixedWithPlaces 26 = .ok (.lload_n 3, 1) := by decide +kernel
theorem dX7_mixedWithPlaces_27 : decode cX7_mixedWithPlaces 27 = .ok (.aload_n 0, 1) := by decide +kernel
theorem dX7_mixedWithPlaces_28 : decode cX7_mixedWithPlaces 28 = .ok (.iload 5, 2) := by decide +kernel
theorem dX7_mixedWithPlaces_30 : decode cX7_mixedWithPlaces 30 = .ok (.iload 6, 2) := by decide +kernel
theorem dX7_mixedWithPlaces_32 : decode cX7_mixedWithPlaces 32 = .ok (.invokevirtual 309, 3) := by decide +kernel
theorem dX7_mixedWithPlaces_35 : decode cX7_mixedWithPlaces 35 = .ok (.i2l, 1) := by decide +kernel
theorem dX7_mixedWithPlaces_36 : decode cX7_mixedWithPlaces 36 = .ok (.invokestatic 276, 3) := by decide +kernel
theorem dX7_mixedWithPlaces_39 : decode cX7_mixedWithPlaces 39 = .ok (.lstore_n 3, 1) := by decide +kernel
theorem dX7_mixedWithPlaces_40 : decode cX7_mixedWithPlaces 40 = .ok (.iinc 6 1, 3) := by decide +kernel
theorem dX7_mixedWithPlaces_43 : decode cX7_mixedWithPlaces 43 = .ok (.goto (-23), 3) := by decide +kernel
theorem dX7_mixedWithPlaces_46 : decode cX7_mixedWithPlaces 46 = .ok (.iinc 5 1, 3) := by decide +kernel
theorem dX7_mixedWithPlaces_49 : decode cX7_mixedWithPlaces 49 = .ok (.goto (-44), 3) := by decide +kernel
theorem dX7_mixedWithPlaces_52 : decode cX7_mixedWithPlaces 52 = .ok (.lload_n 3, 1) := by decide +kernel
theorem dX7_mixedWithPlaces_53 : decode cX7_mixedWithPlaces 53 = .ok (.lreturn, 1) := by decide +kernel
theorem dX7_mixedWithParts_0 : decode cX7_mixedWithParts 0 = .ok (.lload_n 1, 1) := by decide +kernel
theorem dX7_mixedWithParts_1 : decode cX7_mixedWithParts 1 = .ok (.lstore_n 3, 1) := by decide +kernel
theorem dX7_mixedWithParts_2 : decode cX7_mixedWithParts 2 = .ok (.iconst 0, 1) := by decide +kernel
theorem dX7_mixedWithParts_3 : decode cX7_mixedWithParts 3 = .ok (.istore 5, 2) := by decide +kernel
theorem dX7_mixedWithParts_5 : decode cX7_mixedWithParts 5 = .ok (.iload 5, 2) := by decide +kernel
theorem dX7_mixedWithParts_7 : decode cX7_mixedWithParts 7 = .ok (.bipush 6, 2) := by decide +kernel
theorem dX7_mixedWithParts_9 : decode cX7_mixedWithParts 9 = .ok (.if_icmp .ge 38, 3) := by decide +kernel
theorem dX7_mixedWithParts_12 : decode cX7_mixedWithParts 12 = .ok (.iconst 0, 1) := by decide +kernel
theorem dX7_mixedWithParts_13 : decode cX7_mixedWithParts 13 = .ok (.istore 6, 2) := by decide +kernel
theorem dX7_mixedWithParts_15 : decode cX7_mixedWithParts 15 = .ok (.iload 6, 2) := by decide +kernel
theorem dX7_mixedWithParts_17 : decode cX7_mixedWithParts 17 = .ok (.iconst 2, 1) := by decide +kernel
theorem dX7_mixedWithParts_18 : decode cX7_mixedWithParts 18 = .ok (.if_icmp .gt 23, 3) := by decide +kernel
theorem dX7_mixedWithParts_21 : decode cX7_mixedWithParts 21 = .ok (.lload_n 3, 1) := by decide +kernel
theorem dX7_mixedWithParts_22 : decode cX7_mixedWithParts 22 = .ok (.aload_n 0, 1) := by decide +kernel
theorem dX7_mixedWithParts_23 : decode cX7_mixedWithParts 23 = .ok (.iload 5, 2) := by decide +kernel
theorem dX7_mixedWithParts_25 : decode cX7_mixedWithParts 25 = .ok (.iload 6, 2) := by decide +kernel
theorem dX7_mixedWithParts_27 : decode cX7_mixedWithParts 27 = .ok (.invokevirtual 312, 3) := by decide +kernel
theorem dX7_mixedWithParts_30 : decode cX7_mixedWithParts 30 = .ok (.i2l, 1) := by decide +kernel
theorem dX7_mixedWithParts_31 : decode cX7_mixedWithParts 31 = .ok (.invokestatic 276, 3) := by decide +kernel
theorem dX7_mixedWithParts_34 : decode cX7_mixedWithParts 34 = .ok (.lstore_n 3, 1) := by decide +kernel
theorem dX7_mixedWithParts_35 : decode cX7_mixedWithParts 35 = .ok (.iinc 6 1, 3) := by decide +kernel
theorem dX7_mixedWithParts_38 : decode cX7_mixedWithParts 38 = .ok (.goto (-23), 3) := by decide +kernel
theorem dX7_mixedWithParts_41 : decode cX7_mixedWithParts 41 = .ok (.iinc 5 1, 3) := by decide +kernel
theorem dX7_mixedWithParts_44 : decode cX7_mixedWithParts 44 = .ok (.goto (-39), 3) := by decide +kernel
theorem dX7_mixedWithParts_47 : decode cX7_mixedWithParts 47 = .ok (.lload_n 3, 1) := by decide +kernel
theorem dX7_mixedWithParts_48 : decode cX7_mixedWithParts 48 = .ok (.lreturn, 1) := by decide +kernel
theorem dX7_bitsOf_0 : decode cX7_bitsOf 0 = .ok (.dload_n 0, 1) := by decide +kernel
theorem dX7_bitsOf_1 : decode cX7_bitsOf 1 = .ok (.dconst 0, 1) := by decide +kernel
theorem dX7_bitsOf_2 : decode cX7_bitsOf 2 = .ok (.dcmp .g, 1) := by decide +kernel
theorem dX7_bitsOf_3 : decode cX7_bitsOf 3 = .ok (.ifCond .gt 5, 3) := by decide +kernel
theorem dX7_bitsOf_6 : decode cX7_bitsOf 6 = .ok (.lconst 0, 1) := by decide +kernel
theorem dX7_bitsOf_7 : decode cX7_bitsOf 7 = .ok (.lreturn, 1) := by decide +kernel
theorem dX7_bitsOf_8 : decode cX7_bitsOf 8 = .ok (.dload_n 0, 1) := by decide +kernel
theorem dX7_bitsOf_9 : decode cX7_bitsOf 9 = .ok (.dstore_n 2, 1) := by decide +kernel
theorem dX7_bitsOf_10 : decode cX7_bitsOf 10 = .ok (.iconst 0, 1) := by decide +kernel
theorem dX7_bitsOf_11 : decode cX7_bitsOf 11 = .ok (.istore 4, 2) := by decide +kernel
theorem dX7_bitsOf_13 : decode cX7_bitsOf 13 = .ok (.iconst 0, 1) := by decide +kernel
theorem dX7_bitsOf_14 : decode cX7_bitsOf 14 = .ok (.istore 5, 2) := by decide +kernel
theorem dX7_bitsOf_16 : decode cX7_bitsOf 16 = .ok (.iload 5, 2) := by decide +kernel
theorem dX7_bitsOf_18 : decode cX7_bitsOf 18 = .ok (.bipush 64, 2) := by decide +kernel
theorem dX7_bitsOf_20 : decode cX7_bitsOf 20 = .ok (.if_icmp .ge 26, 3) := by decide +kernel
theorem dX7_bitsOf_23 : decode cX7_bitsOf 23 = .ok (.dload_n 2, 1) := by decide +kernel
theorem dX7_bitsOf_24 : decode cX7_bitsOf 24 = .ok (.ldc2_w 315, 3) := by decide +kernel
theorem dX7_bitsOf_27 : decode cX7_bitsOf 27 = .ok (.dcmp .l, 1) := by decide +kernel
theorem dX7_bitsOf_28 : decode cX7_bitsOf 28 = .ok (.ifCond .lt 18, 3) := by decide +kernel
theorem dX7_bitsOf_31 : decode cX7_bitsOf 31 = .ok (.dload_n 2, 1) := by decide +kernel
theorem dX7_bitsOf_32 : decode cX7_bitsOf 32 = .ok (.ldc2_w 315, 3) := by decide +kernel
theorem dX7_bitsOf_35 : decode cX7_bitsOf 35 = .ok (.ddiv, 1) := by decide +kernel
theorem dX7_bitsOf_36 : decode cX7_bitsOf 36 = .ok (.dstore_n 2, 1) := by decide +kernel
theorem dX7_bitsOf_37 : decode cX7_bitsOf 37 = .ok (.iinc 4 1, 3) := by decide +kernel
theorem dX7_bitsOf_40 : decode cX7_bitsOf 40 = .ok (.iinc 5 1, 3) := by decide +kernel
theorem dX7_bitsOf_43 : decode cX7_bitsOf 43 = .ok (.goto (-27), 3) := by decide +kernel
theorem dX7_bitsOf_46 : decode cX7_bitsOf 46 = .ok (.iconst 0, 1) := by decide +kernel
theorem dX7_bitsOf_47 : decode cX7_bitsOf 47 = .ok (.istore 5, 2) := by decide +kernel
theorem dX7_bitsOf_49 : decode cX7_bitsOf 49 = .ok (.iload 5, 2) := by decide +kernel
theorem dX7_bitsOf_51 : decode cX7_bitsOf 51 = .ok (.bipush 64, 2) := by decide +kernel
theorem dX7_bitsOf_53 : decode cX7_bitsOf 53 = .ok (.if_icmp .ge 24, 3) := by decide +kernel
theorem dX7_bitsOf_56 : decode cX7_bitsOf 56 = .ok (.dload_n 2, 1) := by decide +kernel
theorem dX7_bitsOf_57 : decode cX7_bitsOf 57 = .ok (.dconst 1, 1) := by decide +kernel
theorem dX7_bitsOf_58 : decode cX7_bitsOf 58 = .ok (.dcmp .g, 1) := by decide +kernel
theorem dX7_bitsOf_59 : decode cX7_bitsOf 59 = .ok (.ifCond .ge 18, 3) := by decide +kernel
theorem dX7_bitsOf_62 : decode cX7_bitsOf 62 = .ok (.dload_n 2, 1) := by decide +kernel
theorem dX7_bitsOf_63 : decode cX7_bitsOf 63 = .ok (.ldc2_w 315, 3) := by decide +kernel
theorem dX7_bitsOf_66 : decode cX7_bitsOf 66 = .ok (.dmul, 1) := by decide +kernel
theorem dX7_bitsOf_67 : decode cX7_bitsOf 67 = .ok (.dstore_n 2, 1) := by decide +kernel
theorem dX7_bitsOf_68 : decode cX7_bitsOf 68 = .ok (.iinc 4 (-1), 3) := by decide +kernel
theorem dX7_bitsOf_71 : decode cX7_bitsOf 71 = .ok (.iinc 5 1, 3) := by decide +kernel
theorem dX7_bitsOf_74 : decode cX7_bitsOf 74 = .ok (.goto (-25), 3) := by decide +kernel
theorem dX7_bitsOf_77 : decode cX7_bitsOf 77 = .ok (.dload_n 2, 1) := by decide +kernel
theorem dX7_bitsOf_78 : decode cX7_bitsOf 78 = .ok (.dconst 1, 1) := by decide +kernel
theorem dX7_bitsOf_79 : decode cX7_bitsOf 79 = .ok (.dsub, 1) := by decide +kernel
theorem dX7_bitsOf_80 : decode cX7_bitsOf 80 = .ok (.ldc2_w 317, 3) := by decide +kernel
theorem dX7_bitsOf_83 : decode cX7_bitsOf 83 = .ok (.dmul, 1) := by decide +kernel
theorem dX7_bitsOf_84 : decode cX7_bitsOf 84 = .ok (.d2l, 1) := by decide +kernel
theorem dX7_bitsOf_85 : decode cX7_bitsOf 85 = .ok (.lstore 5, 2) := by decide +kernel
theorem dX7_bitsOf_87 : decode cX7_bitsOf 87 = .ok (.iload 4, 2) := by decide +kernel
theorem dX7_bitsOf_89 : decode cX7_bitsOf 89 = .ok (.sipush 1023, 3) := by decide +kernel
theorem dX7_bitsOf_92 : decode cX7_bitsOf 92 = .ok (.iadd, 1) := by decide +kernel
theorem dX7_bitsOf_93 : decode cX7_bitsOf 93 = .ok (.i2l, 1) := by decide +kernel
theorem dX7_bitsOf_94 : decode cX7_bitsOf 94 = .ok (.bipush 52, 2) := by decide +kernel
theorem dX7_bitsOf_96 : decode cX7_bitsOf 96 = .ok (.lshl, 1) := by decide +kernel
theorem dX7_bitsOf_97 : decode cX7_bitsOf 97 = .ok (.lload 5, 2) := by decide +kernel
theorem dX7_bitsOf_99 : decode cX7_bitsOf 99 = .ok (.ladd, 1) := by decide +kernel
theorem dX7_bitsOf_100 : decode cX7_bitsOf 100 = .ok (.lreturn, 1) := by decide +kernel
theorem dX7_isModulus_0 : decode cX7_isModulus 0 = .ok (.iload_n 0, 1) := by decide +kernel
theorem dX7_isModulus_1 : decode cX7_isModulus 1 = .ok (.iconst 1, 1) := by decide +kernel
theorem dX7_isModulus_2 : decode cX7_isModulus 2 = .ok (.if_icmp .lt 13, 3) := by decide +kernel
theorem dX7_isModulus_5 : decode cX7_isModulus 5 = .ok (.iload_n 0, 1) := by decide +kernel
theorem dX7_isModulus_6 : decode cX7_isModulus 6 = .ok (.bipush 6, 2) := by decide +kernel
theorem dX7_isModulus_8 : decode cX7_isModulus 8 = .ok (.if_icmp .gt 7, 3) := by decide +kernel
theorem dX7_isModulus_11 : decode cX7_isModulus 11 = .ok (.iconst 1, 1) := by decide +kernel
theorem dX7_isModulus_12 : decode cX7_isModulus 12 = .ok (.goto 4, 3) := by decide +kernel
theorem dX7_isModulus_15 : decode cX7_isModulus 15 = .ok (.iconst 0, 1) := by decide +kernel
theorem dX7_isModulus_16 : decode cX7_isModulus 16 = .ok (.ireturn, 1) := by decide +kernel
theorem dX7_isPart_0 : decode cX7_isPart 0 = .ok (.iload_n 0, 1) := by decide +kernel
theorem dX7_isPart_1 : decode cX7_isPart 1 = .ok (.ifCond .lt 13, 3) := by decide +kernel
theorem dX7_isPart_4 : decode cX7_isPart 4 = .ok (.iload_n 0, 1) := by decide +kernel
theorem dX7_isPart_5 : decode cX7_isPart 5 = .ok (.bipush 6, 2) := by decide +kernel
theorem dX7_isPart_7 : decode cX7_isPart 7 = .ok (.if_icmp .ge 7, 3) := by decide +kernel
theorem dX7_isPart_10 : decode cX7_isPart 10 = .ok (.iconst 1, 1) := by decide +kernel
theorem dX7_isPart_11 : decode cX7_isPart 11 = .ok (.goto 4, 3) := by decide +kernel
theorem dX7_isPart_14 : decode cX7_isPart 14 = .ok (.iconst 0, 1) := by decide +kernel
theorem dX7_isPart_15 : decode cX7_isPart 15 = .ok (.ireturn, 1) := by decide +kernel
theorem dX7_contains_0 : decode cX7_contains 0 = .ok (.lload_n 0, 1) := by decide +kernel
theorem dX7_contains_1 : decode cX7_contains 1 = .ok (.iload_n 2, 1) := by decide +kernel
theorem dX7_contains_2 : decode cX7_contains 2 = .ok (.lshr, 1) := by decide +kernel
theorem dX7_contains_3 : decode cX7_contains 3 = .ok (.lconst 1, 1) := by decide +kernel
theorem dX7_contains_4 : decode cX7_contains 4 = .ok (.land, 1) := by decide +kernel
theorem dX7_contains_5 : decode cX7_contains 5 = .ok (.lconst 0, 1) := by decide +kernel
theorem dX7_contains_6 : decode cX7_contains 6 = .ok (.lcmp, 1) := by decide +kernel
theorem dX7_contains_7 : decode cX7_contains 7 = .ok (.ifCond .eq 7, 3) := by decide +kernel
theorem dX7_contains_10 : decode cX7_contains 10 = .ok (.iconst 1, 1) := by decide +kernel
theorem dX7_contains_11 : decode cX7_contains 11 = .ok (.goto 4, 3) := by decide +kernel
theorem dX7_contains_14 : decode cX7_contains 14 = .ok (.iconst 0, 1) := by decide +kernel
theorem dX7_contains_15 : decode cX7_contains 15 = .ok (.ireturn, 1) := by decide +kernel
theorem dX7_countLaidParts_0 : decode cX7_countLaidParts 0 = .ok (.iconst 0, 1) := by decide +kernel
theorem dX7_countLaidParts_1 : decode cX7_countLaidParts 1 = .ok (.istore_n 1, 1) := by decide +kernel
theorem dX7_countLaidParts_2 : decode cX7_countLaidParts 2 = .ok (.iconst 0, 1) := by decide +kernel
theorem dX7_countLaidParts_3 : decode cX7_countLaidParts 3 = .ok (.istore_n 2, 1) := by decide +kernel
theorem dX7_countLaidParts_4 : decode cX7_countLaidParts 4 = .ok (.iload_n 2, 1) := by decide +kernel
theorem dX7_countLaidParts_5 : decode cX7_countLaidParts 5 = .ok (.bipush 6, 2) := by decide +kernel
theorem dX7_countLaidParts_7 : decode cX7_countLaidParts 7 = .ok (.if_icmp .ge 23, 3) := by decide +kernel
theorem dX7_countLaidParts_10 : decode cX7_countLaidParts 10 = .ok (.aload_n 0, 1) := by decide +kernel
theorem dX7_countLaidParts_11 : decode cX7_countLaidParts 11 = .ok (.getfield 12, 3) := by decide +kernel
theorem dX7_countLaidParts_14 : decode cX7_countLaidParts 14 = .ok (.iload_n 2, 1) := by decide +kernel
theorem dX7_countLaidParts_15 : decode cX7_countLaidParts 15 = .ok (.invokevirtual 194, 3) := by decide +kernel
theorem dX7_countLaidParts_18 : decode cX7_countLaidParts 18 = .ok (.ifCond .eq 6, 3) := by decide +kernel
theorem dX7_countLaidParts_21 : decode cX7_countLaidParts 21 = .ok (.iinc 1 1, 3) := by decide +kernel
theorem dX7_countLaidParts_24 : decode cX7_countLaidParts 24 = .ok (.iinc 2 1, 3) := by decide +kernel
theorem dX7_countLaidParts_27 : decode cX7_countLaidParts 27 = .ok (.goto (-23), 3) := by decide +kernel
theorem dX7_countLaidParts_30 : decode cX7_countLaidParts 30 = .ok (.iload_n 1, 1) := by decide +kernel
theorem dX7_countLaidParts_31 : decode cX7_countLaidParts 31 = .ok (.ireturn, 1) := by decide +kernel
theorem dX7_countGoodParts_0 : decode cX7_countGoodParts 0 = .ok (.aload_n 0, 1) := by decide +kernel
theorem dX7_countGoodParts_1 : decode cX7_countGoodParts 1 = .ok (.getfield 26, 3) := by decide +kernel
theorem dX7_countGoodParts_4 : decode cX7_countGoodParts 4 = .ok (.aload_n 0, 1) := by decide +kernel
theorem dX7_countGoodParts_5 : decode cX7_countGoodParts 5 = .ok (.getfield 12, 3) := by decide +kernel
theorem dX7_countGoodParts_8 : decode cX7_countGoodParts 8 = .ok (.invokevirtual 152, 3) := by decide +kernel
theorem dX7_countGoodParts_11 : decode cX7_countGoodParts 11 = .ok (.pop, 1) := by decide +kernel
theorem dX7_countGoodParts_12 : decode cX7_countGoodParts 12 = .ok (.iconst 0, 1) := by decide +kernel
theorem dX7_countGoodParts_13 : decode cX7_countGoodParts 13 = .ok (.istore_n 1, 1) := by decide +kernel
theorem dX7_countGoodParts_14 : decode cX7_countGoodParts 14 = .ok (.iconst 0, 1) := by decide +kernel
theorem dX7_countGoodParts_15 : decode cX7_countGoodParts 15 = .ok (.istore_n 2, 1) := by decide +kernel
theorem dX7_countGoodParts_16 : decode cX7_countGoodParts 16 = .ok (.iload_n 2, 1) := by decide +kernel
theorem dX7_countGoodParts_17 : decode cX7_countGoodParts 17 = .ok (.bipush 6, 2) := by decide +kernel
theorem dX7_countGoodParts_19 : decode cX7_countGoodParts 19 = .ok (.if_icmp .ge 30, 3) := by decide +kernel
theorem dX7_countGoodParts_22 : decode cX7_countGoodParts 22 = .ok (.aload_n 0, 1) := by decide +kernel
theorem dX7_countGoodParts_23 : decode cX7_countGoodParts 23 = .ok (.getfield 26, 3) := by decide +kernel
theorem dX7_countGoodParts_26 : decode cX7_countGoodParts 26 = .ok (.aload_n 0, 1) := by decide +kernel
theorem dX7_countGoodParts_27 : decode cX7_countGoodParts 27 = .ok (.getfield 12, 3) := by decide +kernel
theorem dX7_countGoodParts_30 : decode cX7_countGoodParts 30 = .ok (.iload_n 2, 1) := by decide +kernel
theorem dX7_countGoodParts_31 : decode cX7_countGoodParts 31 = .ok (.invokevirtual 194, 3) := by decide +kernel
theorem dX7_countGoodParts_34 : decode cX7_countGoodParts 34 = .ok (.invokevirtual 175, 3) := by decide +kernel
theorem dX7_countGoodParts_37 : decode cX7_countGoodParts 37 = .ok (.ifCond .eq 6, 3) := by decide +kernel
theorem dX7_countGoodParts_40 : decode cX7_countGoodParts 40 = .ok (.iinc 1 1, 3) := by decide +kernel
theorem dX7_countGoodParts_43 : decode cX7_countGoodParts 43 = .ok (.iinc 2 1, 3) := by decide +kernel
theorem dX7_countGoodParts_46 : decode cX7_countGoodParts 46 = .ok (.goto (-30), 3) := by decide +kernel
theorem dX7_countGoodParts_49 : decode cX7_countGoodParts 49 = .ok (.iload_n 1, 1) := by decide +kernel
theorem dX7_countGoodParts_50 : decode cX7_countGoodParts 50 = .ok (.ireturn, 1) := by decide +kernel
theorem dX7_canLaySplit_0 : decode cX7_canLaySplit 0 = .ok (.aload_n 0, 1) := by decide +kernel
theorem dX7_canLaySplit_1 : decode cX7_canLaySplit 1 = .ok (.getfield 26, 3) := by decide +kernel
theorem dX7_canLaySplit_4 : decode cX7_canLaySplit 4 = .ok (.aload_n 0, 1) := by decide +kernel
theorem dX7_canLaySplit_5 : decode cX7_canLaySplit 5 = .ok (.getfield 12, 3) := by decide +kernel
theorem dX7_canLaySplit_8 : decode cX7_canLaySplit 8 = .ok (.invokevirtual 152, 3) := by decide +kernel
theorem dX7_canLaySplit_11 : decode cX7_canLaySplit 11 = .ok (.aload_n 0, 1) := by decide +kernel
theorem dX7_canLaySplit_12 : decode cX7_canLaySplit 12 = .ok (.getfield 12, 3) := by decide +kernel
theorem dX7_canLaySplit_15 : decode cX7_canLaySplit 15 = .ok (.invokevirtual 127, 3) := by decide +kernel
theorem dX7_canLaySplit_18 : decode cX7_canLaySplit 18 = .ok (.invokevirtual 319, 3) := by decide +kernel
theorem dX7_canLaySplit_21 : decode cX7_canLaySplit 21 = .ok (.istore_n 1, 1) := by decide +kernel
theorem dX7_canLaySplit_22 : decode cX7_canLaySplit 22 = .ok (.iload_n 1, 1) := by decide +kernel
theorem dX7_canLaySplit_23 : decode cX7_canLaySplit 23 = .ok (.iconst (-1), 1) := by decide +kernel
theorem dX7_canLaySplit_24 : decode cX7_canLaySplit 24 = .ok (.if_icmp .eq 13, 3) := by decide +kernel
theorem dX7_canLaySplit_27 : decode cX7_canLaySplit 27 = .ok (.iload_n 1, 1) := by decide +kernel
theorem dX7_canLaySplit_28 : decode cX7_canLaySplit 28 = .ok (.bipush 6, 2) := by decide +kernel
theorem dX7_canLaySplit_30 : decode cX7_canLaySplit 30 = .ok (.if_icmp .gt 7, 3) := by decide +kernel
theorem dX7_canLaySplit_33 : decode cX7_canLaySplit 33 = .ok (.iconst 1, 1) := by decide +kernel
theorem dX7_canLaySplit_34 : decode cX7_canLaySplit 34 = .ok (.goto 4, 3) := by decide +kernel
theorem dX7_canLaySplit_37 : decode cX7_canLaySplit 37 = .ok (.iconst 0, 1) := by decide +kernel
theorem dX7_canLaySplit_38 : decode cX7_canLaySplit 38 = .ok (.ireturn, 1) := by decide +kernel
theorem dX7_laySplitNow_0 : decode cX7_laySplitNow 0 = .ok (.aload_n 0, 1) := by decide +kernel
theorem dX7_laySplitNow_1 : decode cX7_laySplitNow 1 = .ok (.getfield 26, 3) := by decide +kernel
theorem dX7_laySplitNow_4 : decode cX7_laySplitNow 4 = .ok (.aload_n 0, 1) := by decide +kernel
theorem dX7_laySplitNow_5 : decode cX7_laySplitNow 5 = .ok (.getfield 12, 3) := by decide +kernel
theorem dX7_laySplitNow_8 : decode cX7_laySplitNow 8 = .ok (.invokevirtual 152, 3) := by decide +kernel
theorem dX7_laySplitNow_11 : decode cX7_laySplitNow 11 = .ok (.aload_n 0, 1) := by decide +kernel
theorem dX7_laySplitNow_12 : decode cX7_laySplitNow 12 = .ok (.getfield 12, 3) := by decide +kernel
theorem dX7_laySplitNow_15 : decode cX7_laySplitNow 15 = .ok (.invokevirtual 127, 3) := by decide +kernel
theorem dX7_laySplitNow_18 : decode cX7_laySplitNow 18 = .ok (.invokevirtual 319, 3) := by decide +kernel
theorem dX7_laySplitNow_21 : decode cX7_laySplitNow 21 = .ok (.istore_n 1, 1) := by decide +kernel
theorem dX7_laySplitNow_22 : decode cX7_laySplitNow 22 = .ok (.aload_n 0, 1) := by decide +kernel
theorem dX7_laySplitNow_23 : decode cX7_laySplitNow 23 = .ok (.getfield 12, 3) := by decide +kernel
theorem dX7_laySplitNow_26 : decode cX7_laySplitNow 26 = .ok (.invokevirtual 127, 3) := by decide +kernel
theorem dX7_laySplitNow_29 : decode cX7_laySplitNow 29 = .ok (.istore_n 2, 1) := by decide +kernel
theorem dX7_laySplitNow_30 : decode cX7_laySplitNow 30 = .ok (.iconst 0, 1) := by decide +kernel
theorem dX7_laySplitNow_31 : decode cX7_laySplitNow 31 = .ok (.istore_n 3, 1) := by decide +kernel
theorem dX7_laySplitNow_32 : decode cX7_laySplitNow 32 = .ok (.iload_n 3, 1) := by decide +kernel
theorem dX7_laySplitNow_33 : decode cX7_laySplitNow 33 = .ok (.iload_n 1, 1) := by decide +kernel
theorem dX7_laySplitNow_34 : decode cX7_laySplitNow 34 = .ok (.if_icmp .ge 39, 3) := by decide +kernel
theorem dX7_laySplitNow_37 : decode cX7_laySplitNow 37 = .ok (.aload_n 0, 1) := by decide +kernel
theorem dX7_laySplitNow_38 : decode cX7_laySplitNow 38 = .ok (.getfield 26, 3) := by decide +kernel
theorem dX7_laySplitNow_41 : decode cX7_laySplitNow 41 = .ok (.iload_n 2, 1) := by decide +kernel
theorem dX7_laySplitNow_42 : decode cX7_laySplitNow 42 = .ok (.iload_n 1, 1) := by decide +kernel
theorem dX7_laySplitNow_43 : decode cX7_laySplitNow 43 = .ok (.iload_n 3, 1) := by decide +kernel
theorem dX7_laySplitNow_44 : decode cX7_laySplitNow 44 = .ok (.isub, 1) := by decide +kernel
theorem dX7_laySplitNow_45 : decode cX7_laySplitNow 45 = .ok (.invokevirtual 322, 3) := by decide +kernel
theorem dX7_laySplitNow_48 : decode cX7_laySplitNow 48 = .ok (.istore 4, 2) := by decide +kernel
theorem dX7_laySplitNow_50 : decode cX7_laySplitNow 50 = .ok (.aload_n 0, 1) := by decide +kernel
theorem dX7_laySplitNow_51 : decode cX7_laySplitNow 51 = .ok (.getfield 12, 3) := by decide +kernel
theorem dX7_laySplitNow_54 : decode cX7_laySplitNow 54 = .ok (.iload 4, 2) := by decide +kernel
theorem dX7_laySplitNow_56 : decode cX7_laySplitNow 56 = .ok (.iload_n 3, 1) := by decide +kernel
theorem dX7_laySplitNow_57 : decode cX7_laySplitNow 57 = .ok (.invokevirtual 325, 3) := by decide +kernel
theorem dX7_laySplitNow_60 : decode cX7_laySplitNow 60 = .ok (.iload_n 2, 1) := by decide +kernel
theorem dX7_laySplitNow_61 : decode cX7_laySplitNow 61 = .ok (.iload 4, 2) := by decide +kernel
theorem dX7_laySplitNow_63 : decode cX7_laySplitNow 63 = .ok (.iconst (-1), 1) := by decide +kernel
theorem dX7_laySplitNow_64 : decode cX7_laySplitNow 64 = .ok (.ixor, 1) := by decide +kernel
theorem dX7_laySplitNow_65 : decode cX7_laySplitNow 65 = .ok (.iand, 1) := by decide +kernel
theorem dX7_laySplitNow_66 : decode cX7_laySplitNow 66 = .ok (.istore_n 2, 1) := by decide +kernel
theorem dX7_laySplitNow_67 : decode cX7_laySplitNow 67 = .ok (.iinc 3 1, 3) := by decide +kernel
theorem dX7_laySplitNow_70 : decode cX7_laySplitNow 70 = .ok (.goto (-38), 3) := by decide +kernel
theorem dX7_laySplitNow_73 : decode cX7_laySplitNow 73 = .ok (.iload_n 1, 1) := by decide +kernel
theorem dX7_laySplitNow_74 : decode cX7_laySplitNow 74 = .ok (.ireturn, 1) := by decide +kernel
theorem dX7_carryOut_0 : decode cX7_carryOut 0 = .ok (.aload_n 1, 1) := by decide +kernel
theorem dX7_carryOut_1 : decode cX7_carryOut 1 = .ok (.ifnonnull 5, 3) := by decide +kernel
theorem dX7_carryOut_4 : decode cX7_carryOut 4 = .ok (.iconst 0, 1) := by decide +kernel
theorem dX7_carryOut_5 : decode cX7_carryOut 5 = .ok (.ireturn, 1) := by decide +kernel
theorem dX7_carryOut_6 : decode cX7_carryOut 6 = .ok (.getstatic 328, 3) := by decide +kernel
theorem dX7_carryOut_9 : decode cX7_carryOut 9 = .ok (.aload_n 1, 1) := by decide +kernel
theorem dX7_carryOut_10 : decode cX7_carryOut 10 = .ok (.invokevirtual 333, 3) := by decide +kernel
theorem dX7_carryOut_13 : decode cX7_carryOut 13 = .ok (.iaload, 1) := by decide +kernel
theorem dX7_carryOut_14 : decode cX7_carryOut 14 = .ok (.tableswitch 117 1 5 #[34, 53, 65, 77, 96], 34) := by decide +kernel
theorem dX7_carryOut_48 : decode cX7_carryOut 48 = .ok (.aload_n 0, 1) := by decide +kernel
theorem dX7_carryOut_49 : decode cX7_carryOut 49 = .ok (.aload_n 0, 1) := by decide +kernel
theorem dX7_carryOut_50 : decode cX7_carryOut 50 = .ok (.getfield 33, 3) := by decide +kernel
theorem dX7_carryOut_53 : decode cX7_carryOut 53 = .ok (.getfield 338, 3) := by decide +kernel
theorem dX7_carryOut_56 : decode cX7_carryOut 56 = .ok (.aload_n 0, 1) := by decide +kernel
theorem dX7_carryOut_57 : decode cX7_carryOut 57 = .ok (.getfield 33, 3) := by decide +kernel
theorem dX7_carryOut_60 : decode cX7_carryOut 60 = .ok (.getfield 341, 3) := by decide +kernel
theorem dX7_carryOut_63 : decode cX7_carryOut 63 = .ok (.invokevirtual 344, 3) := by decide +kernel
theorem dX7_carryOut_66 : decode cX7_carryOut 66 = .ok (.ireturn, 1) := by decide +kernel
theorem dX7_carryOut_67 : decode cX7_carryOut 67 = .ok (.aload_n 0, 1) := by decide +kernel
theorem dX7_carryOut_68 : decode cX7_carryOut 68 = .ok (.aload_n 0, 1) := by decide +kernel
theorem dX7_carryOut_69 : decode cX7_carryOut 69 = .ok (.getfield 33, 3) := by decide +kernel
theorem dX7_carryOut_72 : decode cX7_carryOut 72 = .ok (.getfield 338, 3) := by decide +kernel
theorem dX7_carryOut_75 : decode cX7_carryOut 75 = .ok (.invokevirtual 348, 3) := by decide +kernel
theorem dX7_carryOut_78 : decode cX7_carryOut 78 = .ok (.ireturn, 1) := by decide +kernel
theorem dX7_carryOut_79 : decode cX7_carryOut 79 = .ok (.aload_n 0, 1) := by decide +kernel
theorem dX7_carryOut_80 : decode cX7_carryOut 80 = .ok (.aload_n 0, 1) := by decide +kernel
theorem dX7_carryOut_81 : decode cX7_carryOut 81 = .ok (.getfield 33, 3) := by decide +kernel
theorem dX7_carryOut_84 : decode cX7_carryOut 84 = .ok (.getfield 338, 3) := by decide +kernel
theorem dX7_carryOut_87 : decode cX7_carryOut 87 = .ok (.invokevirtual 351, 3) := by decide +kernel
theorem dX7_carryOut_90 : decode cX7_carryOut 90 = .ok (.ireturn, 1) := by decide +kernel
theorem dX7_carryOut_91 : decode cX7_carryOut 91 = .ok (.aload_n 0, 1) := by decide +kernel
theorem dX7_carryOut_92 : decode cX7_carryOut 92 = .ok (.aload_n 0, 1) := by decide +kernel
theorem dX7_carryOut_93 : decode cX7_carryOut 93 = .ok (.getfield 33, 3) := by decide +kernel
theorem dX7_carryOut_96 : decode cX7_carryOut 96 = .ok (.getfield 338, 3) := by decide +kernel
theorem dX7_carryOut_99 : decode cX7_carryOut 99 = .ok (.aload_n 0, 1) := by decide +kernel
theorem dX7_carryOut_100 : decode cX7_carryOut 100 = .ok (.getfield 33, 3) := by decide +kernel
theorem dX7_carryOut_103 : decode cX7_carryOut 103 = .ok (.getfield 341, 3) := by decide +kernel
theorem dX7_carryOut_106 : decode cX7_carryOut 106 = .ok (.invokevirtual 354, 3) := by decide +kernel
theorem dX7_carryOut_109 : decode cX7_carryOut 109 = .ok (.ireturn, 1) := by decide +kernel
theorem dX7_carryOut_110 : decode cX7_carryOut 110 = .ok (.aload_n 0, 1) := by decide +kernel
theorem dX7_carryOut_111 : decode cX7_carryOut 111 = .ok (.invokevirtual 109, 3) := by decide +kernel
theorem dX7_carryOut_114 : decode cX7_carryOut 114 = .ok (.ifCond .eq 15, 3) := by decide +kernel
theorem dX7_carryOut_117 : decode cX7_carryOut 117 = .ok (.aload_n 0, 1) := by decide +kernel
theorem dX7_carryOut_118 : decode cX7_carryOut 118 = .ok (.invokevirtual 114, 3) := by decide +kernel
theorem dX7_carryOut_121 : decode cX7_carryOut 121 = .ok (.iconst (-1), 1) := by decide +kernel
theorem dX7_carryOut_122 : decode cX7_carryOut 122 = .ok (.if_icmp .eq 7, 3) := by decide +kernel
theorem dX7_carryOut_125 : decode cX7_carryOut 125 = .ok (.iconst 1, 1) := by decide +kernel
theorem dX7_carryOut_126 : decode cX7_carryOut 126 = .ok (.goto 4, 3) := by decide +kernel
theorem dX7_carryOut_129 : decode cX7_carryOut 129 = .ok (.iconst 0, 1) := by decide +kernel
theorem dX7_carryOut_130 : decode cX7_carryOut 130 = .ok (.ireturn, 1) := by decide +kernel
theorem dX7_carryOut_131 : decode cX7_carryOut 131 = .ok (.iconst 0, 1) := by decide +kernel
theorem dX7_carryOut_132 : decode cX7_carryOut 132 = .ok (.ireturn, 1) := by decide +kernel
theorem dX7_runGroup_0 : decode cX7_runGroup 0 = .ok (.iload_n 1, 1) := by decide +kernel
theorem dX7_runGroup_1 : decode cX7_runGroup 1 = .ok (.invokestatic 37, 3) := by decide +kernel
theorem dX7_runGroup_4 : decode cX7_runGroup 4 = .ok (.ifCond .eq 10, 3) := by decide +kernel
theorem dX7_runGroup_7 : decode cX7_runGroup 7 = .ok (.iload_n 2, 1) := by decide +kernel
theorem dX7_runGroup_8 : decode cX7_runGroup 8 = .ok (.invokestatic 37, 3) := by decide +kernel
theorem dX7_runGroup_11 : decode cX7_runGroup 11 = .ok (.ifCond .ne 5, 3) := by decide +kernel
theorem dX7_runGroup_14 : decode cX7_runGroup 14 = .ok (.iconst 0, 1) := by decide +kernel
theorem dX7_runGroup_15 : decode cX7_runGroup 15 = .ok (.ireturn, 1) := by decide +kernel
theorem dX7_runGroup_16 : decode cX7_runGroup 16 = .ok (.aload_n 0, 1) := by decide +kernel
theorem dX7_runGroup_17 : decode cX7_runGroup 17 = .ok (.getfield 12, 3) := by decide +kernel
theorem dX7_runGroup_20 : decode cX7_runGroup 20 = .ok (.iload_n 1, 1) := by decide +kernel
theorem dX7_runGroup_21 : decode cX7_runGroup 21 = .ok (.iload_n 2, 1) := by decide +kernel
theorem dX7_runGroup_22 : decode cX7_runGroup 22 = .ok (.invokevirtual 52, 3) := by decide +kernel
theorem dX7_runGroup_25 : decode cX7_runGroup 25 = .ok (.iconst 1, 1) := by decide +kernel
theorem dX7_runGroup_26 : decode cX7_runGroup 26 = .ok (.ireturn, 1) := by decide +kernel
theorem dX7_runAdd_0 : decode cX7_runAdd 0 = .ok (.aload_n 0, 1) := by decide +kernel
theorem dX7_runAdd_1 : decode cX7_runAdd 1 = .ok (.getfield 12, 3) := by decide +kernel
theorem dX7_runAdd_4 : decode cX7_runAdd 4 = .ok (.getfield 56, 3) := by decide +kernel
theorem dX7_runAdd_7 : decode cX7_runAdd 7 = .ok (.iload_n 1, 1) := by decide +kernel
theorem dX7_runAdd_8 : decode cX7_runAdd 8 = .ok (.invokevirtual 66, 3) := by decide +kernel
theorem dX7_runAdd_11 : decode cX7_runAdd 11 = .ok (.ifCond .eq 13, 3) := by decide +kernel
theorem dX7_runAdd_14 : decode cX7_runAdd 14 = .ok (.aload_n 0, 1) := by decide +kernel
theorem dX7_runAdd_15 : decode cX7_runAdd 15 = .ok (.getfield 12, 3) := by decide +kernel
theorem dX7_runAdd_18 : decode cX7_runAdd 18 = .ok (.invokevirtual 74, 3) := by decide +kernel
theorem dX7_runAdd_21 : decode cX7_runAdd 21 = .ok (.ifCond .eq 5, 3) := by decide +kernel
theorem dX7_runAdd_24 : decode cX7_runAdd 24 = .ok (.iconst 0, 1) := by decide +kernel
theorem dX7_runAdd_25 : decode cX7_runAdd 25 = .ok (.ireturn, 1) := by decide +kernel
theorem dX7_runAdd_26 : decode cX7_runAdd 26 = .ok (.aload_n 0, 1) := by decide +kernel
theorem dX7_runAdd_27 : decode cX7_runAdd 27 = .ok (.getfield 12, 3) := by decide +kernel
theorem dX7_runAdd_30 : decode cX7_runAdd 30 = .ok (.iload_n 1, 1) := by decide +kernel
theorem dX7_runAdd_31 : decode cX7_runAdd 31 = .ok (.invokevirtual 83, 3) := by decide +kernel
theorem dX7_runAdd_34 : decode cX7_runAdd 34 = .ok (.iconst 1, 1) := by decide +kernel
theorem dX7_runAdd_35 : decode cX7_runAdd 35 = .ok (.ireturn, 1) := by decide +kernel
theorem dX7_runMinus_0 : decode cX7_runMinus 0 = .ok (.aload_n 0, 1) := by decide +kernel
theorem dX7_runMinus_1 : decode cX7_runMinus 1 = .ok (.getfield 12, 3) := by decide +kernel
theorem dX7_runMinus_4 : decode cX7_runMinus 4 = .ok (.iload_n 1, 1) := by decide +kernel
theorem dX7_runMinus_5 : decode cX7_runMinus 5 = .ok (.invokevirtual 91, 3) := by decide +kernel
theorem dX7_runMinus_8 : decode cX7_runMinus 8 = .ok (.ifCond .ne 5, 3) := by decide +kernel
theorem dX7_runMinus_11 : decode cX7_runMinus 11 = .ok (.iconst 0, 1) := by decide +kernel
theorem dX7_runMinus_12 : decode cX7_runMinus 12 = .ok (.ireturn, 1) := by decide +kernel
theorem dX7_runMinus_13 : decode cX7_runMinus 13 = .ok (.aload_n 0, 1) := by decide +kernel
theorem dX7_runMinus_14 : decode cX7_runMinus 14 = .ok (.getfield 12, 3) := by decide +kernel
theorem dX7_runMinus_17 : decode cX7_runMinus 17 = .ok (.iload_n 1, 1) := by decide +kernel
theorem dX7_runMinus_18 : decode cX7_runMinus 18 = .ok (.invokevirtual 96, 3) := by decide +kernel
theorem dX7_runMinus_21 : decode cX7_runMinus 21 = .ok (.pop, 1) := by decide +kernel
theorem dX7_runMinus_22 : decode cX7_runMinus 22 = .ok (.iconst 1, 1) := by decide +kernel
theorem dX7_runMinus_23 : decode cX7_runMinus 23 = .ok (.ireturn, 1) := by decide +kernel
theorem dX7_runLay_0 : decode cX7_runLay 0 = .ok (.aload_n 0, 1) := by decide +kernel
theorem dX7_runLay_1 : decode cX7_runLay 1 = .ok (.getfield 12, 3) := by decide +kernel
theorem dX7_runLay_4 : decode cX7_runLay 4 = .ok (.iload_n 1, 1) := by decide +kernel
theorem dX7_runLay_5 : decode cX7_runLay 5 = .ok (.invokevirtual 91, 3) := by decide +kernel
theorem dX7_runLay_8 : decode cX7_runLay 8 = .ok (.ifCond .eq 10, 3) := by decide +kernel
theorem dX7_runLay_11 : decode cX7_runLay 11 = .ok (.iload_n 2, 1) := by decide +kernel
theorem dX7_runLay_12 : decode cX7_runLay 12 = .ok (.invokestatic 100, 3) := by decide +kernel
theorem dX7_runLay_15 : decode cX7_runLay 15 = .ok (.ifCond .ne 5, 3) := by decide +kernel
theorem dX7_runLay_18 : decode cX7_runLay 18 = .ok (.iconst 0, 1) := by decide +kernel
theorem dX7_runLay_19 : decode cX7_runLay 19 = .ok (.ireturn, 1) := by decide +kernel
theorem dX7_runLay_20 : decode cX7_runLay 20 = .ok (.aload_n 0, 1) := by decide +kernel
theorem dX7_runLay_21 : decode cX7_runLay 21 = .ok (.getfield 12, 3) := by decide +kernel
theorem dX7_runLay_24 : decode cX7_runLay 24 = .ok (.getfield 105, 3) := by decide +kernel
theorem dX7_runLay_27 : decode cX7_runLay 27 = .ok (.iload_n 1, 1) := by decide +kernel
theorem dX7_runLay_28 : decode cX7_runLay 28 = .ok (.iload_n 2, 1) := by decide +kernel
theorem dX7_runLay_29 : decode cX7_runLay 29 = .ok (.iastore, 1) := by decide +kernel
theorem dX7_runLay_30 : decode cX7_runLay 30 = .ok (.iconst 1, 1) := by decide +kernel
theorem dX7_runLay_31 : decode cX7_runLay 31 = .ok (.ireturn, 1) := by decide +kernel
theorem dX8_init_0 : decode cX8_init 0 = .ok (.aload_n 0, 1) := by decide +kernel
theorem dX8_init_1 : decode cX8_init 1 = .ok (.invokespecial 1, 3) := by decide +kernel
theorem dX8_init_4 : decode cX8_init 4 = .ok (.aload_n 0, 1) := by decide +kernel
theorem dX8_init_5 : decode cX8_init 5 = .ok (.bipush 23, 2) := by decide +kernel
theorem dX8_init_7 : decode cX8_init 7 = .ok (.newarray .int, 2) := by decide +kernel
theorem dX8_init_9 : decode cX8_init 9 = .ok (.putfield 7, 3) := by decide +kernel
theorem dX8_init_12 : decode cX8_init 12 = .ok (.aload_n 0, 1) := by decide +kernel
theorem dX8_init_13 : decode cX8_init 13 = .ok (.bipush 92, 2) := by decide +kernel
theorem dX8_init_15 : decode cX8_init 15 = .ok (.newarray .int, 2) := by decide +kernel
theorem dX8_init_17 : decode cX8_init 17 = .ok (.putfield 13, 3) := by decide +kernel
theorem dX8_init_20 : decode cX8_init 20 = .ok (.aload_n 0, 1) := by decide +kernel
theorem dX8_init_21 : decode cX8_init 21 = .ok (.sipush 150, 3) := by decide +kernel
theorem dX8_init_24 : decode cX8_init 24 = .ok (.newarray .int, 2) := by decide +kernel
theorem dX8_init_26 : decode cX8_init 26 = .ok (.putfield 16, 3) := by decide +kernel
theorem dX8_init_29 : decode cX8_init 29 = .ok (.aload_n 0, 1) := by decide +kernel
theorem dX8_init_30 : decode cX8_init 30 = .ok (.iconst 2, 1) := by decide +kernel
theorem dX8_init_31 : decode cX8_init 31 = .ok (.newarray .int, 2) := by decide +kernel
theorem dX8_init_33 : decode cX8_init 33 = .ok (.putfield 19, 3) := by decide +kernel
theorem dX8_init_36 : decode cX8_init 36 = .ok (.aload_n 0, 1) := by decide +kernel
theorem dX8_init_37 : decode cX8_init 37 = .ok (.bipush 11, 2) := by decide +kernel
theorem dX8_init_39 : decode cX8_init 39 = .ok (.newarray .int, 2) := by decide +kernel
theorem dX8_init_41 : decode cX8_init 41 = .ok (.putfield 22, 3) := by decide +kernel
theorem dX8_init_44 : decode cX8_init 44 = .ok (.aload_n 0, 1) := by decide +kernel
theorem dX8_init_45 : decode cX8_init 45 = .ok (.sipush 2048, 3) := by decide +kernel
theorem dX8_init_48 : decode cX8_init 48 = .ok (.newarray .int, 2) := by decide +kernel
theorem dX8_init_50 : decode cX8_init 50 = .ok (.putfield 25, 3) := by decide +kernel
theorem dX8_init_53 : decode cX8_init 53 = .ok (.aload_n 0, 1) := by decide +kernel
theorem dX8_init_54 : decode cX8_init 54 = .ok (.sipush 2048, 3) := by decide +kernel
theorem dX8_init_57 : decode cX8_init 57 = .ok (.newarray .boolean, 2) := by decide +kernel
theorem dX8_init_59 : decode cX8_init 59 = .ok (.putfield 28, 3) := by decide +kernel
theorem dX8_init_62 : decode cX8_init 62 = .ok (.aload_n 0, 1) := by decide +kernel
theorem dX8_init_63 : decode cX8_init 63 = .ok (.sipush 1024, 3) := by decide +kernel
theorem dX8_init_66 : decode cX8_init 66 = .ok (.newarray .int, 2) := by decide +kernel
theorem dX8_init_68 : decode cX8_init 68 = .ok (.putfield 32, 3) := by decide +kernel
theorem dX8_init_71 : decode cX8_init 71 = .ok (.aload_n 0, 1) := by decide +kernel
theorem dX8_init_72 : decode cX8_init 72 = .ok (.sipush 1024, 3) := by decide +kernel
theorem dX8_init_75 : decode cX8_init 75 = .ok (.newarray .int, 2) := by decide +kernel
theorem dX8_init_77 : decode cX8_init 77 = .ok (.putfield 35, 3) := by decide +kernel
theorem dX8_init_80 : decode cX8_init 80 = .ok (.aload_n 0, 1) := by decide +kernel
theorem dX8_init_81 : decode cX8_init 81 = .ok (.bipush 72, 2) := by decide +kernel
theorem dX8_init_83 : decode cX8_init 83 = .ok (.newarray .int, 2) := by decide +kernel
theorem dX8_init_85 : decode cX8_init 85 = .ok (.putfield 38, 3) := by decide +kernel
theorem dX8_init_88 : decode cX8_init 88 = .ok (.aload_n 0, 1) := by decide +kernel
theorem dX8_init_89 : decode cX8_init 89 = .ok (.getfield 7, 3) := by decide +kernel
theorem dX8_init_92 : decode cX8_init 92 = .ok (.iconst 0, 1) := by decide +kernel
theorem dX8_init_93 : decode cX8_init 93 = .ok (.bipush 6, 2) := by decide +kernel
theorem dX8_init_95 : decode cX8_init 95 = .ok (.iastore, 1) := by decide +kernel
theorem dX8_init_96 : decode cX8_init 96 = .ok (.aload_n 0, 1) := by decide +kernel
theorem dX8_init_97 : decode cX8_init 97 = .ok (.getfield 7, 3) := by decide +kernel
theorem dX8_init_100 : decode cX8_init 100 = .ok (.iconst 1, 1) := by decide +kernel
theorem dX8_init_101 : decode cX8_init 101 = .ok (.iconst 1, 1) := by decide +kernel
theorem dX8_init_102 : decode cX8_init 102 = .ok (.iastore, 1) := by decide +kernel
theorem dX8_init_103 : decode cX8_init 103 = .ok (.return_, 1) := by decide +kernel
theorem dX8_thrown_0 : decode cX8_thrown 0 = .ok (.aload_n 0, 1) := by decide +kernel
theorem dX8_thrown_1 : decode cX8_thrown 1 = .ok (.getfield 41, 3) := by decide +kernel
theorem dX8_thrown_4 : decode cX8_thrown 4 = .ok (.ireturn, 1) := by decide +kernel
theorem dX8_refused_0 : decode cX8_refused 0 = .ok (.aload_n 0, 1) := by decide +kernel
theorem dX8_refused_1 : decode cX8_refused 1 = .ok (.iload_n 1, 1) := by decide +kernel
theorem dX8_refused_2 : decode cX8_refused 2 = .ok (.putfield 41, 3) := by decide +kernel
theorem dX8_refused_5 : decode cX8_refused 5 = .ok (.iload_n 1, 1) := by decide +kernel
theorem dX8_refused_6 : decode cX8_refused 6 = .ok (.ifCond .le 7, 3) := by decide +kernel
theorem dX8_refused_9 : decode cX8_refused 9 = .ok (.iconst 1, 1) := by decide +kernel
theorem dX8_refused_10 : decode cX8_refused 10 = .ok (.goto 4, 3) := by decide +kernel
theorem dX8_refused_13 : decode cX8_refused 13 = .ok (.iconst 0, 1) := by decide +kernel
theorem dX8_refused_14 : decode cX8_refused 14 = .ok (.ireturn, 1) := by decide +kernel
theorem dX8_within_0 : decode cX8_within 0 = .ok (.iload_n 0, 1) := by decide +kernel
theorem dX8_within_1 : decode cX8_within 1 = .ok (.iload_n 1, 1) := by decide +kernel
theorem dX8_within_2 : decode cX8_within 2 = .ok (.if_icmp .lt 12, 3) := by decide +kernel
theorem dX8_within_5 : decode cX8_within 5 = .ok (.iload_n 0, 1) := by decide +kernel
theorem dX8_within_6 : decode cX8_within 6 = .ok (.iload_n 2, 1) := by decide +kernel
theorem dX8_within_7 : decode cX8_within 7 = .ok (.if_icmp .gt 7, 3) := by decide +kernel
theorem dX8_within_10 : decode cX8_within 10 = .ok (.iconst 1, 1) := by decide +kernel
theorem dX8_within_11 : decode cX8_within 11 = .ok (.goto 4, 3) := by decide +kernel
theorem dX8_within_14 : decode cX8_within 14 = .ok (.iconst 0, 1) := by decide +kernel
theorem dX8_within_15 : decode cX8_within 15 = .ok (.ireturn, 1) := by decide +kernel
theorem dX8_saves_0 : decode cX8_saves 0 = .ok (.aload_n 0, 1) := by decide +kernel
theorem dX8_saves_1 : decode cX8_saves 1 = .ok (.getfield 45, 3) := by decide +kernel
theorem dX8_saves_4 : decode cX8_saves 4 = .ok (.ifCond .eq 4, 3) := by decide +kernel
theorem dX8_saves_7 : decode cX8_saves 7 = .ok (.return_, 1) := by decide +kernel
theorem dX8_saves_8 : decode cX8_saves 8 = .ok (.aload_n 0, 1) := by decide +kernel
theorem dX8_saves_9 : decode cX8_saves 9 = .ok (.getfield 49, 3) := by decide +kernel
theorem dX8_saves_12 : decode cX8_saves 12 = .ok (.iconst 4, 1) := by decide +kernel
theorem dX8_saves_13 : decode cX8_saves 13 = .ok (.if_icmp .ne 42, 3) := by decide +kernel
theorem dX8_saves_16 : decode cX8_saves 16 = .ok (.iconst 0, 1) := by decide +kernel
theorem dX8_saves_17 : decode cX8_saves 17 = .ok (.istore_n 1, 1) := by decide +kernel
theorem dX8_saves_18 : decode cX8_saves 18 = .ok (.iload_n 1, 1) := by decide +kernel
theorem dX8_saves_19 : decode cX8_saves 19 = .ok (.bipush 69, 2) := by decide +kernel
theorem dX8_saves_21 : decode cX8_saves 21 = .ok (.if_icmp .ge 24, 3) := by decide +kernel
theorem dX8_saves_24 : decode cX8_saves 24 = .ok (.aload_n 0, 1) := by decide +kernel
theorem dX8_saves_25 : decode cX8_saves 25 = .ok (.getfield 13, 3) := by decide +kernel
theorem dX8_saves_28 : decode cX8_saves 28 = .ok (.iload_n 1, 1) := by decide +kernel
theorem dX8_saves_29 : decode cX8_saves 29 = .ok (.aload_n 0, 1) := by decide +kernel
theorem dX8_saves_30 : decode cX8_saves 30 = .ok (.getfield 13, 3) := by decide +kernel
theorem dX8_saves_33 : decode cX8_saves 33 = .ok (.iload_n 1, 1) := by decide +kernel
theorem dX8_saves_34 : decode cX8_saves 34 = .ok (.bipush 23, 2) := by decide +kernel
theorem dX8_saves_36 : decode cX8_saves 36 = .ok (.iadd, 1) := by decide +kernel
theorem dX8_saves_37 : decode cX8_saves 37 = .ok (.iaload, 1) := by decide +kernel
theorem dX8_saves_38 : decode cX8_saves 38 = .ok (.iastore, 1) := by decide +kernel
theorem dX8_saves_39 : decode cX8_saves 39 = .ok (.iinc 1 1, 3) := by decide +kernel
theorem dX8_saves_42 : decode cX8_saves 42 = .ok (.goto (-24), 3) := by decide +kernel
theorem dX8_saves_45 : decode cX8_saves 45 = .ok (.aload_n 0, 1) := by decide +kernel
theorem dX8_saves_46 : decode cX8_saves 46 = .ok (.dup, 1) := by decide +kernel
theorem dX8_saves_47 : decode cX8_saves 47 = .ok (.getfield 49, 3) := by decide +kernel
theorem dX8_saves_50 : decode cX8_saves 50 = .ok (.iconst 1, 1) := by decide +kernel
theorem dX8_saves_51 : decode cX8_saves 51 = .ok (.isub, 1) := by decide +kernel
theorem dX8_saves_52 : decode cX8_saves 52 = .ok (.putfield 49, 3) := by decide +kernel
theorem dX8_saves_55 : decode cX8_saves 55 = .ok (.iconst 0, 1) := by decide +kernel
theorem dX8_saves_56 : decode cX8_saves 56 = .ok (.istore_n 1, 1) := by decide +kernel
theorem dX8_saves_57 : decode cX8_saves 57 = .ok (.iload_n 1, 1) := by decide +kernel
theorem dX8_saves_58 : decode cX8_saves 58 = .ok (.bipush 23, 2) := by decide +kernel
theorem dX8_saves_60 : decode cX8_saves 60 = .ok (.if_icmp .ge 29, 3) := by decide +kernel
theorem dX8_saves_63 : decode cX8_saves 63 = .ok (.aload_n 0, 1) := by decide +kernel
theorem dX8_saves_64 : decode cX8_saves 64 = .ok (.getfield 13, 3) := by decide +kernel
theorem dX8_saves_67 : decode cX8_saves 67 = .ok (.bipush 23, 2) := by decide +kernel
theorem dX8_saves_69 : decode cX8_saves 69 = .ok (.aload_n 0, 1) := by decide +kernel
theorem dX8_saves_70 : decode cX8_saves 70 = .ok (.getfield 49, 3) := by decide +kernel
theorem dX8_saves_73 : decode cX8_saves 73 = .ok (.imul, 1) := by decide +kernel
theorem dX8_saves_74 : decode cX8_saves 74 = .ok (.iload_n 1, 1) := by decide +kernel
theorem dX8_saves_75 : decode cX8_saves 75 = .ok (.iadd, 1) := by decide +kernel
theorem dX8_saves_76 : decode cX8_saves 76 = .ok (.aload_n 0, 1) := by decide +kernel
theorem dX8_saves_77 : decode cX8_saves 77 = .ok (.getfield 7, 3) := by decide +kernel
theorem dX8_saves_80 : decode cX8_saves 80 = .ok (.iload_n 1, 1) := by decide +kernel
theorem dX8_saves_81 : decode cX8_saves 81 = .ok (.iaload, 1) := by decide +kernel
theorem dX8_saves_82 : decode cX8_saves 82 = .ok (.iastore, 1) := by decide +kernel
theorem dX8_saves_83 : decode cX8_saves 83 = .ok (.iinc 1 1, 3) := by decide +kernel
theorem dX8_saves_86 : decode cX8_saves 86 = .ok (.goto (-29), 3) := by decide +kernel
theorem dX8_saves_89 : decode cX8_saves 89 = .ok (.aload_n 0, 1) := by decide +kernel
theorem dX8_saves_90 : decode cX8_saves 90 = .ok (.dup, 1) := by decide +kernel
theorem dX8_saves_91 : decode cX8_saves 91 = .ok (.getfield 49, 3) := by decide +kernel
theorem dX8_saves_94 : decode cX8_saves 94 = .ok (.iconst 1, 1) := by decide +kernel
theorem dX8_saves_95 : decode cX8_saves 95 = .ok (.iadd, 1) := by decide +kernel
theorem dX8_saves_96 : decode cX8_saves 96 = .ok (.putfield 49, 3) := by decide +kernel
theorem dX8_saves_99 : decode cX8_saves 99 = .ok (.return_, 1) := by decide +kernel
theorem dX8_undo_0 : decode cX8_undo 0 = .ok (.aload_n 0, 1) := by decide +kernel
theorem dX8_undo_1 : decode cX8_undo 1 = .ok (.aload_n 0, 1) := by decide +kernel
theorem dX8_undo_2 : decode cX8_undo 2 = .ok (.getfield 49, 3) := by decide +kernel
theorem dX8_undo_5 : decode cX8_undo 5 = .ok (.ifCond .ne 7, 3) := by decide +kernel
theorem dX8_undo_8 : decode cX8_undo 8 = .ok (.iconst 1, 1) := by decide +kernel
theorem dX8_undo_9 : decode cX8_undo 9 = .ok (.goto 4, 3) := by decide +kernel
theorem dX8_undo_12 : decode cX8_undo 12 = .ok (.iconst 0, 1) := by decide +kernel
theorem dX8_undo_13 : decode cX8_undo 13 = .ok (.invokevirtual 52, 3) := by decide +kernel
theorem dX8_undo_16 : decode cX8_undo 16 = .ok (.ifCond .eq 5, 3) := by decide +kernel
theorem dX8_undo_19 : decode cX8_undo 19 = .ok (.iconst 0, 1) := by decide +kernel
theorem dX8_undo_20 : decode cX8_undo 20 = .ok (.ireturn, 1) := by decide +kernel
theorem dX8_undo_21 : decode cX8_undo 21 = .ok (.aload_n 0, 1) := by decide +kernel
theorem dX8_undo_22 : decode cX8_undo 22 = .ok (.dup, 1) := by decide +kernel
theorem dX8_undo_23 : decode cX8_undo 23 = .ok (.getfield 49, 3) := by decide +kernel
theorem dX8_undo_26 : decode cX8_undo 26 = .ok (.iconst 1, 1) := by decide +kernel
theorem dX8_undo_27 : decode cX8_undo 27 = .ok (.isub, 1) := by decide +kernel
theorem dX8_undo_28 : decode cX8_undo 28 = .ok (.putfield 49, 3) := by decide +kernel
theorem dX8_undo_31 : decode cX8_undo 31 = .ok (.iconst 0, 1) := by decide +kernel
theorem dX8_undo_32 : decode cX8_undo 32 = .ok (.istore_n 1, 1) := by decide +kernel
theorem dX8_undo_33 : decode cX8_undo 33 = .ok (.iload_n 1, 1) := by decide +kernel
theorem dX8_undo_34 : decode cX8_undo 34 = .ok (.bipush 23, 2) := by decide +kernel
theorem dX8_undo_36 : decode cX8_undo 36 = .ok (.if_icmp .ge 29, 3) := by decide +kernel
theorem dX8_undo_39 : decode cX8_undo 39 = .ok (.aload_n 0, 1) := by decide +kernel
theorem dX8_undo_40 : decode cX8_undo 40 = .ok (.getfield 7, 3) := by decide +kernel
theorem dX8_undo_43 : decode cX8_undo 43 = .ok (.iload_n 1, 1) := by decide +kernel
theorem dX8_undo_44 : decode cX8_undo 44 = .ok (.aload_n 0, 1) := by decide +kernel
theorem dX8_undo_45 : decode cX8_undo 45 = .ok (.getfield 13, 3) := by decide +kernel
theorem dX8_undo_48 : decode cX8_undo 48 = .ok (.bipush 23, 2) := by decide +kernel
theorem dX8_undo_50 : decode cX8_undo 50 = .ok (.aload_n 0, 1) := by decide +kernel
theorem dX8_undo_51 : decode cX8_undo 51 = .ok (.getfield 49, 3) := by decide +kernel
theorem dX8_undo_54 : decode cX8_undo 54 = .ok (.imul, 1) := by decide +kernel
theorem dX8_undo_55 : decode cX8_undo 55 = .ok (.iload_n 1, 1) := by decide +kernel
theorem dX8_undo_56 : decode cX8_undo 56 = .ok (.iadd, 1) := by decide +kernel
theorem dX8_undo_57 : decode cX8_undo 57 = .ok (.iaload, 1) := by decide +kernel
theorem dX8_undo_58 : decode cX8_undo 58 = .ok (.iastore, 1) := by decide +kernel
theorem dX8_undo_59 : decode cX8_undo 59 = .ok (.iinc 1 1, 3) := by decide +kernel
theorem dX8_undo_62 : decode cX8_undo 62 = .ok (.goto (-29), 3) := by decide +kernel
theorem dX8_undo_65 : decode cX8_undo 65 = .ok (.aload_n 0, 1) := by decide +kernel
theorem dX8_undo_66 : decode cX8_undo 66 = .ok (.getfield 49, 3) := by decide +kernel
theorem dX8_undo_69 : decode cX8_undo 69 = .ok (.ireturn, 1) := by decide +kernel
theorem dX8_size_0 : decode cX8_size 0 = .ok (.aload_n 0, 1) := by decide +kernel
theorem dX8_size_1 : decode cX8_size 1 = .ok (.getfield 7, 3) := by decide +kernel
theorem dX8_size_4 : decode cX8_size 4 = .ok (.iconst 0, 1) := by decide +kernel
theorem dX8_size_5 : decode cX8_size 5 = .ok (.iaload, 1) := by decide +kernel
theorem dX8_size_6 : decode cX8_size 6 = .ok (.aload_n 0, 1) := by decide +kernel
theorem dX8_size_7 : decode cX8_size 7 = .ok (.getfield 7, 3) := by decide +kernel
theorem dX8_size_10 : decode cX8_size 10 = .ok (.iconst 1, 1) := by decide +kernel
theorem dX8_size_11 : decode cX8_size 11 = .ok (.iaload, 1) := by decide +kernel
theorem dX8_size_12 : decode cX8_size 12 = .ok (.imul, 1) := by decide +kernel
theorem dX8_size_13 : decode cX8_size 13 = .ok (.ireturn, 1) := by decide +kernel
theorem dX8_isElement_0 : decode cX8_isElement 0 = .ok (.iload_n 1, 1) := by decide +kernel
theorem dX8_isElement_1 : decode cX8_isElement 1 = .ok (.iconst 0, 1) := by decide +kernel
theorem dX8_isElement_2 : decode cX8_isElement 2 = .ok (.aload_n 0, 1) := by decide +kernel
theorem dX8_isElement_3 : decode cX8_isElement 3 = .ok (.invokevirtual 56, 3) := by decide +kernel
theorem dX8_isElement_6 : decode cX8_isElement 6 = .ok (.iconst 1, 1) := by decide +kernel
theorem dX8_isElement_7 : decode cX8_isElement 7 = .ok (.isub, 1) := by decide +kernel
theorem dX8_isElement_8 : decode cX8_isElement 8 = .ok (.invokestatic 60, 3) := by decide +kernel
theorem dX8_isElement_11 : decode cX8_isElement 11 = .ok (.ireturn, 1) := by decide +kernel
theorem dX8_plus_0 : decode cX8_plus 0 = .ok (.aload_n 0, 1) := by decide +kernel
theorem dX8_plus_1 : decode cX8_plus 1 = .ok (.getfield 7, 3) := by decide +kernel
theorem dX8_plus_4 : decode cX8_plus 4 = .ok (.iconst 0, 1) := by decide +kernel
theorem dX8_plus_5 : decode cX8_plus 5 = .ok (.iaload, 1) := by decide +kernel
theorem dX8_plus_6 : decode cX8_plus 6 = .ok (.istore_n 3, 1) := by decide +kernel
theorem dX8_plus_7 : decode cX8_plus 7 = .ok (.iload_n 1, 1) := by decide +kernel
theorem dX8_plus_8 : decode cX8_plus 8 = .ok (.iload_n 3, 1) := by decide +kernel
theorem dX8_plus_9 : decode cX8_plus 9 = .ok (.irem, 1) := by decide +kernel
theorem dX8_plus_10 : decode cX8_plus 10 = .ok (.iload_n 2, 1) := by decide +kernel
theorem dX8_plus_11 : decode cX8_plus 11 = .ok (.iload_n 3, 1) := by decide +kernel
theorem dX8_plus_12 : decode cX8_plus 12 = .ok (.irem, 1) := by decide +kernel
theorem dX8_plus_13 : decode cX8_plus 13 = .ok (.iadd, 1) := by decide +kernel
theorem dX8_plus_14 : decode cX8_plus 14 = .ok (.iload_n 3, 1) := by decide +kernel
theorem dX8_plus_15 : decode cX8_plus 15 = .ok (.irem, 1) := by decide +kernel
theorem dX8_plus_16 : decode cX8_plus 16 = .ok (.iload_n 3, 1) := by decide +kernel
theorem dX8_plus_17 : decode cX8_plus 17 = .ok (.iload_n 1, 1) := by decide +kernel
theorem dX8_plus_18 : decode cX8_plus 18 = .ok (.iload_n 3, 1) := by decide +kernel
theorem dX8_plus_19 : decode cX8_plus 19 = .ok (.idiv, 1) := by decide +kernel
theorem dX8_plus_20 : decode cX8_plus 20 = .ok (.iload_n 2, 1) := by decide +kernel
theorem dX8_plus_21 : decode cX8_plus 21 = .ok (.iload_n 3, 1) := by decide +kernel
theorem dX8_plus_22 : decode cX8_plus 22 = .ok (.idiv, 1) := by decide +kernel
theorem dX8_plus_23 : decode cX8_plus 23 = .ok (.iadd, 1) := by decide +kernel
theorem dX8_plus_24 : decode cX8_plus 24 = .ok (.aload_n 0, 1) := by decide +kernel
theorem dX8_plus_25 : decode cX8_plus 25 = .ok (.getfield 7, 3) := by decide +kernel
theorem dX8_plus_28 : decode cX8_plus 28 = .ok (.iconst 1, 1) := by decide +kernel
theorem dX8_plus_29 : decode cX8_plus 29 = .ok (.iaload, 1) := by decide +kernel
theorem dX8_plus_30 : decode cX8_plus 30 = .ok (.irem, 1) := by decide +kernel
theorem dX8_plus_31 : decode cX8_plus 31 = .ok (.imul, 1) := by decide +kernel
theorem dX8_plus_32 : decode cX8_plus 32 = .ok (.iadd, 1) := by decide +kernel
theorem dX8_plus_33 : decode cX8_plus 33 = .ok (.ireturn, 1) := by decide +kernel
theorem dX8_orderOf_0 : decode cX8_orderOf 0 = .ok (.iload_n 1, 1) := by decide +kernel
theorem dX8_orderOf_1 : decode cX8_orderOf 1 = .ok (.istore_n 2, 1) := by decide +kernel
theorem dX8_orderOf_2 : decode cX8_orderOf 2 = .ok (.iconst 1, 1) := by decide +kernel
theorem dX8_orderOf_3 : decode cX8_orderOf 3 = .ok (.istore_n 3, 1) := by decide +kernel
theorem dX8_orderOf_4 : decode cX8_orderOf 4 = .ok (.iload_n 2, 1) := by decide +kernel
theorem dX8_orderOf_5 : decode cX8_orderOf 5 = .ok (.ifCond .eq 16, 3) := by decide +kernel
theorem dX8_orderOf_8 : decode cX8_orderOf 8 = .ok (.aload_n 0, 1) := by decide +kernel
theorem dX8_orderOf_9 : decode cX8_orderOf 9 = .ok (.iload_n 2, 1) := by decide +kernel
theorem dX8_orderOf_10 : decode cX8_orderOf 10 = .ok (.iload_n 1, 1) := by decide +kernel
theorem dX8_orderOf_11 : decode cX8_orderOf 11 = .ok (.invokevirtual 64, 3) := by decide +kernel
theorem dX8_orderOf_14 : decode cX8_orderOf 14 = .ok (.istore_n 2, 1) := by decide +kernel
theorem dX8_orderOf_15 : decode cX8_orderOf 15 = .ok (.iinc 3 1, 3) := by decide +kernel
theorem dX8_orderOf_18 : decode cX8_orderOf 18 = .ok (.goto (-14), 3) := by decide +kernel
theorem dX8_orderOf_21 : decode cX8_orderOf 21 = .ok (.iload_n 3, 1) := by decide +kernel
theorem dX8_orderOf_22 : decode cX8_orderOf 22 = .ok (.ireturn, 1) := by decide +kernel
theorem dX8_lessOf_0 : decode cX8_lessOf 0 = .ok (.iconst 0, 1) := by decide +kernel
theorem dX8_lessOf_1 : decode cX8_lessOf 1 = .ok (.istore_n 2, 1) := by decide +kernel
theorem dX8_lessOf_2 : decode cX8_lessOf 2 = .ok (.aload_n 0, 1) := by decide +kernel
theorem dX8_lessOf_3 : decode cX8_lessOf 3 = .ok (.iload_n 1, 1) := by decide +kernel
theorem dX8_lessOf_4 : decode cX8_lessOf 4 = .ok (.iload_n 2, 1) := by decide +kernel
theorem dX8_lessOf_5 : decode cX8_lessOf 5 = .ok (.invokevirtual 64, 3) := by decide +kernel
theorem dX8_lessOf_8 : decode cX8_lessOf 8 = .ok (.ifCond .eq 9, 3) := by decide +kernel
theorem dX8_lessOf_11 : decode cX8_lessOf 11 = .ok (.iinc 2 1, 3) := by decide +kernel
theorem dX8_lessOf_14 : decode cX8_lessOf 14 = .ok (.goto (-12), 3) := by decide +kernel
theorem dX8_lessOf_17 : decode cX8_lessOf 17 = .ok (.iload_n 2, 1) := by decide +kernel
theorem dX8_lessOf_18 : decode cX8_lessOf 18 = .ok (.ireturn, 1) := by decide +kernel
theorem dX8_exponent_0 : decode cX8_exponent 0 = .ok (.iconst 1, 1) := by decide +kernel
theorem dX8_exponent_1 : decode cX8_exponent 1 = .ok (.istore_n 1, 1) := by decide +kernel
theorem dX8_exponent_2 : decode cX8_exponent 2 = .ok (.iconst 0, 1) := by decide +kernel
theorem dX8_exponent_3 : decode cX8_exponent 3 = .ok (.istore_n 2, 1) := by decide +kernel
theorem dX8_exponent_4 : decode cX8_exponent 4 = .ok (.iload_n 2, 1) := by decide +kernel
theorem dX8_exponent_5 : decode cX8_exponent 5 = .ok (.ifCond .ne 56, 3) := by decide +kernel
theorem dX8_exponent_8 : decode cX8_exponent 8 = .ok (.iconst 1, 1) := by decide +kernel
theorem dX8_exponent_9 : decode cX8_exponent 9 = .ok (.istore_n 2, 1) := by decide +kernel
theorem dX8_exponent_10 : decode cX8_exponent 10 = .ok (.iconst 0, 1) := by decide +kernel
theorem dX8_exponent_11 : decode cX8_exponent 11 = .ok (.istore_n 3, 1) := by decide +kernel
theorem dX8_exponent_12 : decode cX8_exponent 12 = .ok (.iload_n 3, 1) := by decide +kernel
theorem dX8_exponent_13 : decode cX8_exponent 13 = .ok (.aload_n 0, 1) := by decide +kernel
theorem dX8_exponent_14 : decode cX8_exponent 14 = .ok (.invokevirtual 56, 3) := by decide +kernel
theorem dX8_exponent_17 : decode cX8_exponent 17 = .ok (.if_icmp .ge 29, 3) := by decide +kernel
theorem dX8_exponent_20 : decode cX8_exponent 20 = .ok (.iload_n 2, 1) := by decide +kernel
theorem dX8_exponent_21 : decode cX8_exponent 21 = .ok (.ifCond .eq 17, 3) := by decide +kernel
theorem dX8_exponent_24 : decode cX8_exponent 24 = .ok (.iload_n 1, 1) := by decide +kernel
theorem dX8_exponent_25 : decode cX8_exponent 25 = .ok (.aload_n 0, 1) := by decide +kernel
theorem dX8_exponent_26 : decode cX8_exponent 26 = .ok (.iload_n 3, 1) := by decide +kernel
theorem dX8_exponent_27 : decode cX8_exponent 27 = .ok (.invokevirtual 68, 3) := by decide +kernel
theorem dX8_exponent_30 : decode cX8_exponent 30 = .ok (.irem, 1) := by decide +kernel
theorem dX8_exponent_31 : decode cX8_exponent 31 = .ok (.ifCond .ne 7, 3) := by decide +kernel
theorem dX8_exponent_34 : decode cX8_exponent 34 = .ok (.iconst 1, 1) := by decide +kernel
theorem dX8_exponent_35 : decode cX8_exponent 35 = .ok (.goto 4, 3) := by decide +kernel
theorem dX8_exponent_38 : decode cX8_exponent 38 = .ok (.iconst 0, 1) := by decide +kernel
theorem dX8_exponent_39 : decode cX8_exponent 39 = .ok (.istore_n 2, 1) := by decide +kernel
theorem dX8_exponent_40 : decode cX8_exponent 40 = .ok (.iinc 3 1, 3) := by decide +kernel
theorem dX8_exponent_43 : decode cX8_exponent 43 = .ok (.goto (-31), 3) := by decide +kernel
theorem dX8_exponent_46 : decode cX8_exponent 46 = .ok (.iload_n 1, 1) := by decide +kernel
theorem dX8_exponent_47 : decode cX8_exponent 47 = .ok (.iload_n 2, 1) := by decide +kernel
theorem dX8_exponent_48 : decode cX8_exponent 48 = .ok (.ifCond .eq 7, 3) := by decide +kernel
theorem dX8_exponent_51 : decode cX8_exponent 51 = .ok (.iconst 0, 1) := by decide +kernel
theorem dX8_exponent_52 : decode cX8_exponent 52 = .ok (.goto 4, 3) := by decide +kernel
theorem dX8_exponent_55 : decode cX8_exponent 55 = .ok (.iconst 1, 1) := by decide +kernel
theorem dX8_exponent_56 : decode cX8_exponent 56 = .ok (.iadd, 1) := by decide +kernel
theorem dX8_exponent_57 : decode cX8_exponent 57 = .ok (.istore_n 1, 1) := by decide +kernel
theorem dX8_exponent_58 : decode cX8_exponent 58 = .ok (.goto (-54), 3) := by decide +kernel
theorem dX8_exponent_61 : decode cX8_exponent 61 = .ok (.iload_n 1, 1) := by decide +kernel
theorem dX8_exponent_62 : decode cX8_exponent 62 = .ok (.ireturn, 1) := by decide +kernel
theorem dX8_begin_0 : decode cX8_begin 0 = .ok (.aload_n 0, 1) := by decide +kernel
theorem dX8_begin_1 : decode cX8_begin 1 = .ok (.iload_n 1, 1) := by decide +kernel
theorem dX8_begin_2 : decode cX8_begin 2 = .ok (.iconst 1, 1) := by decide +kernel
theorem dX8_begin_3 : decode cX8_begin 3 = .ok (.bipush 6, 2) := by decide +kernel
theorem dX8_begin_5 : decode cX8_begin 5 = .ok (.invokestatic 60, 3) := by decide +kernel
theorem dX8_begin_8 : decode cX8_begin 8 = .ok (.ifCond .eq 13, 3) := by decide +kernel
theorem dX8_begin_11 : decode cX8_begin 11 = .ok (.iload_n 2, 1) := by decide +kernel
theorem dX8_begin_12 : decode cX8_begin 12 = .ok (.iconst 1, 1) := by decide +kernel
theorem dX8_begin_13 : decode cX8_begin 13 = .ok (.bipush 6, 2) := by decide +kernel
theorem dX8_begin_15 : decode cX8_begin 15 = .ok (.invokestatic 60, 3) := by decide +kernel
theorem dX8_begin_18 : decode cX8_begin 18 = .ok (.ifCond .ne 7, 3) := by decide +kernel
theorem dX8_begin_21 : decode cX8_begin 21 = .ok (.iconst 1, 1) := by decide +kernel
theorem dX8_begin_22 : decode cX8_begin 22 = .ok (.goto 4, 3) := by decide +kernel
theorem dX8_begin_25 : decode cX8_begin 25 = .ok (.iconst 0, 1) := by decide +kernel
theorem dX8_begin_26 : decode cX8_begin 26 = .ok (.invokevirtual 52, 3) := by decide +kernel
theorem dX8_begin_29 : decode cX8_begin 29 = .ok (.ifCond .eq 5, 3) := by decide +kernel
theorem dX8_begin_32 : decode cX8_begin 32 = .ok (.iconst 0, 1) := by decide +kernel
theorem dX8_begin_33 : decode cX8_begin 33 = .ok (.ireturn, 1) := by decide +kernel
theorem dX8_begin_34 : decode cX8_begin 34 = .ok (.aload_n 0, 1) := by decide +kernel
theorem dX8_begin_35 : decode cX8_begin 35 = .ok (.invokevirtual 72, 3) := by decide +kernel
theorem dX8_begin_38 : decode cX8_begin 38 = .ok (.aload_n 0, 1) := by decide +kernel
theorem dX8_begin_39 : decode cX8_begin 39 = .ok (.getfield 7, 3) := by decide +kernel
theorem dX8_begin_42 : decode cX8_begin 42 = .ok (.iconst 0, 1) := by decide +kernel
theorem dX8_begin_43 : decode cX8_begin 43 = .ok (.iload_n 1, 1) := by decide +kernel
theorem dX8_begin_44 : decode cX8_begin 44 = .ok (.iastore, 1) := by decide +kernel
theorem dX8_begin_45 : decode cX8_begin 45 = .ok (.aload_n 0, 1) := by decide +kernel
theorem dX8_begin_46 : decode cX8_begin 46 = .ok (.getfield 7, 3) := by decide +kernel
theorem dX8_begin_49 : decode cX8_begin 49 = .ok (.iconst 1, 1) := by decide +kernel
theorem dX8_begin_50 : decode cX8_begin 50 = .ok (.iload_n 2, 1) := by decide +kernel
theorem dX8_begin_51 : decode cX8_begin 51 = .ok (.iastore, 1) := by decide +kernel
theorem dX8_begin_52 : decode cX8_begin 52 = .ok (.aload_n 0, 1) := by decide +kernel
theorem dX8_begin_53 : decode cX8_begin 53 = .ok (.getfield 7, 3) := by decide +kernel
theorem dX8_begin_56 : decode cX8_begin 56 = .ok (.iconst 2, 1) := by decide +kernel
theorem dX8_begin_57 : decode cX8_begin 57 = .ok (.iconst 0, 1) := by decide +kernel
theorem dX8_begin_58 : decode cX8_begin 58 = .ok (.iastore, 1) := by decide +kernel
theorem dX8_begin_59 : decode cX8_begin 59 = .ok (.aload_n 0, 1) := by decide +kernel
theorem dX8_begin_60 : decode cX8_begin 60 = .ok (.invokevirtual 56, 3) := by decide +kernel
theorem dX8_begin_63 : decode cX8_begin 63 = .ok (.ireturn, 1) := by decide +kernel
theorem dX8_sum_0 : decode cX8_sum 0 = .ok (.aload_n 0, 1) := by decide +kernel
theorem dX8_sum_1 : decode cX8_sum 1 = .ok (.aload_n 0, 1) := by decide +kernel
theorem dX8_sum_2 : decode cX8_sum 2 = .ok (.iload_n 1, 1) := by decide +kernel
theorem dX8_sum_3 : decode cX8_sum 3 = .ok (.invokevirtual 75, 3) := by decide +kernel
theorem dX8_sum_6 : decode cX8_sum 6 = .ok (.ifCond .eq 11, 3) := by decide +kernel
theorem dX8_sum_9 : decode cX8_sum 9 = .ok (.aload_n 0, 1) := by decide +kernel
theorem dX8_sum_10 : decode cX8_sum 10 = .ok (.iload_n 2, 1) := by decide +kernel
theorem dX8_sum_11 : decode cX8_sum 11 = .ok (.invokevirtual 75, 3) := by decide +kernel
theorem dX8_sum_14 : decode cX8_sum 14 = .ok (.ifCond .ne 7, 3) := by decide +kernel
theorem dX8_sum_17 : decode cX8_sum 17 = .ok (.iconst 1, 1) := by decide +kernel
theorem dX8_sum_18 : decode cX8_sum 18 = .ok (.goto 4, 3) := by decide +kernel
theorem dX8_sum_21 : decode cX8_sum 21 = .ok (.iconst 0, 1) := by decide +kernel
theorem dX8_sum_22 : decode cX8_sum 22 = .ok (.invokevirtual 52, 3) := by decide +kernel
theorem dX8_sum_25 : decode cX8_sum 25 = .ok (.ifCond .eq 7, 3) := by decide +kernel
theorem dX8_sum_28 : decode cX8_sum 28 = .ok (.iconst 0, 1) := by decide +kernel
theorem dX8_sum_29 : decode cX8_sum 29 = .ok (.goto 9, 3) := by decide +kernel
theorem dX8_sum_32 : decode cX8_sum 32 = .ok (.aload_n 0, 1) := by decide +kernel
theorem dX8_sum_33 : decode cX8_sum 33 = .ok (.iload_n 1, 1) := by decide +kernel
theorem dX8_sum_34 : decode cX8_sum 34 = .ok (.iload_n 2, 1) := by decide +kernel
theorem dX8_sum_35 : decode cX8_sum 35 = .ok (.invokevirtual 64, 3) := by decide +kernel
theorem dX8_sum_38 : decode cX8_sum 38 = .ok (.ireturn, 1) := by decide +kernel
theorem dX8_bound_0 : decode cX8_bound 0 = .ok (.aload_n 0, 1) := by decide +kernel
theorem dX8_bound_1 : decode cX8_bound 1 = .ok (.iconst 0, 1) := by decide +kernel
theorem dX8_bound_2 : decode cX8_bound 2 = .ok (.putfield 41, 3) := by decide +kernel
theorem dX8_bound_5 : decode cX8_bound 5 = .ok (.aload_n 0, 1) := by decide +kernel
theorem dX8_bound_6 : decode cX8_bound 6 = .ok (.getfield 7, 3) := by decide +kernel
theorem dX8_bound_9 : decode cX8_bound 9 = .ok (.iconst 0, 1) := by decide +kernel
theorem dX8_bound_10 : decode cX8_bound 10 = .ok (.iaload, 1) := by decide +kernel
theorem dX8_bound_11 : decode cX8_bound 11 = .ok (.istore_n 1, 1) := by decide +kernel
theorem dX8_bound_12 : decode cX8_bound 12 = .ok (.aload_n 0, 1) := by decide +kernel
theorem dX8_bound_13 : decode cX8_bound 13 = .ok (.getfield 7, 3) := by decide +kernel
theorem dX8_bound_16 : decode cX8_bound 16 = .ok (.iconst 0, 1) := by decide +kernel
theorem dX8_bound_17 : decode cX8_bound 17 = .ok (.iaload, 1) := by decide +kernel
theorem dX8_bound_18 : decode cX8_bound 18 = .ok (.iload_n 1, 1) := by decide +kernel
theorem dX8_bound_19 : decode cX8_bound 19 = .ok (.irem, 1) := by decide +kernel
theorem dX8_bound_20 : decode cX8_bound 20 = .ok (.ifCond .ne 14, 3) := by decide +kernel
theorem dX8_bound_23 : decode cX8_bound 23 = .ok (.aload_n 0, 1) := by decide +kernel
theorem dX8_bound_24 : decode cX8_bound 24 = .ok (.getfield 7, 3) := by decide +kernel
theorem dX8_bound_27 : decode cX8_bound 27 = .ok (.iconst 1, 1) := by decide +kernel
theorem dX8_bound_28 : decode cX8_bound 28 = .ok (.iaload, 1) := by decide +kernel
theorem dX8_bound_29 : decode cX8_bound 29 = .ok (.iload_n 1, 1) := by decide +kernel
theorem dX8_bound_30 : decode cX8_bound 30 = .ok (.irem, 1) := by decide +kernel
theorem dX8_bound_31 : decode cX8_bound 31 = .ok (.ifCond .eq 9, 3) := by decide +kernel
theorem dX8_bound_34 : decode cX8_bound 34 = .ok (.iinc 1 (-1), 3) := by decide +kernel
theorem dX8_bound_37 : decode cX8_bound 37 = .ok (.goto (-25), 3) := by decide +kernel
theorem dX8_bound_40 : decode cX8_bound 40 = .ok (.iload_n 1, 1) := by decide +kernel
theorem dX8_bound_41 : decode cX8_bound 41 = .ok (.aload_n 0, 1) := by decide +kernel
theorem dX8_bound_42 : decode cX8_bound 42 = .ok (.getfield 7, 3) := by decide +kernel
theorem dX8_bound_45 : decode cX8_bound 45 = .ok (.iconst 0, 1) := by decide +kernel
theorem dX8_bound_46 : decode cX8_bound 46 = .ok (.iaload, 1) := by decide +kernel
theorem dX8_bound_47 : decode cX8_bound 47 = .ok (.aload_n 0, 1) := by decide +kernel
theorem dX8_bound_48 : decode cX8_bound 48 = .ok (.getfield 7, 3) := by decide +kernel
theorem dX8_bound_51 : decode cX8_bound 51 = .ok (.iconst 1, 1) := by decide +kernel
theorem dX8_bound_52 : decode cX8_bound 52 = .ok (.iaload, 1) := by decide +kernel
theorem dX8_bound_53 : decode cX8_bound 53 = .ok (.imul, 1) := by decide +kernel
theorem dX8_bound_54 : decode cX8_bound 54 = .ok (.iload_n 1, 1) := by decide +kernel
theorem dX8_bound_55 : decode cX8_bound 55 = .ok (.idiv, 1) := by decide +kernel
theorem dX8_bound_56 : decode cX8_bound 56 = .ok (.iadd, 1) := by decide +kernel
theorem dX8_bound_57 : decode cX8_bound 57 = .ok (.iconst 1, 1) := by decide +kernel
theorem dX8_bound_58 : decode cX8_bound 58 = .ok (.isub, 1) := by decide +kernel
theorem dX8_bound_59 : decode cX8_bound 59 = .ok (.ireturn, 1) := by decide +kernel
theorem dX8_isPlace_0 : decode cX8_isPlace 0 = .ok (.iload_n 1, 1) := by decide +kernel
theorem dX8_isPlace_1 : decode cX8_isPlace 1 = .ok (.iconst 0, 1) := by decide +kernel
theorem dX8_isPlace_2 : decode cX8_isPlace 2 = .ok (.aload_n 0, 1) := by decide +kernel
theorem dX8_isPlace_3 : decode cX8_isPlace 3 = .ok (.getfield 7, 3) := by decide +kernel
theorem dX8_isPlace_6 : decode cX8_isPlace 6 = .ok (.iconst 2, 1) := by decide +kernel
theorem dX8_isPlace_7 : decode cX8_isPlace 7 = .ok (.iaload, 1) := by decide +kernel
theorem dX8_isPlace_8 : decode cX8_isPlace 8 = .ok (.iconst 1, 1) := by decide +kernel
theorem dX8_isPlace_9 : decode cX8_isPlace 9 = .ok (.isub, 1) := by decide +kernel
theorem dX8_isPlace_10 : decode cX8_isPlace 10 = .ok (.invokestatic 60, 3) := by decide +kernel
theorem dX8_isPlace_13 : decode cX8_isPlace 13 = .ok (.ireturn, 1) := by decide +kernel
theorem dX8_add_0 : decode cX8_add 0 = .ok (.aload_n 0, 1) := by decide +kernel
theorem dX8_add_1 : decode cX8_add 1 = .ok (.aload_n 0, 1) := by decide +kernel
theorem dX8_add_2 : decode cX8_add 2 = .ok (.iload_n 1, 1) := by decide +kernel
theorem dX8_add_3 : decode cX8_add 3 = .ok (.invokevirtual 75, 3) := by decide +kernel
theorem dX8_add_6 : decode cX8_add 6 = .ok (.ifCond .ne 7, 3) := by decide +kernel
theorem dX8_add_9 : decode cX8_add 9 = .ok (.iconst 1, 1) := by decide +kernel
theorem dX8_add_10 : decode cX8_add 10 = .ok (.goto 19, 3) := by decide +kernel
theorem dX8_add_13 : decode cX8_add 13 = .ok (.aload_n 0, 1) := by decide +kernel
theorem dX8_add_14 : decode cX8_add 14 = .ok (.getfield 7, 3) := by decide +kernel
theorem dX8_add_17 : decode cX8_add 17 = .ok (.iconst 2, 1) := by decide +kernel
theorem dX8_add_18 : decode cX8_add 18 = .ok (.iaload, 1) := by decide +kernel
theorem dX8_add_19 : decode cX8_add 19 = .ok (.bipush 10, 2) := by decide +kernel
theorem dX8_add_21 : decode cX8_add 21 = .ok (.if_icmp .ne 7, 3) := by decide +kernel
theorem dX8_add_24 : decode cX8_add 24 = .ok (.iconst 2, 1) := by decide +kernel
theorem dX8_add_25 : decode cX8_add 25 = .ok (.goto 4, 3) := by decide +kernel
theorem dX8_add_28 : decode cX8_add 28 = .ok (.iconst 0, 1) := by decide +kernel
theorem dX8_add_29 : decode cX8_add 29 = .ok (.invokevirtual 52, 3) := by decide +kernel
theorem dX8_add_32 : decode cX8_add 32 = .ok (.ifCond .eq 5, 3) := by decide +kernel
theorem dX8_add_35 : decode cX8_add 35 = .ok (.iconst 0, 1) := by decide +kernel
theorem dX8_add_36 : decode cX8_add 36 = .ok (.ireturn, 1) := by decide +kernel
theorem dX8_add_37 : decode cX8_add 37 = .ok (.aload_n 0, 1) := by decide +kernel
theorem dX8_add_38 : decode cX8_add 38 = .ok (.invokevirtual 72, 3) := by decide +kernel
theorem dX8_add_41 : decode cX8_add 41 = .ok (.aload_n 0, 1) := by decide +kernel
theorem dX8_add_42 : decode cX8_add 42 = .ok (.getfield 7, 3) := by decide +kernel
theorem dX8_add_45 : decode cX8_add 45 = .ok (.iconst 2, 1) := by decide +kernel
theorem dX8_add_46 : decode cX8_add 46 = .ok (.iaload, 1) := by decide +kernel
theorem dX8_add_47 : decode cX8_add 47 = .ok (.istore_n 2, 1) := by decide +kernel
theorem dX8_add_48 : decode cX8_add 48 = .ok (.aload_n 0, 1) := by decide +kernel
theorem dX8_add_49 : decode cX8_add 49 = .ok (.getfield 7, 3) := by decide +kernel
theorem dX8_add_52 : decode cX8_add 52 = .ok (.iconst 3, 1) := by decide +kernel
theorem dX8_add_53 : decode cX8_add 53 = .ok (.iload_n 2, 1) := by decide +kernel
theorem dX8_add_54 : decode cX8_add 54 = .ok (.iadd, 1) := by decide +kernel
theorem dX8_add_55 : decode cX8_add 55 = .ok (.iload_n 1, 1) := by decide +kernel
theorem dX8_add_56 : decode cX8_add 56 = .ok (.iastore, 1) := by decide +kernel
theorem dX8_add_57 : decode cX8_add 57 = .ok (.aload_n 0, 1) := by decide +kernel
theorem dX8_add_58 : decode cX8_add 58 = .ok (.getfield 7, 3) := by decide +kernel
theorem dX8_add_61 : decode cX8_add 61 = .ok (.bipush 13, 2) := by decide +kernel
theorem dX8_add_63 : decode cX8_add 63 = .ok (.iload_n 2, 1) := by decide +kernel
theorem dX8_add_64 : decode cX8_add 64 = .ok (.iadd, 1) := by decide +kernel
theorem dX8_add_65 : decode cX8_add 65 = .ok (.iconst 0, 1) := by decide +kernel
theorem dX8_add_66 : decode cX8_add 66 = .ok (.iastore, 1) := by decide +kernel
theorem dX8_add_67 : decode cX8_add 67 = .ok (.aload_n 0, 1) := by decide +kernel
theorem dX8_add_68 : decode cX8_add 68 = .ok (.getfield 7, 3) := by decide +kernel
theorem dX8_add_71 : decode cX8_add 71 = .ok (.iconst 2, 1) := by decide +kernel
theorem dX8_add_72 : decode cX8_add 72 = .ok (.dup2, 1) := by decide +kernel
theorem dX8_add_73 : decode cX8_add 73 = .ok (.iaload, 1) := by decide +kernel
theorem dX8_add_74 : decode cX8_add 74 = .ok (.iconst 1, 1) := by decide +kernel
theorem dX8_add_75 : decode cX8_add 75 = .ok (.iadd, 1) := by decide +kernel
theorem dX8_add_76 : decode cX8_add 76 = .ok (.iastore, 1) := by decide +kernel
theorem dX8_add_77 : decode cX8_add 77 = .ok (.iload_n 2, 1) := by decide +kernel
theorem dX8_add_78 : decode cX8_add 78 = .ok (.ireturn, 1) := by decide +kernel
theorem dX8_removeAt_0 : decode cX8_removeAt 0 = .ok (.aload_n 0, 1) := by decide +kernel
theorem dX8_removeAt_1 : decode cX8_removeAt 1 = .ok (.aload_n 0, 1) := by decide +kernel
theorem dX8_removeAt_2 : decode cX8_removeAt 2 = .ok (.iload_n 1, 1) := by decide +kernel
theorem dX8_removeAt_3 : decode cX8_removeAt 3 = .ok (.invokevirtual 78, 3) := by decide +kernel
theorem dX8_removeAt_6 : decode cX8_removeAt 6 = .ok (.ifCond .ne 7, 3) := by decide +kernel
theorem dX8_removeAt_9 : decode cX8_removeAt 9 = .ok (.iconst 1, 1) := by decide +kernel
theorem dX8_removeAt_10 : decode cX8_removeAt 10 = .ok (.goto 4, 3) := by decide +kernel
theorem dX8_removeAt_13 : decode cX8_removeAt 13 = .ok (.iconst 0, 1) := by decide +kernel
theorem dX8_removeAt_14 : decode cX8_removeAt 14 = .ok (.invokevirtual 52, 3) := by decide +kernel
theorem dX8_removeAt_17 : decode cX8_removeAt 17 = .ok (.ifCond .eq 5, 3) := by decide +kernel
theorem dX8_removeAt_20 : decode cX8_removeAt 20 = .ok (.iconst 0, 1) := by decide +kernel
theorem dX8_removeAt_21 : decode cX8_removeAt 21 = .ok (.ireturn, 1) := by decide +kernel
theorem dX8_removeAt_22 : decode cX8_removeAt 22 = .ok (.aload_n 0, 1) := by decide +kernel
theorem dX8_removeAt_23 : decode cX8_removeAt 23 = .ok (.invokevirtual 72, 3) := by decide +kernel
theorem dX8_removeAt_26 : decode cX8_removeAt 26 = .ok (.aload_n 0, 1) := by decide +kernel
theorem dX8_removeAt_27 : decode cX8_removeAt 27 = .ok (.getfield 7, 3) := by decide +kernel
theorem dX8_removeAt_30 : decode cX8_removeAt 30 = .ok (.iconst 3, 1) := by decide +kernel
theorem dX8_removeAt_31 : decode cX8_removeAt 31 = .ok (.iload_n 1, 1) := by decide +kernel
theorem dX8_removeAt_32 : decode cX8_removeAt 32 = .ok (.iadd, 1) := by decide +kernel
theorem dX8_removeAt_33 : decode cX8_removeAt 33 = .ok (.iaload, 1) := by decide +kernel
theorem dX8_removeAt_34 : decode cX8_removeAt 34 = .ok (.istore_n 2, 1) := by decide +kernel
theorem dX8_removeAt_35 : decode cX8_removeAt 35 = .ok (.aload_n 0, 1) := by decide +kernel
theorem dX8_removeAt_36 : decode cX8_removeAt 36 = .ok (.getfield 7, 3) := by decide +kernel
theorem dX8_removeAt_39 : decode cX8_removeAt 39 = .ok (.iconst 2, 1) := by decide +kernel
theorem dX8_removeAt_40 : decode cX8_removeAt 40 = .ok (.dup2, 1) := by decide +kernel
theorem dX8_removeAt_41 : decode cX8_removeAt 41 = .ok (.iaload, 1) := by decide +kernel
theorem dX8_removeAt_42 : decode cX8_removeAt 42 = .ok (.iconst 1, 1) := by decide +kernel
theorem dX8_removeAt_43 : decode cX8_removeAt 43 = .ok (.isub, 1) := by decide +kernel
theorem dX8_removeAt_44 : decode cX8_removeAt 44 = .ok (.iastore, 1) := by decide +kernel
theorem dX8_removeAt_45 : decode cX8_removeAt 45 = .ok (.iload_n 1, 1) := by decide +kernel
theorem dX8_removeAt_46 : decode cX8_removeAt 46 = .ok (.istore_n 3, 1) := by decide +kernel
theorem dX8_removeAt_47 : decode cX8_removeAt 47 = .ok (.iload_n 3, 1) := by decide +kernel
theorem dX8_removeAt_48 : decode cX8_removeAt 48 = .ok (.aload_n 0, 1) := by decide +kernel
theorem dX8_removeAt_49 : decode cX8_removeAt 49 = .ok (.getfield 7, 3) := by decide +kernel
theorem dX8_removeAt_52 : decode cX8_removeAt 52 = .ok (.iconst 2, 1) := by decide +kernel
theorem dX8_removeAt_53 : decode cX8_removeAt 53 = .ok (.iaload, 1) := by decide +kernel
theorem dX8_removeAt_54 : decode cX8_removeAt 54 = .ok (.if_icmp .ge 47, 3) := by decide +kernel
theorem dX8_removeAt_57 : decode cX8_removeAt 57 = .ok (.aload_n 0, 1) := by decide +kernel
theorem dX8_removeAt_58 : decode cX8_removeAt 58 = .ok (.getfield 7, 3) := by decide +kernel
theorem dX8_removeAt_61 : decode cX8_removeAt 61 = .ok (.iconst 3, 1) := by decide +kernel
theorem dX8_removeAt_62 : decode cX8_removeAt 62 = .ok (.iload_n 3, 1) := by decide +kernel
theorem dX8_removeAt_63 : decode cX8_removeAt 63 = .ok (.iadd, 1) := by decide +kernel
theorem dX8_removeAt_64 : decode cX8_removeAt 64 = .ok (.aload_n 0, 1) := by decide +kernel
theorem dX8_removeAt_65 : decode cX8_removeAt 65 = .ok (.getfield 7, 3) := by decide +kernel
theorem dX8_removeAt_68 : decode cX8_removeAt 68 = .ok (.iconst 3, 1) := by decide +kernel
theorem dX8_removeAt_69 : decode cX8_removeAt 69 = .ok (.iload_n 3, 1) := by decide +kernel
theorem dX8_removeAt_70 : decode cX8_removeAt 70 = .ok (.iadd, 1) := by decide +kernel
theorem dX8_removeAt_71 : decode cX8_removeAt 71 = .ok (.iconst 1, 1) := by decide +kernel
theorem dX8_removeAt_72 : decode cX8_removeAt 72 = .ok (.iadd, 1) := by decide +kernel
theorem dX8_removeAt_73 : decode cX8_removeAt 73 = .ok (.iaload, 1) := by decide +kernel
theorem dX8_removeAt_74 : decode cX8_removeAt 74 = .ok (.iastore, 1) := by decide +kernel
theorem dX8_removeAt_75 : decode cX8_removeAt 75 = .ok (.aload_n 0, 1) := by decide +kernel
theorem dX8_removeAt_76 : decode cX8_removeAt 76 = .ok (.getfield 7, 3) := by decide +kernel
theorem dX8_removeAt_79 : decode cX8_removeAt 79 = .ok (.bipush 13, 2) := by decide +kernel
theorem dX8_removeAt_81 : decode cX8_removeAt 81 = .ok (.iload_n 3, 1) := by decide +kernel
theorem dX8_removeAt_82 : decode cX8_removeAt 82 = .ok (.iadd, 1) := by decide +kernel
theorem dX8_removeAt_83 : decode cX8_removeAt 83 = .ok (.aload_n 0, 1) := by decide +kernel
theorem dX8_removeAt_84 : decode cX8_removeAt 84 = .ok (.getfield 7, 3) := by decide +kernel
theorem dX8_removeAt_87 : decode cX8_removeAt 87 = .ok (.bipush 13, 2) := by decide +kernel
theorem dX8_removeAt_89 : decode cX8_removeAt 89 = .ok (.iload_n 3, 1) := by decide +kernel
theorem dX8_removeAt_90 : decode cX8_removeAt 90 = .ok (.iadd, 1) := by decide +kernel
theorem dX8_removeAt_91 : decode cX8_removeAt 91 = .ok (.iconst 1, 1) := by decide +kernel
theorem dX8_removeAt_92 : decode cX8_removeAt 92 = .ok (.iadd, 1) := by decide +kernel
theorem dX8_removeAt_93 : decode cX8_removeAt 93 = .ok (.iaload, 1) := by decide +kernel
theorem dX8_removeAt_94 : decode cX8_removeAt 94 = .ok (.iastore, 1) := by decide +kernel
theorem dX8_removeAt_95 : decode cX8_removeAt 95 = .ok (.iinc 3 1, 3) := by decide +kernel
theorem dX8_removeAt_98 : decode cX8_removeAt 98 = .ok (.goto (-51), 3) := by decide +kernel
theorem dX8_removeAt_101 : decode cX8_removeAt 101 = .ok (.iload_n 2, 1) := by decide +kernel
theorem dX8_removeAt_102 : decode cX8_removeAt 102 = .ok (.ireturn, 1) := by decide +kernel
theorem dX8_lay_0 : decode cX8_lay 0 = .ok (.aload_n 0, 1) := by decide +kernel
theorem dX8_lay_1 : decode cX8_lay 1 = .ok (.aload_n 0, 1) := by decide +kernel
theorem dX8_lay_2 : decode cX8_lay 2 = .ok (.iload_n 1, 1) := by decide +kernel
theorem dX8_lay_3 : decode cX8_lay 3 = .ok (.invokevirtual 78, 3) := by decide +kernel
theorem dX8_lay_6 : decode cX8_lay 6 = .ok (.ifCond .ne 7, 3) := by decide +kernel
theorem dX8_lay_9 : decode cX8_lay 9 = .ok (.iconst 1, 1) := by decide +kernel
theorem dX8_lay_10 : decode cX8_lay 10 = .ok (.goto 17, 3) := by decide +kernel
theorem dX8_lay_13 : decode cX8_lay 13 = .ok (.iload_n 2, 1) := by decide +kernel
theorem dX8_lay_14 : decode cX8_lay 14 = .ok (.iconst 0, 1) := by decide +kernel
theorem dX8_lay_15 : decode cX8_lay 15 = .ok (.iconst 5, 1) := by decide +kernel
theorem dX8_lay_16 : decode cX8_lay 16 = .ok (.invokestatic 60, 3) := by decide +kernel
theorem dX8_lay_19 : decode cX8_lay 19 = .ok (.ifCond .ne 7, 3) := by decide +kernel
theorem dX8_lay_22 : decode cX8_lay 22 = .ok (.iconst 2, 1) := by decide +kernel
theorem dX8_lay_23 : decode cX8_lay 23 = .ok (.goto 4, 3) := by decide +kernel
theorem dX8_lay_26 : decode cX8_lay 26 = .ok (.iconst 0, 1) := by decide +kernel
theorem dX8_lay_27 : decode cX8_lay 27 = .ok (.invokevirtual 52, 3) := by decide +kernel
theorem dX8_lay_30 : decode cX8_lay 30 = .ok (.ifCond .eq 5, 3) := by decide +kernel
theorem dX8_lay_33 : decode cX8_lay 33 = .ok (.iconst 0, 1) := by decide +kernel
theorem dX8_lay_34 : decode cX8_lay 34 = .ok (.ireturn, 1) := by decide +kernel
theorem dX8_lay_35 : decode cX8_lay 35 = .ok (.aload_n 0, 1) := by decide +kernel
theorem dX8_lay_36 : decode cX8_lay 36 = .ok (.invokevirtual 72, 3) := by decide +kernel
theorem dX8_lay_39 : decode cX8_lay 39 = .ok (.aload_n 0, 1) := by decide +kernel
theorem dX8_lay_40 : decode cX8_lay 40 = .ok (.getfield 7, 3) := by decide +kernel
theorem dX8_lay_43 : decode cX8_lay 43 = .ok (.bipush 13, 2) := by decide +kernel
theorem dX8_lay_45 : decode cX8_lay 45 = .ok (.iload_n 1, 1) := by decide +kernel
theorem dX8_lay_46 : decode cX8_lay 46 = .ok (.iadd, 1) := by decide +kernel
theorem dX8_lay_47 : decode cX8_lay 47 = .ok (.iaload, 1) := by decide +kernel
theorem dX8_lay_48 : decode cX8_lay 48 = .ok (.istore_n 3, 1) := by decide +kernel
theorem dX8_lay_49 : decode cX8_lay 49 = .ok (.aload_n 0, 1) := by decide +kernel
theorem dX8_lay_50 : decode cX8_lay 50 = .ok (.getfield 7, 3) := by decide +kernel
theorem dX8_lay_53 : decode cX8_lay 53 = .ok (.bipush 13, 2) := by decide +kernel
theorem dX8_lay_55 : decode cX8_lay 55 = .ok (.iload_n 1, 1) := by decide +kernel
theorem dX8_lay_56 : decode cX8_lay 56 = .ok (.iadd, 1) := by decide +kernel
theorem dX8_lay_57 : decode cX8_lay 57 = .ok (.iload_n 2, 1) := by decide +kernel
theorem dX8_lay_58 : decode cX8_lay 58 = .ok (.iastore, 1) := by decide +kernel
theorem dX8_lay_59 : decode cX8_lay 59 = .ok (.iload_n 3, 1) := by decide +kernel
theorem dX8_lay_60 : decode cX8_lay 60 = .ok (.ireturn, 1) := by decide +kernel
theorem dX8_has_0 : decode cX8_has 0 = .ok (.iload_n 0, 1) := by decide +kernel
theorem dX8_has_1 : decode cX8_has 1 = .ok (.iload_n 1, 1) := by decide +kernel
theorem dX8_has_2 : decode cX8_has 2 = .ok (.ishr, 1) := by decide +kernel
theorem dX8_has_3 : decode cX8_has 3 = .ok (.iconst 1, 1) := by decide +kernel
theorem dX8_has_4 : decode cX8_has 4 = .ok (.iand, 1) := by decide +kernel
theorem dX8_has_5 : decode cX8_has 5 = .ok (.iconst 1, 1) := by decide +kernel
theorem dX8_has_6 : decode cX8_has 6 = .ok (.if_icmp .ne 7, 3) := by decide +kernel
theorem dX8_has_9 : decode cX8_has 9 = .ok (.iconst 1, 1) := by decide +kernel
theorem dX8_has_10 : decode cX8_has 10 = .ok (.goto 4, 3) := by decide +kernel
theorem dX8_has_13 : decode cX8_has 13 = .ok (.iconst 0, 1) := by decide +kernel
theorem dX8_has_14 : decode cX8_has 14 = .ok (.ireturn, 1) := by decide +kernel
theorem dX8_bits_0 : decode cX8_bits 0 = .ok (.iconst 0, 1) := by decide +kernel
theorem dX8_bits_1 : decode cX8_bits 1 = .ok (.istore_n 1, 1) := by decide +kernel
theorem dX8_bits_2 : decode cX8_bits 2 = .ok (.iconst 0, 1) := by decide +kernel
theorem dX8_bits_3 : decode cX8_bits 3 = .ok (.istore_n 2, 1) := by decide +kernel
theorem dX8_bits_4 : decode cX8_bits 4 = .ok (.iload_n 2, 1) := by decide +kernel
theorem dX8_bits_5 : decode cX8_bits 5 = .ok (.bipush 11, 2) := by decide +kernel
theorem dX8_bits_7 : decode cX8_bits 7 = .ok (.if_icmp .ge 17, 3) := by decide +kernel
theorem dX8_bits_10 : decode cX8_bits 10 = .ok (.iload_n 1, 1) := by decide +kernel
theorem dX8_bits_11 : decode cX8_bits 11 = .ok (.iload_n 0, 1) := by decide +kernel
theorem dX8_bits_12 : decode cX8_bits 12 = .ok (.iload_n 2, 1) := by decide +kernel
theorem dX8_bits_13 : decode cX8_bits 13 = .ok (.ishr, 1) := by decide +kernel
theorem dX8_bits_14 : decode cX8_bits 14 = .ok (.iconst 1, 1) := by decide +kernel
theorem dX8_bits_15 : decode cX8_bits 15 = .ok (.iand, 1) := by decide +kernel
theorem dX8_bits_16 : decode cX8_bits 16 = .ok (.iadd, 1) := by decide +kernel
theorem dX8_bits_17 : decode cX8_bits 17 = .ok (.istore_n 1, 1) := by decide +kernel
theorem dX8_bits_18 : decode cX8_bits 18 = .ok (.iinc 2 1, 3) := by decide +kernel
theorem dX8_bits_21 : decode cX8_bits 21 = .ok (.goto (-17), 3) := by decide +kernel
theorem dX8_bits_24 : decode cX8_bits 24 = .ok (.iload_n 1, 1) := by decide +kernel
theorem dX8_bits_25 : decode cX8_bits 25 = .ok (.ireturn, 1) := by decide +kernel
theorem dX8_looks_0 : decode cX8_looks 0 = .ok (.aload_n 0, 1) := by decide +kernel
theorem dX8_looks_1 : decode cX8_looks 1 = .ok (.aload_n 0, 1) := by decide +kernel
theorem dX8_looks_2 : decode cX8_looks 2 = .ok (.getfield 7, 3) := by decide +kernel
theorem dX8_looks_5 : decode cX8_looks 5 = .ok (.iconst 2, 1) := by decide +kernel
theorem dX8_looks_6 : decode cX8_looks 6 = .ok (.iaload, 1) := by decide +kernel
theorem dX8_looks_7 : decode cX8_looks 7 = .ok (.putfield 81, 3) := by decide +kernel
theorem dX8_looks_10 : decode cX8_looks 10 = .ok (.iconst 0, 1) := by decide +kernel
theorem dX8_looks_11 : decode cX8_looks 11 = .ok (.istore_n 2, 1) := by decide +kernel
theorem dX8_looks_12 : decode cX8_looks 12 = .ok (.iload_n 2, 1) := by decide +kernel
theorem dX8_looks_13 : decode cX8_looks 13 = .ok (.aload_n 0, 1) := by decide +kernel
theorem dX8_looks_14 : decode cX8_looks 14 = .ok (.getfield 81, 3) := by decide +kernel
theorem dX8_looks_17 : decode cX8_looks 17 = .ok (.if_icmp .ge 23, 3) := by decide +kernel
theorem dX8_looks_20 : decode cX8_looks 20 = .ok (.aload_n 0, 1) := by decide +kernel
theorem dX8_looks_21 : decode cX8_looks 21 = .ok (.getfield 22, 3) := by decide +kernel
theorem dX8_looks_24 : decode cX8_looks 24 = .ok (.iload_n 2, 1) := by decide +kernel
theorem dX8_looks_25 : decode cX8_looks 25 = .ok (.aload_n 0, 1) := by decide +kernel
theorem dX8_looks_26 : decode cX8_looks 26 = .ok (.getfield 7, 3) := by decide +kernel
theorem dX8_looks_29 : decode cX8_looks 29 = .ok (.iconst 3, 1) := by decide +kernel
theorem dX8_looks_30 : decode cX8_looks 30 = .ok (.iload_n 2, 1) := by decide +kernel
theorem dX8_looks_31 : decode cX8_looks 31 = .ok (.iadd, 1) := by decide +kernel
theorem dX8_looks_32 : decode cX8_looks 32 = .ok (.iaload, 1) := by decide +kernel
theorem dX8_looks_33 : decode cX8_looks 33 = .ok (.iastore, 1) := by decide +kernel
theorem dX8_looks_34 : decode cX8_looks 34 = .ok (.iinc 2 1, 3) := by decide +kernel
theorem dX8_looks_37 : decode cX8_looks 37 = .ok (.goto (-25), 3) := by decide +kernel
theorem dX8_looks_40 : decode cX8_looks 40 = .ok (.iload_n 1, 1) := by decide +kernel
theorem dX8_looks_41 : decode cX8_looks 41 = .ok (.iconst (-1), 1) := by decide +kernel
theorem dX8_looks_42 : decode cX8_looks 42 = .ok (.if_icmp .eq 23, 3) := by decide +kernel
theorem dX8_looks_45 : decode cX8_looks 45 = .ok (.aload_n 0, 1) := by decide +kernel
theorem dX8_looks_46 : decode cX8_looks 46 = .ok (.getfield 22, 3) := by decide +kernel
theorem dX8_looks_49 : decode cX8_looks 49 = .ok (.aload_n 0, 1) := by decide +kernel
theorem dX8_looks_50 : decode cX8_looks 50 = .ok (.getfield 81, 3) := by decide +kernel
theorem dX8_looks_53 : decode cX8_looks 53 = .ok (.iload_n 1, 1) := by decide +kernel
theorem dX8_looks_54 : decode cX8_looks 54 = .ok (.iastore, 1) := by decide +kernel
theorem dX8_looks_55 : decode cX8_looks 55 = .ok (.aload_n 0, 1) := by decide +kernel
theorem dX8_looks_56 : decode cX8_looks 56 = .ok (.dup, 1) := by decide +kernel
theorem dX8_looks_57 : decode cX8_looks 57 = .ok (.getfield 81, 3) := by decide +kernel
theorem dX8_looks_60 : decode cX8_looks 60 = .ok (.iconst 1, 1) := by decide +kernel
theorem dX8_looks_61 : decode cX8_looks 61 = .ok (.iadd, 1) := by decide +kernel
theorem dX8_looks_62 : decode cX8_looks 62 = .ok (.putfield 81, 3) := by decide +kernel
theorem dX8_looks_65 : decode cX8_looks 65 = .ok (.aload_n 0, 1) := by decide +kernel
theorem dX8_looks_66 : decode cX8_looks 66 = .ok (.getfield 25, 3) := by decide +kernel
theorem dX8_looks_69 : decode cX8_looks 69 = .ok (.iconst 0, 1) := by decide +kernel
theorem dX8_looks_70 : decode cX8_looks 70 = .ok (.iconst 0, 1) := by decide +kernel
theorem dX8_looks_71 : decode cX8_looks 71 = .ok (.iastore, 1) := by decide +kernel
theorem dX8_looks_72 : decode cX8_looks 72 = .ok (.aload_n 0, 1) := by decide +kernel
theorem dX8_looks_73 : decode cX8_looks 73 = .ok (.getfield 28, 3) := by decide +kernel
theorem dX8_looks_76 : decode cX8_looks 76 = .ok (.iconst 0, 1) := by decide +kernel
theorem dX8_looks_77 : decode cX8_looks 77 = .ok (.iconst 0, 1) := by decide +kernel
theorem dX8_looks_78 : decode cX8_looks 78 = .ok (.bastore, 1) := by decide +kernel
theorem dX8_looks_79 : decode cX8_looks 79 = .ok (.iconst 1, 1) := by decide +kernel
theorem dX8_looks_80 : decode cX8_looks 80 = .ok (.istore_n 2, 1) := by decide +kernel
theorem dX8_looks_81 : decode cX8_looks 81 = .ok (.iload_n 2, 1) := by decide +kernel
theorem dX8_looks_82 : decode cX8_looks 82 = .ok (.iconst 1, 1) := by decide +kernel
theorem dX8_looks_83 : decode cX8_looks 83 = .ok (.aload_n 0, 1) := by decide +kernel
theorem dX8_looks_84 : decode cX8_looks 84 = .ok (.getfield 81, 3) := by decide +kernel
theorem dX8_looks_87 : decode cX8_looks 87 = .ok (.ishl, 1) := by decide +kernel
theorem dX8_looks_88 : decode cX8_looks 88 = .ok (.if_icmp .ge 120, 3) := by decide +kernel
theorem dX8_looks_91 : decode cX8_looks 91 = .ok (.iconst 0, 1) := by decide +kernel
theorem dX8_looks_92 : decode cX8_looks 92 = .ok (.istore_n 3, 1) := by decide +kernel
theorem dX8_looks_93 : decode cX8_looks 93 = .ok (.iconst 0, 1) := by decide +kernel
theorem dX8_looks_94 : decode cX8_looks 94 = .ok (.istore 4, 2) := by decide +kernel
theorem dX8_looks_96 : decode cX8_looks 96 = .ok (.iconst 0, 1) := by decide +kernel
theorem dX8_looks_97 : decode cX8_looks 97 = .ok (.istore 5, 2) := by decide +kernel
theorem dX8_looks_99 : decode cX8_looks 99 = .ok (.iload 5, 2) := by decide +kernel
theorem dX8_looks_101 : decode cX8_looks 101 = .ok (.aload_n 0, 1) := by decide +kernel
theorem dX8_looks_102 : decode cX8_looks 102 = .ok (.getfield 81, 3) := by decide +kernel
theorem dX8_looks_105 : decode cX8_looks 105 = .ok (.if_icmp .ge 70, 3) := by decide +kernel
theorem dX8_looks_108 : decode cX8_looks 108 = .ok (.iload_n 2, 1) := by decide +kernel
theorem dX8_looks_109 : decode cX8_looks 109 = .ok (.iload 5, 2) := by decide +kernel
theorem dX8_looks_111 : decode cX8_looks 111 = .ok (.invokestatic 84, 3) := by decide +kernel
theorem dX8_looks_114 : decode cX8_looks 114 = .ok (.ifCond .eq 18, 3) := by decide +kernel
theorem dX8_looks_117 : decode cX8_looks 117 = .ok (.aload_n 0, 1) := by decide +kernel
theorem dX8_looks_118 : decode cX8_looks 118 = .ok (.iload_n 3, 1) := by decide +kernel
theorem dX8_looks_119 : decode cX8_looks 119 = .ok (.aload_n 0, 1) := by decide +kernel
theorem dX8_looks_120 : decode cX8_looks 120 = .ok (.getfield 22, 3) := by decide +kernel
theorem dX8_looks_123 : decode cX8_looks 123 = .ok (.iload 5, 2) := by decide +kernel
theorem dX8_looks_125 : decode cX8_looks 125 = .ok (.iaload, 1) := by decide +kernel
theorem dX8_looks_126 : decode cX8_looks 126 = .ok (.invokevirtual 64, 3) := by decide +kernel
theorem dX8_looks_129 : decode cX8_looks 129 = .ok (.goto 4, 3) := by decide +kernel
theorem dX8_looks_132 : decode cX8_looks 132 = .ok (.iload_n 3, 1) := by decide +kernel
theorem dX8_looks_133 : decode cX8_looks 133 = .ok (.istore_n 3, 1) := by decide +kernel
theorem dX8_looks_134 : decode cX8_looks 134 = .ok (.iload 4, 2) := by decide +kernel
theorem dX8_looks_136 : decode cX8_looks 136 = .ok (.ifCond .ne 26, 3) := by decide +kernel
theorem dX8_looks_139 : decode cX8_looks 139 = .ok (.iload_n 2, 1) := by decide +kernel
theorem dX8_looks_140 : decode cX8_looks 140 = .ok (.iload 5, 2) := by decide +kernel
theorem dX8_looks_142 : decode cX8_looks 142 = .ok (.invokestatic 84, 3) := by decide +kernel
theorem dX8_looks_145 : decode cX8_looks 145 = .ok (.ifCond .eq 21, 3) := by decide +kernel
theorem dX8_looks_148 : decode cX8_looks 148 = .ok (.aload_n 0, 1) := by decide +kernel
theorem dX8_looks_149 : decode cX8_looks 149 = .ok (.getfield 28, 3) := by decide +kernel
theorem dX8_looks_152 : decode cX8_looks 152 = .ok (.iload_n 2, 1) := by decide +kernel
theorem dX8_looks_153 : decode cX8_looks 153 = .ok (.iconst 1, 1) := by decide +kernel
theorem dX8_looks_154 : decode cX8_looks 154 = .ok (.iload 5, 2) := by decide +kernel
theorem dX8_looks_156 : decode cX8_looks 156 = .ok (.ishl, 1) := by decide +kernel
theorem dX8_looks_157 : decode cX8_looks 157 = .ok (.isub, 1) := by decide +kernel
theorem dX8_looks_158 : decode cX8_looks 158 = .ok (.baload, 1) := by decide +kernel
theorem dX8_looks_159 : decode cX8_looks 159 = .ok (.ifCond .eq 7, 3) := by decide +kernel
theorem dX8_looks_162 : decode cX8_looks 162 = .ok (.iconst 1, 1) := by decide +kernel
theorem dX8_looks_163 : decode cX8_looks 163 = .ok (.goto 4, 3) := by decide +kernel
theorem dX8_looks_166 : decode cX8_looks 166 = .ok (.iconst 0, 1) := by decide +kernel
theorem dX8_looks_167 : decode cX8_looks 167 = .ok (.istore 4, 2) := by decide +kernel
theorem dX8_looks_169 : decode cX8_looks 169 = .ok (.iinc 5 1, 3) := by decide +kernel
theorem dX8_looks_172 : decode cX8_looks 172 = .ok (.goto (-73), 3) := by decide +kernel
theorem dX8_looks_175 : decode cX8_looks 175 = .ok (.aload_n 0, 1) := by decide +kernel
theorem dX8_looks_176 : decode cX8_looks 176 = .ok (.getfield 25, 3) := by decide +kernel
theorem dX8_looks_179 : decode cX8_looks 179 = .ok (.iload_n 2, 1) := by decide +kernel
theorem dX8_looks_180 : decode cX8_looks 180 = .ok (.iload_n 3, 1) := by decide +kernel
theorem dX8_looks_181 : decode cX8_looks 181 = .ok (.iastore, 1) := by decide +kernel
theorem dX8_looks_182 : decode cX8_looks 182 = .ok (.aload_n 0, 1) := by decide +kernel
theorem dX8_looks_183 : decode cX8_looks 183 = .ok (.getfield 28, 3) := by decide +kernel
theorem dX8_looks_186 : decode cX8_looks 186 = .ok (.iload_n 2, 1) := by decide +kernel
theorem dX8_looks_187 : decode cX8_looks 187 = .ok (.iload 4, 2) := by decide +kernel
theorem dX8_looks_189 : decode cX8_looks 189 = .ok (.ifCond .ne 7, 3) := by decide +kernel
theorem dX8_looks_192 : decode cX8_looks 192 = .ok (.iload_n 3, 1) := by decide +kernel
theorem dX8_looks_193 : decode cX8_looks 193 = .ok (.ifCond .ne 7, 3) := by decide +kernel
theorem dX8_looks_196 : decode cX8_looks 196 = .ok (.iconst 1, 1) := by decide +kernel
theorem dX8_looks_197 : decode cX8_looks 197 = .ok (.goto 4, 3) := by decide +kernel
theorem dX8_looks_200 : decode cX8_looks 200 = .ok (.iconst 0, 1) := by decide +kernel
theorem dX8_looks_201 : decode cX8_looks 201 = .ok (.bastore, 1) := by decide +kernel
theorem dX8_looks_202 : decode cX8_looks 202 = .ok (.iinc 2 1, 3) := by decide +kernel
theorem dX8_looks_205 : decode cX8_looks 205 = .ok (.goto (-124), 3) := by decide +kernel
theorem dX8_looks_208 : decode cX8_looks 208 = .ok (.return_, 1) := by decide +kernel
theorem dX8_isBlock_0 : decode cX8_isBlock 0 = .ok (.iload_n 1, 1) := by decide +kernel
theorem dX8_isBlock_1 : decode cX8_isBlock 1 = .ok (.ifCond .eq 16, 3) := by decide +kernel
theorem dX8_isBlock_4 : decode cX8_isBlock 4 = .ok (.aload_n 0, 1) := by decide +kernel
theorem dX8_isBlock_5 : decode cX8_isBlock 5 = .ok (.getfield 25, 3) := by decide +kernel
theorem dX8_isBlock_8 : decode cX8_isBlock 8 = .ok (.iload_n 1, 1) := by decide +kernel
theorem dX8_isBlock_9 : decode cX8_isBlock 9 = .ok (.iaload, 1) := by decide +kernel
theorem dX8_isBlock_10 : decode cX8_isBlock 10 = .ok (.ifCond .ne 7, 3) := by decide +kernel
theorem dX8_isBlock_13 : decode cX8_isBlock 13 = .ok (.iconst 1, 1) := by decide +kernel
theorem dX8_isBlock_14 : decode cX8_isBlock 14 = .ok (.goto 4, 3) := by decide +kernel
theorem dX8_isBlock_17 : decode cX8_isBlock 17 = .ok (.iconst 0, 1) := by decide +kernel
theorem dX8_isBlock_18 : decode cX8_isBlock 18 = .ok (.istore_n 2, 1) := by decide +kernel
theorem dX8_isBlock_19 : decode cX8_isBlock 19 = .ok (.iconst 0, 1) := by decide +kernel
theorem dX8_isBlock_20 : decode cX8_isBlock 20 = .ok (.istore_n 3, 1) := by decide +kernel
theorem dX8_isBlock_21 : decode cX8_isBlock 21 = .ok (.iload_n 3, 1) := by decide +kernel
theorem dX8_isBlock_22 : decode cX8_isBlock 22 = .ok (.aload_n 0, 1) := by decide +kernel
theorem dX8_isBlock_23 : decode cX8_isBlock 23 = .ok (.getfield 81, 3) := by decide +kernel
theorem dX8_isBlock_26 : decode cX8_isBlock 26 = .ok (.if_icmp .ge 40, 3) := by decide +kernel
theorem dX8_isBlock_29 : decode cX8_isBlock 29 = .ok (.iload_n 2, 1) := by decide +kernel
theorem dX8_isBlock_30 : decode cX8_isBlock 30 = .ok (.ifCond .eq 36, 3) := by decide +kernel
theorem dX8_isBlock_33 : decode cX8_isBlock 33 = .ok (.iload_n 1, 1) := by decide +kernel
theorem dX8_isBlock_34 : decode cX8_isBlock 34 = .ok (.iload_n 3, 1) := by decide +kernel
theorem dX8_isBlock_35 : decode cX8_isBlock 35 = .ok (.invokestatic 84, 3) := by decide +kernel
theorem dX8_isBlock_38 : decode cX8_isBlock 38 = .ok (.ifCond .eq 16, 3) := by decide +kernel
theorem dX8_isBlock_41 : decode cX8_isBlock 41 = .ok (.aload_n 0, 1) := by decide +kernel
theorem dX8_isBlock_42 : decode cX8_isBlock 42 = .ok (.getfield 28, 3) := by decide +kernel
theorem dX8_isBlock_45 : decode cX8_isBlock 45 = .ok (.iload_n 1, 1) := by decide +kernel
theorem dX8_isBlock_46 : decode cX8_isBlock 46 = .ok (.iconst 1, 1) := by decide +kernel
theorem dX8_isBlock_47 : decode cX8_isBlock 47 = .ok (.iload_n 3, 1) := by decide +kernel
theorem dX8_isBlock_48 : decode cX8_isBlock 48 = .ok (.ishl, 1) := by decide +kernel
theorem dX8_isBlock_49 : decode cX8_isBlock 49 = .ok (.isub, 1) := by decide +kernel
theorem dX8_isBlock_50 : decode cX8_isBlock 50 = .ok (.baload, 1) := by decide +kernel
theorem dX8_isBlock_51 : decode cX8_isBlock 51 = .ok (.ifCond .ne 7, 3) := by decide +kernel
theorem dX8_isBlock_54 : decode cX8_isBlock 54 = .ok (.iconst 1, 1) := by decide +kernel
theorem dX8_isBlock_55 : decode cX8_isBlock 55 = .ok (.goto 4, 3) := by decide +kernel
theorem dX8_isBlock_58 : decode cX8_isBlock 58 = .ok (.iconst 0, 1) := by decide +kernel
theorem dX8_isBlock_59 : decode cX8_isBlock 59 = .ok (.istore_n 2, 1) := by decide +kernel
theorem dX8_isBlock_60 : decode cX8_isBlock 60 = .ok (.iinc 3 1, 3) := by decide +kernel
theorem dX8_isBlock_63 : decode cX8_isBlock 63 = .ok (.goto (-42), 3) := by decide +kernel
theorem dX8_isBlock_66 : decode cX8_isBlock 66 = .ok (.iload_n 2, 1) := by decide +kernel
theorem dX8_isBlock_67 : decode cX8_isBlock 67 = .ok (.ireturn, 1) := by decide +kernel
theorem dX8_isIn_0 : decode cX8_isIn 0 = .ok (.iload_n 1, 1) := by decide +kernel
theorem dX8_isIn_1 : decode cX8_isIn 1 = .ok (.iload_n 2, 1) := by decide +kernel
theorem dX8_isIn_2 : decode cX8_isIn 2 = .ok (.iconst (-1), 1) := by decide +kernel
theorem dX8_isIn_3 : decode cX8_isIn 3 = .ok (.ixor, 1) := by decide +kernel
theorem dX8_isIn_4 : decode cX8_isIn 4 = .ok (.iand, 1) := by decide +kernel
theorem dX8_isIn_5 : decode cX8_isIn 5 = .ok (.ifCond .ne 7, 3) := by decide +kernel
theorem dX8_isIn_8 : decode cX8_isIn 8 = .ok (.iconst 1, 1) := by decide +kernel
theorem dX8_isIn_9 : decode cX8_isIn 9 = .ok (.goto 4, 3) := by decide +kernel
theorem dX8_isIn_12 : decode cX8_isIn 12 = .ok (.iconst 0, 1) := by decide +kernel
theorem dX8_isIn_13 : decode cX8_isIn 13 = .ok (.ireturn, 1) := by decide +kernel
theorem dX8_splitsAll_0 : decode cX8_splitsAll 0 = .ok (.aload_n 0, 1) := by decide +kernel
theorem dX8_splitsAll_1 : decode cX8_splitsAll 1 = .ok (.getfield 32, 3) := by decide +kernel
theorem dX8_splitsAll_4 : decode cX8_splitsAll 4 = .ok (.iconst 0, 1) := by decide +kernel
theorem dX8_splitsAll_5 : decode cX8_splitsAll 5 = .ok (.iconst 1, 1) := by decide +kernel
theorem dX8_splitsAll_6 : decode cX8_splitsAll 6 = .ok (.iastore, 1) := by decide +kernel
theorem dX8_splitsAll_7 : decode cX8_splitsAll 7 = .ok (.aload_n 0, 1) := by decide +kernel
theorem dX8_splitsAll_8 : decode cX8_splitsAll 8 = .ok (.getfield 35, 3) := by decide +kernel
theorem dX8_splitsAll_11 : decode cX8_splitsAll 11 = .ok (.iconst 0, 1) := by decide +kernel
theorem dX8_splitsAll_12 : decode cX8_splitsAll 12 = .ok (.iconst 1, 1) := by decide +kernel
theorem dX8_splitsAll_13 : decode cX8_splitsAll 13 = .ok (.iastore, 1) := by decide +kernel
theorem dX8_splitsAll_14 : decode cX8_splitsAll 14 = .ok (.iconst 1, 1) := by decide +kernel
theorem dX8_splitsAll_15 : decode cX8_splitsAll 15 = .ok (.istore_n 1, 1) := by decide +kernel
theorem dX8_splitsAll_16 : decode cX8_splitsAll 16 = .ok (.iload_n 1, 1) := by decide +kernel
theorem dX8_splitsAll_17 : decode cX8_splitsAll 17 = .ok (.iconst 1, 1) := by decide +kernel
theorem dX8_splitsAll_18 : decode cX8_splitsAll 18 = .ok (.aload_n 0, 1) := by decide +kernel
theorem dX8_splitsAll_19 : decode cX8_splitsAll 19 = .ok (.getfield 81, 3) := by decide +kernel
theorem dX8_splitsAll_22 : decode cX8_splitsAll 22 = .ok (.ishl, 1) := by decide +kernel
theorem dX8_splitsAll_23 : decode cX8_splitsAll 23 = .ok (.if_icmp .ge 100, 3) := by decide +kernel
theorem dX8_splitsAll_26 : decode cX8_splitsAll 26 = .ok (.iload_n 1, 1) := by decide +kernel
theorem dX8_splitsAll_27 : decode cX8_splitsAll 27 = .ok (.iload_n 1, 1) := by decide +kernel
theorem dX8_splitsAll_28 : decode cX8_splitsAll 28 = .ok (.ineg, 1) := by decide +kernel
theorem dX8_splitsAll_29 : decode cX8_splitsAll 29 = .ok (.iand, 1) := by decide +kernel
theorem dX8_splitsAll_30 : decode cX8_splitsAll 30 = .ok (.istore_n 2, 1) := by decide +kernel
theorem dX8_splitsAll_31 : decode cX8_splitsAll 31 = .ok (.aload_n 0, 1) := by decide +kernel
theorem dX8_splitsAll_32 : decode cX8_splitsAll 32 = .ok (.getfield 32, 3) := by decide +kernel
theorem dX8_splitsAll_35 : decode cX8_splitsAll 35 = .ok (.iload_n 1, 1) := by decide +kernel
theorem dX8_splitsAll_36 : decode cX8_splitsAll 36 = .ok (.iconst 0, 1) := by decide +kernel
theorem dX8_splitsAll_37 : decode cX8_splitsAll 37 = .ok (.iastore, 1) := by decide +kernel
theorem dX8_splitsAll_38 : decode cX8_splitsAll 38 = .ok (.aload_n 0, 1) := by decide +kernel
theorem dX8_splitsAll_39 : decode cX8_splitsAll 39 = .ok (.getfield 35, 3) := by decide +kernel
theorem dX8_splitsAll_42 : decode cX8_splitsAll 42 = .ok (.iload_n 1, 1) := by decide +kernel
theorem dX8_splitsAll_43 : decode cX8_splitsAll 43 = .ok (.iconst 0, 1) := by decide +kernel
theorem dX8_splitsAll_44 : decode cX8_splitsAll 44 = .ok (.iastore, 1) := by decide +kernel
theorem dX8_splitsAll_45 : decode cX8_splitsAll 45 = .ok (.iload_n 2, 1) := by decide +kernel
theorem dX8_splitsAll_46 : decode cX8_splitsAll 46 = .ok (.istore_n 3, 1) := by decide +kernel
theorem dX8_splitsAll_47 : decode cX8_splitsAll 47 = .ok (.iload_n 3, 1) := by decide +kernel
theorem dX8_splitsAll_48 : decode cX8_splitsAll 48 = .ok (.iload_n 1, 1) := by decide +kernel
theorem dX8_splitsAll_49 : decode cX8_splitsAll 49 = .ok (.if_icmp .gt 68, 3) := by decide +kernel
theorem dX8_splitsAll_52 : decode cX8_splitsAll 52 = .ok (.aload_n 0, 1) := by decide +kernel
theorem dX8_splitsAll_53 : decode cX8_splitsAll 53 = .ok (.iload_n 3, 1) := by decide +kernel
theorem dX8_splitsAll_54 : decode cX8_splitsAll 54 = .ok (.iload_n 1, 1) := by decide +kernel
theorem dX8_splitsAll_55 : decode cX8_splitsAll 55 = .ok (.invokevirtual 88, 3) := by decide +kernel
theorem dX8_splitsAll_58 : decode cX8_splitsAll 58 = .ok (.ifCond .eq 53, 3) := by decide +kernel
theorem dX8_splitsAll_61 : decode cX8_splitsAll 61 = .ok (.iload_n 3, 1) := by decide +kernel
theorem dX8_splitsAll_62 : decode cX8_splitsAll 62 = .ok (.iload_n 2, 1) := by decide +kernel
theorem dX8_splitsAll_63 : decode cX8_splitsAll 63 = .ok (.iand, 1) := by decide +kernel
theorem dX8_splitsAll_64 : decode cX8_splitsAll 64 = .ok (.ifCond .eq 47, 3) := by decide +kernel
theorem dX8_splitsAll_67 : decode cX8_splitsAll 67 = .ok (.aload_n 0, 1) := by decide +kernel
theorem dX8_splitsAll_68 : decode cX8_splitsAll 68 = .ok (.iload_n 3, 1) := by decide +kernel
theorem dX8_splitsAll_69 : decode cX8_splitsAll 69 = .ok (.invokevirtual 91, 3) := by decide +kernel
theorem dX8_splitsAll_72 : decode cX8_splitsAll 72 = .ok (.ifCond .eq 39, 3) := by decide +kernel
theorem dX8_splitsAll_75 : decode cX8_splitsAll 75 = .ok (.aload_n 0, 1) := by decide +kernel
theorem dX8_splitsAll_76 : decode cX8_splitsAll 76 = .ok (.getfield 32, 3) := by decide +kernel
theorem dX8_splitsAll_79 : decode cX8_splitsAll 79 = .ok (.iload_n 1, 1) := by decide +kernel
theorem dX8_splitsAll_80 : decode cX8_splitsAll 80 = .ok (.dup2, 1) := by decide +kernel
theorem dX8_splitsAll_81 : decode cX8_splitsAll 81 = .ok (.iaload, 1) := by decide +kernel
theorem dX8_splitsAll_82 : decode cX8_splitsAll 82 = .ok (.aload_n 0, 1) := by decide +kernel
theorem dX8_splitsAll_83 : decode cX8_splitsAll 83 = .ok (.getfield 32, 3) := by decide +kernel
theorem dX8_splitsAll_86 : decode cX8_splitsAll 86 = .ok (.iload_n 1, 1) := by decide +kernel
theorem dX8_splitsAll_87 : decode cX8_splitsAll 87 = .ok (.iload_n 3, 1) := by decide +kernel
theorem dX8_splitsAll_88 : decode cX8_splitsAll 88 = .ok (.isub, 1) := by decide +kernel
theorem dX8_splitsAll_89 : decode cX8_splitsAll 89 = .ok (.iaload, 1) := by decide +kernel
theorem dX8_splitsAll_90 : decode cX8_splitsAll 90 = .ok (.iadd, 1) := by decide +kernel
theorem dX8_splitsAll_91 : decode cX8_splitsAll 91 = .ok (.iastore, 1) := by decide +kernel
theorem dX8_splitsAll_92 : decode cX8_splitsAll 92 = .ok (.aload_n 0, 1) := by decide +kernel
theorem dX8_splitsAll_93 : decode cX8_splitsAll 93 = .ok (.getfield 35, 3) := by decide +kernel
theorem dX8_splitsAll_96 : decode cX8_splitsAll 96 = .ok (.iload_n 1, 1) := by decide +kernel
theorem dX8_splitsAll_97 : decode cX8_splitsAll 97 = .ok (.dup2, 1) := by decide +kernel
theorem dX8_splitsAll_98 : decode cX8_splitsAll 98 = .ok (.iaload, 1) := by decide +kernel
theorem dX8_splitsAll_99 : decode cX8_splitsAll 99 = .ok (.aload_n 0, 1) := by decide +kernel
theorem dX8_splitsAll_100 : decode cX8_splitsAll 100 = .ok (.getfield 35, 3) := by decide +kernel
theorem dX8_splitsAll_103 : decode cX8_splitsAll 103 = .ok (.iload_n 1, 1) := by decide +kernel
theorem dX8_splitsAll_104 : decode cX8_splitsAll 104 = .ok (.iload_n 3, 1) := by decide +kernel
theorem dX8_splitsAll_105 : decode cX8_splitsAll 105 = .ok (.isub, 1) := by decide +kernel
theorem dX8_splitsAll_106 : decode cX8_splitsAll 106 = .ok (.iaload, 1) := by decide +kernel
theorem dX8_splitsAll_107 : decode cX8_splitsAll 107 = .ok (.iconst 1, 1) := by decide +kernel
theorem dX8_splitsAll_108 : decode cX8_splitsAll 108 = .ok (.ishl, 1) := by decide +kernel
theorem dX8_splitsAll_109 : decode cX8_splitsAll 109 = .ok (.ior, 1) := by decide +kernel
theorem dX8_splitsAll_110 : decode cX8_splitsAll 110 = .ok (.iastore, 1) := by decide +kernel
theorem dX8_splitsAll_111 : decode cX8_splitsAll 111 = .ok (.iinc 3 1, 3) := by decide +kernel
theorem dX8_splitsAll_114 : decode cX8_splitsAll 114 = .ok (.goto (-67), 3) := by decide +kernel
theorem dX8_splitsAll_117 : decode cX8_splitsAll 117 = .ok (.iinc 1 1, 3) := by decide +kernel
theorem dX8_splitsAll_120 : decode cX8_splitsAll 120 = .ok (.goto (-104), 3) := by decide +kernel
theorem dX8_splitsAll_123 : decode cX8_splitsAll 123 = .ok (.return_, 1) := by decide +kernel
theorem dX8_most_0 : decode cX8_most 0 = .ok (.iconst (-1), 1) := by decide +kernel
theorem dX8_most_1 : decode cX8_most 1 = .ok (.istore_n 2, 1) := by decide +kernel
theorem dX8_most_2 : decode cX8_most 2 = .ok (.iconst 0, 1) := by decide +kernel
theorem dX8_most_3 : decode cX8_most 3 = .ok (.istore_n 3, 1) := by decide +kernel
theorem dX8_most_4 : decode cX8_most 4 = .ok (.iload_n 3, 1) := by decide +kernel
theorem dX8_most_5 : decode cX8_most 5 = .ok (.bipush 10, 2) := by decide +kernel
theorem dX8_most_7 : decode cX8_most 7 = .ok (.if_icmp .gt 28, 3) := by decide +kernel
theorem dX8_most_10 : decode cX8_most 10 = .ok (.aload_n 0, 1) := by decide +kernel
theorem dX8_most_11 : decode cX8_most 11 = .ok (.getfield 35, 3) := by decide +kernel
theorem dX8_most_14 : decode cX8_most 14 = .ok (.iload_n 1, 1) := by decide +kernel
theorem dX8_most_15 : decode cX8_most 15 = .ok (.iaload, 1) := by decide +kernel
theorem dX8_most_16 : decode cX8_most 16 = .ok (.iload_n 3, 1) := by decide +kernel
theorem dX8_most_17 : decode cX8_most 17 = .ok (.invokestatic 84, 3) := by decide +kernel
theorem dX8_most_20 : decode cX8_most 20 = .ok (.ifCond .eq 7, 3) := by decide +kernel
theorem dX8_most_23 : decode cX8_most 23 = .ok (.iload_n 3, 1) := by decide +kernel
theorem dX8_most_24 : decode cX8_most 24 = .ok (.goto 4, 3) := by decide +kernel
theorem dX8_most_27 : decode cX8_most 27 = .ok (.iload_n 2, 1) := by decide +kernel
theorem dX8_most_28 : decode cX8_most 28 = .ok (.istore_n 2, 1) := by decide +kernel
theorem dX8_most_29 : decode cX8_most 29 = .ok (.iinc 3 1, 3) := by decide +kernel
theorem dX8_most_32 : decode cX8_most 32 = .ok (.goto (-28), 3) := by decide +kernel
theorem dX8_most_35 : decode cX8_most 35 = .ok (.iload_n 2, 1) := by decide +kernel
theorem dX8_most_36 : decode cX8_most 36 = .ok (.ireturn, 1) := by decide +kernel
theorem dX8_all_0 : decode cX8_all 0 = .ok (.iconst 1, 1) := by decide +kernel
theorem dX8_all_1 : decode cX8_all 1 = .ok (.aload_n 0, 1) := by decide +kernel
theorem dX8_all_2 : decode cX8_all 2 = .ok (.getfield 7, 3) := by decide +kernel
theorem dX8_all_5 : decode cX8_all 5 = .ok (.iconst 2, 1) := by decide +kernel
theorem dX8_all_6 : decode cX8_all 6 = .ok (.iaload, 1) := by decide +kernel
theorem dX8_all_7 : decode cX8_all 7 = .ok (.ishl, 1) := by decide +kernel
theorem dX8_all_8 : decode cX8_all 8 = .ok (.iconst 1, 1) := by decide +kernel
theorem dX8_all_9 : decode cX8_all 9 = .ok (.isub, 1) := by decide +kernel
theorem dX8_all_10 : decode cX8_all 10 = .ok (.ireturn, 1) := by decide +kernel
theorem dX8_laySplit_0 : decode cX8_laySplit 0 = .ok (.aload_n 0, 1) := by decide +kernel
theorem dX8_laySplit_1 : decode cX8_laySplit 1 = .ok (.iconst (-1), 1) := by decide +kernel
theorem dX8_laySplit_2 : decode cX8_laySplit 2 = .ok (.invokevirtual 94, 3) := by decide +kernel
theorem dX8_laySplit_5 : decode cX8_laySplit 5 = .ok (.aload_n 0, 1) := by decide +kernel
theorem dX8_laySplit_6 : decode cX8_laySplit 6 = .ok (.invokevirtual 98, 3) := by decide +kernel
theorem dX8_laySplit_9 : decode cX8_laySplit 9 = .ok (.aload_n 0, 1) := by decide +kernel
theorem dX8_laySplit_10 : decode cX8_laySplit 10 = .ok (.invokevirtual 101, 3) := by decide +kernel
theorem dX8_laySplit_13 : decode cX8_laySplit 13 = .ok (.istore_n 1, 1) := by decide +kernel
theorem dX8_laySplit_14 : decode cX8_laySplit 14 = .ok (.aload_n 0, 1) := by decide +kernel
theorem dX8_laySplit_15 : decode cX8_laySplit 15 = .ok (.iload_n 1, 1) := by decide +kernel
theorem dX8_laySplit_16 : decode cX8_laySplit 16 = .ok (.invokevirtual 104, 3) := by decide +kernel
theorem dX8_laySplit_19 : decode cX8_laySplit 19 = .ok (.istore_n 2, 1) := by decide +kernel
theorem dX8_laySplit_20 : decode cX8_laySplit 20 = .ok (.aload_n 0, 1) := by decide +kernel
theorem dX8_laySplit_21 : decode cX8_laySplit 21 = .ok (.aload_n 0, 1) := by decide +kernel
theorem dX8_laySplit_22 : decode cX8_laySplit 22 = .ok (.getfield 25, 3) := by decide +kernel
theorem dX8_laySplit_25 : decode cX8_laySplit 25 = .ok (.iload_n 1, 1) := by decide +kernel
theorem dX8_laySplit_26 : decode cX8_laySplit 26 = .ok (.iaload, 1) := by decide +kernel
theorem dX8_laySplit_27 : decode cX8_laySplit 27 = .ok (.ifCond .ne 9, 3) := by decide +kernel
theorem dX8_laySplit_30 : decode cX8_laySplit 30 = .ok (.iload_n 2, 1) := by decide +kernel
theorem dX8_laySplit_31 : decode cX8_laySplit 31 = .ok (.bipush 6, 2) := by decide +kernel
theorem dX8_laySplit_33 : decode cX8_laySplit 33 = .ok (.if_icmp .le 7, 3) := by decide +kernel
theorem dX8_laySplit_36 : decode cX8_laySplit 36 = .ok (.iconst 1, 1) := by decide +kernel
theorem dX8_laySplit_37 : decode cX8_laySplit 37 = .ok (.goto 4, 3) := by decide +kernel
theorem dX8_laySplit_40 : decode cX8_laySplit 40 = .ok (.iconst 0, 1) := by decide +kernel
theorem dX8_laySplit_41 : decode cX8_laySplit 41 = .ok (.invokevirtual 52, 3) := by decide +kernel
theorem dX8_laySplit_44 : decode cX8_laySplit 44 = .ok (.ifCond .eq 5, 3) := by decide +kernel
theorem dX8_laySplit_47 : decode cX8_laySplit 47 = .ok (.iconst 0, 1) := by decide +kernel
theorem dX8_laySplit_48 : decode cX8_laySplit 48 = .ok (.ireturn, 1) := by decide +kernel
theorem dX8_laySplit_49 : decode cX8_laySplit 49 = .ok (.aload_n 0, 1) := by decide +kernel
theorem dX8_laySplit_50 : decode cX8_laySplit 50 = .ok (.invokevirtual 72, 3) := by decide +kernel
theorem dX8_laySplit_53 : decode cX8_laySplit 53 = .ok (.iconst 0, 1) := by decide +kernel
theorem dX8_laySplit_54 : decode cX8_laySplit 54 = .ok (.istore_n 3, 1) := by decide +kernel
theorem dX8_laySplit_55 : decode cX8_laySplit 55 = .ok (.iload_n 3, 1) := by decide +kernel
theorem dX8_laySplit_56 : decode cX8_laySplit 56 = .ok (.iload_n 2, 1) := by decide +kernel
theorem dX8_laySplit_57 : decode cX8_laySplit 57 = .ok (.if_icmp .ge 125, 3) := by decide +kernel
theorem dX8_laySplit_60 : decode cX8_laySplit 60 = .ok (.iload_n 1, 1) := by decide +kernel
theorem dX8_laySplit_61 : decode cX8_laySplit 61 = .ok (.iload_n 1, 1) := by decide +kernel
theorem dX8_laySplit_62 : decode cX8_laySplit 62 = .ok (.ineg, 1) := by decide +kernel
theorem dX8_laySplit_63 : decode cX8_laySplit 63 = .ok (.iand, 1) := by decide +kernel
theorem dX8_laySplit_64 : decode cX8_laySplit 64 = .ok (.istore 4, 2) := by decide +kernel
theorem dX8_laySplit_66 : decode cX8_laySplit 66 = .ok (.iload 4, 2) := by decide +kernel
theorem dX8_laySplit_68 : decode cX8_laySplit 68 = .ok (.istore 5, 2) := by decide +kernel
theorem dX8_laySplit_70 : decode cX8_laySplit 70 = .ok (.aload_n 0, 1) := by decide +kernel
theorem dX8_laySplit_71 : decode cX8_laySplit 71 = .ok (.iload 5, 2) := by decide +kernel
theorem dX8_laySplit_73 : decode cX8_laySplit 73 = .ok (.iload_n 1, 1) := by decide +kernel
theorem dX8_laySplit_74 : decode cX8_laySplit 74 = .ok (.invokevirtual 88, 3) := by decide +kernel
theorem dX8_laySplit_77 : decode cX8_laySplit 77 = .ok (.ifCond .eq 36, 3) := by decide +kernel
theorem dX8_laySplit_80 : decode cX8_laySplit 80 = .ok (.iload 5, 2) := by decide +kernel
theorem dX8_laySplit_82 : decode cX8_laySplit 82 = .ok (.iload 4, 2) := by decide +kernel
theorem dX8_laySplit_84 : decode cX8_laySplit 84 = .ok (.iand, 1) := by decide +kernel
theorem dX8_laySplit_85 : decode cX8_laySplit 85 = .ok (.ifCond .eq 28, 3) := by decide +kernel
theorem dX8_laySplit_88 : decode cX8_laySplit 88 = .ok (.aload_n 0, 1) := by decide +kernel
theorem dX8_laySplit_89 : decode cX8_laySplit 89 = .ok (.iload 5, 2) := by decide +kernel
theorem dX8_laySplit_91 : decode cX8_laySplit 91 = .ok (.invokevirtual 91, 3) := by decide +kernel
theorem dX8_laySplit_94 : decode cX8_laySplit 94 = .ok (.ifCond .eq 19, 3) := by decide +kernel
theorem dX8_laySplit_97 : decode cX8_laySplit 97 = .ok (.aload_n 0, 1) := by decide +kernel
theorem dX8_laySplit_98 : decode cX8_laySplit 98 = .ok (.iload_n 1, 1) := by decide +kernel
theorem dX8_laySplit_99 : decode cX8_laySplit 99 = .ok (.iload 5, 2) := by decide +kernel
theorem dX8_laySplit_101 : decode cX8_laySplit 101 = .ok (.isub, 1) := by decide +kernel
theorem dX8_laySplit_102 : decode cX8_laySplit 102 = .ok (.invokevirtual 104, 3) := by decide +kernel
theorem dX8_laySplit_105 : decode cX8_laySplit 105 = .ok (.iload_n 2, 1) := by decide +kernel
theorem dX8_laySplit_106 : decode cX8_laySplit 106 = .ok (.iload_n 3, 1) := by decide +kernel
theorem dX8_laySplit_107 : decode cX8_laySplit 107 = .ok (.isub, 1) := by decide +kernel
theorem dX8_laySplit_108 : decode cX8_laySplit 108 = .ok (.iconst 1, 1) := by decide +kernel
theorem dX8_laySplit_109 : decode cX8_laySplit 109 = .ok (.isub, 1) := by decide +kernel
theorem dX8_laySplit_110 : decode cX8_laySplit 110 = .ok (.if_icmp .eq 9, 3) := by decide +kernel
theorem dX8_laySplit_113 : decode cX8_laySplit 113 = .ok (.iinc 5 1, 3) := by decide +kernel
theorem dX8_laySplit_116 : decode cX8_laySplit 116 = .ok (.goto (-46), 3) := by decide +kernel
theorem dX8_laySplit_119 : decode cX8_laySplit 119 = .ok (.iconst 0, 1) := by decide +kernel
theorem dX8_laySplit_120 : decode cX8_laySplit 120 = .ok (.istore 6, 2) := by decide +kernel
theorem dX8_laySplit_122 : decode cX8_laySplit 122 = .ok (.iload 6, 2) := by decide +kernel
theorem dX8_laySplit_124 : decode cX8_laySplit 124 = .ok (.aload_n 0, 1) := by decide +kernel
theorem dX8_laySplit_125 : decode cX8_laySplit 125 = .ok (.getfield 81, 3) := by decide +kernel
theorem dX8_laySplit_128 : decode cX8_laySplit 128 = .ok (.if_icmp .ge 43, 3) := by decide +kernel
theorem dX8_laySplit_131 : decode cX8_laySplit 131 = .ok (.aload_n 0, 1) := by decide +kernel
theorem dX8_laySplit_132 : decode cX8_laySplit 132 = .ok (.getfield 7, 3) := by decide +kernel
theorem dX8_laySplit_135 : decode cX8_laySplit 135 = .ok (.bipush 13, 2) := by decide +kernel
theorem dX8_laySplit_137 : decode cX8_laySplit 137 = .ok (.iload 6, 2) := by decide +kernel
theorem dX8_laySplit_139 : decode cX8_laySplit 139 = .ok (.iadd, 1) := by decide +kernel
theorem dX8_laySplit_140 : decode cX8_laySplit 140 = .ok (.iload 5, 2) := by decide +kernel
theorem dX8_laySplit_142 : decode cX8_laySplit 142 = .ok (.iload 6, 2) := by decide +kernel
theorem dX8_laySplit_144 : decode cX8_laySplit 144 = .ok (.invokestatic 84, 3) := by decide +kernel
theorem dX8_laySplit_147 : decode cX8_laySplit 147 = .ok (.ifCond .eq 7, 3) := by decide +kernel
theorem dX8_laySplit_150 : decode cX8_laySplit 150 = .ok (.iload_n 3, 1) := by decide +kernel
theorem dX8_laySplit_151 : decode cX8_laySplit 151 = .ok (.goto 13, 3) := by decide +kernel
theorem dX8_laySplit_154 : decode cX8_laySplit 154 = .ok (.aload_n 0, 1) := by decide +kernel
theorem dX8_laySplit_155 : decode cX8_laySplit 155 = .ok (.getfield 7, 3) := by decide +kernel
theorem dX8_laySplit_158 : decode cX8_laySplit 158 = .ok (.bipush 13, 2) := by decide +kernel
theorem dX8_laySplit_160 : decode cX8_laySplit 160 = .ok (.iload 6, 2) := by decide +kernel
theorem dX8_laySplit_162 : decode cX8_laySplit 162 = .ok (.iadd, 1) := by decide +kernel
theorem dX8_laySplit_163 : decode cX8_laySplit 163 = .ok (.iaload, 1) := by decide +kernel
theorem dX8_laySplit_164 : decode cX8_laySplit 164 = .ok (.iastore, 1) := by decide +kernel
theorem dX8_laySplit_165 : decode cX8_laySplit 165 = .ok (.iinc 6 1, 3) := by decide +kernel
theorem dX8_laySplit_168 : decode cX8_laySplit 168 = .ok (.goto (-46), 3) := by decide +kernel
theorem dX8_laySplit_171 : decode cX8_laySplit 171 = .ok (.iload_n 1, 1) := by decide +kernel
theorem dX8_laySplit_172 : decode cX8_laySplit 172 = .ok (.iload 5, 2) := by decide +kernel
theorem dX8_laySplit_174 : decode cX8_laySplit 174 = .ok (.isub, 1) := by decide +kernel
theorem dX8_laySplit_175 : decode cX8_laySplit 175 = .ok (.istore_n 1, 1) := by decide +kernel
theorem dX8_laySplit_176 : decode cX8_laySplit 176 = .ok (.iinc 3 1, 3) := by decide +kernel
theorem dX8_laySplit_179 : decode cX8_laySplit 179 = .ok (.goto (-124), 3) := by decide +kernel
theorem dX8_laySplit_182 : decode cX8_laySplit 182 = .ok (.iload_n 2, 1) := by decide +kernel
theorem dX8_laySplit_183 : decode cX8_laySplit 183 = .ok (.ireturn, 1) := by decide +kernel
theorem dX8_blocksIn_0 : decode cX8_blocksIn 0 = .ok (.iconst 0, 1) := by decide +kernel
theorem dX8_blocksIn_1 : decode cX8_blocksIn 1 = .ok (.istore_n 2, 1) := by decide +kernel
theorem dX8_blocksIn_2 : decode cX8_blocksIn 2 = .ok (.iconst 1, 1) := by decide +kernel
theorem dX8_blocksIn_3 : decode cX8_blocksIn 3 = .ok (.istore_n 3, 1) := by decide +kernel
theorem dX8_blocksIn_4 : decode cX8_blocksIn 4 = .ok (.iload_n 3, 1) := by decide +kernel
theorem dX8_blocksIn_5 : decode cX8_blocksIn 5 = .ok (.iload_n 1, 1) := by decide +kernel
theorem dX8_blocksIn_6 : decode cX8_blocksIn 6 = .ok (.if_icmp .gt 34, 3) := by decide +kernel
theorem dX8_blocksIn_9 : decode cX8_blocksIn 9 = .ok (.iload_n 2, 1) := by decide +kernel
theorem dX8_blocksIn_10 : decode cX8_blocksIn 10 = .ok (.aload_n 0, 1) := by decide +kernel
theorem dX8_blocksIn_11 : decode cX8_blocksIn 11 = .ok (.iload_n 3, 1) := by decide +kernel
theorem dX8_blocksIn_12 : decode cX8_blocksIn 12 = .ok (.iload_n 1, 1) := by decide +kernel
theorem dX8_blocksIn_13 : decode cX8_blocksIn 13 = .ok (.invokevirtual 88, 3) := by decide +kernel
theorem dX8_blocksIn_16 : decode cX8_blocksIn 16 = .ok (.ifCond .eq 15, 3) := by decide +kernel
theorem dX8_blocksIn_19 : decode cX8_blocksIn 19 = .ok (.aload_n 0, 1) := by decide +kernel
theorem dX8_blocksIn_20 : decode cX8_blocksIn 20 = .ok (.iload_n 3, 1) := by decide +kernel
theorem dX8_blocksIn_21 : decode cX8_blocksIn 21 = .ok (.invokevirtual 91, 3) := by decide +kernel
theorem dX8_blocksIn_24 : decode cX8_blocksIn 24 = .ok (.ifCond .eq 7, 3) := by decide +kernel
theorem dX8_blocksIn_27 : decode cX8_blocksIn 27 = .ok (.iconst 1, 1) := by decide +kernel
theorem dX8_blocksIn_28 : decode cX8_blocksIn 28 = .ok (.goto 4, 3) := by decide +kernel
theorem dX8_blocksIn_31 : decode cX8_blocksIn 31 = .ok (.iconst 0, 1) := by decide +kernel
theorem dX8_blocksIn_32 : decode cX8_blocksIn 32 = .ok (.iadd, 1) := by decide +kernel
theorem dX8_blocksIn_33 : decode cX8_blocksIn 33 = .ok (.istore_n 2, 1) := by decide +kernel
theorem dX8_blocksIn_34 : decode cX8_blocksIn 34 = .ok (.iinc 3 1, 3) := by decide +kernel
theorem dX8_blocksIn_37 : decode cX8_blocksIn 37 = .ok (.goto (-33), 3) := by decide +kernel
theorem dX8_blocksIn_40 : decode cX8_blocksIn 40 = .ok (.iload_n 2, 1) := by decide +kernel
theorem dX8_blocksIn_41 : decode cX8_blocksIn 41 = .ok (.ireturn, 1) := by decide +kernel
theorem dX8_isSet_0 : decode cX8_isSet 0 = .ok (.iload_n 1, 1) := by decide +kernel
theorem dX8_isSet_1 : decode cX8_isSet 1 = .ok (.ifCond .lt 18, 3) := by decide +kernel
theorem dX8_isSet_4 : decode cX8_isSet 4 = .ok (.iload_n 1, 1) := by decide +kernel
theorem dX8_isSet_5 : decode cX8_isSet 5 = .ok (.aload_n 0, 1) := by decide +kernel
theorem dX8_isSet_6 : decode cX8_isSet 6 = .ok (.invokevirtual 101, 3) := by decide +kernel
theorem dX8_isSet_9 : decode cX8_isSet 9 = .ok (.iconst (-1), 1) := by decide +kernel
theorem dX8_isSet_10 : decode cX8_isSet 10 = .ok (.ixor, 1) := by decide +kernel
theorem dX8_isSet_11 : decode cX8_isSet 11 = .ok (.iand, 1) := by decide +kernel
theorem dX8_isSet_12 : decode cX8_isSet 12 = .ok (.ifCond .ne 7, 3) := by decide +kernel
theorem dX8_isSet_15 : decode cX8_isSet 15 = .ok (.iconst 1, 1) := by decide +kernel
theorem dX8_isSet_16 : decode cX8_isSet 16 = .ok (.goto 4, 3) := by decide +kernel
theorem dX8_isSet_19 : decode cX8_isSet 19 = .ok (.iconst 0, 1) := by decide +kernel
theorem dX8_isSet_20 : decode cX8_isSet 20 = .ok (.ireturn, 1) := by decide +kernel
theorem dX8_setTells_0 : decode cX8_setTells 0 = .ok (.iload_n 2, 1) := by decide +kernel
theorem dX8_setTells_1 : decode cX8_setTells 1 = .ok (.tableswitch 75 0 4 #[35, 40, 47, 61, 68], 35) := by decide +kernel
theorem dX8_setTells_36 : decode cX8_setTells 36 = .ok (.iload_n 1, 1) := by decide +kernel
theorem dX8_setTells_37 : decode cX8_setTells 37 = .ok (.invokestatic 107, 3) := by decide +kernel
theorem dX8_setTells_40 : decode cX8_setTells 40 = .ok (.ireturn, 1) := by decide +kernel
theorem dX8_setTells_41 : decode cX8_setTells 41 = .ok (.aload_n 0, 1) := by decide +kernel
theorem dX8_setTells_42 : decode cX8_setTells 42 = .ok (.getfield 25, 3) := by decide +kernel
theorem dX8_setTells_45 : decode cX8_setTells 45 = .ok (.iload_n 1, 1) := by decide +kernel
theorem dX8_setTells_46 : decode cX8_setTells 46 = .ok (.iaload, 1) := by decide +kernel
theorem dX8_setTells_47 : decode cX8_setTells 47 = .ok (.ireturn, 1) := by decide +kernel
theorem dX8_setTells_48 : decode cX8_setTells 48 = .ok (.aload_n 0, 1) := by decide +kernel
theorem dX8_setTells_49 : decode cX8_setTells 49 = .ok (.iload_n 1, 1) := by decide +kernel
theorem dX8_setTells_50 : decode cX8_setTells 50 = .ok (.invokevirtual 91, 3) := by decide +kernel
theorem dX8_setTells_53 : decode cX8_setTells 53 = .ok (.ifCond .eq 7, 3) := by decide +kernel
theorem dX8_setTells_56 : decode cX8_setTells 56 = .ok (.iconst 1, 1) := by decide +kernel
theorem dX8_setTells_57 : decode cX8_setTells 57 = .ok (.goto 4, 3) := by decide +kernel
theorem dX8_setTells_60 : decode cX8_setTells 60 = .ok (.iconst 0, 1) := by decide +kernel
theorem dX8_setTells_61 : decode cX8_setTells 61 = .ok (.ireturn, 1) := by decide +kernel
theorem dX8_setTells_62 : decode cX8_setTells 62 = .ok (.aload_n 0, 1) := by decide +kernel
theorem dX8_setTells_63 : decode cX8_setTells 63 = .ok (.getfield 35, 3) := by decide +kernel
theorem dX8_setTells_66 : decode cX8_setTells 66 = .ok (.iload_n 1, 1) := by decide +kernel
theorem dX8_setTells_67 : decode cX8_setTells 67 = .ok (.iaload, 1) := by decide +kernel
theorem dX8_setTells_68 : decode cX8_setTells 68 = .ok (.ireturn, 1) := by decide +kernel
theorem dX8_setTells_69 : decode cX8_setTells 69 = .ok (.aload_n 0, 1) := by decide +kernel
theorem dX8_setTells_70 : decode cX8_setTells 70 = .ok (.getfield 32, 3) := by decide +kernel
theorem dX8_setTells_73 : decode cX8_setTells 73 = .ok (.iload_n 1, 1) := by decide +kernel
theorem dX8_setTells_74 : decode cX8_setTells 74 = .ok (.iaload, 1) := by decide +kernel
theorem dX8_setTells_75 : decode cX8_setTells 75 = .ok (.ireturn, 1) := by decide +kernel
theorem dX8_setTells_76 : decode cX8_setTells 76 = .ok (.aload_n 0, 1) := by decide +kernel
theorem dX8_setTells_77 : decode cX8_setTells 77 = .ok (.iload_n 1, 1) := by decide +kernel
theorem dX8_setTells_78 : decode cX8_setTells 78 = .ok (.invokevirtual 110, 3) := by decide +kernel
theorem dX8_setTells_81 : decode cX8_setTells 81 = .ok (.ireturn, 1) := by decide +kernel
theorem dX8_set_0 : decode cX8_set 0 = .ok (.aload_n 0, 1) := by decide +kernel
theorem dX8_set_1 : decode cX8_set 1 = .ok (.aload_n 0, 1) := by decide +kernel
theorem dX8_set_2 : decode cX8_set 2 = .ok (.iload_n 1, 1) := by decide +kernel
theorem dX8_set_3 : decode cX8_set 3 = .ok (.invokevirtual 113, 3) := by decide +kernel
theorem dX8_set_6 : decode cX8_set 6 = .ok (.ifCond .eq 12, 3) := by decide +kernel
theorem dX8_set_9 : decode cX8_set 9 = .ok (.iload_n 2, 1) := by decide +kernel
theorem dX8_set_10 : decode cX8_set 10 = .ok (.iconst 0, 1) := by decide +kernel
theorem dX8_set_11 : decode cX8_set 11 = .ok (.iconst 5, 1) := by decide +kernel
theorem dX8_set_12 : decode cX8_set 12 = .ok (.invokestatic 60, 3) := by decide +kernel
theorem dX8_set_15 : decode cX8_set 15 = .ok (.ifCond .ne 7, 3) := by decide +kernel
theorem dX8_set_18 : decode cX8_set 18 = .ok (.iconst 1, 1) := by decide +kernel
theorem dX8_set_19 : decode cX8_set 19 = .ok (.goto 4, 3) := by decide +kernel
theorem dX8_set_22 : decode cX8_set 22 = .ok (.iconst 0, 1) := by decide +kernel
theorem dX8_set_23 : decode cX8_set 23 = .ok (.invokevirtual 52, 3) := by decide +kernel
theorem dX8_set_26 : decode cX8_set 26 = .ok (.ifCond .eq 5, 3) := by decide +kernel
theorem dX8_set_29 : decode cX8_set 29 = .ok (.iconst 0, 1) := by decide +kernel
theorem dX8_set_30 : decode cX8_set 30 = .ok (.ireturn, 1) := by decide +kernel
theorem dX8_set_31 : decode cX8_set 31 = .ok (.aload_n 0, 1) := by decide +kernel
theorem dX8_set_32 : decode cX8_set 32 = .ok (.iconst (-1), 1) := by decide +kernel
theorem dX8_set_33 : decode cX8_set 33 = .ok (.invokevirtual 94, 3) := by decide +kernel
theorem dX8_set_36 : decode cX8_set 36 = .ok (.aload_n 0, 1) := by decide +kernel
theorem dX8_set_37 : decode cX8_set 37 = .ok (.invokevirtual 98, 3) := by decide +kernel
theorem dX8_set_40 : decode cX8_set 40 = .ok (.aload_n 0, 1) := by decide +kernel
theorem dX8_set_41 : decode cX8_set 41 = .ok (.iload_n 1, 1) := by decide +kernel
theorem dX8_set_42 : decode cX8_set 42 = .ok (.iload_n 2, 1) := by decide +kernel
theorem dX8_set_43 : decode cX8_set 43 = .ok (.invokevirtual 116, 3) := by decide +kernel
theorem dX8_set_46 : decode cX8_set 46 = .ok (.ireturn, 1) := by decide +kernel
theorem dX8_block_0 : decode cX8_block 0 = .ok (.aload_n 0, 1) := by decide +kernel
theorem dX8_block_1 : decode cX8_block 1 = .ok (.iload_n 1, 1) := by decide +kernel
theorem dX8_block_2 : decode cX8_block 2 = .ok (.ifCond .ge 7, 3) := by decide +kernel
theorem dX8_block_5 : decode cX8_block 5 = .ok (.iconst 1, 1) := by decide +kernel
theorem dX8_block_6 : decode cX8_block 6 = .ok (.goto 4, 3) := by decide +kernel
theorem dX8_block_9 : decode cX8_block 9 = .ok (.iconst 0, 1) := by decide +kernel
theorem dX8_block_10 : decode cX8_block 10 = .ok (.invokevirtual 52, 3) := by decide +kernel
theorem dX8_block_13 : decode cX8_block 13 = .ok (.ifCond .eq 5, 3) := by decide +kernel
theorem dX8_block_16 : decode cX8_block 16 = .ok (.iconst 0, 1) := by decide +kernel
theorem dX8_block_17 : decode cX8_block 17 = .ok (.ireturn, 1) := by decide +kernel
theorem dX8_block_18 : decode cX8_block 18 = .ok (.aload_n 0, 1) := by decide +kernel
theorem dX8_block_19 : decode cX8_block 19 = .ok (.iconst (-1), 1) := by decide +kernel
theorem dX8_block_20 : decode cX8_block 20 = .ok (.invokevirtual 94, 3) := by decide +kernel
theorem dX8_block_23 : decode cX8_block 23 = .ok (.iload_n 1, 1) := by decide +kernel
theorem dX8_block_24 : decode cX8_block 24 = .ok (.istore_n 2, 1) := by decide +kernel
theorem dX8_block_25 : decode cX8_block 25 = .ok (.iconst 1, 1) := by decide +kernel
theorem dX8_block_26 : decode cX8_block 26 = .ok (.istore_n 3, 1) := by decide +kernel
theorem dX8_block_27 : decode cX8_block 27 = .ok (.iload_n 3, 1) := by decide +kernel
theorem dX8_block_28 : decode cX8_block 28 = .ok (.aload_n 0, 1) := by decide +kernel
theorem dX8_block_29 : decode cX8_block 29 = .ok (.invokevirtual 101, 3) := by decide +kernel
theorem dX8_block_32 : decode cX8_block 32 = .ok (.if_icmp .gt 26, 3) := by decide +kernel
theorem dX8_block_35 : decode cX8_block 35 = .ok (.aload_n 0, 1) := by decide +kernel
theorem dX8_block_36 : decode cX8_block 36 = .ok (.iload_n 3, 1) := by decide +kernel
theorem dX8_block_37 : decode cX8_block 37 = .ok (.invokevirtual 91, 3) := by decide +kernel
theorem dX8_block_40 : decode cX8_block 40 = .ok (.ifCond .eq 12, 3) := by decide +kernel
theorem dX8_block_43 : decode cX8_block 43 = .ok (.iload_n 2, 1) := by decide +kernel
theorem dX8_block_44 : decode cX8_block 44 = .ok (.ifCond .ne 5, 3) := by decide +kernel
theorem dX8_block_47 : decode cX8_block 47 = .ok (.iload_n 3, 1) := by decide +kernel
theorem dX8_block_48 : decode cX8_block 48 = .ok (.ireturn, 1) := by decide +kernel
theorem dX8_block_49 : decode cX8_block 49 = .ok (.iinc 2 (-1), 3) := by decide +kernel
theorem dX8_block_52 : decode cX8_block 52 = .ok (.iinc 3 1, 3) := by decide +kernel
theorem dX8_block_55 : decode cX8_block 55 = .ok (.goto (-28), 3) := by decide +kernel
theorem dX8_block_58 : decode cX8_block 58 = .ok (.iconst (-1), 1) := by decide +kernel
theorem dX8_block_59 : decode cX8_block 59 = .ok (.ireturn, 1) := by decide +kernel
theorem dX8_sumSet_0 : decode cX8_sumSet 0 = .ok (.lconst 0, 1) := by decide +kernel
theorem dX8_sumSet_1 : decode cX8_sumSet 1 = .ok (.lstore_n 1, 1) := by decide +kernel
theorem dX8_sumSet_2 : decode cX8_sumSet 2 = .ok (.iconst 1, 1) := by decide +kernel
theorem dX8_sumSet_3 : decode cX8_sumSet 3 = .ok (.istore_n 3, 1) := by decide +kernel
theorem dX8_sumSet_4 : decode cX8_sumSet 4 = .ok (.iload_n 3, 1) := by decide +kernel
theorem dX8_sumSet_5 : decode cX8_sumSet 5 = .ok (.aload_n 0, 1) := by decide +kernel
theorem dX8_sumSet_6 : decode cX8_sumSet 6 = .ok (.invokevirtual 101, 3) := by decide +kernel
theorem dX8_sumSet_9 : decode cX8_sumSet 9 = .ok (.if_icmp .gt 20, 3) := by decide +kernel
theorem dX8_sumSet_12 : decode cX8_sumSet 12 = .ok (.lload_n 1, 1) := by decide +kernel
theorem dX8_sumSet_13 : decode cX8_sumSet 13 = .ok (.lconst 1, 1) := by decide +kernel
theorem dX8_sumSet_14 : decode cX8_sumSet 14 = .ok (.aload_n 0, 1) := by decide +kernel
theorem dX8_sumSet_15 : decode cX8_sumSet 15 = .ok (.getfield 25, 3) := by decide +kernel
theorem dX8_sumSet_18 : decode cX8_sumSet 18 = .ok (.iload_n 3, 1) := by decide +kernel
theorem dX8_sumSet_19 : decode cX8_sumSet 19 = .ok (.iaload, 1) := by decide +kernel
theorem dX8_sumSet_20 : decode cX8_sumSet 20 = .ok (.lshl, 1) := by decide +kernel
theorem dX8_sumSet_21 : decode cX8_sumSet 21 = .ok (.lor, 1) := by decide +kernel
theorem dX8_sumSet_22 : decode cX8_sumSet 22 = .ok (.lstore_n 1, 1) := by decide +kernel
theorem dX8_sumSet_23 : decode cX8_sumSet 23 = .ok (.iinc 3 1, 3) := by decide +kernel
theorem dX8_sumSet_26 : decode cX8_sumSet 26 = .ok (.goto (-22), 3) := by decide +kernel
theorem dX8_sumSet_29 : decode cX8_sumSet 29 = .ok (.lload_n 1, 1) := by decide +kernel
theorem dX8_sumSet_30 : decode cX8_sumSet 30 = .ok (.lreturn, 1) := by decide +kernel
theorem dX8_sums_0 : decode cX8_sums 0 = .ok (.aload_n 0, 1) := by decide +kernel
theorem dX8_sums_1 : decode cX8_sums 1 = .ok (.iconst 0, 1) := by decide +kernel
theorem dX8_sums_2 : decode cX8_sums 2 = .ok (.putfield 41, 3) := by decide +kernel
theorem dX8_sums_5 : decode cX8_sums 5 = .ok (.aload_n 0, 1) := by decide +kernel
theorem dX8_sums_6 : decode cX8_sums 6 = .ok (.iconst (-1), 1) := by decide +kernel
theorem dX8_sums_7 : decode cX8_sums 7 = .ok (.invokevirtual 94, 3) := by decide +kernel
theorem dX8_sums_10 : decode cX8_sums 10 = .ok (.aload_n 0, 1) := by decide +kernel
theorem dX8_sums_11 : decode cX8_sums 11 = .ok (.invokevirtual 119, 3) := by decide +kernel
theorem dX8_sums_14 : decode cX8_sums 14 = .ok (.lreturn, 1) := by decide +kernel
theorem dX8_timesOf_0 : decode cX8_timesOf 0 = .ok (.iconst 0, 1) := by decide +kernel
theorem dX8_timesOf_1 : decode cX8_timesOf 1 = .ok (.istore_n 2, 1) := by decide +kernel
theorem dX8_timesOf_2 : decode cX8_timesOf 2 = .ok (.iconst 0, 1) := by decide +kernel
theorem dX8_timesOf_3 : decode cX8_timesOf 3 = .ok (.istore_n 3, 1) := by decide +kernel
theorem dX8_timesOf_4 : decode cX8_timesOf 4 = .ok (.iload_n 3, 1) := by decide +kernel
theorem dX8_timesOf_5 : decode cX8_timesOf 5 = .ok (.aload_n 0, 1) := by decide +kernel
theorem dX8_timesOf_6 : decode cX8_timesOf 6 = .ok (.getfield 7, 3) := by decide +kernel
theorem dX8_timesOf_9 : decode cX8_timesOf 9 = .ok (.iconst 2, 1) := by decide +kernel
theorem dX8_timesOf_10 : decode cX8_timesOf 10 = .ok (.iaload, 1) := by decide +kernel
theorem dX8_timesOf_11 : decode cX8_timesOf 11 = .ok (.if_icmp .ge 29, 3) := by decide +kernel
theorem dX8_timesOf_14 : decode cX8_timesOf 14 = .ok (.iload_n 2, 1) := by decide +kernel
theorem dX8_timesOf_15 : decode cX8_timesOf 15 = .ok (.aload_n 0, 1) := by decide +kernel
theorem dX8_timesOf_16 : decode cX8_timesOf 16 = .ok (.getfield 7, 3) := by decide +kernel
theorem dX8_timesOf_19 : decode cX8_timesOf 19 = .ok (.iconst 3, 1) := by decide +kernel
theorem dX8_timesOf_20 : decode cX8_timesOf 20 = .ok (.iload_n 3, 1) := by decide +kernel
theorem dX8_timesOf_21 : decode cX8_timesOf 21 = .ok (.iadd, 1) := by decide +kernel
theorem dX8_timesOf_22 : decode cX8_timesOf 22 = .ok (.iaload, 1) := by decide +kernel
theorem dX8_timesOf_23 : decode cX8_timesOf 23 = .ok (.iload_n 1, 1) := by decide +kernel
theorem dX8_timesOf_24 : decode cX8_timesOf 24 = .ok (.if_icmp .ne 7, 3) := by decide +kernel
theorem dX8_timesOf_27 : decode cX8_timesOf 27 = .ok (.iconst 1, 1) := by decide +kernel
theorem dX8_timesOf_28 : decode cX8_timesOf 28 = .ok (.goto 4, 3) := by decide +kernel
theorem dX8_timesOf_31 : decode cX8_timesOf 31 = .ok (.iconst 0, 1) := by decide +kernel
theorem dX8_timesOf_32 : decode cX8_timesOf 32 = .ok (.iadd, 1) := by decide +kernel
theorem dX8_timesOf_33 : decode cX8_timesOf 33 = .ok (.istore_n 2, 1) := by decide +kernel
theorem dX8_timesOf_34 : decode cX8_timesOf 34 = .ok (.iinc 3 1, 3) := by decide +kernel
theorem dX8_timesOf_37 : decode cX8_timesOf 37 = .ok (.goto (-33), 3) := by decide +kernel
theorem dX8_timesOf_40 : decode cX8_timesOf 40 = .ok (.iload_n 2, 1) := by decide +kernel
theorem dX8_timesOf_41 : decode cX8_timesOf 41 = .ok (.ireturn, 1) := by decide +kernel
theorem dX8_element_0 : decode cX8_element 0 = .ok (.aload_n 0, 1) := by decide +kernel
theorem dX8_element_1 : decode cX8_element 1 = .ok (.aload_n 0, 1) := by decide +kernel
theorem dX8_element_2 : decode cX8_element 2 = .ok (.iload_n 1, 1) := by decide +kernel
theorem dX8_element_3 : decode cX8_element 3 = .ok (.invokevirtual 75, 3) := by decide +kernel
theorem dX8_element_6 : decode cX8_element 6 = .ok (.ifCond .ne 7, 3) := by decide +kernel
theorem dX8_element_9 : decode cX8_element 9 = .ok (.iconst 1, 1) := by decide +kernel
theorem dX8_element_10 : decode cX8_element 10 = .ok (.goto 17, 3) := by decide +kernel
theorem dX8_element_13 : decode cX8_element 13 = .ok (.iload_n 2, 1) := by decide +kernel
theorem dX8_element_14 : decode cX8_element 14 = .ok (.iconst 0, 1) := by decide +kernel
theorem dX8_element_15 : decode cX8_element 15 = .ok (.iconst 3, 1) := by decide +kernel
theorem dX8_element_16 : decode cX8_element 16 = .ok (.invokestatic 60, 3) := by decide +kernel
theorem dX8_element_19 : decode cX8_element 19 = .ok (.ifCond .ne 7, 3) := by decide +kernel
theorem dX8_element_22 : decode cX8_element 22 = .ok (.iconst 2, 1) := by decide +kernel
theorem dX8_element_23 : decode cX8_element 23 = .ok (.goto 4, 3) := by decide +kernel
theorem dX8_element_26 : decode cX8_element 26 = .ok (.iconst 0, 1) := by decide +kernel
theorem dX8_element_27 : decode cX8_element 27 = .ok (.invokevirtual 52, 3) := by decide +kernel
theorem dX8_element_30 : decode cX8_element 30 = .ok (.ifCond .eq 5, 3) := by decide +kernel
theorem dX8_element_33 : decode cX8_element 33 = .ok (.iconst 0, 1) := by decide +kernel
theorem dX8_element_34 : decode cX8_element 34 = .ok (.ireturn, 1) := by decide +kernel
theorem dX8_element_35 : decode cX8_element 35 = .ok (.aload_n 0, 1) := by decide +kernel
theorem dX8_element_36 : decode cX8_element 36 = .ok (.iconst (-1), 1) := by decide +kernel
theorem dX8_element_37 : decode cX8_element 37 = .ok (.invokevirtual 94, 3) := by decide +kernel
theorem dX8_element_40 : decode cX8_element 40 = .ok (.iload_n 2, 1) := by decide +kernel
theorem dX8_element_41 : decode cX8_element 41 = .ok (.ifCond .ne 11, 3) := by decide +kernel
theorem dX8_element_44 : decode cX8_element 44 = .ok (.aload_n 0, 1) := by decide +kernel
theorem dX8_element_45 : decode cX8_element 45 = .ok (.iload_n 1, 1) := by decide +kernel
theorem dX8_element_46 : decode cX8_element 46 = .ok (.invokevirtual 68, 3) := by decide +kernel
theorem dX8_element_49 : decode cX8_element 49 = .ok (.goto 38, 3) := by decide +kernel
theorem dX8_element_52 : decode cX8_element 52 = .ok (.iload_n 2, 1) := by decide +kernel
theorem dX8_element_53 : decode cX8_element 53 = .ok (.iconst 1, 1) := by decide +kernel
theorem dX8_element_54 : decode cX8_element 54 = .ok (.if_icmp .ne 11, 3) := by decide +kernel
theorem dX8_element_57 : decode cX8_element 57 = .ok (.aload_n 0, 1) := by decide +kernel
theorem dX8_element_58 : decode cX8_element 58 = .ok (.iload_n 1, 1) := by decide +kernel
theorem dX8_element_59 : decode cX8_element 59 = .ok (.invokevirtual 123, 3) := by decide +kernel
theorem dX8_element_62 : decode cX8_element 62 = .ok (.goto 25, 3) := by decide +kernel
theorem dX8_element_65 : decode cX8_element 65 = .ok (.iload_n 2, 1) := by decide +kernel
theorem dX8_element_66 : decode cX8_element 66 = .ok (.iconst 2, 1) := by decide +kernel
theorem dX8_element_67 : decode cX8_element 67 = .ok (.if_icmp .ne 11, 3) := by decide +kernel
theorem dX8_element_70 : decode cX8_element 70 = .ok (.aload_n 0, 1) := by decide +kernel
theorem dX8_element_71 : decode cX8_element 71 = .ok (.iload_n 1, 1) := by decide +kernel
theorem dX8_element_72 : decode cX8_element 72 = .ok (.invokevirtual 126, 3) := by decide +kernel
theorem dX8_element_75 : decode cX8_element 75 = .ok (.goto 12, 3) := by decide +kernel
theorem dX8_element_78 : decode cX8_element 78 = .ok (.aload_n 0, 1) := by decide +kernel
theorem dX8_element_79 : decode cX8_element 79 = .ok (.invokevirtual 119, 3) := by decide +kernel
theorem dX8_element_82 : decode cX8_element 82 = .ok (.iload_n 1, 1) := by decide +kernel
theorem dX8_element_83 : decode cX8_element 83 = .ok (.lshr, 1) := by decide +kernel
theorem dX8_element_84 : decode cX8_element 84 = .ok (.lconst 1, 1) := by decide +kernel
theorem dX8_element_85 : decode cX8_element 85 = .ok (.land, 1) := by decide +kernel
theorem dX8_element_86 : decode cX8_element 86 = .ok (.l2i, 1) := by decide +kernel
theorem dX8_element_87 : decode cX8_element 87 = .ok (.ireturn, 1) := by decide +kernel
theorem dX8_blocksAt_0 : decode cX8_blocksAt 0 = .ok (.iconst 0, 1) := by decide +kernel
theorem dX8_blocksAt_1 : decode cX8_blocksAt 1 = .ok (.istore_n 3, 1) := by decide +kernel
theorem dX8_blocksAt_2 : decode cX8_blocksAt 2 = .ok (.iconst 0, 1) := by decide +kernel
theorem dX8_blocksAt_3 : decode cX8_blocksAt 3 = .ok (.istore 4, 2) := by decide +kernel
theorem dX8_blocksAt_5 : decode cX8_blocksAt 5 = .ok (.iconst 1, 1) := by decide +kernel
theorem dX8_blocksAt_6 : decode cX8_blocksAt 6 = .ok (.istore 5, 2) := by decide +kernel
theorem dX8_blocksAt_8 : decode cX8_blocksAt 8 = .ok (.iload 5, 2) := by decide +kernel
theorem dX8_blocksAt_10 : decode cX8_blocksAt 10 = .ok (.aload_n 0, 1) := by decide +kernel
theorem dX8_blocksAt_11 : decode cX8_blocksAt 11 = .ok (.invokevirtual 101, 3) := by decide +kernel
theorem dX8_blocksAt_14 : decode cX8_blocksAt 14 = .ok (.if_icmp .gt 57, 3) := by decide +kernel
theorem dX8_blocksAt_17 : decode cX8_blocksAt 17 = .ok (.iload 5, 2) := by decide +kernel
theorem dX8_blocksAt_19 : decode cX8_blocksAt 19 = .ok (.iload_n 1, 1) := by decide +kernel
theorem dX8_blocksAt_20 : decode cX8_blocksAt 20 = .ok (.invokestatic 84, 3) := by decide +kernel
theorem dX8_blocksAt_23 : decode cX8_blocksAt 23 = .ok (.ifCond .eq 42, 3) := by decide +kernel
theorem dX8_blocksAt_26 : decode cX8_blocksAt 26 = .ok (.aload_n 0, 1) := by decide +kernel
theorem dX8_blocksAt_27 : decode cX8_blocksAt 27 = .ok (.iload 5, 2) := by decide +kernel
theorem dX8_blocksAt_29 : decode cX8_blocksAt 29 = .ok (.invokevirtual 91, 3) := by decide +kernel
theorem dX8_blocksAt_32 : decode cX8_blocksAt 32 = .ok (.ifCond .eq 33, 3) := by decide +kernel
theorem dX8_blocksAt_35 : decode cX8_blocksAt 35 = .ok (.iinc 3 1, 3) := by decide +kernel
theorem dX8_blocksAt_38 : decode cX8_blocksAt 38 = .ok (.iload 4, 2) := by decide +kernel
theorem dX8_blocksAt_40 : decode cX8_blocksAt 40 = .ok (.ifCond .eq 13, 3) := by decide +kernel
theorem dX8_blocksAt_43 : decode cX8_blocksAt 43 = .ok (.iload 5, 2) := by decide +kernel
theorem dX8_blocksAt_45 : decode cX8_blocksAt 45 = .ok (.invokestatic 107, 3) := by decide +kernel
theorem dX8_blocksAt_48 : decode cX8_blocksAt 48 = .ok (.iload 4, 2) := by decide +kernel
theorem dX8_blocksAt_50 : decode cX8_blocksAt 50 = .ok (.if_icmp .ge 11, 3) := by decide +kernel
theorem dX8_blocksAt_53 : decode cX8_blocksAt 53 = .ok (.iload 5, 2) := by decide +kernel
theorem dX8_blocksAt_55 : decode cX8_blocksAt 55 = .ok (.invokestatic 107, 3) := by decide +kernel
theorem dX8_blocksAt_58 : decode cX8_blocksAt 58 = .ok (.goto 5, 3) := by decide +kernel
theorem dX8_blocksAt_61 : decode cX8_blocksAt 61 = .ok (.iload 4, 2) := by decide +kernel
theorem dX8_blocksAt_63 : decode cX8_blocksAt 63 = .ok (.istore 4, 2) := by decide +kernel
theorem dX8_blocksAt_65 : decode cX8_blocksAt 65 = .ok (.iinc 5 1, 3) := by decide +kernel
theorem dX8_blocksAt_68 : decode cX8_blocksAt 68 = .ok (.goto (-60), 3) := by decide +kernel
theorem dX8_blocksAt_71 : decode cX8_blocksAt 71 = .ok (.iload_n 2, 1) := by decide +kernel
theorem dX8_blocksAt_72 : decode cX8_blocksAt 72 = .ok (.ifCond .eq 8, 3) := by decide +kernel
theorem dX8_blocksAt_75 : decode cX8_blocksAt 75 = .ok (.iload 4, 2) := by decide +kernel
theorem dX8_blocksAt_77 : decode cX8_blocksAt 77 = .ok (.goto 4, 3) := by decide +kernel
theorem dX8_blocksAt_80 : decode cX8_blocksAt 80 = .ok (.iload_n 3, 1) := by decide +kernel
theorem dX8_blocksAt_81 : decode cX8_blocksAt 81 = .ok (.ireturn, 1) := by decide +kernel
theorem dX8_at_0 : decode cX8_at 0 = .ok (.aload_n 0, 1) := by decide +kernel
theorem dX8_at_1 : decode cX8_at 1 = .ok (.aload_n 0, 1) := by decide +kernel
theorem dX8_at_2 : decode cX8_at 2 = .ok (.iload_n 1, 1) := by decide +kernel
theorem dX8_at_3 : decode cX8_at 3 = .ok (.invokevirtual 78, 3) := by decide +kernel
theorem dX8_at_6 : decode cX8_at 6 = .ok (.ifCond .ne 7, 3) := by decide +kernel
theorem dX8_at_9 : decode cX8_at 9 = .ok (.iconst 1, 1) := by decide +kernel
theorem dX8_at_10 : decode cX8_at 10 = .ok (.goto 17, 3) := by decide +kernel
theorem dX8_at_13 : decode cX8_at 13 = .ok (.iload_n 2, 1) := by decide +kernel
theorem dX8_at_14 : decode cX8_at 14 = .ok (.iconst 0, 1) := by decide +kernel
theorem dX8_at_15 : decode cX8_at 15 = .ok (.iconst 3, 1) := by decide +kernel
theorem dX8_at_16 : decode cX8_at 16 = .ok (.invokestatic 60, 3) := by decide +kernel
theorem dX8_at_19 : decode cX8_at 19 = .ok (.ifCond .ne 7, 3) := by decide +kernel
theorem dX8_at_22 : decode cX8_at 22 = .ok (.iconst 2, 1) := by decide +kernel
theorem dX8_at_23 : decode cX8_at 23 = .ok (.goto 4, 3) := by decide +kernel
theorem dX8_at_26 : decode cX8_at 26 = .ok (.iconst 0, 1) := by decide +kernel
theorem dX8_at_27 : decode cX8_at 27 = .ok (.invokevirtual 52, 3) := by decide +kernel
theorem dX8_at_30 : decode cX8_at 30 = .ok (.ifCond .eq 5, 3) := by decide +kernel
theorem dX8_at_33 : decode cX8_at 33 = .ok (.iconst 0, 1) := by decide +kernel
theorem dX8_at_34 : decode cX8_at 34 = .ok (.ireturn, 1) := by decide +kernel
theorem dX8_at_35 : decode cX8_at 35 = .ok (.aload_n 0, 1) := by decide +kernel
theorem dX8_at_36 : decode cX8_at 36 = .ok (.iconst (-1), 1) := by decide +kernel
theorem dX8_at_37 : decode cX8_at 37 = .ok (.invokevirtual 94, 3) := by decide +kernel
theorem dX8_at_40 : decode cX8_at 40 = .ok (.iload_n 2, 1) := by decide +kernel
theorem dX8_at_41 : decode cX8_at 41 = .ok (.ifCond .ne 14, 3) := by decide +kernel
theorem dX8_at_44 : decode cX8_at 44 = .ok (.aload_n 0, 1) := by decide +kernel
theorem dX8_at_45 : decode cX8_at 45 = .ok (.getfield 7, 3) := by decide +kernel
theorem dX8_at_48 : decode cX8_at 48 = .ok (.iconst 3, 1) := by decide +kernel
theorem dX8_at_49 : decode cX8_at 49 = .ok (.iload_n 1, 1) := by decide +kernel
theorem dX8_at_50 : decode cX8_at 50 = .ok (.iadd, 1) := by decide +kernel
theorem dX8_at_51 : decode cX8_at 51 = .ok (.iaload, 1) := by decide +kernel
theorem dX8_at_52 : decode cX8_at 52 = .ok (.goto 35, 3) := by decide +kernel
theorem dX8_at_55 : decode cX8_at 55 = .ok (.iload_n 2, 1) := by decide +kernel
theorem dX8_at_56 : decode cX8_at 56 = .ok (.iconst 1, 1) := by decide +kernel
theorem dX8_at_57 : decode cX8_at 57 = .ok (.if_icmp .ne 15, 3) := by decide +kernel
theorem dX8_at_60 : decode cX8_at 60 = .ok (.aload_n 0, 1) := by decide +kernel
theorem dX8_at_61 : decode cX8_at 61 = .ok (.getfield 7, 3) := by decide +kernel
theorem dX8_at_64 : decode cX8_at 64 = .ok (.bipush 13, 2) := by decide +kernel
theorem dX8_at_66 : decode cX8_at 66 = .ok (.iload_n 1, 1) := by decide +kernel
theorem dX8_at_67 : decode cX8_at 67 = .ok (.iadd, 1) := by decide +kernel
theorem dX8_at_68 : decode cX8_at 68 = .ok (.iaload, 1) := by decide +kernel
theorem dX8_at_69 : decode cX8_at 69 = .ok (.goto 18, 3) := by decide +kernel
theorem dX8_at_72 : decode cX8_at 72 = .ok (.aload_n 0, 1) := by decide +kernel
theorem dX8_at_73 : decode cX8_at 73 = .ok (.iload_n 1, 1) := by decide +kernel
theorem dX8_at_74 : decode cX8_at 74 = .ok (.iload_n 2, 1) := by decide +kernel
theorem dX8_at_75 : decode cX8_at 75 = .ok (.iconst 3, 1) := by decide +kernel
theorem dX8_at_76 : decode cX8_at 76 = .ok (.if_icmp .ne 7, 3) := by decide +kernel
theorem dX8_at_79 : decode cX8_at 79 = .ok (.iconst 1, 1) := by decide +kernel
theorem dX8_at_80 : decode cX8_at 80 = .ok (.goto 4, 3) := by decide +kernel
theorem dX8_at_83 : decode cX8_at 83 = .ok (.iconst 0, 1) := by decide +kernel
theorem dX8_at_84 : decode cX8_at 84 = .ok (.invokevirtual 129, 3) := by decide +kernel
theorem dX8_at_87 : decode cX8_at 87 = .ok (.ireturn, 1) := by decide +kernel
theorem dX8_partSet_0 : decode cX8_partSet 0 = .ok (.iconst 0, 1) := by decide +kernel
theorem dX8_partSet_1 : decode cX8_partSet 1 = .ok (.istore_n 2, 1) := by decide +kernel
theorem dX8_partSet_2 : decode cX8_partSet 2 = .ok (.iconst 0, 1) := by decide +kernel
theorem dX8_partSet_3 : decode cX8_partSet 3 = .ok (.istore_n 3, 1) := by decide +kernel
theorem dX8_partSet_4 : decode cX8_partSet 4 = .ok (.iload_n 3, 1) := by decide +kernel
theorem dX8_partSet_5 : decode cX8_partSet 5 = .ok (.aload_n 0, 1) := by decide +kernel
theorem dX8_partSet_6 : decode cX8_partSet 6 = .ok (.getfield 7, 3) := by decide +kernel
theorem dX8_partSet_9 : decode cX8_partSet 9 = .ok (.iconst 2, 1) := by decide +kernel
theorem dX8_partSet_10 : decode cX8_partSet 10 = .ok (.iaload, 1) := by decide +kernel
theorem dX8_partSet_11 : decode cX8_partSet 11 = .ok (.if_icmp .ge 32, 3) := by decide +kernel
theorem dX8_partSet_14 : decode cX8_partSet 14 = .ok (.iload_n 2, 1) := by decide +kernel
theorem dX8_partSet_15 : decode cX8_partSet 15 = .ok (.aload_n 0, 1) := by decide +kernel
theorem dX8_partSet_16 : decode cX8_partSet 16 = .ok (.getfield 7, 3) := by decide +kernel
theorem dX8_partSet_19 : decode cX8_partSet 19 = .ok (.bipush 13, 2) := by decide +kernel
theorem dX8_partSet_21 : decode cX8_partSet 21 = .ok (.iload_n 3, 1) := by decide +kernel
theorem dX8_partSet_22 : decode cX8_partSet 22 = .ok (.iadd, 1) := by decide +kernel
theorem dX8_partSet_23 : decode cX8_partSet 23 = .ok (.iaload, 1) := by decide +kernel
theorem dX8_partSet_24 : decode cX8_partSet 24 = .ok (.iload_n 1, 1) := by decide +kernel
theorem dX8_partSet_25 : decode cX8_partSet 25 = .ok (.if_icmp .ne 9, 3) := by decide +kernel
theorem dX8_partSet_28 : decode cX8_partSet 28 = .ok (.iconst 1, 1) := by decide +kernel
theorem dX8_partSet_29 : decode cX8_partSet 29 = .ok (.iload_n 3, 1) := by decide +kernel
theorem dX8_partSet_30 : decode cX8_partSet 30 = .ok (.ishl, 1) := by decide +kernel
theorem dX8_partSet_31 : decode cX8_partSet 31 = .ok (.goto 4, 3) := by decide +kernel
theorem dX8_partSet_34 : decode cX8_partSet 34 = .ok (.iconst 0, 1) := by decide +kernel
theorem dX8_partSet_35 : decode cX8_partSet 35 = .ok (.ior, 1) := by decide +kernel
theorem dX8_partSet_36 : decode cX8_partSet 36 = .ok (.istore_n 2, 1) := by decide +kernel
theorem dX8_partSet_37 : decode cX8_partSet 37 = .ok (.iinc 3 1, 3) := by decide +kernel
theorem dX8_partSet_40 : decode cX8_partSet 40 = .ok (.goto (-36), 3) := by decide +kernel
theorem dX8_partSet_43 : decode cX8_partSet 43 = .ok (.iload_n 2, 1) := by decide +kernel
theorem dX8_partSet_44 : decode cX8_partSet 44 = .ok (.ireturn, 1) := by decide +kernel
theorem dX8_part_0 : decode cX8_part 0 = .ok (.aload_n 0, 1) := by decide +kernel
theorem dX8_part_1 : decode cX8_part 1 = .ok (.iload_n 1, 1) := by decide +kernel
theorem dX8_part_2 : decode cX8_part 2 = .ok (.iconst 0, 1) := by decide +kernel
theorem dX8_part_3 : decode cX8_part 3 = .ok (.iconst 5, 1) := by decide +kernel
theorem dX8_part_4 : decode cX8_part 4 = .ok (.invokestatic 60, 3) := by decide +kernel
theorem dX8_part_7 : decode cX8_part 7 = .ok (.ifCond .eq 12, 3) := by decide +kernel
theorem dX8_part_10 : decode cX8_part 10 = .ok (.iload_n 2, 1) := by decide +kernel
theorem dX8_part_11 : decode cX8_part 11 = .ok (.iconst 0, 1) := by decide +kernel
theorem dX8_part_12 : decode cX8_part 12 = .ok (.iconst 2, 1) := by decide +kernel
theorem dX8_part_13 : decode cX8_part 13 = .ok (.invokestatic 60, 3) := by decide +kernel
theorem dX8_part_16 : decode cX8_part 16 = .ok (.ifCond .ne 7, 3) := by decide +kernel
theorem dX8_part_19 : decode cX8_part 19 = .ok (.iconst 1, 1) := by decide +kernel
theorem dX8_part_20 : decode cX8_part 20 = .ok (.goto 4, 3) := by decide +kernel
theorem dX8_part_23 : decode cX8_part 23 = .ok (.iconst 0, 1) := by decide +kernel
theorem dX8_part_24 : decode cX8_part 24 = .ok (.invokevirtual 52, 3) := by decide +kernel
theorem dX8_part_27 : decode cX8_part 27 = .ok (.ifCond .eq 5, 3) := by decide +kernel
theorem dX8_part_30 : decode cX8_part 30 = .ok (.iconst 0, 1) := by decide +kernel
theorem dX8_part_31 : decode cX8_part 31 = .ok (.ireturn, 1) := by decide +kernel
theorem dX8_part_32 : decode cX8_part 32 = .ok (.aload_n 0, 1) := by decide +kernel
theorem dX8_part_33 : decode cX8_part 33 = .ok (.iconst (-1), 1) := by decide +kernel
theorem dX8_part_34 : decode cX8_part 34 = .ok (.invokevirtual 94, 3) := by decide +kernel
theorem dX8_part_37 : decode cX8_part 37 = .ok (.aload_n 0, 1) := by decide +kernel
theorem dX8_part_38 : decode cX8_part 38 = .ok (.iload_n 1, 1) := by decide +kernel
theorem dX8_part_39 : decode cX8_part 39 = .ok (.invokevirtual 133, 3) := by decide +kernel
theorem dX8_part_42 : decode cX8_part 42 = .ok (.istore_n 3, 1) := by decide +kernel
theorem dX8_part_43 : decode cX8_part 43 = .ok (.iload_n 2, 1) := by decide +kernel
theorem dX8_part_44 : decode cX8_part 44 = .ok (.ifCond .ne 7, 3) := by decide +kernel
theorem dX8_part_47 : decode cX8_part 47 = .ok (.iload_n 3, 1) := by decide +kernel
theorem dX8_part_48 : decode cX8_part 48 = .ok (.goto 30, 3) := by decide +kernel
theorem dX8_part_51 : decode cX8_part 51 = .ok (.iload_n 2, 1) := by decide +kernel
theorem dX8_part_52 : decode cX8_part 52 = .ok (.iconst 1, 1) := by decide +kernel
theorem dX8_part_53 : decode cX8_part 53 = .ok (.if_icmp .ne 12, 3) := by decide +kernel
theorem dX8_part_56 : decode cX8_part 56 = .ok (.aload_n 0, 1) := by decide +kernel
theorem dX8_part_57 : decode cX8_part 57 = .ok (.getfield 25, 3) := by decide +kernel
theorem dX8_part_60 : decode cX8_part 60 = .ok (.iload_n 3, 1) := by decide +kernel
theorem dX8_part_61 : decode cX8_part 61 = .ok (.iaload, 1) := by decide +kernel
theorem dX8_part_62 : decode cX8_part 62 = .ok (.goto 16, 3) := by decide +kernel
theorem dX8_part_65 : decode cX8_part 65 = .ok (.aload_n 0, 1) := by decide +kernel
theorem dX8_part_66 : decode cX8_part 66 = .ok (.iload_n 3, 1) := by decide +kernel
theorem dX8_part_67 : decode cX8_part 67 = .ok (.invokevirtual 91, 3) := by decide +kernel
theorem dX8_part_70 : decode cX8_part 70 = .ok (.ifCond .eq 7, 3) := by decide +kernel
theorem dX8_part_73 : decode cX8_part 73 = .ok (.iconst 1, 1) := by decide +kernel
theorem dX8_part_74 : decode cX8_part 74 = .ok (.goto 4, 3) := by decide +kernel
theorem dX8_part_77 : decode cX8_part 77 = .ok (.iconst 0, 1) := by decide +kernel
theorem dX8_part_78 : decode cX8_part 78 = .ok (.ireturn, 1) := by decide +kernel
theorem dX8_blockSize_0 : decode cX8_blockSize 0 = .ok (.iconst 0, 1) := by decide +kernel
theorem dX8_blockSize_1 : decode cX8_blockSize 1 = .ok (.istore_n 2, 1) := by decide +kernel
theorem dX8_blockSize_2 : decode cX8_blockSize 2 = .ok (.iconst 1, 1) := by decide +kernel
theorem dX8_blockSize_3 : decode cX8_blockSize 3 = .ok (.istore_n 3, 1) := by decide +kernel
theorem dX8_blockSize_4 : decode cX8_blockSize 4 = .ok (.iload_n 3, 1) := by decide +kernel
theorem dX8_blockSize_5 : decode cX8_blockSize 5 = .ok (.aload_n 0, 1) := by decide +kernel
theorem dX8_blockSize_6 : decode cX8_blockSize 6 = .ok (.invokevirtual 101, 3) := by decide +kernel
theorem dX8_blockSize_9 : decode cX8_blockSize 9 = .ok (.if_icmp .gt 65, 3) := by decide +kernel
theorem dX8_blockSize_12 : decode cX8_blockSize 12 = .ok (.iload_n 2, 1) := by decide +kernel
theorem dX8_blockSize_13 : decode cX8_blockSize 13 = .ok (.ifCond .eq 26, 3) := by decide +kernel
theorem dX8_blockSize_16 : decode cX8_blockSize 16 = .ok (.iload_n 1, 1) := by decide +kernel
theorem dX8_blockSize_17 : decode cX8_blockSize 17 = .ok (.ifCond .eq 14, 3) := by decide +kernel
theorem dX8_blockSize_20 : decode cX8_blockSize 20 = .ok (.iload_n 3, 1) := by decide +kernel
theorem dX8_blockSize_21 : decode cX8_blockSize 21 = .ok (.invokestatic 107, 3) := by decide +kernel
theorem dX8_blockSize_24 : decode cX8_blockSize 24 = .ok (.iload_n 2, 1) := by decide +kernel
theorem dX8_blockSize_25 : decode cX8_blockSize 25 = .ok (.if_icmp .le 18, 3) := by decide +kernel
theorem dX8_blockSize_28 : decode cX8_blockSize 28 = .ok (.goto 11, 3) := by decide +kernel
theorem dX8_blockSize_31 : decode cX8_blockSize 31 = .ok (.iload_n 3, 1) := by decide +kernel
theorem dX8_blockSize_32 : decode cX8_blockSize 32 = .ok (.invokestatic 107, 3) := by decide +kernel
theorem dX8_blockSize_35 : decode cX8_blockSize 35 = .ok (.iload_n 2, 1) := by decide +kernel
theorem dX8_blockSize_36 : decode cX8_blockSize 36 = .ok (.if_icmp .ge 7, 3) := by decide +kernel
theorem dX8_blockSize_39 : decode cX8_blockSize 39 = .ok (.iconst 1, 1) := by decide +kernel
theorem dX8_blockSize_40 : decode cX8_blockSize 40 = .ok (.goto 4, 3) := by decide +kernel
theorem dX8_blockSize_43 : decode cX8_blockSize 43 = .ok (.iconst 0, 1) := by decide +kernel
theorem dX8_blockSize_44 : decode cX8_blockSize 44 = .ok (.istore 4, 2) := by decide +kernel
theorem dX8_blockSize_46 : decode cX8_blockSize 46 = .ok (.aload_n 0, 1) := by decide +kernel
theorem dX8_blockSize_47 : decode cX8_blockSize 47 = .ok (.iload_n 3, 1) := by decide +kernel
theorem dX8_blockSize_48 : decode cX8_blockSize 48 = .ok (.invokevirtual 91, 3) := by decide +kernel
theorem dX8_blockSize_51 : decode cX8_blockSize 51 = .ok (.ifCond .eq 15, 3) := by decide +kernel
theorem dX8_blockSize_54 : decode cX8_blockSize 54 = .ok (.iload 4, 2) := by decide +kernel
theorem dX8_blockSize_56 : decode cX8_blockSize 56 = .ok (.ifCond .eq 10, 3) := by decide +kernel
theorem dX8_blockSize_59 : decode cX8_blockSize 59 = .ok (.iload_n 3, 1) := by decide +kernel
theorem dX8_blockSize_60 : decode cX8_blockSize 60 = .ok (.invokestatic 107, 3) := by decide +kernel
theorem dX8_blockSize_63 : decode cX8_blockSize 63 = .ok (.goto 4, 3) := by decide +kernel
theorem dX8_blockSize_66 : decode cX8_blockSize 66 = .ok (.iload_n 2, 1) := by decide +kernel
theorem dX8_blockSize_67 : decode cX8_blockSize 67 = .ok (.istore_n 2, 1) := by decide +kernel
theorem dX8_blockSize_68 : decode cX8_blockSize 68 = .ok (.iinc 3 1, 3) := by decide +kernel
theorem dX8_blockSize_71 : decode cX8_blockSize 71 = .ok (.goto (-67), 3) := by decide +kernel
theorem dX8_blockSize_74 : decode cX8_blockSize 74 = .ok (.iload_n 2, 1) := by decide +kernel
theorem dX8_blockSize_75 : decode cX8_blockSize 75 = .ok (.ireturn, 1) := by decide +kernel
theorem dX8_partsThat_0 : decode cX8_partsThat 0 = .ok (.iconst 0, 1) := by decide +kernel
theorem dX8_partsThat_1 : decode cX8_partsThat 1 = .ok (.istore_n 2, 1) := by decide +kernel
theorem dX8_partsThat_2 : decode cX8_partsThat 2 = .ok (.iconst 0, 1) := by decide +kernel
theorem dX8_partsThat_3 : decode cX8_partsThat 3 = .ok (.istore_n 3, 1) := by decide +kernel
theorem dX8_partsThat_4 : decode cX8_partsThat 4 = .ok (.iload_n 3, 1) := by decide +kernel
theorem dX8_partsThat_5 : decode cX8_partsThat 5 = .ok (.bipush 6, 2) := by decide +kernel
theorem dX8_partsThat_7 : decode cX8_partsThat 7 = .ok (.if_icmp .ge 42, 3) := by decide +kernel
theorem dX8_partsThat_10 : decode cX8_partsThat 10 = .ok (.aload_n 0, 1) := by decide +kernel
theorem dX8_partsThat_11 : decode cX8_partsThat 11 = .ok (.iload_n 3, 1) := by decide +kernel
theorem dX8_partsThat_12 : decode cX8_partsThat 12 = .ok (.invokevirtual 133, 3) := by decide +kernel
theorem dX8_partsThat_15 : decode cX8_partsThat 15 = .ok (.istore 4, 2) := by decide +kernel
theorem dX8_partsThat_17 : decode cX8_partsThat 17 = .ok (.iload_n 2, 1) := by decide +kernel
theorem dX8_partsThat_18 : decode cX8_partsThat 18 = .ok (.iload 4, 2) := by decide +kernel
theorem dX8_partsThat_20 : decode cX8_partsThat 20 = .ok (.ifCond .eq 20, 3) := by decide +kernel
theorem dX8_partsThat_23 : decode cX8_partsThat 23 = .ok (.iload_n 1, 1) := by decide +kernel
theorem dX8_partsThat_24 : decode cX8_partsThat 24 = .ok (.ifCond .eq 12, 3) := by decide +kernel
theorem dX8_partsThat_27 : decode cX8_partsThat 27 = .ok (.aload_n 0, 1) := by decide +kernel
theorem dX8_partsThat_28 : decode cX8_partsThat 28 = .ok (.iload 4, 2) := by decide +kernel
theorem dX8_partsThat_30 : decode cX8_partsThat 30 = .ok (.invokevirtual 91, 3) := by decide +kernel
theorem dX8_partsThat_33 : decode cX8_partsThat 33 = .ok (.ifCond .eq 7, 3) := by decide +kernel
theorem dX8_partsThat_36 : decode cX8_partsThat 36 = .ok (.iconst 1, 1) := by decide +kernel
theorem dX8_partsThat_37 : decode cX8_partsThat 37 = .ok (.goto 4, 3) := by decide +kernel
theorem dX8_partsThat_40 : decode cX8_partsThat 40 = .ok (.iconst 0, 1) := by decide +kernel
theorem dX8_partsThat_41 : decode cX8_partsThat 41 = .ok (.iadd, 1) := by decide +kernel
theorem dX8_partsThat_42 : decode cX8_partsThat 42 = .ok (.istore_n 2, 1) := by decide +kernel
theorem dX8_partsThat_43 : decode cX8_partsThat 43 = .ok (.iinc 3 1, 3) := by decide +kernel
theorem dX8_partsThat_46 : decode cX8_partsThat 46 = .ok (.goto (-42), 3) := by decide +kernel
theorem dX8_partsThat_49 : decode cX8_partsThat 49 = .ok (.iload_n 2, 1) := by decide +kernel
theorem dX8_partsThat_50 : decode cX8_partsThat 50 = .ok (.ireturn, 1) := by decide +kernel
theorem dX8_sumMany_0 : decode cX8_sumMany 0 = .ok (.aload_n 0, 1) := by decide +kernel
theorem dX8_sumMany_1 : decode cX8_sumMany 1 = .ok (.invokevirtual 119, 3) := by decide +kernel
theorem dX8_sumMany_4 : decode cX8_sumMany 4 = .ok (.lstore_n 1, 1) := by decide +kernel
theorem dX8_sumMany_5 : decode cX8_sumMany 5 = .ok (.iconst 0, 1) := by decide +kernel
theorem dX8_sumMany_6 : decode cX8_sumMany 6 = .ok (.istore_n 3, 1) := by decide +kernel
theorem dX8_sumMany_7 : decode cX8_sumMany 7 = .ok (.iconst 0, 1) := by decide +kernel
theorem dX8_sumMany_8 : decode cX8_sumMany 8 = .ok (.istore 4, 2) := by decide +kernel
theorem dX8_sumMany_10 : decode cX8_sumMany 10 = .ok (.iload 4, 2) := by decide +kernel
theorem dX8_sumMany_12 : decode cX8_sumMany 12 = .ok (.aload_n 0, 1) := by decide +kernel
theorem dX8_sumMany_13 : decode cX8_sumMany 13 = .ok (.invokevirtual 56, 3) := by decide +kernel
theorem dX8_sumMany_16 : decode cX8_sumMany 16 = .ok (.if_icmp .ge 19, 3) := by decide +kernel
theorem dX8_sumMany_19 : decode cX8_sumMany 19 = .ok (.iload_n 3, 1) := by decide +kernel
theorem dX8_sumMany_20 : decode cX8_sumMany 20 = .ok (.lload_n 1, 1) := by decide +kernel
theorem dX8_sumMany_21 : decode cX8_sumMany 21 = .ok (.iload 4, 2) := by decide +kernel
theorem dX8_sumMany_23 : decode cX8_sumMany 23 = .ok (.lshr, 1) := by decide +kernel
theorem dX8_sumMany_24 : decode cX8_sumMany 24 = .ok (.lconst 1, 1) := by decide +kernel
theorem dX8_sumMany_25 : decode cX8_sumMany 25 = .ok (.land, 1) := by decide +kernel
theorem dX8_sumMany_26 : decode cX8_sumMany 26 = .ok (.l2i, 1) := by decide +kernel
theorem dX8_sumMany_27 : decode cX8_sumMany 27 = .ok (.iadd, 1) := by decide +kernel
theorem dX8_sumMany_28 : decode cX8_sumMany 28 = .ok (.istore_n 3, 1) := by decide +kernel
theorem dX8_sumMany_29 : decode cX8_sumMany 29 = .ok (.iinc 4 1, 3) := by decide +kernel
theorem dX8_sumMany_32 : decode cX8_sumMany 32 = .ok (.goto (-22), 3) := by decide +kernel
theorem dX8_sumMany_35 : decode cX8_sumMany 35 = .ok (.iload_n 3, 1) := by decide +kernel
theorem dX8_sumMany_36 : decode cX8_sumMany 36 = .ok (.ireturn, 1) := by decide +kernel
theorem dX8_wholeTells_0 : decode cX8_wholeTells 0 = .ok (.iload_n 1, 1) := by decide +kernel
theorem dX8_wholeTells_1 : decode cX8_wholeTells 1 = .ok (.tableswitch 172 0 12 #[67, 74, 81, 86, 91, 98, 108, 126, 135, 135, 151, 151, 167], 67) := by decide +kernel
theorem dX8_wholeTells_68 : decode cX8_wholeTells 68 = .ok (.aload_n 0, 1) := by decide +kernel
theorem dX8_wholeTells_69 : decode cX8_wholeTells 69 = .ok (.getfield 7, 3) := by decide +kernel
theorem dX8_wholeTells_72 : decode cX8_wholeTells 72 = .ok (.iconst 0, 1) := by decide +kernel
theorem dX8_wholeTells_73 : decode cX8_wholeTells 73 = .ok (.iaload, 1) := by decide +kernel
theorem dX8_wholeTells_74 : decode cX8_wholeTells 74 = .ok (.ireturn, 1) := by decide +kernel
theorem dX8_wholeTells_75 : decode cX8_wholeTells 75 = .ok (.aload_n 0, 1) := by decide +kernel
theorem dX8_wholeTells_76 : decode cX8_wholeTells 76 = .ok (.getfield 7, 3) := by decide +kernel
theorem dX8_wholeTells_79 : decode cX8_wholeTells 79 = .ok (.iconst 1, 1) := by decide +kernel
theorem dX8_wholeTells_80 : decode cX8_wholeTells 80 = .ok (.iaload, 1) := by decide +kernel
theorem dX8_wholeTells_81 : decode cX8_wholeTells 81 = .ok (.ireturn, 1) := by decide +kernel
theorem dX8_wholeTells_82 : decode cX8_wholeTells 82 = .ok (.aload_n 0, 1) := by decide +kernel
theorem dX8_wholeTells_83 : decode cX8_wholeTells 83 = .ok (.invokevirtual 56, 3) := by decide +kernel
theorem dX8_wholeTells_86 : decode cX8_wholeTells 86 = .ok (.ireturn, 1) := by decide +kernel
theorem dX8_wholeTells_87 : decode cX8_wholeTells 87 = .ok (.aload_n 0, 1) := by decide +kernel
theorem dX8_wholeTells_88 : decode cX8_wholeTells 88 = .ok (.invokevirtual 136, 3) := by decide +kernel
theorem dX8_wholeTells_91 : decode cX8_wholeTells 91 = .ok (.ireturn, 1) := by decide +kernel
theorem dX8_wholeTells_92 : decode cX8_wholeTells 92 = .ok (.aload_n 0, 1) := by decide +kernel
theorem dX8_wholeTells_93 : decode cX8_wholeTells 93 = .ok (.getfield 7, 3) := by decide +kernel
theorem dX8_wholeTells_96 : decode cX8_wholeTells 96 = .ok (.iconst 2, 1) := by decide +kernel
theorem dX8_wholeTells_97 : decode cX8_wholeTells 97 = .ok (.iaload, 1) := by decide +kernel
theorem dX8_wholeTells_98 : decode cX8_wholeTells 98 = .ok (.ireturn, 1) := by decide +kernel
theorem dX8_wholeTells_99 : decode cX8_wholeTells 99 = .ok (.aload_n 0, 1) := by decide +kernel
theorem dX8_wholeTells_100 : decode cX8_wholeTells 100 = .ok (.getfield 25, 3) := by decide +kernel
theorem dX8_wholeTells_103 : decode cX8_wholeTells 103 = .ok (.aload_n 0, 1) := by decide +kernel
theorem dX8_wholeTells_104 : decode cX8_wholeTells 104 = .ok (.invokevirtual 101, 3) := by decide +kernel
theorem dX8_wholeTells_107 : decode cX8_wholeTells 107 = .ok (.iaload, 1) := by decide +kernel
theorem dX8_wholeTells_108 : decode cX8_wholeTells 108 = .ok (.ireturn, 1) := by decide +kernel
theorem dX8_wholeTells_109 : decode cX8_wholeTells 109 = .ok (.aload_n 0, 1) := by decide +kernel
theorem dX8_wholeTells_110 : decode cX8_wholeTells 110 = .ok (.getfield 28, 3) := by decide +kernel
theorem dX8_wholeTells_113 : decode cX8_wholeTells 113 = .ok (.aload_n 0, 1) := by decide +kernel
theorem dX8_wholeTells_114 : decode cX8_wholeTells 114 = .ok (.invokevirtual 101, 3) := by decide +kernel
theorem dX8_wholeTells_117 : decode cX8_wholeTells 117 = .ok (.baload, 1) := by decide +kernel
theorem dX8_wholeTells_118 : decode cX8_wholeTells 118 = .ok (.ifCond .eq 7, 3) := by decide +kernel
theorem dX8_wholeTells_121 : decode cX8_wholeTells 121 = .ok (.iconst 0, 1) := by decide +kernel
theorem dX8_wholeTells_122 : decode cX8_wholeTells 122 = .ok (.goto 4, 3) := by decide +kernel
theorem dX8_wholeTells_125 : decode cX8_wholeTells 125 = .ok (.iconst 1, 1) := by decide +kernel
theorem dX8_wholeTells_126 : decode cX8_wholeTells 126 = .ok (.ireturn, 1) := by decide +kernel
theorem dX8_wholeTells_127 : decode cX8_wholeTells 127 = .ok (.aload_n 0, 1) := by decide +kernel
theorem dX8_wholeTells_128 : decode cX8_wholeTells 128 = .ok (.aload_n 0, 1) := by decide +kernel
theorem dX8_wholeTells_129 : decode cX8_wholeTells 129 = .ok (.invokevirtual 101, 3) := by decide +kernel
theorem dX8_wholeTells_132 : decode cX8_wholeTells 132 = .ok (.invokevirtual 110, 3) := by decide +kernel
theorem dX8_wholeTells_135 : decode cX8_wholeTells 135 = .ok (.ireturn, 1) := by decide +kernel
theorem dX8_wholeTells_136 : decode cX8_wholeTells 136 = .ok (.aload_n 0, 1) := by decide +kernel
theorem dX8_wholeTells_137 : decode cX8_wholeTells 137 = .ok (.iload_n 1, 1) := by decide +kernel
theorem dX8_wholeTells_138 : decode cX8_wholeTells 138 = .ok (.bipush 9, 2) := by decide +kernel
theorem dX8_wholeTells_140 : decode cX8_wholeTells 140 = .ok (.if_icmp .ne 7, 3) := by decide +kernel
theorem dX8_wholeTells_143 : decode cX8_wholeTells 143 = .ok (.iconst 1, 1) := by decide +kernel
theorem dX8_wholeTells_144 : decode cX8_wholeTells 144 = .ok (.goto 4, 3) := by decide +kernel
theorem dX8_wholeTells_147 : decode cX8_wholeTells 147 = .ok (.iconst 0, 1) := by decide +kernel
theorem dX8_wholeTells_148 : decode cX8_wholeTells 148 = .ok (.invokevirtual 139, 3) := by decide +kernel
theorem dX8_wholeTells_151 : decode cX8_wholeTells 151 = .ok (.ireturn, 1) := by decide +kernel
theorem dX8_wholeTells_152 : decode cX8_wholeTells 152 = .ok (.aload_n 0, 1) := by decide +kernel
theorem dX8_wholeTells_153 : decode cX8_wholeTells 153 = .ok (.iload_n 1, 1) := by decide +kernel
theorem dX8_wholeTells_154 : decode cX8_wholeTells 154 = .ok (.bipush 11, 2) := by decide +kernel
theorem dX8_wholeTells_156 : decode cX8_wholeTells 156 = .ok (.if_icmp .ne 7, 3) := by decide +kernel
theorem dX8_wholeTells_159 : decode cX8_wholeTells 159 = .ok (.iconst 1, 1) := by decide +kernel
theorem dX8_wholeTells_160 : decode cX8_wholeTells 160 = .ok (.goto 4, 3) := by decide +kernel
theorem dX8_wholeTells_163 : decode cX8_wholeTells 163 = .ok (.iconst 0, 1) := by decide +kernel
theorem dX8_wholeTells_164 : decode cX8_wholeTells 164 = .ok (.invokevirtual 143, 3) := by decide +kernel
theorem dX8_wholeTells_167 : decode cX8_wholeTells 167 = .ok (.ireturn, 1) := by decide +kernel
theorem dX8_wholeTells_168 : decode cX8_wholeTells 168 = .ok (.aload_n 0, 1) := by decide +kernel
theorem dX8_wholeTells_169 : decode cX8_wholeTells 169 = .ok (.invokevirtual 146, 3) := by decide +kernel
theorem dX8_wholeTells_172 : decode cX8_wholeTells 172 = .ok (.ireturn, 1) := by decide +kernel
theorem dX8_wholeTells_173 : decode cX8_wholeTells 173 = .ok (.aload_n 0, 1) := by decide +kernel
theorem dX8_wholeTells_174 : decode cX8_wholeTells 174 = .ok (.getfield 149, 3) := by decide +kernel
theorem dX8_wholeTells_177 : decode cX8_wholeTells 177 = .ok (.ireturn, 1) := by decide +kernel
theorem dX8_whole_0 : decode cX8_whole 0 = .ok (.aload_n 0, 1) := by decide +kernel
theorem dX8_whole_1 : decode cX8_whole 1 = .ok (.iload_n 1, 1) := by decide +kernel
theorem dX8_whole_2 : decode cX8_whole 2 = .ok (.iconst 0, 1) := by decide +kernel
theorem dX8_whole_3 : decode cX8_whole 3 = .ok (.bipush 13, 2) := by decide +kernel
theorem dX8_whole_5 : decode cX8_whole 5 = .ok (.invokestatic 60, 3) := by decide +kernel
theorem dX8_whole_8 : decode cX8_whole 8 = .ok (.ifCond .ne 7, 3) := by decide +kernel
theorem dX8_whole_11 : decode cX8_whole 11 = .ok (.iconst 1, 1) := by decide +kernel
theorem dX8_whole_12 : decode cX8_whole 12 = .ok (.goto 4, 3) := by decide +kernel
theorem dX8_whole_15 : decode cX8_whole 15 = .ok (.iconst 0, 1) := by decide +kernel
theorem dX8_whole_16 : decode cX8_whole 16 = .ok (.invokevirtual 52, 3) := by decide +kernel
theorem dX8_whole_19 : decode cX8_whole 19 = .ok (.ifCond .eq 5, 3) := by decide +kernel
theorem dX8_whole_22 : decode cX8_whole 22 = .ok (.iconst 0, 1) := by decide +kernel
theorem dX8_whole_23 : decode cX8_whole 23 = .ok (.ireturn, 1) := by decide +kernel
theorem dX8_whole_24 : decode cX8_whole 24 = .ok (.aload_n 0, 1) := by decide +kernel
theorem dX8_whole_25 : decode cX8_whole 25 = .ok (.iconst (-1), 1) := by decide +kernel
theorem dX8_whole_26 : decode cX8_whole 26 = .ok (.invokevirtual 94, 3) := by decide +kernel
theorem dX8_whole_29 : decode cX8_whole 29 = .ok (.aload_n 0, 1) := by decide +kernel
theorem dX8_whole_30 : decode cX8_whole 30 = .ok (.iload_n 1, 1) := by decide +kernel
theorem dX8_whole_31 : decode cX8_whole 31 = .ok (.invokevirtual 152, 3) := by decide +kernel
theorem dX8_whole_34 : decode cX8_whole 34 = .ok (.ireturn, 1) := by decide +kernel
theorem dX8_cross_0 : decode cX8_cross 0 = .ok (.aload_n 0, 1) := by decide +kernel
theorem dX8_cross_1 : decode cX8_cross 1 = .ok (.iconst 0, 1) := by decide +kernel
theorem dX8_cross_2 : decode cX8_cross 2 = .ok (.putfield 41, 3) := by decide +kernel
theorem dX8_cross_5 : decode cX8_cross 5 = .ok (.dconst 0, 1) := by decide +kernel
theorem dX8_cross_6 : decode cX8_cross 6 = .ok (.dstore_n 1, 1) := by decide +kernel
theorem dX8_cross_7 : decode cX8_cross 7 = .ok (.iconst 0, 1) := by decide +kernel
theorem dX8_cross_8 : decode cX8_cross 8 = .ok (.istore_n 3, 1) := by decide +kernel
theorem dX8_cross_9 : decode cX8_cross 9 = .ok (.iload_n 3, 1) := by decide +kernel
theorem dX8_cross_10 : decode cX8_cross 10 = .ok (.aload_n 0, 1) := by decide +kernel
theorem dX8_cross_11 : decode cX8_cross 11 = .ok (.getfield 7, 3) := by decide +kernel
theorem dX8_cross_14 : decode cX8_cross 14 = .ok (.iconst 2, 1) := by decide +kernel
theorem dX8_cross_15 : decode cX8_cross 15 = .ok (.iaload, 1) := by decide +kernel
theorem dX8_cross_16 : decode cX8_cross 16 = .ok (.if_icmp .ge 27, 3) := by decide +kernel
theorem dX8_cross_19 : decode cX8_cross 19 = .ok (.dload_n 1, 1) := by decide +kernel
theorem dX8_cross_20 : decode cX8_cross 20 = .ok (.dconst 1, 1) := by decide +kernel
theorem dX8_cross_21 : decode cX8_cross 21 = .ok (.aload_n 0, 1) := by decide +kernel
theorem dX8_cross_22 : decode cX8_cross 22 = .ok (.aload_n 0, 1) := by decide +kernel
theorem dX8_cross_23 : decode cX8_cross 23 = .ok (.getfield 7, 3) := by decide +kernel
theorem dX8_cross_26 : decode cX8_cross 26 = .ok (.iconst 3, 1) := by decide +kernel
theorem dX8_cross_27 : decode cX8_cross 27 = .ok (.iload_n 3, 1) := by decide +kernel
theorem dX8_cross_28 : decode cX8_cross 28 = .ok (.iadd, 1) := by decide +kernel
theorem dX8_cross_29 : decode cX8_cross 29 = .ok (.iaload, 1) := by decide +kernel
theorem dX8_cross_30 : decode cX8_cross 30 = .ok (.invokevirtual 68, 3) := by decide +kernel
theorem dX8_cross_33 : decode cX8_cross 33 = .ok (.i2d, 1) := by decide +kernel
theorem dX8_cross_34 : decode cX8_cross 34 = .ok (.ddiv, 1) := by decide +kernel
theorem dX8_cross_35 : decode cX8_cross 35 = .ok (.dadd, 1) := by decide +kernel
theorem dX8_cross_36 : decode cX8_cross 36 = .ok (.dstore_n 1, 1) := by decide +kernel
theorem dX8_cross_37 : decode cX8_cross 37 = .ok (.iinc 3 1, 3) := by decide +kernel
theorem dX8_cross_40 : decode cX8_cross 40 = .ok (.goto (-31), 3) := by decide +kernel
theorem dX8_cross_43 : decode cX8_cross 43 = .ok (.dload_n 1, 1) := by decide +kernel
theorem dX8_cross_44 : decode cX8_cross 44 = .ok (.dreturn, 1) := by decide +kernel
theorem dX8_reason_0 : decode cX8_reason 0 = .ok (.aload_n 0, 1) := by decide +kernel
theorem dX8_reason_1 : decode cX8_reason 1 = .ok (.iload_n 1, 1) := by decide +kernel
theorem dX8_reason_2 : decode cX8_reason 2 = .ok (.iconst 0, 1) := by decide +kernel
theorem dX8_reason_3 : decode cX8_reason 3 = .ok (.iconst 5, 1) := by decide +kernel
theorem dX8_reason_4 : decode cX8_reason 4 = .ok (.invokestatic 60, 3) := by decide +kernel
theorem dX8_reason_7 : decode cX8_reason 7 = .ok (.ifCond .ne 7, 3) := by decide +kernel
theorem dX8_reason_10 : decode cX8_reason 10 = .ok (.iconst 1, 1) := by decide +kernel
theorem dX8_reason_11 : decode cX8_reason 11 = .ok (.goto 4, 3) := by decide +kernel
theorem dX8_reason_14 : decode cX8_reason 14 = .ok (.iconst 0, 1) := by decide +kernel
theorem dX8_reason_15 : decode cX8_reason 15 = .ok (.invokevirtual 52, 3) := by decide +kernel
theorem dX8_reason_18 : decode cX8_reason 18 = .ok (.ifCond .eq 5, 3) := by decide +kernel
theorem dX8_reason_21 : decode cX8_reason 21 = .ok (.iconst 0, 1) := by decide +kernel
theorem dX8_reason_22 : decode cX8_reason 22 = .ok (.ireturn, 1) := by decide +kernel
theorem dX8_reason_23 : decode cX8_reason 23 = .ok (.aload_n 0, 1) := by decide +kernel
theorem dX8_reason_24 : decode cX8_reason 24 = .ok (.iconst (-1), 1) := by decide +kernel
theorem dX8_reason_25 : decode cX8_reason 25 = .ok (.invokevirtual 94, 3) := by decide +kernel
theorem dX8_reason_28 : decode cX8_reason 28 = .ok (.aload_n 0, 1) := by decide +kernel
theorem dX8_reason_29 : decode cX8_reason 29 = .ok (.iload_n 1, 1) := by decide +kernel
theorem dX8_reason_30 : decode cX8_reason 30 = .ok (.invokevirtual 133, 3) := by decide +kernel
theorem dX8_reason_33 : decode cX8_reason 33 = .ok (.istore_n 2, 1) := by decide +kernel
theorem dX8_reason_34 : decode cX8_reason 34 = .ok (.iload_n 2, 1) := by decide +kernel
theorem dX8_reason_35 : decode cX8_reason 35 = .ok (.ifCond .ne 7, 3) := by decide +kernel
theorem dX8_reason_38 : decode cX8_reason 38 = .ok (.iconst 1, 1) := by decide +kernel
theorem dX8_reason_39 : decode cX8_reason 39 = .ok (.goto 29, 3) := by decide +kernel
theorem dX8_reason_42 : decode cX8_reason 42 = .ok (.aload_n 0, 1) := by decide +kernel
theorem dX8_reason_43 : decode cX8_reason 43 = .ok (.getfield 25, 3) := by decide +kernel
theorem dX8_reason_46 : decode cX8_reason 46 = .ok (.iload_n 2, 1) := by decide +kernel
theorem dX8_reason_47 : decode cX8_reason 47 = .ok (.iaload, 1) := by decide +kernel
theorem dX8_reason_48 : decode cX8_reason 48 = .ok (.ifCond .eq 7, 3) := by decide +kernel
theorem dX8_reason_51 : decode cX8_reason 51 = .ok (.iconst 2, 1) := by decide +kernel
theorem dX8_reason_52 : decode cX8_reason 52 = .ok (.goto 16, 3) := by decide +kernel
theorem dX8_reason_55 : decode cX8_reason 55 = .ok (.aload_n 0, 1) := by decide +kernel
theorem dX8_reason_56 : decode cX8_reason 56 = .ok (.iload_n 2, 1) := by decide +kernel
theorem dX8_reason_57 : decode cX8_reason 57 = .ok (.invokevirtual 91, 3) := by decide +kernel
theorem dX8_reason_60 : decode cX8_reason 60 = .ok (.ifCond .eq 7, 3) := by decide +kernel
theorem dX8_reason_63 : decode cX8_reason 63 = .ok (.iconst 0, 1) := by decide +kernel
theorem dX8_reason_64 : decode cX8_reason 64 = .ok (.goto 4, 3) := by decide +kernel
theorem dX8_reason_67 : decode cX8_reason 67 = .ok (.iconst 3, 1) := by decide +kernel
theorem dX8_reason_68 : decode cX8_reason 68 = .ok (.ireturn, 1) := by decide +kernel
theorem dX8_with_0 : decode cX8_with 0 = .ok (.lload_n 1, 1) := by decide +kernel
theorem dX8_with_1 : decode cX8_with 1 = .ok (.lconst 1, 1) := by decide +kernel
theorem dX8_with_2 : decode cX8_with 2 = .ok (.iload_n 3, 1) := by decide +kernel
theorem dX8_with_3 : decode cX8_with 3 = .ok (.lshl, 1) := by decide +kernel
theorem dX8_with_4 : decode cX8_with 4 = .ok (.lor, 1) := by decide +kernel
theorem dX8_with_5 : decode cX8_with 5 = .ok (.lstore 4, 2) := by decide +kernel
theorem dX8_with_7 : decode cX8_with 7 = .ok (.iconst 0, 1) := by decide +kernel
theorem dX8_with_8 : decode cX8_with 8 = .ok (.istore 6, 2) := by decide +kernel
theorem dX8_with_10 : decode cX8_with 10 = .ok (.iload 6, 2) := by decide +kernel
theorem dX8_with_12 : decode cX8_with 12 = .ok (.aload_n 0, 1) := by decide +kernel
theorem dX8_with_13 : decode cX8_with 13 = .ok (.invokevirtual 56, 3) := by decide +kernel
theorem dX8_with_16 : decode cX8_with 16 = .ok (.if_icmp .ge 38, 3) := by decide +kernel
theorem dX8_with_19 : decode cX8_with 19 = .ok (.lload 4, 2) := by decide +kernel
theorem dX8_with_21 : decode cX8_with 21 = .ok (.lload_n 1, 1) := by decide +kernel
theorem dX8_with_22 : decode cX8_with 22 = .ok (.iload 6, 2) := by decide +kernel
theorem dX8_with_24 : decode cX8_with 24 = .ok (.lshr, 1) := by decide +kernel
theorem dX8_with_25 : decode cX8_with 25 = .ok (.lconst 1, 1) := by decide +kernel
theorem dX8_with_26 : decode cX8_with 26 = .ok (.land, 1) := by decide +kernel
theorem dX8_with_27 : decode cX8_with 27 = .ok (.lconst 1, 1) := by decide +kernel
theorem dX8_with_28 : decode cX8_with 28 = .ok (.lcmp, 1) := by decide +kernel
theorem dX8_with_29 : decode cX8_with 29 = .ok (.ifCond .ne 15, 3) := by decide +kernel
theorem dX8_with_32 : decode cX8_with 32 = .ok (.lconst 1, 1) := by decide +kernel
theorem dX8_with_33 : decode cX8_with 33 = .ok (.aload_n 0, 1) := by decide +kernel
theorem dX8_with_34 : decode cX8_with 34 = .ok (.iload 6, 2) := by decide +kernel
theorem dX8_with_36 : decode cX8_with 36 = .ok (.iload_n 3, 1) := by decide +kernel
theorem dX8_with_37 : decode cX8_with 37 = .ok (.invokevirtual 64, 3) := by decide +kernel
theorem dX8_with_40 : decode cX8_with 40 = .ok (.lshl, 1) := by decide +kernel
theorem dX8_with_41 : decode cX8_with 41 = .ok (.goto 4, 3) := by decide +kernel
theorem dX8_with_44 : decode cX8_with 44 = .ok (.lconst 0, 1) := by decide +kernel
theorem dX8_with_45 : decode cX8_with 45 = .ok (.lor, 1) := by decide +kernel
theorem dX8_with_46 : decode cX8_with 46 = .ok (.lstore 4, 2) := by decide +kernel
theorem dX8_with_48 : decode cX8_with 48 = .ok (.iinc 6 1, 3) := by decide +kernel
theorem dX8_with_51 : decode cX8_with 51 = .ok (.goto (-41), 3) := by decide +kernel
theorem dX8_with_54 : decode cX8_with 54 = .ok (.lload 4, 2) := by decide +kernel
theorem dX8_with_56 : decode cX8_with 56 = .ok (.lreturn, 1) := by decide +kernel
theorem dX8_freeBy_0 : decode cX8_freeBy 0 = .ok (.iconst 0, 1) := by decide +kernel
theorem dX8_freeBy_1 : decode cX8_freeBy 1 = .ok (.istore_n 3, 1) := by decide +kernel
theorem dX8_freeBy_2 : decode cX8_freeBy 2 = .ok (.iload_n 3, 1) := by decide +kernel
theorem dX8_freeBy_3 : decode cX8_freeBy 3 = .ok (.aload_n 0, 1) := by decide +kernel
theorem dX8_freeBy_4 : decode cX8_freeBy 4 = .ok (.invokevirtual 56, 3) := by decide +kernel
theorem dX8_freeBy_7 : decode cX8_freeBy 7 = .ok (.if_icmp .ge 24, 3) := by decide +kernel
theorem dX8_freeBy_10 : decode cX8_freeBy 10 = .ok (.aload_n 0, 1) := by decide +kernel
theorem dX8_freeBy_11 : decode cX8_freeBy 11 = .ok (.lload_n 1, 1) := by decide +kernel
theorem dX8_freeBy_12 : decode cX8_freeBy 12 = .ok (.iload_n 3, 1) := by decide +kernel
theorem dX8_freeBy_13 : decode cX8_freeBy 13 = .ok (.invokevirtual 155, 3) := by decide +kernel
theorem dX8_freeBy_16 : decode cX8_freeBy 16 = .ok (.lconst 1, 1) := by decide +kernel
theorem dX8_freeBy_17 : decode cX8_freeBy 17 = .ok (.land, 1) := by decide +kernel
theorem dX8_freeBy_18 : decode cX8_freeBy 18 = .ok (.lconst 0, 1) := by decide +kernel
theorem dX8_freeBy_19 : decode cX8_freeBy 19 = .ok (.lcmp, 1) := by decide +kernel
theorem dX8_freeBy_20 : decode cX8_freeBy 20 = .ok (.ifCond .ne 5, 3) := by decide +kernel
theorem dX8_freeBy_23 : decode cX8_freeBy 23 = .ok (.iload_n 3, 1) := by decide +kernel
theorem dX8_freeBy_24 : decode cX8_freeBy 24 = .ok (.ireturn, 1) := by decide +kernel
theorem dX8_freeBy_25 : decode cX8_freeBy 25 = .ok (.iinc 3 1, 3) := by decide +kernel
theorem dX8_freeBy_28 : decode cX8_freeBy 28 = .ok (.goto (-26), 3) := by decide +kernel
theorem dX8_freeBy_31 : decode cX8_freeBy 31 = .ok (.iconst (-1), 1) := by decide +kernel
theorem dX8_freeBy_32 : decode cX8_freeBy 32 = .ok (.ireturn, 1) := by decide +kernel
theorem dX8_freeElement_0 : decode cX8_freeElement 0 = .ok (.aload_n 0, 1) := by decide +kernel
theorem dX8_freeElement_1 : decode cX8_freeElement 1 = .ok (.iconst 0, 1) := by decide +kernel
theorem dX8_freeElement_2 : decode cX8_freeElement 2 = .ok (.putfield 41, 3) := by decide +kernel
theorem dX8_freeElement_5 : decode cX8_freeElement 5 = .ok (.aload_n 0, 1) := by decide +kernel
theorem dX8_freeElement_6 : decode cX8_freeElement 6 = .ok (.iconst (-1), 1) := by decide +kernel
theorem dX8_freeElement_7 : decode cX8_freeElement 7 = .ok (.invokevirtual 94, 3) := by decide +kernel
theorem dX8_freeElement_10 : decode cX8_freeElement 10 = .ok (.aload_n 0, 1) := by decide +kernel
theorem dX8_freeElement_11 : decode cX8_freeElement 11 = .ok (.aload_n 0, 1) := by decide +kernel
theorem dX8_freeElement_12 : decode cX8_freeElement 12 = .ok (.invokevirtual 119, 3) := by decide +kernel
theorem dX8_freeElement_15 : decode cX8_freeElement 15 = .ok (.invokevirtual 159, 3) := by decide +kernel
theorem dX8_freeElement_18 : decode cX8_freeElement 18 = .ok (.ireturn, 1) := by decide +kernel
theorem dX8_freeFor_0 : decode cX8_freeFor 0 = .ok (.aload_n 0, 1) := by decide +kernel
theorem dX8_freeFor_1 : decode cX8_freeFor 1 = .ok (.iconst 0, 1) := by decide +kernel
theorem dX8_freeFor_2 : decode cX8_freeFor 2 = .ok (.putfield 41, 3) := by decide +kernel
theorem dX8_freeFor_5 : decode cX8_freeFor 5 = .ok (.aload_n 0, 1) := by decide +kernel
theorem dX8_freeFor_6 : decode cX8_freeFor 6 = .ok (.iconst (-1), 1) := by decide +kernel
theorem dX8_freeFor_7 : decode cX8_freeFor 7 = .ok (.invokevirtual 94, 3) := by decide +kernel
theorem dX8_freeFor_10 : decode cX8_freeFor 10 = .ok (.aload_n 0, 1) := by decide +kernel
theorem dX8_freeFor_11 : decode cX8_freeFor 11 = .ok (.invokevirtual 119, 3) := by decide +kernel
theorem dX8_freeFor_14 : decode cX8_freeFor 14 = .ok (.lstore_n 1, 1) := by decide +kernel
theorem dX8_freeFor_15 : decode cX8_freeFor 15 = .ok (.iconst 0, 1) := by decide +kernel
theorem dX8_freeFor_16 : decode cX8_freeFor 16 = .ok (.istore_n 3, 1) := by decide +kernel
theorem dX8_freeFor_17 : decode cX8_freeFor 17 = .ok (.aload_n 0, 1) := by decide +kernel
theorem dX8_freeFor_18 : decode cX8_freeFor 18 = .ok (.lload_n 1, 1) := by decide +kernel
theorem dX8_freeFor_19 : decode cX8_freeFor 19 = .ok (.invokevirtual 159, 3) := by decide +kernel
theorem dX8_freeFor_22 : decode cX8_freeFor 22 = .ok (.istore 4, 2) := by decide +kernel
theorem dX8_freeFor_24 : decode cX8_freeFor 24 = .ok (.iload 4, 2) := by decide +kernel
theorem dX8_freeFor_26 : decode cX8_freeFor 26 = .ok (.iconst (-1), 1) := by decide +kernel
theorem dX8_freeFor_27 : decode cX8_freeFor 27 = .ok (.if_icmp .eq 24, 3) := by decide +kernel
theorem dX8_freeFor_30 : decode cX8_freeFor 30 = .ok (.aload_n 0, 1) := by decide +kernel
theorem dX8_freeFor_31 : decode cX8_freeFor 31 = .ok (.lload_n 1, 1) := by decide +kernel
theorem dX8_freeFor_32 : decode cX8_freeFor 32 = .ok (.iload 4, 2) := by decide +kernel
theorem dX8_freeFor_34 : decode cX8_freeFor 34 = .ok (.invokevirtual 155, 3) := by decide +kernel
theorem dX8_freeFor_37 : decode cX8_freeFor 37 = .ok (.lstore_n 1, 1) := by decide +kernel
theorem dX8_freeFor_38 : decode cX8_freeFor 38 = .ok (.iinc 3 1, 3) := by decide +kernel
theorem dX8_freeFor_41 : decode cX8_freeFor 41 = .ok (.aload_n 0, 1) := by decide +kernel
theorem dX8_freeFor_42 : decode cX8_freeFor 42 = .ok (.lload_n 1, 1) := by decide +kernel
theorem dX8_freeFor_43 : decode cX8_freeFor 43 = .ok (.invokevirtual 159, 3) := by decide +kernel
theorem dX8_freeFor_46 : decode cX8_freeFor 46 = .ok (.istore 4, 2) := by decide +kernel
theorem dX8_freeFor_48 : decode cX8_freeFor 48 = .ok (.goto (-24), 3) := by decide +kernel
theorem dX8_freeFor_51 : decode cX8_freeFor 51 = .ok (.iload_n 3, 1) := by decide +kernel
theorem dX8_freeFor_52 : decode cX8_freeFor 52 = .ok (.ireturn, 1) := by decide +kernel
theorem dX8_blocksWith_0 : decode cX8_blocksWith 0 = .ok (.aload_n 0, 1) := by decide +kernel
theorem dX8_blocksWith_1 : decode cX8_blocksWith 1 = .ok (.aload_n 0, 1) := by decide +kernel
theorem dX8_blocksWith_2 : decode cX8_blocksWith 2 = .ok (.iload_n 1, 1) := by decide +kernel
theorem dX8_blocksWith_3 : decode cX8_blocksWith 3 = .ok (.invokevirtual 75, 3) := by decide +kernel
theorem dX8_blocksWith_6 : decode cX8_blocksWith 6 = .ok (.ifCond .ne 7, 3) := by decide +kernel
theorem dX8_blocksWith_9 : decode cX8_blocksWith 9 = .ok (.iconst 1, 1) := by decide +kernel
theorem dX8_blocksWith_10 : decode cX8_blocksWith 10 = .ok (.goto 18, 3) := by decide +kernel
theorem dX8_blocksWith_13 : decode cX8_blocksWith 13 = .ok (.iload_n 2, 1) := by decide +kernel
theorem dX8_blocksWith_14 : decode cX8_blocksWith 14 = .ok (.iconst 1, 1) := by decide +kernel
theorem dX8_blocksWith_15 : decode cX8_blocksWith 15 = .ok (.bipush 11, 2) := by decide +kernel
theorem dX8_blocksWith_17 : decode cX8_blocksWith 17 = .ok (.invokestatic 60, 3) := by decide +kernel
theorem dX8_blocksWith_20 : decode cX8_blocksWith 20 = .ok (.ifCond .ne 7, 3) := by decide +kernel
theorem dX8_blocksWith_23 : decode cX8_blocksWith 23 = .ok (.iconst 2, 1) := by decide +kernel
theorem dX8_blocksWith_24 : decode cX8_blocksWith 24 = .ok (.goto 4, 3) := by decide +kernel
theorem dX8_blocksWith_27 : decode cX8_blocksWith 27 = .ok (.iconst 0, 1) := by decide +kernel
theorem dX8_blocksWith_28 : decode cX8_blocksWith 28 = .ok (.invokevirtual 52, 3) := by decide +kernel
theorem dX8_blocksWith_31 : decode cX8_blocksWith 31 = .ok (.ifCond .eq 5, 3) := by decide +kernel
theorem dX8_blocksWith_34 : decode cX8_blocksWith 34 = .ok (.iconst 0, 1) := by decide +kernel
theorem dX8_blocksWith_35 : decode cX8_blocksWith 35 = .ok (.ireturn, 1) := by decide +kernel
theorem dX8_blocksWith_36 : decode cX8_blocksWith 36 = .ok (.aload_n 0, 1) := by decide +kernel
theorem dX8_blocksWith_37 : decode cX8_blocksWith 37 = .ok (.iload_n 1, 1) := by decide +kernel
theorem dX8_blocksWith_38 : decode cX8_blocksWith 38 = .ok (.invokevirtual 94, 3) := by decide +kernel
theorem dX8_blocksWith_41 : decode cX8_blocksWith 41 = .ok (.iconst 0, 1) := by decide +kernel
theorem dX8_blocksWith_42 : decode cX8_blocksWith 42 = .ok (.istore_n 3, 1) := by decide +kernel
theorem dX8_blocksWith_43 : decode cX8_blocksWith 43 = .ok (.iconst 1, 1) := by decide +kernel
theorem dX8_blocksWith_44 : decode cX8_blocksWith 44 = .ok (.aload_n 0, 1) := by decide +kernel
theorem dX8_blocksWith_45 : decode cX8_blocksWith 45 = .ok (.getfield 7, 3) := by decide +kernel
theorem dX8_blocksWith_48 : decode cX8_blocksWith 48 = .ok (.iconst 2, 1) := by decide +kernel
theorem dX8_blocksWith_49 : decode cX8_blocksWith 49 = .ok (.iaload, 1) := by decide +kernel
theorem dX8_blocksWith_50 : decode cX8_blocksWith 50 = .ok (.ishl, 1) := by decide +kernel
theorem dX8_blocksWith_51 : decode cX8_blocksWith 51 = .ok (.istore 4, 2) := by decide +kernel
theorem dX8_blocksWith_53 : decode cX8_blocksWith 53 = .ok (.iload 4, 2) := by decide +kernel
theorem dX8_blocksWith_55 : decode cX8_blocksWith 55 = .ok (.iconst 1, 1) := by decide +kernel
theorem dX8_blocksWith_56 : decode cX8_blocksWith 56 = .ok (.aload_n 0, 1) := by decide +kernel
theorem dX8_blocksWith_57 : decode cX8_blocksWith 57 = .ok (.getfield 81, 3) := by decide +kernel
theorem dX8_blocksWith_60 : decode cX8_blocksWith 60 = .ok (.ishl, 1) := by decide +kernel
theorem dX8_blocksWith_61 : decode cX8_blocksWith 61 = .ok (.if_icmp .ge 35, 3) := by decide +kernel
theorem dX8_blocksWith_64 : decode cX8_blocksWith 64 = .ok (.iload_n 3, 1) := by decide +kernel
theorem dX8_blocksWith_65 : decode cX8_blocksWith 65 = .ok (.iload 4, 2) := by decide +kernel
theorem dX8_blocksWith_67 : decode cX8_blocksWith 67 = .ok (.invokestatic 107, 3) := by decide +kernel
theorem dX8_blocksWith_70 : decode cX8_blocksWith 70 = .ok (.iload_n 2, 1) := by decide +kernel
theorem dX8_blocksWith_71 : decode cX8_blocksWith 71 = .ok (.if_icmp .ne 16, 3) := by decide +kernel
theorem dX8_blocksWith_74 : decode cX8_blocksWith 74 = .ok (.aload_n 0, 1) := by decide +kernel
theorem dX8_blocksWith_75 : decode cX8_blocksWith 75 = .ok (.iload 4, 2) := by decide +kernel
theorem dX8_blocksWith_77 : decode cX8_blocksWith 77 = .ok (.invokevirtual 91, 3) := by decide +kernel
theorem dX8_blocksWith_80 : decode cX8_blocksWith 80 = .ok (.ifCond .eq 7, 3) := by decide +kernel
theorem dX8_blocksWith_83 : decode cX8_blocksWith 83 = .ok (.iconst 1, 1) := by decide +kernel
theorem dX8_blocksWith_84 : decode cX8_blocksWith 84 = .ok (.goto 4, 3) := by decide +kernel
theorem dX8_blocksWith_87 : decode cX8_blocksWith 87 = .ok (.iconst 0, 1) := by decide +kernel
theorem dX8_blocksWith_88 : decode cX8_blocksWith 88 = .ok (.iadd, 1) := by decide +kernel
theorem dX8_blocksWith_89 : decode cX8_blocksWith 89 = .ok (.istore_n 3, 1) := by decide +kernel
theorem dX8_blocksWith_90 : decode cX8_blocksWith 90 = .ok (.iinc 4 1, 3) := by decide +kernel
theorem dX8_blocksWith_93 : decode cX8_blocksWith 93 = .ok (.goto (-40), 3) := by decide +kernel
theorem dX8_blocksWith_96 : decode cX8_blocksWith 96 = .ok (.iload_n 3, 1) := by decide +kernel
theorem dX8_blocksWith_97 : decode cX8_blocksWith 97 = .ok (.ireturn, 1) := by decide +kernel
theorem dX8_areAlike_0 : decode cX8_areAlike 0 = .ok (.iconst 0, 1) := by decide +kernel
theorem dX8_areAlike_1 : decode cX8_areAlike 1 = .ok (.istore_n 3, 1) := by decide +kernel
theorem dX8_areAlike_2 : decode cX8_areAlike 2 = .ok (.iload_n 3, 1) := by decide +kernel
theorem dX8_areAlike_3 : decode cX8_areAlike 3 = .ok (.aload_n 0, 1) := by decide +kernel
theorem dX8_areAlike_4 : decode cX8_areAlike 4 = .ok (.invokevirtual 56, 3) := by decide +kernel
theorem dX8_areAlike_7 : decode cX8_areAlike 7 = .ok (.if_icmp .ge 16, 3) := by decide +kernel
theorem dX8_areAlike_10 : decode cX8_areAlike 10 = .ok (.aload_n 0, 1) := by decide +kernel
theorem dX8_areAlike_11 : decode cX8_areAlike 11 = .ok (.getfield 38, 3) := by decide +kernel
theorem dX8_areAlike_14 : decode cX8_areAlike 14 = .ok (.iload_n 3, 1) := by decide +kernel
theorem dX8_areAlike_15 : decode cX8_areAlike 15 = .ok (.iconst 0, 1) := by decide +kernel
theorem dX8_areAlike_16 : decode cX8_areAlike 16 = .ok (.iastore, 1) := by decide +kernel
theorem dX8_areAlike_17 : decode cX8_areAlike 17 = .ok (.iinc 3 1, 3) := by decide +kernel
theorem dX8_areAlike_20 : decode cX8_areAlike 20 = .ok (.goto (-18), 3) := by decide +kernel
theorem dX8_areAlike_23 : decode cX8_areAlike 23 = .ok (.iconst 0, 1) := by decide +kernel
theorem dX8_areAlike_24 : decode cX8_areAlike 24 = .ok (.istore_n 3, 1) := by decide +kernel
theorem dX8_areAlike_25 : decode cX8_areAlike 25 = .ok (.iload_n 3, 1) := by decide +kernel
theorem dX8_areAlike_26 : decode cX8_areAlike 26 = .ok (.aload_n 0, 1) := by decide +kernel
theorem dX8_areAlike_27 : decode cX8_areAlike 27 = .ok (.getfield 7, 3) := by decide +kernel
theorem dX8_areAlike_30 : decode cX8_areAlike 30 = .ok (.iconst 2, 1) := by decide +kernel
theorem dX8_areAlike_31 : decode cX8_areAlike 31 = .ok (.iaload, 1) := by decide +kernel
theorem dX8_areAlike_32 : decode cX8_areAlike 32 = .ok (.if_icmp .ge 52, 3) := by decide +kernel
theorem dX8_areAlike_35 : decode cX8_areAlike 35 = .ok (.aload_n 0, 1) := by decide +kernel
theorem dX8_areAlike_36 : decode cX8_areAlike 36 = .ok (.getfield 38, 3) := by decide +kernel
theorem dX8_areAlike_39 : decode cX8_areAlike 39 = .ok (.aload_n 0, 1) := by decide +kernel
theorem dX8_areAlike_40 : decode cX8_areAlike 40 = .ok (.getfield 7, 3) := by decide +kernel
theorem dX8_areAlike_43 : decode cX8_areAlike 43 = .ok (.iconst 3, 1) := by decide +kernel
theorem dX8_areAlike_44 : decode cX8_areAlike 44 = .ok (.iload_n 3, 1) := by decide +kernel
theorem dX8_areAlike_45 : decode cX8_areAlike 45 = .ok (.iadd, 1) := by decide +kernel
theorem dX8_areAlike_46 : decode cX8_areAlike 46 = .ok (.iaload, 1) := by decide +kernel
theorem dX8_areAlike_47 : decode cX8_areAlike 47 = .ok (.dup2, 1) := by decide +kernel
theorem dX8_areAlike_48 : decode cX8_areAlike 48 = .ok (.iaload, 1) := by decide +kernel
theorem dX8_areAlike_49 : decode cX8_areAlike 49 = .ok (.iload_n 1, 1) := by decide +kernel
theorem dX8_areAlike_50 : decode cX8_areAlike 50 = .ok (.iload_n 3, 1) := by decide +kernel
theorem dX8_areAlike_51 : decode cX8_areAlike 51 = .ok (.invokestatic 84, 3) := by decide +kernel
theorem dX8_areAlike_54 : decode cX8_areAlike 54 = .ok (.ifCond .eq 7, 3) := by decide +kernel
theorem dX8_areAlike_57 : decode cX8_areAlike 57 = .ok (.iconst 1, 1) := by decide +kernel
theorem dX8_areAlike_58 : decode cX8_areAlike 58 = .ok (.goto 4, 3) := by decide +kernel
theorem dX8_areAlike_61 : decode cX8_areAlike 61 = .ok (.iconst 0, 1) := by decide +kernel
theorem dX8_areAlike_62 : decode cX8_areAlike 62 = .ok (.iload_n 2, 1) := by decide +kernel
theorem dX8_areAlike_63 : decode cX8_areAlike 63 = .ok (.iload_n 3, 1) := by decide +kernel
theorem dX8_areAlike_64 : decode cX8_areAlike 64 = .ok (.invokestatic 84, 3) := by decide +kernel
theorem dX8_areAlike_67 : decode cX8_areAlike 67 = .ok (.ifCond .eq 7, 3) := by decide +kernel
theorem dX8_areAlike_70 : decode cX8_areAlike 70 = .ok (.iconst 1, 1) := by decide +kernel
theorem dX8_areAlike_71 : decode cX8_areAlike 71 = .ok (.goto 4, 3) := by decide +kernel
theorem dX8_areAlike_74 : decode cX8_areAlike 74 = .ok (.iconst 0, 1) := by decide +kernel
theorem dX8_areAlike_75 : decode cX8_areAlike 75 = .ok (.isub, 1) := by decide +kernel
theorem dX8_areAlike_76 : decode cX8_areAlike 76 = .ok (.iadd, 1) := by decide +kernel
theorem dX8_areAlike_77 : decode cX8_areAlike 77 = .ok (.iastore, 1) := by decide +kernel
theorem dX8_areAlike_78 : decode cX8_areAlike 78 = .ok (.iinc 3 1, 3) := by decide +kernel
theorem dX8_areAlike_81 : decode cX8_areAlike 81 = .ok (.goto (-56), 3) := by decide +kernel
theorem dX8_areAlike_84 : decode cX8_areAlike 84 = .ok (.iconst 1, 1) := by decide +kernel
theorem dX8_areAlike_85 : decode cX8_areAlike 85 = .ok (.istore_n 3, 1) := by decide +kernel
theorem dX8_areAlike_86 : decode cX8_areAlike 86 = .ok (.iconst 0, 1) := by decide +kernel
theorem dX8_areAlike_87 : decode cX8_areAlike 87 = .ok (.istore 4, 2) := by decide +kernel
theorem dX8_areAlike_89 : decode cX8_areAlike 89 = .ok (.iload 4, 2) := by decide +kernel
theorem dX8_areAlike_91 : decode cX8_areAlike 91 = .ok (.aload_n 0, 1) := by decide +kernel
theorem dX8_areAlike_92 : decode cX8_areAlike 92 = .ok (.invokevirtual 56, 3) := by decide +kernel
theorem dX8_areAlike_95 : decode cX8_areAlike 95 = .ok (.if_icmp .ge 29, 3) := by decide +kernel
theorem dX8_areAlike_98 : decode cX8_areAlike 98 = .ok (.iload_n 3, 1) := by decide +kernel
theorem dX8_areAlike_99 : decode cX8_areAlike 99 = .ok (.ifCond .eq 17, 3) := by decide +kernel
theorem dX8_areAlike_102 : decode cX8_areAlike 102 = .ok (.aload_n 0, 1) := by decide +kernel
theorem dX8_areAlike_103 : decode cX8_areAlike 103 = .ok (.getfield 38, 3) := by decide +kernel
theorem dX8_areAlike_106 : decode cX8_areAlike 106 = .ok (.iload 4, 2) := by decide +kernel
theorem dX8_areAlike_108 : decode cX8_areAlike 108 = .ok (.iaload, 1) := by decide +kernel
theorem dX8_areAlike_109 : decode cX8_areAlike 109 = .ok (.ifCond .ne 7, 3) := by decide +kernel
theorem dX8_areAlike_112 : decode cX8_areAlike 112 = .ok (.iconst 1, 1) := by decide +kernel
theorem dX8_areAlike_113 : decode cX8_areAlike 113 = .ok (.goto 4, 3) := by decide +kernel
theorem dX8_areAlike_116 : decode cX8_areAlike 116 = .ok (.iconst 0, 1) := by decide +kernel
theorem dX8_areAlike_117 : decode cX8_areAlike 117 = .ok (.istore_n 3, 1) := by decide +kernel
theorem dX8_areAlike_118 : decode cX8_areAlike 118 = .ok (.iinc 4 1, 3) := by decide +kernel
theorem dX8_areAlike_121 : decode cX8_areAlike 121 = .ok (.goto (-32), 3) := by decide +kernel
theorem dX8_areAlike_124 : decode cX8_areAlike 124 = .ok (.iload_n 3, 1) := by decide +kernel
theorem dX8_areAlike_125 : decode cX8_areAlike 125 = .ok (.ireturn, 1) := by decide +kernel
theorem dX8_alike_0 : decode cX8_alike 0 = .ok (.aload_n 0, 1) := by decide +kernel
theorem dX8_alike_1 : decode cX8_alike 1 = .ok (.aload_n 0, 1) := by decide +kernel
theorem dX8_alike_2 : decode cX8_alike 2 = .ok (.iload_n 1, 1) := by decide +kernel
theorem dX8_alike_3 : decode cX8_alike 3 = .ok (.invokevirtual 113, 3) := by decide +kernel
theorem dX8_alike_6 : decode cX8_alike 6 = .ok (.ifCond .eq 11, 3) := by decide +kernel
theorem dX8_alike_9 : decode cX8_alike 9 = .ok (.aload_n 0, 1) := by decide +kernel
theorem dX8_alike_10 : decode cX8_alike 10 = .ok (.iload_n 2, 1) := by decide +kernel
theorem dX8_alike_11 : decode cX8_alike 11 = .ok (.invokevirtual 113, 3) := by decide +kernel
theorem dX8_alike_14 : decode cX8_alike 14 = .ok (.ifCond .ne 7, 3) := by decide +kernel
theorem dX8_alike_17 : decode cX8_alike 17 = .ok (.iconst 1, 1) := by decide +kernel
theorem dX8_alike_18 : decode cX8_alike 18 = .ok (.goto 4, 3) := by decide +kernel
theorem dX8_alike_21 : decode cX8_alike 21 = .ok (.iconst 0, 1) := by decide +kernel
theorem dX8_alike_22 : decode cX8_alike 22 = .ok (.invokevirtual 52, 3) := by decide +kernel
theorem dX8_alike_25 : decode cX8_alike 25 = .ok (.ifCond .eq 5, 3) := by decide +kernel
theorem dX8_alike_28 : decode cX8_alike 28 = .ok (.iconst 0, 1) := by decide +kernel
theorem dX8_alike_29 : decode cX8_alike 29 = .ok (.ireturn, 1) := by decide +kernel
theorem dX8_alike_30 : decode cX8_alike 30 = .ok (.aload_n 0, 1) := by decide +kernel
theorem dX8_alike_31 : decode cX8_alike 31 = .ok (.iload_n 1, 1) := by decide +kernel
theorem dX8_alike_32 : decode cX8_alike 32 = .ok (.iload_n 2, 1) := by decide +kernel
theorem dX8_alike_33 : decode cX8_alike 33 = .ok (.invokevirtual 163, 3) := by decide +kernel
theorem dX8_alike_36 : decode cX8_alike 36 = .ok (.ifCond .eq 7, 3) := by decide +kernel
theorem dX8_alike_39 : decode cX8_alike 39 = .ok (.iconst 1, 1) := by decide +kernel
theorem dX8_alike_40 : decode cX8_alike 40 = .ok (.goto 4, 3) := by decide +kernel
theorem dX8_alike_43 : decode cX8_alike 43 = .ok (.iconst 0, 1) := by decide +kernel
theorem dX8_alike_44 : decode cX8_alike 44 = .ok (.ireturn, 1) := by decide +kernel
theorem dX8_unlikeBlocks_0 : decode cX8_unlikeBlocks 0 = .ok (.aload_n 0, 1) := by decide +kernel
theorem dX8_unlikeBlocks_1 : decode cX8_unlikeBlocks 1 = .ok (.iconst 0, 1) := by decide +kernel
theorem dX8_unlikeBlocks_2 : decode cX8_unlikeBlocks 2 = .ok (.putfield 41, 3) := by decide +kernel
theorem dX8_unlikeBlocks_5 : decode cX8_unlikeBlocks 5 = .ok (.aload_n 0, 1) := by decide +kernel
theorem dX8_unlikeBlocks_6 : decode cX8_unlikeBlocks 6 = .ok (.iconst (-1), 1) := by decide +kernel
theorem dX8_unlikeBlocks_7 : decode cX8_unlikeBlocks 7 = .ok (.invokevirtual 94, 3) := by decide +kernel
theorem dX8_unlikeBlocks_10 : decode cX8_unlikeBlocks 10 = .ok (.iconst 0, 1) := by decide +kernel
theorem dX8_unlikeBlocks_11 : decode cX8_unlikeBlocks 11 = .ok (.istore_n 1, 1) := by decide +kernel
theorem dX8_unlikeBlocks_12 : decode cX8_unlikeBlocks 12 = .ok (.iconst 1, 1) := by decide +kernel
theorem dX8_unlikeBlocks_13 : decode cX8_unlikeBlocks 13 = .ok (.istore_n 2, 1) := by decide +kernel
theorem dX8_unlikeBlocks_14 : decode cX8_unlikeBlocks 14 = .ok (.iload_n 2, 1) := by decide +kernel
theorem dX8_unlikeBlocks_15 : decode cX8_unlikeBlocks 15 = .ok (.aload_n 0, 1) := by decide +kernel
theorem dX8_unlikeBlocks_16 : decode cX8_unlikeBlocks 16 = .ok (.invokevirtual 101, 3) := by decide +kernel
theorem dX8_unlikeBlocks_19 : decode cX8_unlikeBlocks 19 = .ok (.if_icmp .gt 71, 3) := by decide +kernel
theorem dX8_unlikeBlocks_22 : decode cX8_unlikeBlocks 22 = .ok (.aload_n 0, 1) := by decide +kernel
theorem dX8_unlikeBlocks_23 : decode cX8_unlikeBlocks 23 = .ok (.iload_n 2, 1) := by decide +kernel
theorem dX8_unlikeBlocks_24 : decode cX8_unlikeBlocks 24 = .ok (.invokevirtual 91, 3) := by decide +kernel
theorem dX8_unlikeBlocks_27 : decode cX8_unlikeBlocks 27 = .ok (.istore_n 3, 1) := by decide +kernel
theorem dX8_unlikeBlocks_28 : decode cX8_unlikeBlocks 28 = .ok (.iconst 1, 1) := by decide +kernel
theorem dX8_unlikeBlocks_29 : decode cX8_unlikeBlocks 29 = .ok (.istore 4, 2) := by decide +kernel
theorem dX8_unlikeBlocks_31 : decode cX8_unlikeBlocks 31 = .ok (.iload 4, 2) := by decide +kernel
theorem dX8_unlikeBlocks_33 : decode cX8_unlikeBlocks 33 = .ok (.iload_n 2, 1) := by decide +kernel
theorem dX8_unlikeBlocks_34 : decode cX8_unlikeBlocks 34 = .ok (.if_icmp .ge 38, 3) := by decide +kernel
theorem dX8_unlikeBlocks_37 : decode cX8_unlikeBlocks 37 = .ok (.iload_n 3, 1) := by decide +kernel
theorem dX8_unlikeBlocks_38 : decode cX8_unlikeBlocks 38 = .ok (.ifCond .eq 34, 3) := by decide +kernel
theorem dX8_unlikeBlocks_41 : decode cX8_unlikeBlocks 41 = .ok (.aload_n 0, 1) := by decide +kernel
theorem dX8_unlikeBlocks_42 : decode cX8_unlikeBlocks 42 = .ok (.iload 4, 2) := by decide +kernel
theorem dX8_unlikeBlocks_44 : decode cX8_unlikeBlocks 44 = .ok (.invokevirtual 91, 3) := by decide +kernel
theorem dX8_unlikeBlocks_47 : decode cX8_unlikeBlocks 47 = .ok (.ifCond .eq 13, 3) := by decide +kernel
theorem dX8_unlikeBlocks_50 : decode cX8_unlikeBlocks 50 = .ok (.aload_n 0, 1) := by decide +kernel
theorem dX8_unlikeBlocks_51 : decode cX8_unlikeBlocks 51 = .ok (.iload_n 2, 1) := by decide +kernel
theorem dX8_unlikeBlocks_52 : decode cX8_unlikeBlocks 52 = .ok (.iload 4, 2) := by decide +kernel
theorem dX8_unlikeBlocks_54 : decode cX8_unlikeBlocks 54 = .ok (.invokevirtual 163, 3) := by decide +kernel
theorem dX8_unlikeBlocks_57 : decode cX8_unlikeBlocks 57 = .ok (.ifCond .ne 7, 3) := by decide +kernel
theorem dX8_unlikeBlocks_60 : decode cX8_unlikeBlocks 60 = .ok (.iconst 1, 1) := by decide +kernel
theorem dX8_unlikeBlocks_61 : decode cX8_unlikeBlocks 61 = .ok (.goto 4, 3) := by decide +kernel
theorem dX8_unlikeBlocks_64 : decode cX8_unlikeBlocks 64 = .ok (.iconst 0, 1) := by decide +kernel
theorem dX8_unlikeBlocks_65 : decode cX8_unlikeBlocks 65 = .ok (.istore_n 3, 1) := by decide +kernel
theorem dX8_unlikeBlocks_66 : decode cX8_unlikeBlocks 66 = .ok (.iinc 4 1, 3) := by decide +kernel
theorem dX8_unlikeBlocks_69 : decode cX8_unlikeBlocks 69 = .ok (.goto (-38), 3) := by decide +kernel
theorem dX8_unlikeBlocks_72 : decode cX8_unlikeBlocks 72 = .ok (.iload_n 1, 1) := by decide +kernel
theorem dX8_unlikeBlocks_73 : decode cX8_unlikeBlocks 73 = .ok (.iload_n 3, 1) := by decide +kernel
theorem dX8_unlikeBlocks_74 : decode cX8_unlikeBlocks 74 = .ok (.ifCond .eq 7, 3) := by decide +kernel
theorem dX8_unlikeBlocks_77 : decode cX8_unlikeBlocks 77 = .ok (.iconst 1, 1) := by decide +kernel
theorem dX8_unlikeBlocks_78 : decode cX8_unlikeBlocks 78 = .ok (.goto 4, 3) := by decide +kernel
theorem dX8_unlikeBlocks_81 : decode cX8_unlikeBlocks 81 = .ok (.iconst 0, 1) := by decide +kernel
theorem dX8_unlikeBlocks_82 : decode cX8_unlikeBlocks 82 = .ok (.iadd, 1) := by decide +kernel
theorem dX8_unlikeBlocks_83 : decode cX8_unlikeBlocks 83 = .ok (.istore_n 1, 1) := by decide +kernel
theorem dX8_unlikeBlocks_84 : decode cX8_unlikeBlocks 84 = .ok (.iinc 2 1, 3) := by decide +kernel
theorem dX8_unlikeBlocks_87 : decode cX8_unlikeBlocks 87 = .ok (.goto (-73), 3) := by decide +kernel
theorem dX8_unlikeBlocks_90 : decode cX8_unlikeBlocks 90 = .ok (.iload_n 1, 1) := by decide +kernel
theorem dX8_unlikeBlocks_91 : decode cX8_unlikeBlocks 91 = .ok (.ireturn, 1) := by decide +kernel
theorem dX8_type_0 : decode cX8_type 0 = .ok (.aload_n 0, 1) := by decide +kernel
theorem dX8_type_1 : decode cX8_type 1 = .ok (.iload_n 1, 1) := by decide +kernel
theorem dX8_type_2 : decode cX8_type 2 = .ok (.iconst 0, 1) := by decide +kernel
theorem dX8_type_3 : decode cX8_type 3 = .ok (.bipush 127, 2) := by decide +kernel
theorem dX8_type_5 : decode cX8_type 5 = .ok (.invokestatic 60, 3) := by decide +kernel
theorem dX8_type_8 : decode cX8_type 8 = .ok (.ifCond .ne 7, 3) := by decide +kernel
theorem dX8_type_11 : decode cX8_type 11 = .ok (.iconst 1, 1) := by decide +kernel
theorem dX8_type_12 : decode cX8_type 12 = .ok (.goto 18, 3) := by decide +kernel
theorem dX8_type_15 : decode cX8_type 15 = .ok (.aload_n 0, 1) := by decide +kernel
theorem dX8_type_16 : decode cX8_type 16 = .ok (.getfield 149, 3) := by decide +kernel
theorem dX8_type_19 : decode cX8_type 19 = .ok (.sipush 150, 3) := by decide +kernel
theorem dX8_type_22 : decode cX8_type 22 = .ok (.if_icmp .ne 7, 3) := by decide +kernel
theorem dX8_type_25 : decode cX8_type 25 = .ok (.iconst 2, 1) := by decide +kernel
theorem dX8_type_26 : decode cX8_type 26 = .ok (.goto 4, 3) := by decide +kernel
theorem dX8_type_29 : decode cX8_type 29 = .ok (.iconst 0, 1) := by decide +kernel
theorem dX8_type_30 : decode cX8_type 30 = .ok (.invokevirtual 52, 3) := by decide +kernel
theorem dX8_type_33 : decode cX8_type 33 = .ok (.ifCond .eq 5, 3) := by decide +kernel
theorem dX8_type_36 : decode cX8_type 36 = .ok (.iconst 0, 1) := by decide +kernel
theorem dX8_type_37 : decode cX8_type 37 = .ok (.ireturn, 1) := by decide +kernel
theorem dX8_type_38 : decode cX8_type 38 = .ok (.aload_n 0, 1) := by decide +kernel
theorem dX8_type_39 : decode cX8_type 39 = .ok (.getfield 16, 3) := by decide +kernel
theorem dX8_type_42 : decode cX8_type 42 = .ok (.aload_n 0, 1) := by decide +kernel
theorem dX8_type_43 : decode cX8_type 43 = .ok (.getfield 149, 3) := by decide +kernel
theorem dX8_type_46 : decode cX8_type 46 = .ok (.iload_n 1, 1) := by decide +kernel
theorem dX8_type_47 : decode cX8_type 47 = .ok (.iastore, 1) := by decide +kernel
theorem dX8_type_48 : decode cX8_type 48 = .ok (.aload_n 0, 1) := by decide +kernel
theorem dX8_type_49 : decode cX8_type 49 = .ok (.dup, 1) := by decide +kernel
theorem dX8_type_50 : decode cX8_type 50 = .ok (.getfield 149, 3) := by decide +kernel
theorem dX8_type_53 : decode cX8_type 53 = .ok (.iconst 1, 1) := by decide +kernel
theorem dX8_type_54 : decode cX8_type 54 = .ok (.iadd, 1) := by decide +kernel
theorem dX8_type_55 : decode cX8_type 55 = .ok (.putfield 149, 3) := by decide +kernel
theorem dX8_type_58 : decode cX8_type 58 = .ok (.aload_n 0, 1) := by decide +kernel
theorem dX8_type_59 : decode cX8_type 59 = .ok (.getfield 149, 3) := by decide +kernel
theorem dX8_type_62 : decode cX8_type 62 = .ok (.ireturn, 1) := by decide +kernel
theorem dX8_clearCommands_0 : decode cX8_clearCommands 0 = .ok (.aload_n 0, 1) := by decide +kernel
theorem dX8_clearCommands_1 : decode cX8_clearCommands 1 = .ok (.iconst 0, 1) := by decide +kernel
theorem dX8_clearCommands_2 : decode cX8_clearCommands 2 = .ok (.putfield 41, 3) := by decide +kernel
theorem dX8_clearCommands_5 : decode cX8_clearCommands 5 = .ok (.aload_n 0, 1) := by decide +kernel
theorem dX8_clearCommands_6 : decode cX8_clearCommands 6 = .ok (.getfield 149, 3) := by decide +kernel
theorem dX8_clearCommands_9 : decode cX8_clearCommands 9 = .ok (.istore_n 1, 1) := by decide +kernel
theorem dX8_clearCommands_10 : decode cX8_clearCommands 10 = .ok (.aload_n 0, 1) := by decide +kernel
theorem dX8_clearCommands_11 : decode cX8_clearCommands 11 = .ok (.iconst 0, 1) := by decide +kernel
theorem dX8_clearCommands_12 : decode cX8_clearCommands 12 = .ok (.putfield 149, 3) := by decide +kernel
theorem dX8_clearCommands_15 : decode cX8_clearCommands 15 = .ok (.iload_n 1, 1) := by decide +kernel
theorem dX8_clearCommands_16 : decode cX8_clearCommands 16 = .ok (.ireturn, 1) := by decide +kernel
theorem dX8_here_0 : decode cX8_here 0 = .ok (.aload_n 0, 1) := by decide +kernel
theorem dX8_here_1 : decode cX8_here 1 = .ok (.getfield 166, 3) := by decide +kernel
theorem dX8_here_4 : decode cX8_here 4 = .ok (.aload_n 0, 1) := by decide +kernel
theorem dX8_here_5 : decode cX8_here 5 = .ok (.getfield 149, 3) := by decide +kernel
theorem dX8_here_8 : decode cX8_here 8 = .ok (.if_icmp .ge 15, 3) := by decide +kernel
theorem dX8_here_11 : decode cX8_here 11 = .ok (.aload_n 0, 1) := by decide +kernel
theorem dX8_here_12 : decode cX8_here 12 = .ok (.getfield 16, 3) := by decide +kernel
theorem dX8_here_15 : decode cX8_here 15 = .ok (.aload_n 0, 1) := by decide +kernel
theorem dX8_here_16 : decode cX8_here 16 = .ok (.getfield 166, 3) := by decide +kernel
theorem dX8_here_19 : decode cX8_here 19 = .ok (.iaload, 1) := by decide +kernel
theorem dX8_here_20 : decode cX8_here 20 = .ok (.goto 4, 3) := by decide +kernel
theorem dX8_here_23 : decode cX8_here 23 = .ok (.iconst (-1), 1) := by decide +kernel
theorem dX8_here_24 : decode cX8_here 24 = .ok (.ireturn, 1) := by decide +kernel
theorem dX8_skips_0 : decode cX8_skips 0 = .ok (.aload_n 0, 1) := by decide +kernel
theorem dX8_skips_1 : decode cX8_skips 1 = .ok (.invokevirtual 169, 3) := by decide +kernel
theorem dX8_skips_4 : decode cX8_skips 4 = .ok (.bipush 32, 2) := by decide +kernel
theorem dX8_skips_6 : decode cX8_skips 6 = .ok (.if_icmp .ne 16, 3) := by decide +kernel
theorem dX8_skips_9 : decode cX8_skips 9 = .ok (.aload_n 0, 1) := by decide +kernel
theorem dX8_skips_10 : decode cX8_skips 10 = .ok (.dup, 1) := by decide +kernel
theorem dX8_skips_11 : decode cX8_skips 11 = .ok (.getfield 166, 3) := by decide +kernel
theorem dX8_skips_14 : decode cX8_skips 14 = .ok (.iconst 1, 1) := by decide +kernel
theorem dX8_skips_15 : decode cX8_skips 15 = .ok (.iadd, 1) := by decide +kernel
theorem dX8_skips_16 : decode cX8_skips 16 = .ok (.putfield 166, 3) := by decide +kernel
theorem dX8_skips_19 : decode cX8_skips 19 = .ok (.goto (-19), 3) := by decide +kernel
theorem dX8_skips_22 : decode cX8_skips 22 = .ok (.return_, 1) := by decide +kernel
theorem dX8_fails_0 : decode cX8_fails 0 = .ok (.aload_n 0, 1) := by decide +kernel
theorem dX8_fails_1 : decode cX8_fails 1 = .ok (.iload_n 1, 1) := by decide +kernel
theorem dX8_fails_2 : decode cX8_fails 2 = .ok (.putfield 172, 3) := by decide +kernel
theorem dX8_fails_5 : decode cX8_fails 5 = .ok (.iconst 0, 1) := by decide +kernel
theorem dX8_fails_6 : decode cX8_fails 6 = .ok (.ireturn, 1) := by decide +kernel
theorem dX8_reads_0 : decode cX8_reads 0 = .ok (.aload_n 0, 1) := by decide +kernel
theorem dX8_reads_1 : decode cX8_reads 1 = .ok (.getfield 166, 3) := by decide +kernel
theorem dX8_reads_4 : decode cX8_reads 4 = .ok (.iload_n 1, 1) := by decide +kernel
theorem dX8_reads_5 : decode cX8_reads 5 = .ok (.isub, 1) := by decide +kernel
theorem dX8_reads_6 : decode cX8_reads 6 = .ok (.iload 5, 2) := by decide +kernel
theorem dX8_reads_8 : decode cX8_reads 8 = .ok (.ifCond .ne 7, 3) := by decide +kernel
theorem dX8_reads_11 : decode cX8_reads 11 = .ok (.iconst 3, 1) := by decide +kernel
theorem dX8_reads_12 : decode cX8_reads 12 = .ok (.goto 4, 3) := by decide +kernel
theorem dX8_reads_15 : decode cX8_reads 15 = .ok (.iconst 5, 1) := by decide +kernel
theorem dX8_reads_16 : decode cX8_reads 16 = .ok (.if_icmp .ne 42, 3) := by decide +kernel
theorem dX8_reads_19 : decode cX8_reads 19 = .ok (.aload_n 0, 1) := by decide +kernel
theorem dX8_reads_20 : decode cX8_reads 20 = .ok (.getfield 16, 3) := by decide +kernel
theorem dX8_reads_23 : decode cX8_reads 23 = .ok (.iload_n 1, 1) := by decide +kernel
theorem dX8_reads_24 : decode cX8_reads 24 = .ok (.iaload, 1) := by decide +kernel
theorem dX8_reads_25 : decode cX8_reads 25 = .ok (.iload_n 2, 1) := by decide +kernel
theorem dX8_reads_26 : decode cX8_reads 26 = .ok (.if_icmp .ne 32, 3) := by decide +kernel
theorem dX8_reads_29 : decode cX8_reads 29 = .ok (.aload_n 0, 1) := by decide +kernel
theorem dX8_reads_30 : decode cX8_reads 30 = .ok (.getfield 16, 3) := by decide +kernel
theorem dX8_reads_33 : decode cX8_reads 33 = .ok (.iload_n 1, 1) := by decide +kernel
theorem dX8_reads_34 : decode cX8_reads 34 = .ok (.iconst 1, 1) := by decide +kernel
theorem dX8_reads_35 : decode cX8_reads 35 = .ok (.iadd, 1) := by decide +kernel
theorem dX8_reads_36 : decode cX8_reads 36 = .ok (.iaload, 1) := by decide +kernel
theorem dX8_reads_37 : decode cX8_reads 37 = .ok (.iload_n 3, 1) := by decide +kernel
theorem dX8_reads_38 : decode cX8_reads 38 = .ok (.if_icmp .ne 20, 3) := by decide +kernel
theorem dX8_reads_41 : decode cX8_reads 41 = .ok (.aload_n 0, 1) := by decide +kernel
theorem dX8_reads_42 : decode cX8_reads 42 = .ok (.getfield 16, 3) := by decide +kernel
theorem dX8_reads_45 : decode cX8_reads 45 = .ok (.iload_n 1, 1) := by decide +kernel
theorem dX8_reads_46 : decode cX8_reads 46 = .ok (.iconst 2, 1) := by decide +kernel
theorem dX8_reads_47 : decode cX8_reads 47 = .ok (.iadd, 1) := by decide +kernel
theorem dX8_reads_48 : decode cX8_reads 48 = .ok (.iaload, 1) := by decide +kernel
theorem dX8_reads_49 : decode cX8_reads 49 = .ok (.iload 4, 2) := by decide +kernel
theorem dX8_reads_51 : decode cX8_reads 51 = .ok (.if_icmp .ne 7, 3) := by decide +kernel
theorem dX8_reads_54 : decode cX8_reads 54 = .ok (.iconst 1, 1) := by decide +kernel
theorem dX8_reads_55 : decode cX8_reads 55 = .ok (.goto 4, 3) := by decide +kernel
theorem dX8_reads_58 : decode cX8_reads 58 = .ok (.iconst 0, 1) := by decide +kernel
theorem dX8_reads_59 : decode cX8_reads 59 = .ok (.istore 7, 2) := by decide +kernel
theorem dX8_reads_61 : decode cX8_reads 61 = .ok (.iload 7, 2) := by decide +kernel
theorem dX8_reads_63 : decode cX8_reads 63 = .ok (.ifCond .eq 38, 3) := by decide +kernel
theorem dX8_reads_66 : decode cX8_reads 66 = .ok (.iload 5, 2) := by decide +kernel
theorem dX8_reads_68 : decode cX8_reads 68 = .ok (.ifCond .eq 29, 3) := by decide +kernel
theorem dX8_reads_71 : decode cX8_reads 71 = .ok (.aload_n 0, 1) := by decide +kernel
theorem dX8_reads_72 : decode cX8_reads 72 = .ok (.getfield 16, 3) := by decide +kernel
theorem dX8_reads_75 : decode cX8_reads 75 = .ok (.iload_n 1, 1) := by decide +kernel
theorem dX8_reads_76 : decode cX8_reads 76 = .ok (.iconst 3, 1) := by decide +kernel
theorem dX8_reads_77 : decode cX8_reads 77 = .ok (.iadd, 1) := by decide +kernel
theorem dX8_reads_78 : decode cX8_reads 78 = .ok (.iaload, 1) := by decide +kernel
theorem dX8_reads_79 : decode cX8_reads 79 = .ok (.iload 5, 2) := by decide +kernel
theorem dX8_reads_81 : decode cX8_reads 81 = .ok (.if_icmp .ne 20, 3) := by decide +kernel
theorem dX8_reads_84 : decode cX8_reads 84 = .ok (.aload_n 0, 1) := by decide +kernel
theorem dX8_reads_85 : decode cX8_reads 85 = .ok (.getfield 16, 3) := by decide +kernel
theorem dX8_reads_88 : decode cX8_reads 88 = .ok (.iload_n 1, 1) := by decide +kernel
theorem dX8_reads_89 : decode cX8_reads 89 = .ok (.iconst 4, 1) := by decide +kernel
theorem dX8_reads_90 : decode cX8_reads 90 = .ok (.iadd, 1) := by decide +kernel
theorem dX8_reads_91 : decode cX8_reads 91 = .ok (.iaload, 1) := by decide +kernel
theorem dX8_reads_92 : decode cX8_reads 92 = .ok (.iload 6, 2) := by decide +kernel
theorem dX8_reads_94 : decode cX8_reads 94 = .ok (.if_icmp .ne 7, 3) := by decide +kernel
theorem dX8_reads_97 : decode cX8_reads 97 = .ok (.iconst 1, 1) := by decide +kernel
theorem dX8_reads_98 : decode cX8_reads 98 = .ok (.goto 4, 3) := by decide +kernel
theorem dX8_reads_101 : decode cX8_reads 101 = .ok (.iconst 0, 1) := by decide +kernel
theorem dX8_reads_102 : decode cX8_reads 102 = .ok (.ireturn, 1) := by decide +kernel
theorem dX8_word_0 : decode cX8_word 0 = .ok (.aload_n 0, 1) := by decide +kernel
theorem dX8_word_1 : decode cX8_word 1 = .ok (.iload_n 1, 1) := by decide +kernel
theorem dX8_word_2 : decode cX8_word 2 = .ok (.bipush 103, 2) := by decide +kernel
theorem dX8_word_4 : decode cX8_word 4 = .ok (.bipush 114, 2) := by decide +kernel
theorem dX8_word_6 : decode cX8_word 6 = .ok (.bipush 111, 2) := by decide +kernel
theorem dX8_word_8 : decode cX8_word 8 = .ok (.bipush 117, 2) := by decide +kernel
theorem dX8_word_10 : decode cX8_word 10 = .ok (.bipush 112, 2) := by decide +kernel
theorem dX8_word_12 : decode cX8_word 12 = .ok (.invokevirtual 175, 3) := by decide +kernel
theorem dX8_word_15 : decode cX8_word 15 = .ok (.ifCond .eq 7, 3) := by decide +kernel
theorem dX8_word_18 : decode cX8_word 18 = .ok (.iconst 0, 1) := by decide +kernel
theorem dX8_word_19 : decode cX8_word 19 = .ok (.goto 88, 3) := by decide +kernel
theorem dX8_word_22 : decode cX8_word 22 = .ok (.aload_n 0, 1) := by decide +kernel
theorem dX8_word_23 : decode cX8_word 23 = .ok (.iload_n 1, 1) := by decide +kernel
theorem dX8_word_24 : decode cX8_word 24 = .ok (.bipush 97, 2) := by decide +kernel
theorem dX8_word_26 : decode cX8_word 26 = .ok (.bipush 100, 2) := by decide +kernel
theorem dX8_word_28 : decode cX8_word 28 = .ok (.bipush 100, 2) := by decide +kernel
theorem dX8_word_30 : decode cX8_word 30 = .ok (.iconst 0, 1) := by decide +kernel
theorem dX8_word_31 : decode cX8_word 31 = .ok (.iconst 0, 1) := by decide +kernel
theorem dX8_word_32 : decode cX8_word 32 = .ok (.invokevirtual 175, 3) := by decide +kernel
theorem dX8_word_35 : decode cX8_word 35 = .ok (.ifCond .eq 7, 3) := by decide +kernel
theorem dX8_word_38 : decode cX8_word 38 = .ok (.iconst 1, 1) := by decide +kernel
theorem dX8_word_39 : decode cX8_word 39 = .ok (.goto 68, 3) := by decide +kernel
theorem dX8_word_42 : decode cX8_word 42 = .ok (.aload_n 0, 1) := by decide +kernel
theorem dX8_word_43 : decode cX8_word 43 = .ok (.iload_n 1, 1) := by decide +kernel
theorem dX8_word_44 : decode cX8_word 44 = .ok (.bipush 109, 2) := by decide +kernel
theorem dX8_word_46 : decode cX8_word 46 = .ok (.bipush 105, 2) := by decide +kernel
theorem dX8_word_48 : decode cX8_word 48 = .ok (.bipush 110, 2) := by decide +kernel
theorem dX8_word_50 : decode cX8_word 50 = .ok (.bipush 117, 2) := by decide +kernel
theorem dX8_word_52 : decode cX8_word 52 = .ok (.bipush 115, 2) := by decide +kernel
theorem dX8_word_54 : decode cX8_word 54 = .ok (.invokevirtual 175, 3) := by decide +kernel
theorem dX8_word_57 : decode cX8_word 57 = .ok (.ifCond .eq 7, 3) := by decide +kernel
theorem dX8_word_60 : decode cX8_word 60 = .ok (.iconst 2, 1) := by decide +kernel
theorem dX8_word_61 : decode cX8_word 61 = .ok (.goto 46, 3) := by decide +kernel
theorem dX8_word_64 : decode cX8_word 64 = .ok (.aload_n 0, 1) := by decide +kernel
theorem dX8_word_65 : decode cX8_word 65 = .ok (.iload_n 1, 1) := by decide +kernel
theorem dX8_word_66 : decode cX8_word 66 = .ok (.bipush 108, 2) := by decide +kernel
theorem dX8_word_68 : decode cX8_word 68 = .ok (.bipush 97, 2) := by decide +kernel
theorem dX8_word_70 : decode cX8_word 70 = .ok (.bipush 121, 2) := by decide +kernel
theorem dX8_word_72 : decode cX8_word 72 = .ok (.iconst 0, 1) := by decide +kernel
theorem dX8_word_73 : decode cX8_word 73 = .ok (.iconst 0, 1) := by decide +kernel
theorem dX8_word_74 : decode cX8_word 74 = .ok (.invokevirtual 175, 3) := by decide +kernel
theorem dX8_word_77 : decode cX8_word 77 = .ok (.ifCond .eq 7, 3) := by decide +kernel
theorem dX8_word_80 : decode cX8_word 80 = .ok (.iconst 3, 1) := by decide +kernel
theorem dX8_word_81 : decode cX8_word 81 = .ok (.goto 26, 3) := by decide +kernel
theorem dX8_word_84 : decode cX8_word 84 = .ok (.aload_n 0, 1) := by decide +kernel
theorem dX8_word_85 : decode cX8_word 85 = .ok (.iload_n 1, 1) := by decide +kernel
theorem dX8_word_86 : decode cX8_word 86 = .ok (.bipush 115, 2) := by decide +kernel
theorem dX8_word_88 : decode cX8_word 88 = .ok (.bipush 112, 2) := by decide +kernel
theorem dX8_word_90 : decode cX8_word 90 = .ok (.bipush 108, 2) := by decide +kernel
theorem dX8_word_92 : decode cX8_word 92 = .ok (.bipush 105, 2) := by decide +kernel
theorem dX8_word_94 : decode cX8_word 94 = .ok (.bipush 116, 2) := by decide +kernel
theorem dX8_word_96 : decode cX8_word 96 = .ok (.invokevirtual 175, 3) := by decide +kernel
theorem dX8_word_99 : decode cX8_word 99 = .ok (.ifCond .eq 7, 3) := by decide +kernel
theorem dX8_word_102 : decode cX8_word 102 = .ok (.iconst 4, 1) := by decide +kernel
theorem dX8_word_103 : decode cX8_word 103 = .ok (.goto 4, 3) := by decide +kernel
theorem dX8_word_106 : decode cX8_word 106 = .ok (.iconst (-1), 1) := by decide +kernel
theorem dX8_word_107 : decode cX8_word 107 = .ok (.ireturn, 1) := by decide +kernel
theorem dX8_numbersOf_0 : decode cX8_numbersOf 0 = .ok (.iload_n 0, 1) := by decide +kernel
theorem dX8_numbersOf_1 : decode cX8_numbersOf 1 = .ok (.ifCond .eq 8, 3) := by decide +kernel
theorem dX8_numbersOf_4 : decode cX8_numbersOf 4 = .ok (.iload_n 0, 1) := by decide +kernel
theorem dX8_numbersOf_5 : decode cX8_numbersOf 5 = .ok (.iconst 3, 1) := by decide +kernel
theorem dX8_numbersOf_6 : decode cX8_numbersOf 6 = .ok (.if_icmp .ne 7, 3) := by decide +kernel
theorem dX8_numbersOf_9 : decode cX8_numbersOf 9 = .ok (.iconst 2, 1) := by decide +kernel
theorem dX8_numbersOf_10 : decode cX8_numbersOf 10 = .ok (.goto 13, 3) := by decide +kernel
theorem dX8_numbersOf_13 : decode cX8_numbersOf 13 = .ok (.iload_n 0, 1) := by decide +kernel
theorem dX8_numbersOf_14 : decode cX8_numbersOf 14 = .ok (.iconst 4, 1) := by decide +kernel
theorem dX8_numbersOf_15 : decode cX8_numbersOf 15 = .ok (.if_icmp .ne 7, 3) := by decide +kernel
theorem dX8_numbersOf_18 : decode cX8_numbersOf 18 = .ok (.iconst 0, 1) := by decide +kernel
theorem dX8_numbersOf_19 : decode cX8_numbersOf 19 = .ok (.goto 4, 3) := by decide +kernel
theorem dX8_numbersOf_22 : decode cX8_numbersOf 22 = .ok (.iconst 1, 1) := by decide +kernel
theorem dX8_numbersOf_23 : decode cX8_numbersOf 23 = .ok (.ireturn, 1) := by decide +kernel
theorem dX8_number_0 : decode cX8_number 0 = .ok (.aload_n 0, 1) := by decide +kernel
theorem dX8_number_1 : decode cX8_number 1 = .ok (.invokevirtual 169, 3) := by decide +kernel
theorem dX8_number_4 : decode cX8_number 4 = .ok (.bipush 32, 2) := by decide +kernel
theorem dX8_number_6 : decode cX8_number 6 = .ok (.if_icmp .eq 12, 3) := by decide +kernel
theorem dX8_number_9 : decode cX8_number 9 = .ok (.aload_n 0, 1) := by decide +kernel
theorem dX8_number_10 : decode cX8_number 10 = .ok (.aload_n 0, 1) := by decide +kernel
theorem dX8_number_11 : decode cX8_number 11 = .ok (.getfield 166, 3) := by decide +kernel
theorem dX8_number_14 : decode cX8_number 14 = .ok (.invokevirtual 179, 3) := by decide +kernel
theorem dX8_number_17 : decode cX8_number 17 = .ok (.ireturn, 1) := by decide +kernel
theorem dX8_number_18 : decode cX8_number 18 = .ok (.aload_n 0, 1) := by decide +kernel
theorem dX8_number_19 : decode cX8_number 19 = .ok (.invokevirtual 182, 3) := by decide +kernel
theorem dX8_number_22 : decode cX8_number 22 = .ok (.aload_n 0, 1) := by decide +kernel
theorem dX8_number_23 : decode cX8_number 23 = .ok (.getfield 166, 3) := by decide +kernel
theorem dX8_number_26 : decode cX8_number 26 = .ok (.istore_n 2, 1) := by decide +kernel
theorem dX8_number_27 : decode cX8_number 27 = .ok (.aload_n 0, 1) := by decide +kernel
theorem dX8_number_28 : decode cX8_number 28 = .ok (.getfield 19, 3) := by decide +kernel
theorem dX8_number_31 : decode cX8_number 31 = .ok (.iload_n 1, 1) := by decide +kernel
theorem dX8_number_32 : decode cX8_number 32 = .ok (.iconst 0, 1) := by decide +kernel
theorem dX8_number_33 : decode cX8_number 33 = .ok (.iastore, 1) := by decide +kernel
theorem dX8_number_34 : decode cX8_number 34 = .ok (.aload_n 0, 1) := by decide +kernel
theorem dX8_number_35 : decode cX8_number 35 = .ok (.invokevirtual 169, 3) := by decide +kernel
theorem dX8_number_38 : decode cX8_number 38 = .ok (.bipush 48, 2) := by decide +kernel
theorem dX8_number_40 : decode cX8_number 40 = .ok (.bipush 57, 2) := by decide +kernel
theorem dX8_number_42 : decode cX8_number 42 = .ok (.invokestatic 60, 3) := by decide +kernel
theorem dX8_number_45 : decode cX8_number 45 = .ok (.ifCond .eq 58, 3) := by decide +kernel
theorem dX8_number_48 : decode cX8_number 48 = .ok (.aload_n 0, 1) := by decide +kernel
theorem dX8_number_49 : decode cX8_number 49 = .ok (.getfield 166, 3) := by decide +kernel
theorem dX8_number_52 : decode cX8_number 52 = .ok (.iload_n 2, 1) := by decide +kernel
theorem dX8_number_53 : decode cX8_number 53 = .ok (.isub, 1) := by decide +kernel
theorem dX8_number_54 : decode cX8_number 54 = .ok (.iconst 2, 1) := by decide +kernel
theorem dX8_number_55 : decode cX8_number 55 = .ok (.if_icmp .ne 12, 3) := by decide +kernel
theorem dX8_number_58 : decode cX8_number 58 = .ok (.aload_n 0, 1) := by decide +kernel
theorem dX8_number_59 : decode cX8_number 59 = .ok (.aload_n 0, 1) := by decide +kernel
theorem dX8_number_60 : decode cX8_number 60 = .ok (.getfield 166, 3) := by decide +kernel
theorem dX8_number_63 : decode cX8_number 63 = .ok (.invokevirtual 179, 3) := by decide +kernel
theorem dX8_number_66 : decode cX8_number 66 = .ok (.ireturn, 1) := by decide +kernel
theorem dX8_number_67 : decode cX8_number 67 = .ok (.aload_n 0, 1) := by decide +kernel
theorem dX8_number_68 : decode cX8_number 68 = .ok (.getfield 19, 3) := by decide +kernel
theorem dX8_number_71 : decode cX8_number 71 = .ok (.iload_n 1, 1) := by decide +kernel
theorem dX8_number_72 : decode cX8_number 72 = .ok (.bipush 10, 2) := by decide +kernel
theorem dX8_number_74 : decode cX8_number 74 = .ok (.aload_n 0, 1) := by decide +kernel
theorem dX8_number_75 : decode cX8_number 75 = .ok (.getfield 19, 3) := by decide +kernel
theorem dX8_number_78 : decode cX8_number 78 = .ok (.iload_n 1, 1) := by decide +kernel
theorem dX8_number_79 : decode cX8_number 79 = .ok (.iaload, 1) := by decide +kernel
theorem dX8_number_80 : decode cX8_number 80 = .ok (.imul, 1) := by decide +kernel
theorem dX8_number_81 : decode cX8_number 81 = .ok (.aload_n 0, 1) := by decide +kernel
theorem dX8_number_82 : decode cX8_number 82 = .ok (.invokevirtual 169, 3) := by decide +kernel
theorem dX8_number_85 : decode cX8_number 85 = .ok (.iadd, 1) := by decide +kernel
theorem dX8_number_86 : decode cX8_number 86 = .ok (.bipush 48, 2) := by decide +kernel
theorem dX8_number_88 : decode cX8_number 88 = .ok (.isub, 1) := by decide +kernel
theorem dX8_number_89 : decode cX8_number 89 = .ok (.iastore, 1) := by decide +kernel
theorem dX8_number_90 : decode cX8_number 90 = .ok (.aload_n 0, 1) := by decide +kernel
theorem dX8_number_91 : decode cX8_number 91 = .ok (.dup, 1) := by decide +kernel
theorem dX8_number_92 : decode cX8_number 92 = .ok (.getfield 166, 3) := by decide +kernel
theorem dX8_number_95 : decode cX8_number 95 = .ok (.iconst 1, 1) := by decide +kernel
theorem dX8_number_96 : decode cX8_number 96 = .ok (.iadd, 1) := by decide +kernel
theorem dX8_number_97 : decode cX8_number 97 = .ok (.putfield 166, 3) := by decide +kernel
theorem dX8_number_100 : decode cX8_number 100 = .ok (.goto (-66), 3) := by decide +kernel
theorem dX8_number_103 : decode cX8_number 103 = .ok (.aload_n 0, 1) := by decide +kernel
theorem dX8_number_104 : decode cX8_number 104 = .ok (.getfield 166, 3) := by decide +kernel
theorem dX8_number_107 : decode cX8_number 107 = .ok (.iload_n 2, 1) := by decide +kernel
theorem dX8_number_108 : decode cX8_number 108 = .ok (.if_icmp .gt 14, 3) := by decide +kernel
theorem dX8_number_111 : decode cX8_number 111 = .ok (.aload_n 0, 1) := by decide +kernel
theorem dX8_number_112 : decode cX8_number 112 = .ok (.aload_n 0, 1) := by decide +kernel
theorem dX8_number_113 : decode cX8_number 113 = .ok (.getfield 166, 3) := by decide +kernel
theorem dX8_number_116 : decode cX8_number 116 = .ok (.invokevirtual 179, 3) := by decide +kernel
theorem dX8_number_119 : decode cX8_number 119 = .ok (.ifCond .eq 7, 3) := by decide +kernel
theorem dX8_number_122 : decode cX8_number 122 = .ok (.iconst 1, 1) := by decide +kernel
theorem dX8_number_123 : decode cX8_number 123 = .ok (.goto 4, 3) := by decide +kernel
theorem dX8_number_126 : decode cX8_number 126 = .ok (.iconst 0, 1) := by decide +kernel
theorem dX8_number_127 : decode cX8_number 127 = .ok (.ireturn, 1) := by decide +kernel
theorem dX8_readsCommand_0 : decode cX8_readsCommand 0 = .ok (.aload_n 0, 1) := by decide +kernel
theorem dX8_readsCommand_1 : decode cX8_readsCommand 1 = .ok (.getfield 166, 3) := by decide +kernel
theorem dX8_readsCommand_4 : decode cX8_readsCommand 4 = .ok (.istore_n 1, 1) := by decide +kernel
theorem dX8_readsCommand_5 : decode cX8_readsCommand 5 = .ok (.aload_n 0, 1) := by decide +kernel
theorem dX8_readsCommand_6 : decode cX8_readsCommand 6 = .ok (.invokevirtual 169, 3) := by decide +kernel
theorem dX8_readsCommand_9 : decode cX8_readsCommand 9 = .ok (.bipush 97, 2) := by decide +kernel
theorem dX8_readsCommand_11 : decode cX8_readsCommand 11 = .ok (.bipush 122, 2) := by decide +kernel
theorem dX8_readsCommand_13 : decode cX8_readsCommand 13 = .ok (.invokestatic 60, 3) := by decide +kernel
theorem dX8_readsCommand_16 : decode cX8_readsCommand 16 = .ok (.ifCond .eq 16, 3) := by decide +kernel
theorem dX8_readsCommand_19 : decode cX8_readsCommand 19 = .ok (.aload_n 0, 1) := by decide +kernel
theorem dX8_readsCommand_20 : decode cX8_readsCommand 20 = .ok (.dup, 1) := by decide +kernel
theorem dX8_readsCommand_21 : decode cX8_readsCommand 21 = .ok (.getfield 166, 3) := by decide +kernel
theorem dX8_readsCommand_24 : decode cX8_readsCommand 24 = .ok (.iconst 1, 1) := by decide +kernel
theorem dX8_readsCommand_25 : decode cX8_readsCommand 25 = .ok (.iadd, 1) := by decide +kernel
theorem dX8_readsCommand_26 : decode cX8_readsCommand 26 = .ok (.putfield 166, 3) := by decide +kernel
theorem dX8_readsCommand_29 : decode cX8_readsCommand 29 = .ok (.goto (-24), 3) := by decide +kernel
theorem dX8_readsCommand_32 : decode cX8_readsCommand 32 = .ok (.aload_n 0, 1) := by decide +kernel
theorem dX8_readsCommand_33 : decode cX8_readsCommand 33 = .ok (.aload_n 0, 1) := by decide +kernel
theorem dX8_readsCommand_34 : decode cX8_readsCommand 34 = .ok (.iload_n 1, 1) := by decide +kernel
theorem dX8_readsCommand_35 : decode cX8_readsCommand 35 = .ok (.invokevirtual 185, 3) := by decide +kernel
theorem dX8_readsCommand_38 : decode cX8_readsCommand 38 = .ok (.putfield 188, 3) := by decide +kernel
theorem dX8_readsCommand_41 : decode cX8_readsCommand 41 = .ok (.aload_n 0, 1) := by decide +kernel
theorem dX8_readsCommand_42 : decode cX8_readsCommand 42 = .ok (.getfield 188, 3) := by decide +kernel
theorem dX8_readsCommand_45 : decode cX8_readsCommand 45 = .ok (.iconst (-1), 1) := by decide +kernel
theorem dX8_readsCommand_46 : decode cX8_readsCommand 46 = .ok (.if_icmp .ne 9, 3) := by decide +kernel
theorem dX8_readsCommand_49 : decode cX8_readsCommand 49 = .ok (.aload_n 0, 1) := by decide +kernel
theorem dX8_readsCommand_50 : decode cX8_readsCommand 50 = .ok (.iload_n 1, 1) := by decide +kernel
theorem dX8_readsCommand_51 : decode cX8_readsCommand 51 = .ok (.invokevirtual 179, 3) := by decide +kernel
theorem dX8_readsCommand_54 : decode cX8_readsCommand 54 = .ok (.ireturn, 1) := by decide +kernel
theorem dX8_readsCommand_55 : decode cX8_readsCommand 55 = .ok (.iconst 0, 1) := by decide +kernel
theorem dX8_readsCommand_56 : decode cX8_readsCommand 56 = .ok (.istore_n 2, 1) := by decide +kernel
theorem dX8_readsCommand_57 : decode cX8_readsCommand 57 = .ok (.iload_n 2, 1) := by decide +kernel
theorem dX8_readsCommand_58 : decode cX8_readsCommand 58 = .ok (.aload_n 0, 1) := by decide +kernel
theorem dX8_readsCommand_59 : decode cX8_readsCommand 59 = .ok (.getfield 188, 3) := by decide +kernel
theorem dX8_readsCommand_62 : decode cX8_readsCommand 62 = .ok (.invokestatic 191, 3) := by decide +kernel
theorem dX8_readsCommand_65 : decode cX8_readsCommand 65 = .ok (.if_icmp .ge 19, 3) := by decide +kernel
theorem dX8_readsCommand_68 : decode cX8_readsCommand 68 = .ok (.aload_n 0, 1) := by decide +kernel
theorem dX8_readsCommand_69 : decode cX8_readsCommand 69 = .ok (.iload_n 2, 1) := by decide +kernel
theorem dX8_readsCommand_70 : decode cX8_readsCommand 70 = .ok (.invokevirtual 194, 3) := by decide +kernel
theorem dX8_readsCommand_73 : decode cX8_readsCommand 73 = .ok (.ifCond .ne 5, 3) := by decide +kernel
theorem dX8_readsCommand_76 : decode cX8_readsCommand 76 = .ok (.iconst 0, 1) := by decide +kernel
theorem dX8_readsCommand_77 : decode cX8_readsCommand 77 = .ok (.ireturn, 1) := by decide +kernel
theorem dX8_readsCommand_78 : decode cX8_readsCommand 78 = .ok (.iinc 2 1, 3) := by decide +kernel
theorem dX8_readsCommand_81 : decode cX8_readsCommand 81 = .ok (.goto (-24), 3) := by decide +kernel
theorem dX8_readsCommand_84 : decode cX8_readsCommand 84 = .ok (.aload_n 0, 1) := by decide +kernel
theorem dX8_readsCommand_85 : decode cX8_readsCommand 85 = .ok (.invokevirtual 182, 3) := by decide +kernel
theorem dX8_readsCommand_88 : decode cX8_readsCommand 88 = .ok (.aload_n 0, 1) := by decide +kernel
theorem dX8_readsCommand_89 : decode cX8_readsCommand 89 = .ok (.invokevirtual 169, 3) := by decide +kernel
theorem dX8_readsCommand_92 : decode cX8_readsCommand 92 = .ok (.bipush 59, 2) := by decide +kernel
theorem dX8_readsCommand_94 : decode cX8_readsCommand 94 = .ok (.if_icmp .eq 12, 3) := by decide +kernel
theorem dX8_readsCommand_97 : decode cX8_readsCommand 97 = .ok (.aload_n 0, 1) := by decide +kernel
theorem dX8_readsCommand_98 : decode cX8_readsCommand 98 = .ok (.aload_n 0, 1) := by decide +kernel
theorem dX8_readsCommand_99 : decode cX8_readsCommand 99 = .ok (.getfield 166, 3) := by decide +kernel
theorem dX8_readsCommand_102 : decode cX8_readsCommand 102 = .ok (.invokevirtual 179, 3) := by decide +kernel
theorem dX8_readsCommand_105 : decode cX8_readsCommand 105 = .ok (.ireturn, 1) := by decide +kernel
theorem dX8_readsCommand_106 : decode cX8_readsCommand 106 = .ok (.aload_n 0, 1) := by decide +kernel
theorem dX8_readsCommand_107 : decode cX8_readsCommand 107 = .ok (.dup, 1) := by decide +kernel
theorem dX8_readsCommand_108 : decode cX8_readsCommand 108 = .ok (.getfield 166, 3) := by decide +kernel
theorem dX8_readsCommand_111 : decode cX8_readsCommand 111 = .ok (.iconst 1, 1) := by decide +kernel
theorem dX8_readsCommand_112 : decode cX8_readsCommand 112 = .ok (.iadd, 1) := by decide +kernel
theorem dX8_readsCommand_113 : decode cX8_readsCommand 113 = .ok (.putfield 166, 3) := by decide +kernel
theorem dX8_readsCommand_116 : decode cX8_readsCommand 116 = .ok (.iconst 1, 1) := by decide +kernel
theorem dX8_readsCommand_117 : decode cX8_readsCommand 117 = .ok (.ireturn, 1) := by decide +kernel
theorem dX8_findsFault_0 : decode cX8_findsFault 0 = .ok (.aload_n 0, 1) := by decide +kernel
theorem dX8_findsFault_1 : decode cX8_findsFault 1 = .ok (.iconst 0, 1) := by decide +kernel
theorem dX8_findsFault_2 : decode cX8_findsFault 2 = .ok (.putfield 166, 3) := by decide +kernel
theorem dX8_findsFault_5 : decode cX8_findsFault 5 = .ok (.aload_n 0, 1) := by decide +kernel
theorem dX8_findsFault_6 : decode cX8_findsFault 6 = .ok (.iconst (-1), 1) := by decide +kernel
theorem dX8_findsFault_7 : decode cX8_findsFault 7 = .ok (.putfield 172, 3) := by decide +kernel
theorem dX8_findsFault_10 : decode cX8_findsFault 10 = .ok (.aload_n 0, 1) := by decide +kernel
theorem dX8_findsFault_11 : decode cX8_findsFault 11 = .ok (.invokevirtual 182, 3) := by decide +kernel
theorem dX8_findsFault_14 : decode cX8_findsFault 14 = .ok (.aload_n 0, 1) := by decide +kernel
theorem dX8_findsFault_15 : decode cX8_findsFault 15 = .ok (.getfield 166, 3) := by decide +kernel
theorem dX8_findsFault_18 : decode cX8_findsFault 18 = .ok (.aload_n 0, 1) := by decide +kernel
theorem dX8_findsFault_19 : decode cX8_findsFault 19 = .ok (.getfield 149, 3) := by decide +kernel
theorem dX8_findsFault_22 : decode cX8_findsFault 22 = .ok (.if_icmp .ge 17, 3) := by decide +kernel
theorem dX8_findsFault_25 : decode cX8_findsFault 25 = .ok (.aload_n 0, 1) := by decide +kernel
theorem dX8_findsFault_26 : decode cX8_findsFault 26 = .ok (.invokevirtual 197, 3) := by decide +kernel
theorem dX8_findsFault_29 : decode cX8_findsFault 29 = .ok (.ifCond .eq 10, 3) := by decide +kernel
theorem dX8_findsFault_32 : decode cX8_findsFault 32 = .ok (.aload_n 0, 1) := by decide +kernel
theorem dX8_findsFault_33 : decode cX8_findsFault 33 = .ok (.invokevirtual 182, 3) := by decide +kernel
theorem dX8_findsFault_36 : decode cX8_findsFault 36 = .ok (.goto (-22), 3) := by decide +kernel
theorem dX8_findsFault_39 : decode cX8_findsFault 39 = .ok (.aload_n 0, 1) := by decide +kernel
theorem dX8_findsFault_40 : decode cX8_findsFault 40 = .ok (.getfield 172, 3) := by decide +kernel
theorem dX8_findsFault_43 : decode cX8_findsFault 43 = .ok (.ireturn, 1) := by decide +kernel
theorem dX8_does_0 : decode cX8_does 0 = .ok (.aload_n 0, 1) := by decide +kernel
theorem dX8_does_1 : decode cX8_does 1 = .ok (.getfield 188, 3) := by decide +kernel
theorem dX8_does_4 : decode cX8_does 4 = .ok (.tableswitch 100 0 3 #[32, 52, 66, 80], 32) := by decide +kernel
theorem dX8_does_36 : decode cX8_does 36 = .ok (.aload_n 0, 1) := by decide +kernel
theorem dX8_does_37 : decode cX8_does 37 = .ok (.aload_n 0, 1) := by decide +kernel
theorem dX8_does_38 : decode cX8_does 38 = .ok (.getfield 19, 3) := by decide +kernel
theorem dX8_does_41 : decode cX8_does 41 = .ok (.iconst 0, 1) := by decide +kernel
theorem dX8_does_42 : decode cX8_does 42 = .ok (.iaload, 1) := by decide +kernel
theorem dX8_does_43 : decode cX8_does 43 = .ok (.aload_n 0, 1) := by decide +kernel
theorem dX8_does_44 : decode cX8_does 44 = .ok (.getfield 19, 3) := by decide +kernel
theorem dX8_does_47 : decode cX8_does 47 = .ok (.iconst 1, 1) := by decide +kernel
theorem dX8_does_48 : decode cX8_does 48 = .ok (.iaload, 1) := by decide +kernel
theorem dX8_does_49 : decode cX8_does 49 = .ok (.invokevirtual 201, 3) := by decide +kernel
theorem dX8_does_52 : decode cX8_does 52 = .ok (.pop, 1) := by decide +kernel
theorem dX8_does_53 : decode cX8_does 53 = .ok (.goto 56, 3) := by decide +kernel
theorem dX8_does_56 : decode cX8_does 56 = .ok (.aload_n 0, 1) := by decide +kernel
theorem dX8_does_57 : decode cX8_does 57 = .ok (.aload_n 0, 1) := by decide +kernel
theorem dX8_does_58 : decode cX8_does 58 = .ok (.getfield 19, 3) := by decide +kernel
theorem dX8_does_61 : decode cX8_does 61 = .ok (.iconst 0, 1) := by decide +kernel
theorem dX8_does_62 : decode cX8_does 62 = .ok (.iaload, 1) := by decide +kernel
theorem dX8_does_63 : decode cX8_does 63 = .ok (.invokevirtual 204, 3) := by decide +kernel
theorem dX8_does_66 : decode cX8_does 66 = .ok (.pop, 1) := by decide +kernel
theorem dX8_does_67 : decode cX8_does 67 = .ok (.goto 42, 3) := by decide +kernel
theorem dX8_does_70 : decode cX8_does 70 = .ok (.aload_n 0, 1) := by decide +kernel
theorem dX8_does_71 : decode cX8_does 71 = .ok (.aload_n 0, 1) := by decide +kernel
theorem dX8_does_72 : decode cX8_does 72 = .ok (.getfield 19, 3) := by decide +kernel
theorem dX8_does_75 : decode cX8_does 75 = .ok (.iconst 0, 1) := by decide +kernel
theorem dX8_does_76 : decode cX8_does 76 = .ok (.iaload, 1) := by decide +kernel
theorem dX8_does_77 : decode cX8_does 77 = .ok (.invokevirtual 207, 3) := by decide +kernel
theorem dX8_does_80 : decode cX8_does 80 = .ok (.pop, 1) := by decide +kernel
theorem dX8_does_81 : decode cX8_does 81 = .ok (.goto 28, 3) := by decide +kernel
theorem dX8_does_84 : decode cX8_does 84 = .ok (.aload_n 0, 1) := by decide +kernel
theorem dX8_does_85 : decode cX8_does 85 = .ok (.aload_n 0, 1) := by decide +kernel
theorem dX8_does_86 : decode cX8_does 86 = .ok (.getfield 19, 3) := by decide +kernel
theorem dX8_does_89 : decode cX8_does 89 = .ok (.iconst 0, 1) := by decide +kernel
theorem dX8_does_90 : decode cX8_does 90 = .ok (.iaload, 1) := by decide +kernel
theorem dX8_does_91 : decode cX8_does 91 = .ok (.aload_n 0, 1) := by decide +kernel
theorem dX8_does_92 : decode cX8_does 92 = .ok (.getfield 19, 3) := by decide +kernel
theorem dX8_does_95 : decode cX8_does 95 = .ok (.iconst 1, 1) := by decide +kernel
theorem dX8_does_96 : decode cX8_does 96 = .ok (.iaload, 1) := by decide +kernel
theorem dX8_does_97 : decode cX8_does 97 = .ok (.invokevirtual 210, 3) := by decide +kernel
theorem dX8_does_100 : decode cX8_does 100 = .ok (.pop, 1) := by decide +kernel
theorem dX8_does_101 : decode cX8_does 101 = .ok (.goto 8, 3) := by decide +kernel
theorem dX8_does_104 : decode cX8_does 104 = .ok (.aload_n 0, 1) := by decide +kernel
theorem dX8_does_105 : decode cX8_does 105 = .ok (.invokevirtual 213, 3) := by decide +kernel
theorem dX8_does_108 : decode cX8_does 108 = .ok (.pop, 1) := by decide +kernel
theorem dX8_does_109 : decode cX8_does 109 = .ok (.aload_n 0, 1) := by decide +kernel
theorem dX8_does_110 : decode cX8_does 110 = .ok (.getfield 41, 3) := by decide +kernel
theorem dX8_does_113 : decode cX8_does 113 = .ok (.ifCond .ne 7, 3) := by decide +kernel
theorem dX8_does_116 : decode cX8_does 116 = .ok (.iconst 1, 1) := by decide +kernel
theorem dX8_does_117 : decode cX8_does 117 = .ok (.goto 4, 3) := by decide +kernel
theorem dX8_does_120 : decode cX8_does 120 = .ok (.iconst 0, 1) := by decide +kernel
theorem dX8_does_121 : decode cX8_does 121 = .ok (.ireturn, 1) := by decide +kernel
theorem dX8_runCommands_0 : decode cX8_runCommands 0 = .ok (.aload_n 0, 1) := by decide +kernel
theorem dX8_runCommands_1 : decode cX8_runCommands 1 = .ok (.iconst 0, 1) := by decide +kernel
theorem dX8_runCommands_2 : decode cX8_runCommands 2 = .ok (.putfield 41, 3) := by decide +kernel
theorem dX8_runCommands_5 : decode cX8_runCommands 5 = .ok (.aload_n 0, 1) := by decide +kernel
theorem dX8_runCommands_6 : decode cX8_runCommands 6 = .ok (.invokevirtual 216, 3) := by decide +kernel
theorem dX8_runCommands_9 : decode cX8_runCommands 9 = .ok (.iconst (-1), 1) := by decide +kernel
theorem dX8_runCommands_10 : decode cX8_runCommands 10 = .ok (.if_icmp .eq 11, 3) := by decide +kernel
theorem dX8_runCommands_13 : decode cX8_runCommands 13 = .ok (.bipush (-10), 2) := by decide +kernel
theorem dX8_runCommands_15 : decode cX8_runCommands 15 = .ok (.aload_n 0, 1) := by decide +kernel
theorem dX8_runCommands_16 : decode cX8_runCommands 16 = .ok (.getfield 172, 3) := by decide +kernel
theorem dX8_runCommands_19 : decode cX8_runCommands 19 = .ok (.isub, 1) := by decide +kernel
theorem dX8_runCommands_20 : decode cX8_runCommands 20 = .ok (.ireturn, 1) := by decide +kernel
theorem dX8_runCommands_21 : decode cX8_runCommands 21 = .ok (.aload_n 0, 1) := by decide +kernel
theorem dX8_runCommands_22 : decode cX8_runCommands 22 = .ok (.invokevirtual 72, 3) := by decide +kernel
theorem dX8_runCommands_25 : decode cX8_runCommands 25 = .ok (.aload_n 0, 1) := by decide +kernel
theorem dX8_runCommands_26 : decode cX8_runCommands 26 = .ok (.iconst 1, 1) := by decide +kernel
theorem dX8_runCommands_27 : decode cX8_runCommands 27 = .ok (.putfield 45, 3) := by decide +kernel
theorem dX8_runCommands_30 : decode cX8_runCommands 30 = .ok (.aload_n 0, 1) := by decide +kernel
theorem dX8_runCommands_31 : decode cX8_runCommands 31 = .ok (.iconst 0, 1) := by decide +kernel
theorem dX8_runCommands_32 : decode cX8_runCommands 32 = .ok (.putfield 166, 3) := by decide +kernel
theorem dX8_runCommands_35 : decode cX8_runCommands 35 = .ok (.iconst 0, 1) := by decide +kernel
theorem dX8_runCommands_36 : decode cX8_runCommands 36 = .ok (.istore_n 1, 1) := by decide +kernel
theorem dX8_runCommands_37 : decode cX8_runCommands 37 = .ok (.iconst 1, 1) := by decide +kernel
theorem dX8_runCommands_38 : decode cX8_runCommands 38 = .ok (.istore_n 2, 1) := by decide +kernel
theorem dX8_runCommands_39 : decode cX8_runCommands 39 = .ok (.aload_n 0, 1) := by decide +kernel
theorem dX8_runCommands_40 : decode cX8_runCommands 40 = .ok (.invokevirtual 182, 3) := by decide +kernel
theorem dX8_runCommands_43 : decode cX8_runCommands 43 = .ok (.aload_n 0, 1) := by decide +kernel
theorem dX8_runCommands_44 : decode cX8_runCommands 44 = .ok (.getfield 166, 3) := by decide +kernel
theorem dX8_runCommands_47 : decode cX8_runCommands 47 = .ok (.aload_n 0, 1) := by decide +kernel
theorem dX8_runCommands_48 : decode cX8_runCommands 48 = .ok (.getfield 149, 3) := by decide +kernel
theorem dX8_runCommands_51 : decode cX8_runCommands 51 = .ok (.if_icmp .ge 36, 3) := by decide +kernel
theorem dX8_runCommands_54 : decode cX8_runCommands 54 = .ok (.iload_n 2, 1) := by decide +kernel
theorem dX8_runCommands_55 : decode cX8_runCommands 55 = .ok (.ifCond .eq 32, 3) := by decide +kernel
theorem dX8_runCommands_58 : decode cX8_runCommands 58 = .ok (.aload_n 0, 1) := by decide +kernel
theorem dX8_runCommands_59 : decode cX8_runCommands 59 = .ok (.invokevirtual 197, 3) := by decide +kernel
theorem dX8_runCommands_62 : decode cX8_runCommands 62 = .ok (.pop, 1) := by decide +kernel
theorem dX8_runCommands_63 : decode cX8_runCommands 63 = .ok (.aload_n 0, 1) := by decide +kernel
theorem dX8_runCommands_64 : decode cX8_runCommands 64 = .ok (.invokevirtual 219, 3) := by decide +kernel
theorem dX8_runCommands_67 : decode cX8_runCommands 67 = .ok (.istore_n 2, 1) := by decide +kernel
theorem dX8_runCommands_68 : decode cX8_runCommands 68 = .ok (.iload_n 1, 1) := by decide +kernel
theorem dX8_runCommands_69 : decode cX8_runCommands 69 = .ok (.iload_n 2, 1) := by decide +kernel
theorem dX8_runCommands_70 : decode cX8_runCommands 70 = .ok (.ifCond .eq 7, 3) := by decide +kernel
theorem dX8_runCommands_73 : decode cX8_runCommands 73 = .ok (.iconst 1, 1) := by decide +kernel
theorem dX8_runCommands_74 : decode cX8_runCommands 74 = .ok (.goto 4, 3) := by decide +kernel
theorem dX8_runCommands_77 : decode cX8_runCommands 77 = .ok (.iconst 0, 1) := by decide +kernel
theorem dX8_runCommands_78 : decode cX8_runCommands 78 = .ok (.iadd, 1) := by decide +kernel
theorem dX8_runCommands_79 : decode cX8_runCommands 79 = .ok (.istore_n 1, 1) := by decide +kernel
theorem dX8_runCommands_80 : decode cX8_runCommands 80 = .ok (.aload_n 0, 1) := by decide +kernel
theorem dX8_runCommands_81 : decode cX8_runCommands 81 = .ok (.invokevirtual 182, 3) := by decide +kernel
theorem dX8_runCommands_84 : decode cX8_runCommands 84 = .ok (.goto (-41), 3) := by decide +kernel
theorem dX8_runCommands_87 : decode cX8_runCommands 87 = .ok (.aload_n 0, 1) := by decide +kernel
theorem dX8_runCommands_88 : decode cX8_runCommands 88 = .ok (.iconst 0, 1) := by decide +kernel
theorem dX8_runCommands_89 : decode cX8_runCommands 89 = .ok (.putfield 45, 3) := by decide +kernel
theorem dX8_runCommands_92 : decode cX8_runCommands 92 = .ok (.aload_n 0, 1) := by decide +kernel
theorem dX8_runCommands_93 : decode cX8_runCommands 93 = .ok (.iconst 0, 1) := by decide +kernel
theorem dX8_runCommands_94 : decode cX8_runCommands 94 = .ok (.putfield 41, 3) := by decide +kernel
theorem dX8_runCommands_97 : decode cX8_runCommands 97 = .ok (.iload_n 1, 1) := by decide +kernel
theorem dX8_runCommands_98 : decode cX8_runCommands 98 = .ok (.ireturn, 1) := by decide +kernel
theorem dX8_digest_0 : decode cX8_digest 0 = .ok (.ldc2_w 222, 3) := by decide +kernel
theorem dX8_digest_3 : decode cX8_digest 3 = .ok (.aload_n 0, 1) := by decide +kernel
theorem dX8_digest_4 : decode cX8_digest 4 = .ok (.getfield 49, 3) := by decide +kernel
theorem dX8_digest_7 : decode cX8_digest 7 = .ok (.i2l, 1) := by decide +kernel
theorem dX8_digest_8 : decode cX8_digest 8 = .ok (.ladd, 1) := by decide +kernel
theorem dX8_digest_9 : decode cX8_digest 9 = .ok (.lstore_n 1, 1) := by decide +kernel
theorem dX8_digest_10 : decode cX8_digest 10 = .ok (.aload_n 0, 1) := by decide +kernel
theorem dX8_digest_11 : decode cX8_digest 11 = .ok (.iconst (-1), 1) := by decide +kernel
theorem dX8_digest_12 : decode cX8_digest 12 = .ok (.invokevirtual 94, 3) := by decide +kernel
theorem dX8_digest_15 : decode cX8_digest 15 = .ok (.aload_n 0, 1) := by decide +kernel
theorem dX8_digest_16 : decode cX8_digest 16 = .ok (.invokevirtual 98, 3) := by decide +kernel
theorem dX8_digest_19 : decode cX8_digest 19 = .ok (.iconst 0, 1) := by decide +kernel
theorem dX8_digest_20 : decode cX8_digest 20 = .ok (.istore_n 3, 1) := by decide +kernel
theorem dX8_digest_21 : decode cX8_digest 21 = .ok (.iload_n 3, 1) := by decide +kernel
theorem dX8_digest_22 : decode cX8_digest 22 = .ok (.bipush 13, 2) := by decide +kernel
theorem dX8_digest_24 : decode cX8_digest 24 = .ok (.if_icmp .gt 22, 3) := by decide +kernel
theorem dX8_digest_27 : decode cX8_digest 27 = .ok (.ldc2_w 224, 3) := by decide +kernel
theorem dX8_digest_30 : decode cX8_digest 30 = .ok (.lload_n 1, 1) := by decide +kernel
theorem dX8_digest_31 : decode cX8_digest 31 = .ok (.lmul, 1) := by decide +kernel
theorem dX8_digest_32 : decode cX8_digest 32 = .ok (.aload_n 0, 1) := by decide +kernel
theorem dX8_digest_33 : decode cX8_digest 33 = .ok (.iload_n 3, 1) := by decide +kernel
theorem dX8_digest_34 : decode cX8_digest 34 = .ok (.invokevirtual 152, 3) := by decide +kernel
theorem dX8_digest_37 : decode cX8_digest 37 = .ok (.i2l, 1) := by decide +kernel
theorem dX8_digest_38 : decode cX8_digest 38 = .ok (.ladd, 1) := by decide +kernel
theorem dX8_digest_39 : decode cX8_digest 39 = .ok (.lstore_n 1, 1) := by decide +kernel
theorem dX8_digest_40 : decode cX8_digest 40 = .ok (.iinc 3 1, 3) := by decide +kernel
theorem dX8_digest_43 : decode cX8_digest 43 = .ok (.goto (-22), 3) := by decide +kernel
theorem dX8_digest_46 : decode cX8_digest 46 = .ok (.ldc2_w 224, 3) := by decide +kernel
theorem dX8_digest_49 : decode cX8_digest 49 = .ok (.lload_n 1, 1) := by decide +kernel
theorem dX8_digest_50 : decode cX8_digest 50 = .ok (.lmul, 1) := by decide +kernel
theorem dX8_digest_51 : decode cX8_digest 51 = .ok (.aload_n 0, 1) := by decide +kernel
theorem dX8_digest_52 : decode cX8_digest 52 = .ok (.invokevirtual 119, 3) := by decide +kernel
theorem dX8_digest_55 : decode cX8_digest 55 = .ok (.ladd, 1) := by decide +kernel
theorem dX8_digest_56 : decode cX8_digest 56 = .ok (.lstore_n 1, 1) := by decide +kernel
theorem dX8_digest_57 : decode cX8_digest 57 = .ok (.iconst 0, 1) := by decide +kernel
theorem dX8_digest_58 : decode cX8_digest 58 = .ok (.istore_n 3, 1) := by decide +kernel
theorem dX8_digest_59 : decode cX8_digest 59 = .ok (.iload_n 3, 1) := by decide +kernel
theorem dX8_digest_60 : decode cX8_digest 60 = .ok (.aload_n 0, 1) := by decide +kernel
theorem dX8_digest_61 : decode cX8_digest 61 = .ok (.getfield 7, 3) := by decide +kernel
theorem dX8_digest_64 : decode cX8_digest 64 = .ok (.iconst 2, 1) := by decide +kernel
theorem dX8_digest_65 : decode cX8_digest 65 = .ok (.iaload, 1) := by decide +kernel
theorem dX8_digest_66 : decode cX8_digest 66 = .ok (.if_icmp .ge 70, 3) := by decide +kernel
theorem dX8_digest_69 : decode cX8_digest 69 = .ok (.ldc2_w 224, 3) := by decide +kernel
theorem dX8_digest_72 : decode cX8_digest 72 = .ok (.lload_n 1, 1) := by decide +kernel
theorem dX8_digest_73 : decode cX8_digest 73 = .ok (.lmul, 1) := by decide +kernel
theorem dX8_digest_74 : decode cX8_digest 74 = .ok (.aload_n 0, 1) := by decide +kernel
theorem dX8_digest_75 : decode cX8_digest 75 = .ok (.getfield 7, 3) := by decide +kernel
theorem dX8_digest_78 : decode cX8_digest 78 = .ok (.iconst 3, 1) := by decide +kernel
theorem dX8_digest_79 : decode cX8_digest 79 = .ok (.iload_n 3, 1) := by decide +kernel
theorem dX8_digest_80 : decode cX8_digest 80 = .ok (.iadd, 1) := by decide +kernel
theorem dX8_digest_81 : decode cX8_digest 81 = .ok (.iaload, 1) := by decide +kernel
theorem dX8_digest_82 : decode cX8_digest 82 = .ok (.i2l, 1) := by decide +kernel
theorem dX8_digest_83 : decode cX8_digest 83 = .ok (.ladd, 1) := by decide +kernel
theorem dX8_digest_84 : decode cX8_digest 84 = .ok (.lstore_n 1, 1) := by decide +kernel
theorem dX8_digest_85 : decode cX8_digest 85 = .ok (.ldc2_w 224, 3) := by decide +kernel
theorem dX8_digest_88 : decode cX8_digest 88 = .ok (.lload_n 1, 1) := by decide +kernel
theorem dX8_digest_89 : decode cX8_digest 89 = .ok (.lmul, 1) := by decide +kernel
theorem dX8_digest_90 : decode cX8_digest 90 = .ok (.aload_n 0, 1) := by decide +kernel
theorem dX8_digest_91 : decode cX8_digest 91 = .ok (.getfield 7, 3) := by decide +kernel
theorem dX8_digest_94 : decode cX8_digest 94 = .ok (.bipush 13, 2) := by decide +kernel
theorem dX8_digest_96 : decode cX8_digest 96 = .ok (.iload_n 3, 1) := by decide +kernel
theorem dX8_digest_97 : decode cX8_digest 97 = .ok (.iadd, 1) := by decide +kernel
theorem dX8_digest_98 : decode cX8_digest 98 = .ok (.iaload, 1) := by decide +kernel
theorem dX8_digest_99 : decode cX8_digest 99 = .ok (.i2l, 1) := by decide +kernel
theorem dX8_digest_100 : decode cX8_digest 100 = .ok (.ladd, 1) := by decide +kernel
theorem dX8_digest_101 : decode cX8_digest 101 = .ok (.lstore_n 1, 1) := by decide +kernel
theorem dX8_digest_102 : decode cX8_digest 102 = .ok (.ldc2_w 224, 3) := by decide +kernel
theorem dX8_digest_105 : decode cX8_digest 105 = .ok (.lload_n 1, 1) := by decide +kernel
theorem dX8_digest_106 : decode cX8_digest 106 = .ok (.lmul, 1) := by decide +kernel
theorem dX8_digest_107 : decode cX8_digest 107 = .ok (.aload_n 0, 1) := by decide +kernel
theorem dX8_digest_108 : decode cX8_digest 108 = .ok (.iload_n 3, 1) := by decide +kernel
theorem dX8_digest_109 : decode cX8_digest 109 = .ok (.iconst 0, 1) := by decide +kernel
theorem dX8_digest_110 : decode cX8_digest 110 = .ok (.invokevirtual 129, 3) := by decide +kernel
theorem dX8_digest_113 : decode cX8_digest 113 = .ok (.i2l, 1) := by decide +kernel
theorem dX8_digest_114 : decode cX8_digest 114 = .ok (.ladd, 1) := by decide +kernel
theorem dX8_digest_115 : decode cX8_digest 115 = .ok (.lstore_n 1, 1) := by decide +kernel
theorem dX8_digest_116 : decode cX8_digest 116 = .ok (.ldc2_w 224, 3) := by decide +kernel
theorem dX8_digest_119 : decode cX8_digest 119 = .ok (.lload_n 1, 1) := by decide +kernel
theorem dX8_digest_120 : decode cX8_digest 120 = .ok (.lmul, 1) := by decide +kernel
theorem dX8_digest_121 : decode cX8_digest 121 = .ok (.aload_n 0, 1) := by decide +kernel
theorem dX8_digest_122 : decode cX8_digest 122 = .ok (.iload_n 3, 1) := by decide +kernel
theorem dX8_digest_123 : decode cX8_digest 123 = .ok (.iconst 1, 1) := by decide +kernel
theorem dX8_digest_124 : decode cX8_digest 124 = .ok (.invokevirtual 129, 3) := by decide +kernel
theorem dX8_digest_127 : decode cX8_digest 127 = .ok (.i2l, 1) := by decide +kernel
theorem dX8_digest_128 : decode cX8_digest 128 = .ok (.ladd, 1) := by decide +kernel
theorem dX8_digest_129 : decode cX8_digest 129 = .ok (.lstore_n 1, 1) := by decide +kernel
theorem dX8_digest_130 : decode cX8_digest 130 = .ok (.iinc 3 1, 3) := by decide +kernel
theorem dX8_digest_133 : decode cX8_digest 133 = .ok (.goto (-74), 3) := by decide +kernel
theorem dX8_digest_136 : decode cX8_digest 136 = .ok (.iconst 0, 1) := by decide +kernel
theorem dX8_digest_137 : decode cX8_digest 137 = .ok (.istore_n 3, 1) := by decide +kernel
theorem dX8_digest_138 : decode cX8_digest 138 = .ok (.iload_n 3, 1) := by decide +kernel
theorem dX8_digest_139 : decode cX8_digest 139 = .ok (.bipush 6, 2) := by decide +kernel
theorem dX8_digest_141 : decode cX8_digest 141 = .ok (.if_icmp .ge 63, 3) := by decide +kernel
theorem dX8_digest_144 : decode cX8_digest 144 = .ok (.aload_n 0, 1) := by decide +kernel
theorem dX8_digest_145 : decode cX8_digest 145 = .ok (.iload_n 3, 1) := by decide +kernel
theorem dX8_digest_146 : decode cX8_digest 146 = .ok (.invokevirtual 133, 3) := by decide +kernel
theorem dX8_digest_149 : decode cX8_digest 149 = .ok (.istore 4, 2) := by decide +kernel
theorem dX8_digest_151 : decode cX8_digest 151 = .ok (.ldc2_w 224, 3) := by decide +kernel
theorem dX8_digest_154 : decode cX8_digest 154 = .ok (.lload_n 1, 1) := by decide +kernel
theorem dX8_digest_155 : decode cX8_digest 155 = .ok (.lmul, 1) := by decide +kernel
theorem dX8_digest_156 : decode cX8_digest 156 = .ok (.iload 4, 2) := by decide +kernel
theorem dX8_digest_158 : decode cX8_digest 158 = .ok (.i2l, 1) := by decide +kernel
theorem dX8_digest_159 : decode cX8_digest 159 = .ok (.ladd, 1) := by decide +kernel
theorem dX8_digest_160 : decode cX8_digest 160 = .ok (.lstore_n 1, 1) := by decide +kernel
theorem dX8_digest_161 : decode cX8_digest 161 = .ok (.ldc2_w 224, 3) := by decide +kernel
theorem dX8_digest_164 : decode cX8_digest 164 = .ok (.lload_n 1, 1) := by decide +kernel
theorem dX8_digest_165 : decode cX8_digest 165 = .ok (.lmul, 1) := by decide +kernel
theorem dX8_digest_166 : decode cX8_digest 166 = .ok (.aload_n 0, 1) := by decide +kernel
theorem dX8_digest_167 : decode cX8_digest 167 = .ok (.getfield 25, 3) := by decide +kernel
theorem dX8_digest_170 : decode cX8_digest 170 = .ok (.iload 4, 2) := by decide +kernel
theorem dX8_digest_172 : decode cX8_digest 172 = .ok (.iaload, 1) := by decide +kernel
theorem dX8_digest_173 : decode cX8_digest 173 = .ok (.i2l, 1) := by decide +kernel
theorem dX8_digest_174 : decode cX8_digest 174 = .ok (.ladd, 1) := by decide +kernel
theorem dX8_digest_175 : decode cX8_digest 175 = .ok (.lstore_n 1, 1) := by decide +kernel
theorem dX8_digest_176 : decode cX8_digest 176 = .ok (.ldc2_w 224, 3) := by decide +kernel
theorem dX8_digest_179 : decode cX8_digest 179 = .ok (.lload_n 1, 1) := by decide +kernel
theorem dX8_digest_180 : decode cX8_digest 180 = .ok (.lmul, 1) := by decide +kernel
theorem dX8_digest_181 : decode cX8_digest 181 = .ok (.aload_n 0, 1) := by decide +kernel
theorem dX8_digest_182 : decode cX8_digest 182 = .ok (.iload 4, 2) := by decide +kernel
theorem dX8_digest_184 : decode cX8_digest 184 = .ok (.invokevirtual 91, 3) := by decide +kernel
theorem dX8_digest_187 : decode cX8_digest 187 = .ok (.ifCond .eq 7, 3) := by decide +kernel
theorem dX8_digest_190 : decode cX8_digest 190 = .ok (.iconst 1, 1) := by decide +kernel
theorem dX8_digest_191 : decode cX8_digest 191 = .ok (.goto 4, 3) := by decide +kernel
theorem dX8_digest_194 : decode cX8_digest 194 = .ok (.iconst 0, 1) := by decide +kernel
theorem dX8_digest_195 : decode cX8_digest 195 = .ok (.i2l, 1) := by decide +kernel
theorem dX8_digest_196 : decode cX8_digest 196 = .ok (.ladd, 1) := by decide +kernel
theorem dX8_digest_197 : decode cX8_digest 197 = .ok (.lstore_n 1, 1) := by decide +kernel
theorem dX8_digest_198 : decode cX8_digest 198 = .ok (.iinc 3 1, 3) := by decide +kernel
theorem dX8_digest_201 : decode cX8_digest 201 = .ok (.goto (-63), 3) := by decide +kernel
theorem dX8_digest_204 : decode cX8_digest 204 = .ok (.iconst 1, 1) := by decide +kernel
theorem dX8_digest_205 : decode cX8_digest 205 = .ok (.istore_n 3, 1) := by decide +kernel
theorem dX8_digest_206 : decode cX8_digest 206 = .ok (.iload_n 3, 1) := by decide +kernel
theorem dX8_digest_207 : decode cX8_digest 207 = .ok (.iconst 5, 1) := by decide +kernel
theorem dX8_digest_208 : decode cX8_digest 208 = .ok (.if_icmp .gt 26, 3) := by decide +kernel
theorem dX8_digest_211 : decode cX8_digest 211 = .ok (.ldc2_w 224, 3) := by decide +kernel
theorem dX8_digest_214 : decode cX8_digest 214 = .ok (.lload_n 1, 1) := by decide +kernel
theorem dX8_digest_215 : decode cX8_digest 215 = .ok (.lmul, 1) := by decide +kernel
theorem dX8_digest_216 : decode cX8_digest 216 = .ok (.aload_n 0, 1) := by decide +kernel
theorem dX8_digest_217 : decode cX8_digest 217 = .ok (.aload_n 0, 1) := by decide +kernel
theorem dX8_digest_218 : decode cX8_digest 218 = .ok (.invokevirtual 101, 3) := by decide +kernel
theorem dX8_digest_221 : decode cX8_digest 221 = .ok (.iload_n 3, 1) := by decide +kernel
theorem dX8_digest_222 : decode cX8_digest 222 = .ok (.invokevirtual 116, 3) := by decide +kernel
theorem dX8_digest_225 : decode cX8_digest 225 = .ok (.i2l, 1) := by decide +kernel
theorem dX8_digest_226 : decode cX8_digest 226 = .ok (.ladd, 1) := by decide +kernel
theorem dX8_digest_227 : decode cX8_digest 227 = .ok (.lstore_n 1, 1) := by decide +kernel
theorem dX8_digest_228 : decode cX8_digest 228 = .ok (.iinc 3 1, 3) := by decide +kernel
theorem dX8_digest_231 : decode cX8_digest 231 = .ok (.goto (-25), 3) := by decide +kernel
theorem dX8_digest_234 : decode cX8_digest 234 = .ok (.iconst 1, 1) := by decide +kernel
theorem dX8_digest_235 : decode cX8_digest 235 = .ok (.istore_n 3, 1) := by decide +kernel
theorem dX8_digest_236 : decode cX8_digest 236 = .ok (.iload_n 3, 1) := by decide +kernel
theorem dX8_digest_237 : decode cX8_digest 237 = .ok (.aload_n 0, 1) := by decide +kernel
theorem dX8_digest_238 : decode cX8_digest 238 = .ok (.invokevirtual 101, 3) := by decide +kernel
theorem dX8_digest_241 : decode cX8_digest 241 = .ok (.if_icmp .gt 30, 3) := by decide +kernel
theorem dX8_digest_244 : decode cX8_digest 244 = .ok (.aload_n 0, 1) := by decide +kernel
theorem dX8_digest_245 : decode cX8_digest 245 = .ok (.iload_n 3, 1) := by decide +kernel
theorem dX8_digest_246 : decode cX8_digest 246 = .ok (.invokevirtual 91, 3) := by decide +kernel
theorem dX8_digest_249 : decode cX8_digest 249 = .ok (.ifCond .eq 14, 3) := by decide +kernel
theorem dX8_digest_252 : decode cX8_digest 252 = .ok (.ldc2_w 224, 3) := by decide +kernel
theorem dX8_digest_255 : decode cX8_digest 255 = .ok (.lload_n 1, 1) := by decide +kernel
theorem dX8_digest_256 : decode cX8_digest 256 = .ok (.lmul, 1) := by decide +kernel
theorem dX8_digest_257 : decode cX8_digest 257 = .ok (.iload_n 3, 1) := by decide +kernel
theorem dX8_digest_258 : decode cX8_digest 258 = .ok (.i2l, 1) := by decide +kernel
theorem dX8_digest_259 : decode cX8_digest 259 = .ok (.ladd, 1) := by decide +kernel
theorem dX8_digest_260 : decode cX8_digest 260 = .ok (.goto 4, 3) := by decide +kernel
theorem dX8_digest_263 : decode cX8_digest 263 = .ok (.lload_n 1, 1) := by decide +kernel
theorem dX8_digest_264 : decode cX8_digest 264 = .ok (.lstore_n 1, 1) := by decide +kernel
theorem dX8_digest_265 : decode cX8_digest 265 = .ok (.iinc 3 1, 3) := by decide +kernel
theorem dX8_digest_268 : decode cX8_digest 268 = .ok (.goto (-32), 3) := by decide +kernel
theorem dX8_digest_271 : decode cX8_digest 271 = .ok (.ldc2_w 224, 3) := by decide +kernel
theorem dX8_digest_274 : decode cX8_digest 274 = .ok (.lload_n 1, 1) := by decide +kernel
theorem dX8_digest_275 : decode cX8_digest 275 = .ok (.lmul, 1) := by decide +kernel
theorem dX8_digest_276 : decode cX8_digest 276 = .ok (.aload_n 0, 1) := by decide +kernel
theorem dX8_digest_277 : decode cX8_digest 277 = .ok (.invokevirtual 226, 3) := by decide +kernel
theorem dX8_digest_280 : decode cX8_digest 280 = .ok (.i2l, 1) := by decide +kernel
theorem dX8_digest_281 : decode cX8_digest 281 = .ok (.ladd, 1) := by decide +kernel
theorem dX8_digest_282 : decode cX8_digest 282 = .ok (.lstore_n 1, 1) := by decide +kernel
theorem dX8_digest_283 : decode cX8_digest 283 = .ok (.ldc2_w 224, 3) := by decide +kernel
theorem dX8_digest_286 : decode cX8_digest 286 = .ok (.lload_n 1, 1) := by decide +kernel
theorem dX8_digest_287 : decode cX8_digest 287 = .ok (.lmul, 1) := by decide +kernel
theorem dX8_digest_288 : decode cX8_digest 288 = .ok (.aload_n 0, 1) := by decide +kernel
theorem dX8_digest_289 : decode cX8_digest 289 = .ok (.invokevirtual 229, 3) := by decide +kernel
theorem dX8_digest_292 : decode cX8_digest 292 = .ok (.i2l, 1) := by decide +kernel
theorem dX8_digest_293 : decode cX8_digest 293 = .ok (.ladd, 1) := by decide +kernel
theorem dX8_digest_294 : decode cX8_digest 294 = .ok (.lstore_n 1, 1) := by decide +kernel
theorem dX8_digest_295 : decode cX8_digest 295 = .ok (.ldc2_w 224, 3) := by decide +kernel
theorem dX8_digest_298 : decode cX8_digest 298 = .ok (.lload_n 1, 1) := by decide +kernel
theorem dX8_digest_299 : decode cX8_digest 299 = .ok (.lmul, 1) := by decide +kernel
theorem dX8_digest_300 : decode cX8_digest 300 = .ok (.aload_n 0, 1) := by decide +kernel
theorem dX8_digest_301 : decode cX8_digest 301 = .ok (.invokevirtual 232, 3) := by decide +kernel
theorem dX8_digest_304 : decode cX8_digest 304 = .ok (.invokestatic 236, 3) := by decide +kernel
theorem dX8_digest_307 : decode cX8_digest 307 = .ok (.ladd, 1) := by decide +kernel
theorem dX8_digest_308 : decode cX8_digest 308 = .ok (.lstore_n 1, 1) := by decide +kernel
theorem dX8_digest_309 : decode cX8_digest 309 = .ok (.aload_n 0, 1) := by decide +kernel
theorem dX8_digest_310 : decode cX8_digest 310 = .ok (.iconst 0, 1) := by decide +kernel
theorem dX8_digest_311 : decode cX8_digest 311 = .ok (.putfield 41, 3) := by decide +kernel
theorem dX8_digest_314 : decode cX8_digest 314 = .ok (.lload_n 1, 1) := by decide +kernel
theorem dX8_digest_315 : decode cX8_digest 315 = .ok (.lreturn, 1) := by decide +kernel
theorem dJxe99ae_isNaN_b9ae7_0 : decode cJxe99ae_isNaN_b9ae7 0 = .ok (.dload_n 0, 1) := by decide +kernel
theorem dJxe99ae_isNaN_b9ae7_1 : decode cJxe99ae_isNaN_b9ae7 1 = .ok (.dload_n 0, 1) := by decide +kernel
theorem dJxe99ae_isNaN_b9ae7_2 : decode cJxe99ae_isNaN_b9ae7 2 = .ok (.dcmp .l, 1) := by decide +kernel
theorem dJxe99ae_isNaN_b9ae7_3 : decode cJxe99ae_isNaN_b9ae7 3 = .ok (.ifCond .eq 7, 3) := by decide +kernel
theorem dJxe99ae_isNaN_b9ae7_6 : decode cJxe99ae_isNaN_b9ae7 6 = .ok (.iconst 1, 1) := by decide +kernel
theorem dJxe99ae_isNaN_b9ae7_7 : decode cJxe99ae_isNaN_b9ae7 7 = .ok (.goto 4, 3) := by decide +kernel
theorem dJxe99ae_isNaN_b9ae7_10 : decode cJxe99ae_isNaN_b9ae7 10 = .ok (.iconst 0, 1) := by decide +kernel
theorem dJxe99ae_isNaN_b9ae7_11 : decode cJxe99ae_isNaN_b9ae7 11 = .ok (.ireturn, 1) := by decide +kernel
theorem dJxe99ae_doubleToLongBits_ccdee_0 : decode cJxe99ae_doubleToLongBits_ccdee 0 = .ok (.dload_n 0, 1) := by decide +kernel
theorem dJxe99ae_doubleToLongBits_ccdee_1 : decode cJxe99ae_doubleToLongBits_ccdee 1 = .ok (.invokestatic 122, 3) := by decide +kernel
theorem dJxe99ae_doubleToLongBits_ccdee_4 : decode cJxe99ae_doubleToLongBits_ccdee 4 = .ok (.ifCond .ne 8, 3) := by decide +kernel
theorem dJxe99ae_doubleToLongBits_ccdee_7 : decode cJxe99ae_doubleToLongBits_ccdee 7 = .ok (.dload_n 0, 1) := by decide +kernel
theorem dJxe99ae_doubleToLongBits_ccdee_8 : decode cJxe99ae_doubleToLongBits_ccdee 8 = .ok (.invokestatic 134, 3) := by decide +kernel
theorem dJxe99ae_doubleToLongBits_ccdee_11 : decode cJxe99ae_doubleToLongBits_ccdee 11 = .ok (.lreturn, 1) := by decide +kernel
theorem dJxe99ae_doubleToLongBits_ccdee_12 : decode cJxe99ae_doubleToLongBits_ccdee 12 = .ok (.ldc2_w 137, 3) := by decide +kernel
theorem dJxe99ae_doubleToLongBits_ccdee_15 : decode cJxe99ae_doubleToLongBits_ccdee 15 = .ok (.lreturn, 1) := by decide +kernel
theorem dJx29ce0_ordinal_8abf5_0 : decode cJx29ce0_ordinal_8abf5 0 = .ok (.aload_n 0, 1) := by decide +kernel
theorem dJx29ce0_ordinal_8abf5_1 : decode cJx29ce0_ordinal_8abf5 1 = .ok (.getfield 7, 3) := by decide +kernel
theorem dJx29ce0_ordinal_8abf5_4 : decode cJx29ce0_ordinal_8abf5 4 = .ok (.ireturn, 1) := by decide +kernel
theorem dJ6_bitCount_0f7a4_0 : decode cJ6_bitCount_0f7a4 0 = .ok (.iload_n 0, 1) := by decide +kernel
theorem dJ6_bitCount_0f7a4_1 : decode cJ6_bitCount_0f7a4 1 = .ok (.iload_n 0, 1) := by decide +kernel
theorem dJ6_bitCount_0f7a4_2 : decode cJ6_bitCount_0f7a4 2 = .ok (.iconst 1, 1) := by decide +kernel
theorem dJ6_bitCount_0f7a4_3 : decode cJ6_bitCount_0f7a4 3 = .ok (.iushr, 1) := by decide +kernel
theorem dJ6_bitCount_0f7a4_4 : decode cJ6_bitCount_0f7a4 4 = .ok (.ldc_w 265, 3) := by decide +kernel
theorem dJ6_bitCount_0f7a4_7 : decode cJ6_bitCount_0f7a4 7 = .ok (.iand, 1) := by decide +kernel
theorem dJ6_bitCount_0f7a4_8 : decode cJ6_bitCount_0f7a4 8 = .ok (.isub, 1) := by decide +kernel
theorem dJ6_bitCount_0f7a4_9 : decode cJ6_bitCount_0f7a4 9 = .ok (.istore_n 0, 1) := by decide +kernel
theorem dJ6_bitCount_0f7a4_10 : decode cJ6_bitCount_0f7a4 10 = .ok (.iload_n 0, 1) := by decide +kernel
theorem dJ6_bitCount_0f7a4_11 : decode cJ6_bitCount_0f7a4 11 = .ok (.ldc_w 266, 3) := by decide +kernel
theorem dJ6_bitCount_0f7a4_14 : decode cJ6_bitCount_0f7a4 14 = .ok (.iand, 1) := by decide +kernel
theorem dJ6_bitCount_0f7a4_15 : decode cJ6_bitCount_0f7a4 15 = .ok (.iload_n 0, 1) := by decide +kernel
theorem dJ6_bitCount_0f7a4_16 : decode cJ6_bitCount_0f7a4 16 = .ok (.iconst 2, 1) := by decide +kernel
theorem dJ6_bitCount_0f7a4_17 : decode cJ6_bitCount_0f7a4 17 = .ok (.iushr, 1) := by decide +kernel
theorem dJ6_bitCount_0f7a4_18 : decode cJ6_bitCount_0f7a4 18 = .ok (.ldc_w 266, 3) := by decide +kernel
theorem dJ6_bitCount_0f7a4_21 : decode cJ6_bitCount_0f7a4 21 = .ok (.iand, 1) := by decide +kernel
theorem dJ6_bitCount_0f7a4_22 : decode cJ6_bitCount_0f7a4 22 = .ok (.iadd, 1) := by decide +kernel
theorem dJ6_bitCount_0f7a4_23 : decode cJ6_bitCount_0f7a4 23 = .ok (.istore_n 0, 1) := by decide +kernel
theorem dJ6_bitCount_0f7a4_24 : decode cJ6_bitCount_0f7a4 24 = .ok (.iload_n 0, 1) := by decide +kernel
theorem dJ6_bitCount_0f7a4_25 : decode cJ6_bitCount_0f7a4 25 = .ok (.iload_n 0, 1) := by decide +kernel
theorem dJ6_bitCount_0f7a4_26 : decode cJ6_bitCount_0f7a4 26 = .ok (.iconst 4, 1) := by decide +kernel
theorem dJ6_bitCount_0f7a4_27 : decode cJ6_bitCount_0f7a4 27 = .ok (.iushr, 1) := by decide +kernel
theorem dJ6_bitCount_0f7a4_28 : decode cJ6_bitCount_0f7a4 28 = .ok (.iadd, 1) := by decide +kernel
theorem dJ6_bitCount_0f7a4_29 : decode cJ6_bitCount_0f7a4 29 = .ok (.ldc_w 267, 3) := by decide +kernel
theorem dJ6_bitCount_0f7a4_32 : decode cJ6_bitCount_0f7a4 32 = .ok (.iand, 1) := by decide +kernel
theorem dJ6_bitCount_0f7a4_33 : decode cJ6_bitCount_0f7a4 33 = .ok (.istore_n 0, 1) := by decide +kernel
theorem dJ6_bitCount_0f7a4_34 : decode cJ6_bitCount_0f7a4 34 = .ok (.iload_n 0, 1) := by decide +kernel
theorem dJ6_bitCount_0f7a4_35 : decode cJ6_bitCount_0f7a4 35 = .ok (.iload_n 0, 1) := by decide +kernel
theorem dJ6_bitCount_0f7a4_36 : decode cJ6_bitCount_0f7a4 36 = .ok (.bipush 8, 2) := by decide +kernel
theorem dJ6_bitCount_0f7a4_38 : decode cJ6_bitCount_0f7a4 38 = .ok (.iushr, 1) := by decide +kernel
theorem dJ6_bitCount_0f7a4_39 : decode cJ6_bitCount_0f7a4 39 = .ok (.iadd, 1) := by decide +kernel
theorem dJ6_bitCount_0f7a4_40 : decode cJ6_bitCount_0f7a4 40 = .ok (.istore_n 0, 1) := by decide +kernel
theorem dJ6_bitCount_0f7a4_41 : decode cJ6_bitCount_0f7a4 41 = .ok (.iload_n 0, 1) := by decide +kernel
theorem dJ6_bitCount_0f7a4_42 : decode cJ6_bitCount_0f7a4 42 = .ok (.iload_n 0, 1) := by decide +kernel
theorem dJ6_bitCount_0f7a4_43 : decode cJ6_bitCount_0f7a4 43 = .ok (.bipush 16, 2) := by decide +kernel
theorem dJ6_bitCount_0f7a4_45 : decode cJ6_bitCount_0f7a4 45 = .ok (.iushr, 1) := by decide +kernel
theorem dJ6_bitCount_0f7a4_46 : decode cJ6_bitCount_0f7a4 46 = .ok (.iadd, 1) := by decide +kernel
theorem dJ6_bitCount_0f7a4_47 : decode cJ6_bitCount_0f7a4 47 = .ok (.istore_n 0, 1) := by decide +kernel
theorem dJ6_bitCount_0f7a4_48 : decode cJ6_bitCount_0f7a4 48 = .ok (.iload_n 0, 1) := by decide +kernel
theorem dJ6_bitCount_0f7a4_49 : decode cJ6_bitCount_0f7a4 49 = .ok (.bipush 63, 2) := by decide +kernel
theorem dJ6_bitCount_0f7a4_51 : decode cJ6_bitCount_0f7a4 51 = .ok (.iand, 1) := by decide +kernel
theorem dJ6_bitCount_0f7a4_52 : decode cJ6_bitCount_0f7a4 52 = .ok (.ireturn, 1) := by decide +kernel
theorem dJ13_bitCount_95d88_0 : decode cJ13_bitCount_95d88 0 = .ok (.lload_n 0, 1) := by decide +kernel
theorem dJ13_bitCount_95d88_1 : decode cJ13_bitCount_95d88 1 = .ok (.lload_n 0, 1) := by decide +kernel
theorem dJ13_bitCount_95d88_2 : decode cJ13_bitCount_95d88 2 = .ok (.iconst 1, 1) := by decide +kernel
theorem dJ13_bitCount_95d88_3 : decode cJ13_bitCount_95d88 3 = .ok (.lushr, 1) := by decide +kernel
theorem dJ13_bitCount_95d88_4 : decode cJ13_bitCount_95d88 4 = .ok (.ldc2_w 314, 3) := by decide +kernel
theorem dJ13_bitCount_95d88_7 : decode cJ13_bitCount_95d88 7 = .ok (.land, 1) := by decide +kernel
theorem dJ13_bitCount_95d88_8 : decode cJ13_bitCount_95d88 8 = .ok (.lsub, 1) := by decide +kernel
theorem dJ13_bitCount_95d88_9 : decode cJ13_bitCount_95d88 9 = .ok (.lstore_n 0, 1) := by decide +kernel
theorem dJ13_bitCount_95d88_10 : decode cJ13_bitCount_95d88 10 = .ok (.lload_n 0, 1) := by decide +kernel
theorem dJ13_bitCount_95d88_11 : decode cJ13_bitCount_95d88 11 = .ok (.ldc2_w 316, 3) := by decide +kernel
theorem dJ13_bitCount_95d88_14 : decode cJ13_bitCount_95d88 14 = .ok (.land, 1) := by decide +kernel
theorem dJ13_bitCount_95d88_15 : decode cJ13_bitCount_95d88 15 = .ok (.lload_n 0, 1) := by decide +kernel
theorem dJ13_bitCount_95d88_16 : decode cJ13_bitCount_95d88 16 = .ok (.iconst 2, 1) := by decide +kernel
theorem dJ13_bitCount_95d88_17 : decode cJ13_bitCount_95d88 17 = .ok (.lushr, 1) := by decide +kernel
theorem dJ13_bitCount_95d88_18 : decode cJ13_bitCount_95d88 18 = .ok (.ldc2_w 316, 3) := by decide +kernel
theorem dJ13_bitCount_95d88_21 : decode cJ13_bitCount_95d88 21 = .ok (.land, 1) := by decide +kernel
theorem dJ13_bitCount_95d88_22 : decode cJ13_bitCount_95d88 22 = .ok (.ladd, 1) := by decide +kernel
theorem dJ13_bitCount_95d88_23 : decode cJ13_bitCount_95d88 23 = .ok (.lstore_n 0, 1) := by decide +kernel
theorem dJ13_bitCount_95d88_24 : decode cJ13_bitCount_95d88 24 = .ok (.lload_n 0, 1) := by decide +kernel
theorem dJ13_bitCount_95d88_25 : decode cJ13_bitCount_95d88 25 = .ok (.lload_n 0, 1) := by decide +kernel
theorem dJ13_bitCount_95d88_26 : decode cJ13_bitCount_95d88 26 = .ok (.iconst 4, 1) := by decide +kernel
theorem dJ13_bitCount_95d88_27 : decode cJ13_bitCount_95d88 27 = .ok (.lushr, 1) := by decide +kernel
theorem dJ13_bitCount_95d88_28 : decode cJ13_bitCount_95d88 28 = .ok (.ladd, 1) := by decide +kernel
theorem dJ13_bitCount_95d88_29 : decode cJ13_bitCount_95d88 29 = .ok (.ldc2_w 318, 3) := by decide +kernel
theorem dJ13_bitCount_95d88_32 : decode cJ13_bitCount_95d88 32 = .ok (.land, 1) := by decide +kernel
theorem dJ13_bitCount_95d88_33 : decode cJ13_bitCount_95d88 33 = .ok (.lstore_n 0, 1) := by decide +kernel
theorem dJ13_bitCount_95d88_34 : decode cJ13_bitCount_95d88 34 = .ok (.lload_n 0, 1) := by decide +kernel
theorem dJ13_bitCount_95d88_35 : decode cJ13_bitCount_95d88 35 = .ok (.lload_n 0, 1) := by decide +kernel
theorem dJ13_bitCount_95d88_36 : decode cJ13_bitCount_95d88 36 = .ok (.bipush 8, 2) := by decide +kernel
theorem dJ13_bitCount_95d88_38 : decode cJ13_bitCount_95d88 38 = .ok (.lushr, 1) := by decide +kernel
theorem dJ13_bitCount_95d88_39 : decode cJ13_bitCount_95d88 39 = .ok (.ladd, 1) := by decide +kernel
theorem dJ13_bitCount_95d88_40 : decode cJ13_bitCount_95d88 40 = .ok (.lstore_n 0, 1) := by decide +kernel
theorem dJ13_bitCount_95d88_41 : decode cJ13_bitCount_95d88 41 = .ok (.lload_n 0, 1) := by decide +kernel
theorem dJ13_bitCount_95d88_42 : decode cJ13_bitCount_95d88 42 = .ok (.lload_n 0, 1) := by decide +kernel
theorem dJ13_bitCount_95d88_43 : decode cJ13_bitCount_95d88 43 = .ok (.bipush 16, 2) := by decide +kernel
theorem dJ13_bitCount_95d88_45 : decode cJ13_bitCount_95d88 45 = .ok (.lushr, 1) := by decide +kernel
theorem dJ13_bitCount_95d88_46 : decode cJ13_bitCount_95d88 46 = .ok (.ladd, 1) := by decide +kernel
theorem dJ13_bitCount_95d88_47 : decode cJ13_bitCount_95d88 47 = .ok (.lstore_n 0, 1) := by decide +kernel
theorem dJ13_bitCount_95d88_48 : decode cJ13_bitCount_95d88 48 = .ok (.lload_n 0, 1) := by decide +kernel
theorem dJ13_bitCount_95d88_49 : decode cJ13_bitCount_95d88 49 = .ok (.lload_n 0, 1) := by decide +kernel
theorem dJ13_bitCount_95d88_50 : decode cJ13_bitCount_95d88 50 = .ok (.bipush 32, 2) := by decide +kernel
theorem dJ13_bitCount_95d88_52 : decode cJ13_bitCount_95d88 52 = .ok (.lushr, 1) := by decide +kernel
theorem dJ13_bitCount_95d88_53 : decode cJ13_bitCount_95d88 53 = .ok (.ladd, 1) := by decide +kernel
theorem dJ13_bitCount_95d88_54 : decode cJ13_bitCount_95d88 54 = .ok (.lstore_n 0, 1) := by decide +kernel
theorem dJ13_bitCount_95d88_55 : decode cJ13_bitCount_95d88 55 = .ok (.lload_n 0, 1) := by decide +kernel
theorem dJ13_bitCount_95d88_56 : decode cJ13_bitCount_95d88 56 = .ok (.l2i, 1) := by decide +kernel
theorem dJ13_bitCount_95d88_57 : decode cJ13_bitCount_95d88 57 = .ok (.bipush 127, 2) := by decide +kernel
theorem dJ13_bitCount_95d88_59 : decode cJ13_bitCount_95d88 59 = .ok (.iand, 1) := by decide +kernel
theorem dJ13_bitCount_95d88_60 : decode cJ13_bitCount_95d88 60 = .ok (.ireturn, 1) := by decide +kernel
theorem dJ9_max_7cf53_0 : decode cJ9_max_7cf53 0 = .ok (.iload_n 0, 1) := by decide +kernel
theorem dJ9_max_7cf53_1 : decode cJ9_max_7cf53 1 = .ok (.iload_n 1, 1) := by decide +kernel
theorem dJ9_max_7cf53_2 : decode cJ9_max_7cf53 2 = .ok (.if_icmp .lt 7, 3) := by decide +kernel
theorem dJ9_max_7cf53_5 : decode cJ9_max_7cf53 5 = .ok (.iload_n 0, 1) := by decide +kernel
theorem dJ9_max_7cf53_6 : decode cJ9_max_7cf53 6 = .ok (.goto 4, 3) := by decide +kernel
theorem dJ9_max_7cf53_9 : decode cJ9_max_7cf53 9 = .ok (.iload_n 1, 1) := by decide +kernel
theorem dJ9_max_7cf53_10 : decode cJ9_max_7cf53 10 = .ok (.ireturn, 1) := by decide +kernel
theorem dJ9_min_7cf53_0 : decode cJ9_min_7cf53 0 = .ok (.iload_n 0, 1) := by decide +kernel
theorem dJ9_min_7cf53_1 : decode cJ9_min_7cf53 1 = .ok (.iload_n 1, 1) := by decide +kernel
theorem dJ9_min_7cf53_2 : decode cJ9_min_7cf53 2 = .ok (.if_icmp .gt 7, 3) := by decide +kernel
theorem dJ9_min_7cf53_5 : decode cJ9_min_7cf53 5 = .ok (.iload_n 0, 1) := by decide +kernel
theorem dJ9_min_7cf53_6 : decode cJ9_min_7cf53 6 = .ok (.goto 4, 3) := by decide +kernel
theorem dJ9_min_7cf53_9 : decode cJ9_min_7cf53 9 = .ok (.iload_n 1, 1) := by decide +kernel
theorem dJ9_min_7cf53_10 : decode cJ9_min_7cf53 10 = .ok (.ireturn, 1) := by decide +kernel
theorem dJ0_length_8abf5_0 : decode cJ0_length_8abf5 0 = .ok (.aload_n 0, 1) := by decide +kernel
theorem dJ0_length_8abf5_1 : decode cJ0_length_8abf5 1 = .ok (.getfield 9, 3) := by decide +kernel
theorem dJ0_length_8abf5_4 : decode cJ0_length_8abf5 4 = .ok (.arraylength, 1) := by decide +kernel
theorem dJ0_length_8abf5_5 : decode cJ0_length_8abf5 5 = .ok (.aload_n 0, 1) := by decide +kernel
theorem dJ0_length_8abf5_6 : decode cJ0_length_8abf5 6 = .ok (.invokevirtual 335, 3) := by decide +kernel
theorem dJ0_length_8abf5_9 : decode cJ0_length_8abf5 9 = .ok (.ishr, 1) := by decide +kernel
theorem dJ0_length_8abf5_10 : decode cJ0_length_8abf5 10 = .ok (.ireturn, 1) := by decide +kernel
theorem dJ0_charAt_5068e_0 : decode cJ0_charAt_5068e 0 = .ok (.aload_n 0, 1) := by decide +kernel
theorem dJ0_charAt_5068e_1 : decode cJ0_charAt_5068e 1 = .ok (.invokevirtual 492, 3) := by decide +kernel
theorem dJ0_charAt_5068e_4 : decode cJ0_charAt_5068e 4 = .ok (.ifCond .eq 12, 3) := by decide +kernel
theorem dJ0_charAt_5068e_7 : decode cJ0_charAt_5068e 7 = .ok (.aload_n 0, 1) := by decide +kernel
theorem dJ0_charAt_5068e_8 : decode cJ0_charAt_5068e 8 = .ok (.getfield 9, 3) := by decide +kernel
theorem dJ0_charAt_5068e_11 : decode cJ0_charAt_5068e 11 = .ok (.iload_n 1, 1) := by decide +kernel
theorem dJ0_charAt_5068e_12 : decode cJ0_charAt_5068e 12 = .ok (.invokestatic 495, 3) := by decide +kernel
theorem dJ0_charAt_5068e_15 : decode cJ0_charAt_5068e 15 = .ok (.ireturn, 1) := by decide +kernel
theorem dJ0_charAt_5068e_16 : decode cJ0_charAt_5068e 16 = .ok (.aload_n 0, 1) := by decide +kernel
theorem dJ0_charAt_5068e_17 : decode cJ0_charAt_5068e 17 = .ok (.getfield 9, 3) := by decide +kernel
theorem dJ0_charAt_5068e_20 : decode cJ0_charAt_5068e 20 = .ok (.iload_n 1, 1) := by decide +kernel
theorem dJ0_charAt_5068e_21 : decode cJ0_charAt_5068e 21 = .ok (.invokestatic 498, 3) := by decide +kernel
theorem dJ0_charAt_5068e_24 : decode cJ0_charAt_5068e 24 = .ok (.ireturn, 1) := by decide +kernel
theorem dJ0_coder_7d493_0 : decode cJ0_coder_7d493 0 = .ok (.getstatic 38, 3) := by decide +kernel
theorem dJ0_coder_7d493_3 : decode cJ0_coder_7d493 3 = .ok (.ifCond .eq 10, 3) := by decide +kernel
theorem dJ0_coder_7d493_6 : decode cJ0_coder_7d493 6 = .ok (.aload_n 0, 1) := by decide +kernel
theorem dJ0_coder_7d493_7 : decode cJ0_coder_7d493 7 = .ok (.getfield 15, 3) := by decide +kernel
theorem dJ0_coder_7d493_10 : decode cJ0_coder_7d493 10 = .ok (.goto 4, 3) := by decide +kernel
theorem dJ0_coder_7d493_13 : decode cJ0_coder_7d493 13 = .ok (.iconst 1, 1) := by decide +kernel
theorem dJ0_coder_7d493_14 : decode cJ0_coder_7d493 14 = .ok (.ireturn, 1) := by decide +kernel
theorem dJ0_isLatin1_aae02_0 : decode cJ0_isLatin1_aae02 0 = .ok (.getstatic 38, 3) := by decide +kernel
theorem dJ0_isLatin1_aae02_3 : decode cJ0_isLatin1_aae02 3 = .ok (.ifCond .eq 14, 3) := by decide +kernel
theorem dJ0_isLatin1_aae02_6 : decode cJ0_isLatin1_aae02 6 = .ok (.aload_n 0, 1) := by decide +kernel
theorem dJ0_isLatin1_aae02_7 : decode cJ0_isLatin1_aae02 7 = .ok (.getfield 15, 3) := by decide +kernel
theorem dJ0_isLatin1_aae02_10 : decode cJ0_isLatin1_aae02 10 = .ok (.ifCond .ne 7, 3) := by decide +kernel
theorem dJ0_isLatin1_aae02_13 : decode cJ0_isLatin1_aae02 13 = .ok (.iconst 1, 1) := by decide +kernel
theorem dJ0_isLatin1_aae02_14 : decode cJ0_isLatin1_aae02 14 = .ok (.goto 4, 3) := by decide +kernel
theorem dJ0_isLatin1_aae02_17 : decode cJ0_isLatin1_aae02 17 = .ok (.iconst 0, 1) := by decide +kernel
theorem dJ0_isLatin1_aae02_18 : decode cJ0_isLatin1_aae02 18 = .ok (.ireturn, 1) := by decide +kernel
theorem dJ0_checkIndex_df160_0 : decode cJ0_checkIndex_df160 0 = .ok (.iload_n 0, 1) := by decide +kernel
theorem dJ0_checkIndex_df160_1 : decode cJ0_checkIndex_df160 1 = .ok (.iload_n 1, 1) := by decide +kernel
theorem dJ0_checkIndex_df160_2 : decode cJ0_checkIndex_df160 2 = .ok (.getstatic 1053, 3) := by decide +kernel
theorem dJ0_checkIndex_df160_5 : decode cJ0_checkIndex_df160 5 = .ok (.invokestatic 1059, 3) := by decide +kernel
theorem dJ0_checkIndex_df160_8 : decode cJ0_checkIndex_df160 8 = .ok (.pop, 1) := by decide +kernel
theorem dJ0_checkIndex_df160_9 : decode cJ0_checkIndex_df160 9 = .ok (.return_, 1) := by decide +kernel
theorem dJ1_charAt_3b067_0 : decode cJ1_charAt_3b067 0 = .ok (.iload_n 1, 1) := by decide +kernel
theorem dJ1_charAt_3b067_1 : decode cJ1_charAt_3b067 1 = .ok (.aload_n 0, 1) := by decide +kernel
theorem dJ1_charAt_3b067_2 : decode cJ1_charAt_3b067 2 = .ok (.arraylength, 1) := by decide +kernel
theorem dJ1_charAt_3b067_3 : decode cJ1_charAt_3b067 3 = .ok (.invokestatic 9, 3) := by decide +kernel
theorem dJ1_charAt_3b067_6 : decode cJ1_charAt_3b067 6 = .ok (.aload_n 0, 1) := by decide +kernel
theorem dJ1_charAt_3b067_7 : decode cJ1_charAt_3b067 7 = .ok (.iload_n 1, 1) := by decide +kernel
theorem dJ1_charAt_3b067_8 : decode cJ1_charAt_3b067 8 = .ok (.baload, 1) := by decide +kernel
theorem dJ1_charAt_3b067_9 : decode cJ1_charAt_3b067 9 = .ok (.sipush 255, 3) := by decide +kernel
theorem dJ1_charAt_3b067_12 : decode cJ1_charAt_3b067 12 = .ok (.iand, 1) := by decide +kernel
theorem dJ1_charAt_3b067_13 : decode cJ1_charAt_3b067 13 = .ok (.i2c, 1) := by decide +kernel
theorem dJ1_charAt_3b067_14 : decode cJ1_charAt_3b067 14 = .ok (.ireturn, 1) := by decide +kernel
theorem dJ2_getChar_3b067_0 : decode cJ2_getChar_3b067 0 = .ok (.getstatic 44, 3) := by decide +kernel
theorem dJ2_getChar_3b067_3 : decode cJ2_getChar_3b067 3 = .ok (.ifCond .ne 25, 3) := by decide +kernel
theorem dJ2_getChar_3b067_6 : decode cJ2_getChar_3b067 6 = .ok (.iload_n 1, 1) := by decide +kernel
theorem dJ2_getChar_3b067_7 : decode cJ2_getChar_3b067 7 = .ok (.ifCond .lt 11, 3) := by decide +kernel
theorem dJ2_getChar_3b067_10 : decode cJ2_getChar_3b067 10 = .ok (.iload_n 1, 1) := by decide +kernel
theorem dJ2_getChar_3b067_11 : decode cJ2_getChar_3b067 11 = .ok (.aload_n 0, 1) := by decide +kernel
theorem dJ2_getChar_3b067_12 : decode cJ2_getChar_3b067 12 = .ok (.invokestatic 48, 3) := by decide +kernel
theorem dJ2_getChar_3b067_15 : decode cJ2_getChar_3b067 15 = .ok (.if_icmp .lt 13, 3) := by decide +kernel
theorem dJ2_getChar_3b067_18 : decode cJ2_getChar_3b067 18 = .ok (.new 52, 3) := by decide +kernel
theorem dJ2_getChar_3b067_21 : decode cJ2_getChar_3b067 21 = .ok (.dup, 1) := by decide +kernel
theorem dJ2_getChar_3b067_22 : decode cJ2_getChar_3b067 22 = .ok (.ldc 54, 2) := by decide +kernel
theorem dJ2_getChar_3b067_24 : decode cJ2_getChar_3b067 24 = .ok (.invokespecial 56, 3) := by decide +kernel
theorem dJ2_getChar_3b067_27 : decode cJ2_getChar_3b067 27 = .ok (.athrow, 1) := by decide +kernel
theorem dJ2_getChar_3b067_28 : decode cJ2_getChar_3b067 28 = .ok (.iload_n 1, 1) := by decide +kernel
theorem dJ2_getChar_3b067_29 : decode cJ2_getChar_3b067 29 = .ok (.iconst 1, 1) := by decide +kernel
theorem dJ2_getChar_3b067_30 : decode cJ2_getChar_3b067 30 = .ok (.ishl, 1) := by decide +kernel
theorem dJ2_getChar_3b067_31 : decode cJ2_getChar_3b067 31 = .ok (.istore_n 1, 1) := by decide +kernel
theorem dJ2_getChar_3b067_32 : decode cJ2_getChar_3b067 32 = .ok (.aload_n 0, 1) := by decide +kernel
theorem dJ2_getChar_3b067_33 : decode cJ2_getChar_3b067 33 = .ok (.iload_n 1, 1) := by decide +kernel
theorem dJ2_getChar_3b067_34 : decode cJ2_getChar_3b067 34 = .ok (.iinc 1 1, 3) := by decide +kernel
theorem dJ2_getChar_3b067_37 : decode cJ2_getChar_3b067 37 = .ok (.baload, 1) := by decide +kernel
theorem dJ2_getChar_3b067_38 : decode cJ2_getChar_3b067 38 = .ok (.sipush 255, 3) := by decide +kernel
theorem dJ2_getChar_3b067_41 : decode cJ2_getChar_3b067 41 = .ok (.iand, 1) := by decide +kernel
theorem dJ2_getChar_3b067_42 : decode cJ2_getChar_3b067 42 = .ok (.getstatic 59, 3) := by decide +kernel
theorem dJ2_getChar_3b067_45 : decode cJ2_getChar_3b067 45 = .ok (.ishl, 1) := by decide +kernel
theorem dJ2_getChar_3b067_46 : decode cJ2_getChar_3b067 46 = .ok (.aload_n 0, 1) := by decide +kernel
theorem dJ2_getChar_3b067_47 : decode cJ2_getChar_3b067 47 = .ok (.iload_n 1, 1) := by decide +kernel
theorem dJ2_getChar_3b067_48 : decode cJ2_getChar_3b067 48 = .ok (.baload, 1) := by decide +kernel
theorem dJ2_getChar_3b067_49 : decode cJ2_getChar_3b067 49 = .ok (.sipush 255, 3) := by decide +kernel
theorem dJ2_getChar_3b067_52 : decode cJ2_getChar_3b067 52 = .ok (.iand, 1) := by decide +kernel
theorem dJ2_getChar_3b067_53 : decode cJ2_getChar_3b067 53 = .ok (.getstatic 63, 3) := by decide +kernel
theorem dJ2_getChar_3b067_56 : decode cJ2_getChar_3b067 56 = .ok (.ishl, 1) := by decide +kernel
theorem dJ2_getChar_3b067_57 : decode cJ2_getChar_3b067 57 = .ok (.ior, 1) := by decide +kernel
theorem dJ2_getChar_3b067_58 : decode cJ2_getChar_3b067 58 = .ok (.i2c, 1) := by decide +kernel
theorem dJ2_getChar_3b067_59 : decode cJ2_getChar_3b067 59 = .ok (.ireturn, 1) := by decide +kernel
theorem dJ2_length_9d52b_0 : decode cJ2_length_9d52b 0 = .ok (.aload_n 0, 1) := by decide +kernel
theorem dJ2_length_9d52b_1 : decode cJ2_length_9d52b 1 = .ok (.arraylength, 1) := by decide +kernel
theorem dJ2_length_9d52b_2 : decode cJ2_length_9d52b 2 = .ok (.iconst 1, 1) := by decide +kernel
theorem dJ2_length_9d52b_3 : decode cJ2_length_9d52b 3 = .ok (.ishr, 1) := by decide +kernel
theorem dJ2_length_9d52b_4 : decode cJ2_length_9d52b 4 = .ok (.ireturn, 1) := by decide +kernel
theorem dJ2_charAt_3b067_0 : decode cJ2_charAt_3b067 0 = .ok (.iload_n 1, 1) := by decide +kernel
theorem dJ2_charAt_3b067_1 : decode cJ2_charAt_3b067 1 = .ok (.aload_n 0, 1) := by decide +kernel
theorem dJ2_charAt_3b067_2 : decode cJ2_charAt_3b067 2 = .ok (.invokestatic 67, 3) := by decide +kernel
theorem dJ2_charAt_3b067_5 : decode cJ2_charAt_3b067 5 = .ok (.aload_n 0, 1) := by decide +kernel
theorem dJ2_charAt_3b067_6 : decode cJ2_charAt_3b067 6 = .ok (.iload_n 1, 1) := by decide +kernel
theorem dJ2_charAt_3b067_7 : decode cJ2_charAt_3b067 7 = .ok (.invokestatic 71, 3) := by decide +kernel
theorem dJ2_charAt_3b067_10 : decode cJ2_charAt_3b067 10 = .ok (.ireturn, 1) := by decide +kernel
theorem dJ2_checkIndex_2214a_0 : decode cJ2_checkIndex_2214a 0 = .ok (.iload_n 0, 1) := by decide +kernel
theorem dJ2_checkIndex_2214a_1 : decode cJ2_checkIndex_2214a 1 = .ok (.aload_n 1, 1) := by decide +kernel
theorem dJ2_checkIndex_2214a_2 : decode cJ2_checkIndex_2214a 2 = .ok (.invokestatic 48, 3) := by decide +kernel
theorem dJ2_checkIndex_2214a_5 : decode cJ2_checkIndex_2214a 5 = .ok (.invokestatic 414, 3) := by decide +kernel
theorem dJ2_checkIndex_2214a_8 : decode cJ2_checkIndex_2214a 8 = .ok (.return_, 1) := by decide +kernel
theorem dJ3_checkIndex_8e157_0 : decode cJ3_checkIndex_8e157 0 = .ok (.iload_n 0, 1) := by decide +kernel
theorem dJ3_checkIndex_8e157_1 : decode cJ3_checkIndex_8e157 1 = .ok (.ifCond .lt 8, 3) := by decide +kernel
theorem dJ3_checkIndex_8e157_4 : decode cJ3_checkIndex_8e157 4 = .ok (.iload_n 0, 1) := by decide +kernel
theorem dJ3_checkIndex_8e157_5 : decode cJ3_checkIndex_8e157 5 = .ok (.iload_n 1, 1) := by decide +kernel
theorem dJ3_checkIndex_8e157_6 : decode cJ3_checkIndex_8e157 6 = .ok (.if_icmp .lt 10, 3) := by decide +kernel
theorem dJ3_checkIndex_8e157_9 : decode cJ3_checkIndex_8e157 9 = .ok (.aload_n 2, 1) := by decide +kernel
theorem dJ3_checkIndex_8e157_10 : decode cJ3_checkIndex_8e157 10 = .ok (.iload_n 0, 1) := by decide +kernel
theorem dJ3_checkIndex_8e157_11 : decode cJ3_checkIndex_8e157 11 = .ok (.iload_n 1, 1) := by decide +kernel
theorem dJ3_checkIndex_8e157_12 : decode cJ3_checkIndex_8e157 12 = .ok (.invokestatic 95, 3) := by decide +kernel
theorem dJ3_checkIndex_8e157_15 : decode cJ3_checkIndex_8e157 15 = .ok (.athrow, 1) := by decide +kernel
theorem dJ3_checkIndex_8e157_16 : decode cJ3_checkIndex_8e157 16 = .ok (.iload_n 0, 1) := by decide +kernel
theorem dJ3_checkIndex_8e157_17 : decode cJ3_checkIndex_8e157 17 = .ok (.ireturn, 1) := by decide +kernel
theorem dL_begin_0 : decode cL_begin 0 = .ok (.aload_n 3, 1) := by decide +kernel
theorem dL_begin_1 : decode cL_begin 1 = .ok (.iconst 0, 1) := by decide +kernel
theorem dL_begin_2 : decode cL_begin 2 = .ok (.aload_n 0, 1) := by decide +kernel
theorem dL_begin_3 : decode cL_begin 3 = .ok (.iload_n 1, 1) := by decide +kernel
theorem dL_begin_4 : decode cL_begin 4 = .ok (.iload_n 2, 1) := by decide +kernel
theorem dL_begin_5 : decode cL_begin 5 = .ok (.invokevirtual 7, 3) := by decide +kernel
theorem dL_begin_8 : decode cL_begin 8 = .ok (.i2l, 1) := by decide +kernel
theorem dL_begin_9 : decode cL_begin 9 = .ok (.lastore, 1) := by decide +kernel
theorem dL_begin_10 : decode cL_begin 10 = .ok (.goto 7, 3) := by decide +kernel
theorem dL_begin_13 : decode cL_begin 13 = .ok (.astore 4, 2) := by decide +kernel
theorem dL_begin_15 : decode cL_begin 15 = .ok (.iconst 1, 1) := by decide +kernel
theorem dL_begin_16 : decode cL_begin 16 = .ok (.ireturn, 1) := by decide +kernel
theorem dL_begin_17 : decode cL_begin 17 = .ok (.iconst 0, 1) := by decide +kernel
theorem dL_begin_18 : decode cL_begin 18 = .ok (.ireturn, 1) := by decide +kernel
theorem dL_add_0 : decode cL_add 0 = .ok (.aload_n 2, 1) := by decide +kernel
theorem dL_add_1 : decode cL_add 1 = .ok (.iconst 0, 1) := by decide +kernel
theorem dL_add_2 : decode cL_add 2 = .ok (.aload_n 0, 1) := by decide +kernel
theorem dL_add_3 : decode cL_add 3 = .ok (.iload_n 1, 1) := by decide +kernel
theorem dL_add_4 : decode cL_add 4 = .ok (.invokevirtual 15, 3) := by decide +kernel
theorem dL_add_7 : decode cL_add 7 = .ok (.i2l, 1) := by decide +kernel
theorem dL_add_8 : decode cL_add 8 = .ok (.lastore, 1) := by decide +kernel
theorem dL_add_9 : decode cL_add 9 = .ok (.goto 9, 3) := by decide +kernel
theorem dL_add_12 : decode cL_add 12 = .ok (.astore_n 3, 1) := by decide +kernel
theorem dL_add_13 : decode cL_add 13 = .ok (.iconst 1, 1) := by decide +kernel
theorem dL_add_14 : decode cL_add 14 = .ok (.ireturn, 1) := by decide +kernel
theorem dL_add_15 : decode cL_add 15 = .ok (.astore_n 3, 1) := by decide +kernel
theorem dL_add_16 : decode cL_add 16 = .ok (.iconst 2, 1) := by decide +kernel
theorem dL_add_17 : decode cL_add 17 = .ok (.ireturn, 1) := by decide +kernel
theorem dL_add_18 : decode cL_add 18 = .ok (.iconst 0, 1) := by decide +kernel
theorem dL_add_19 : decode cL_add 19 = .ok (.ireturn, 1) := by decide +kernel
theorem dL_removeAt_0 : decode cL_removeAt 0 = .ok (.aload_n 2, 1) := by decide +kernel
theorem dL_removeAt_1 : decode cL_removeAt 1 = .ok (.iconst 0, 1) := by decide +kernel
theorem dL_removeAt_2 : decode cL_removeAt 2 = .ok (.aload_n 0, 1) := by decide +kernel
theorem dL_removeAt_3 : decode cL_removeAt 3 = .ok (.iload_n 1, 1) := by decide +kernel
theorem dL_removeAt_4 : decode cL_removeAt 4 = .ok (.invokevirtual 23, 3) := by decide +kernel
theorem dL_removeAt_7 : decode cL_removeAt 7 = .ok (.i2l, 1) := by decide +kernel
theorem dL_removeAt_8 : decode cL_removeAt 8 = .ok (.lastore, 1) := by decide +kernel
theorem dL_removeAt_9 : decode cL_removeAt 9 = .ok (.goto 6, 3) := by decide +kernel
theorem dL_removeAt_12 : decode cL_removeAt 12 = .ok (.astore_n 3, 1) := by decide +kernel
theorem dL_removeAt_13 : decode cL_removeAt 13 = .ok (.iconst 1, 1) := by decide +kernel
theorem dL_removeAt_14 : decode cL_removeAt 14 = .ok (.ireturn, 1) := by decide +kernel
theorem dL_removeAt_15 : decode cL_removeAt 15 = .ok (.iconst 0, 1) := by decide +kernel
theorem dL_removeAt_16 : decode cL_removeAt 16 = .ok (.ireturn, 1) := by decide +kernel
theorem dL_lay_0 : decode cL_lay 0 = .ok (.aload_n 3, 1) := by decide +kernel
theorem dL_lay_1 : decode cL_lay 1 = .ok (.iconst 0, 1) := by decide +kernel
theorem dL_lay_2 : decode cL_lay 2 = .ok (.aload_n 0, 1) := by decide +kernel
theorem dL_lay_3 : decode cL_lay 3 = .ok (.iload_n 1, 1) := by decide +kernel
theorem dL_lay_4 : decode cL_lay 4 = .ok (.iload_n 2, 1) := by decide +kernel
theorem dL_lay_5 : decode cL_lay 5 = .ok (.invokevirtual 26, 3) := by decide +kernel
theorem dL_lay_8 : decode cL_lay 8 = .ok (.i2l, 1) := by decide +kernel
theorem dL_lay_9 : decode cL_lay 9 = .ok (.lastore, 1) := by decide +kernel
theorem dL_lay_10 : decode cL_lay 10 = .ok (.goto 11, 3) := by decide +kernel
theorem dL_lay_13 : decode cL_lay 13 = .ok (.astore 4, 2) := by decide +kernel
theorem dL_lay_15 : decode cL_lay 15 = .ok (.iconst 1, 1) := by decide +kernel
theorem dL_lay_16 : decode cL_lay 16 = .ok (.ireturn, 1) := by decide +kernel
theorem dL_lay_17 : decode cL_lay 17 = .ok (.astore 4, 2) := by decide +kernel
theorem dL_lay_19 : decode cL_lay 19 = .ok (.iconst 2, 1) := by decide +kernel
theorem dL_lay_20 : decode cL_lay 20 = .ok (.ireturn, 1) := by decide +kernel
theorem dL_lay_21 : decode cL_lay 21 = .ok (.iconst 0, 1) := by decide +kernel
theorem dL_lay_22 : decode cL_lay 22 = .ok (.ireturn, 1) := by decide +kernel
theorem dL_laySplit_0 : decode cL_laySplit 0 = .ok (.aload_n 1, 1) := by decide +kernel
theorem dL_laySplit_1 : decode cL_laySplit 1 = .ok (.iconst 0, 1) := by decide +kernel
theorem dL_laySplit_2 : decode cL_laySplit 2 = .ok (.aload_n 0, 1) := by decide +kernel
theorem dL_laySplit_3 : decode cL_laySplit 3 = .ok (.invokevirtual 29, 3) := by decide +kernel
theorem dL_laySplit_6 : decode cL_laySplit 6 = .ok (.i2l, 1) := by decide +kernel
theorem dL_laySplit_7 : decode cL_laySplit 7 = .ok (.lastore, 1) := by decide +kernel
theorem dL_laySplit_8 : decode cL_laySplit 8 = .ok (.goto 6, 3) := by decide +kernel
theorem dL_laySplit_11 : decode cL_laySplit 11 = .ok (.astore_n 2, 1) := by decide +kernel
theorem dL_laySplit_12 : decode cL_laySplit 12 = .ok (.iconst 1, 1) := by decide +kernel
theorem dL_laySplit_13 : decode cL_laySplit 13 = .ok (.ireturn, 1) := by decide +kernel
theorem dL_laySplit_14 : decode cL_laySplit 14 = .ok (.iconst 0, 1) := by decide +kernel
theorem dL_laySplit_15 : decode cL_laySplit 15 = .ok (.ireturn, 1) := by decide +kernel
theorem dL_sum_0 : decode cL_sum 0 = .ok (.aload_n 3, 1) := by decide +kernel
theorem dL_sum_1 : decode cL_sum 1 = .ok (.iconst 0, 1) := by decide +kernel
theorem dL_sum_2 : decode cL_sum 2 = .ok (.aload_n 0, 1) := by decide +kernel
theorem dL_sum_3 : decode cL_sum 3 = .ok (.iload_n 1, 1) := by decide +kernel
theorem dL_sum_4 : decode cL_sum 4 = .ok (.iload_n 2, 1) := by decide +kernel
theorem dL_sum_5 : decode cL_sum 5 = .ok (.invokevirtual 33, 3) := by decide +kernel
theorem dL_sum_8 : decode cL_sum 8 = .ok (.i2l, 1) := by decide +kernel
theorem dL_sum_9 : decode cL_sum 9 = .ok (.lastore, 1) := by decide +kernel
theorem dL_sum_10 : decode cL_sum 10 = .ok (.goto 7, 3) := by decide +kernel
theorem dL_sum_13 : decode cL_sum 13 = .ok (.astore 4, 2) := by decide +kernel
theorem dL_sum_15 : decode cL_sum 15 = .ok (.iconst 1, 1) := by decide +kernel
theorem dL_sum_16 : decode cL_sum 16 = .ok (.ireturn, 1) := by decide +kernel
theorem dL_sum_17 : decode cL_sum 17 = .ok (.iconst 0, 1) := by decide +kernel
theorem dL_sum_18 : decode cL_sum 18 = .ok (.ireturn, 1) := by decide +kernel
theorem dL_element_0 : decode cL_element 0 = .ok (.aload_n 3, 1) := by decide +kernel
theorem dL_element_1 : decode cL_element 1 = .ok (.iconst 0, 1) := by decide +kernel
theorem dL_element_2 : decode cL_element 2 = .ok (.aload_n 0, 1) := by decide +kernel
theorem dL_element_3 : decode cL_element 3 = .ok (.iload_n 1, 1) := by decide +kernel
theorem dL_element_4 : decode cL_element 4 = .ok (.iload_n 2, 1) := by decide +kernel
theorem dL_element_5 : decode cL_element 5 = .ok (.invokevirtual 36, 3) := by decide +kernel
theorem dL_element_8 : decode cL_element 8 = .ok (.i2l, 1) := by decide +kernel
theorem dL_element_9 : decode cL_element 9 = .ok (.lastore, 1) := by decide +kernel
theorem dL_element_10 : decode cL_element 10 = .ok (.goto 11, 3) := by decide +kernel
theorem dL_element_13 : decode cL_element 13 = .ok (.astore 4, 2) := by decide +kernel
theorem dL_element_15 : decode cL_element 15 = .ok (.iconst 1, 1) := by decide +kernel
theorem dL_element_16 : decode cL_element 16 = .ok (.ireturn, 1) := by decide +kernel
theorem dL_element_17 : decode cL_element 17 = .ok (.astore 4, 2) := by decide +kernel
theorem dL_element_19 : decode cL_element 19 = .ok (.iconst 2, 1) := by decide +kernel
theorem dL_element_20 : decode cL_element 20 = .ok (.ireturn, 1) := by decide +kernel
theorem dL_element_21 : decode cL_element 21 = .ok (.iconst 0, 1) := by decide +kernel
theorem dL_element_22 : decode cL_element 22 = .ok (.ireturn, 1) := by decide +kernel
theorem dL_at_0 : decode cL_at 0 = .ok (.aload_n 3, 1) := by decide +kernel
theorem dL_at_1 : decode cL_at 1 = .ok (.iconst 0, 1) := by decide +kernel
theorem dL_at_2 : decode cL_at 2 = .ok (.aload_n 0, 1) := by decide +kernel
theorem dL_at_3 : decode cL_at 3 = .ok (.iload_n 1, 1) := by decide +kernel
theorem dL_at_4 : decode cL_at 4 = .ok (.iload_n 2, 1) := by decide +kernel
theorem dL_at_5 : decode cL_at 5 = .ok (.invokevirtual 39, 3) := by decide +kernel
theorem dL_at_8 : decode cL_at 8 = .ok (.i2l, 1) := by decide +kernel
theorem dL_at_9 : decode cL_at 9 = .ok (.lastore, 1) := by decide +kernel
theorem dL_at_10 : decode cL_at 10 = .ok (.goto 11, 3) := by decide +kernel
theorem dL_at_13 : decode cL_at 13 = .ok (.astore 4, 2) := by decide +kernel
theorem dL_at_15 : decode cL_at 15 = .ok (.iconst 1, 1) := by decide +kernel
theorem dL_at_16 : decode cL_at 16 = .ok (.ireturn, 1) := by decide +kernel
theorem dL_at_17 : decode cL_at 17 = .ok (.astore 4, 2) := by decide +kernel
theorem dL_at_19 : decode cL_at 19 = .ok (.iconst 2, 1) := by decide +kernel
theorem dL_at_20 : decode cL_at 20 = .ok (.ireturn, 1) := by decide +kernel
theorem dL_at_21 : decode cL_at 21 = .ok (.iconst 0, 1) := by decide +kernel
theorem dL_at_22 : decode cL_at 22 = .ok (.ireturn, 1) := by decide +kernel
theorem dL_set_0 : decode cL_set 0 = .ok (.aload_n 3, 1) := by decide +kernel
theorem dL_set_1 : decode cL_set 1 = .ok (.iconst 0, 1) := by decide +kernel
theorem dL_set_2 : decode cL_set 2 = .ok (.aload_n 0, 1) := by decide +kernel
theorem dL_set_3 : decode cL_set 3 = .ok (.iload_n 1, 1) := by decide +kernel
theorem dL_set_4 : decode cL_set 4 = .ok (.iload_n 2, 1) := by decide +kernel
theorem dL_set_5 : decode cL_set 5 = .ok (.invokevirtual 42, 3) := by decide +kernel
theorem dL_set_8 : decode cL_set 8 = .ok (.i2l, 1) := by decide +kernel
theorem dL_set_9 : decode cL_set 9 = .ok (.lastore, 1) := by decide +kernel
theorem dL_set_10 : decode cL_set 10 = .ok (.goto 7, 3) := by decide +kernel
theorem dL_set_13 : decode cL_set 13 = .ok (.astore 4, 2) := by decide +kernel
theorem dL_set_15 : decode cL_set 15 = .ok (.iconst 1, 1) := by decide +kernel
theorem dL_set_16 : decode cL_set 16 = .ok (.ireturn, 1) := by decide +kernel
theorem dL_set_17 : decode cL_set 17 = .ok (.iconst 0, 1) := by decide +kernel
theorem dL_set_18 : decode cL_set 18 = .ok (.ireturn, 1) := by decide +kernel
theorem dL_block_0 : decode cL_block 0 = .ok (.aload_n 2, 1) := by decide +kernel
theorem dL_block_1 : decode cL_block 1 = .ok (.iconst 0, 1) := by decide +kernel
theorem dL_block_2 : decode cL_block 2 = .ok (.aload_n 0, 1) := by decide +kernel
theorem dL_block_3 : decode cL_block 3 = .ok (.iload_n 1, 1) := by decide +kernel
theorem dL_block_4 : decode cL_block 4 = .ok (.invokevirtual 45, 3) := by decide +kernel
theorem dL_block_7 : decode cL_block 7 = .ok (.i2l, 1) := by decide +kernel
theorem dL_block_8 : decode cL_block 8 = .ok (.lastore, 1) := by decide +kernel
theorem dL_block_9 : decode cL_block 9 = .ok (.goto 6, 3) := by decide +kernel
theorem dL_block_12 : decode cL_block 12 = .ok (.astore_n 3, 1) := by decide +kernel
theorem dL_block_13 : decode cL_block 13 = .ok (.iconst 1, 1) := by decide +kernel
theorem dL_block_14 : decode cL_block 14 = .ok (.ireturn, 1) := by decide +kernel
theorem dL_block_15 : decode cL_block 15 = .ok (.iconst 0, 1) := by decide +kernel
theorem dL_block_16 : decode cL_block 16 = .ok (.ireturn, 1) := by decide +kernel
theorem dL_part_0 : decode cL_part 0 = .ok (.aload_n 3, 1) := by decide +kernel
theorem dL_part_1 : decode cL_part 1 = .ok (.iconst 0, 1) := by decide +kernel
theorem dL_part_2 : decode cL_part 2 = .ok (.aload_n 0, 1) := by decide +kernel
theorem dL_part_3 : decode cL_part 3 = .ok (.iload_n 1, 1) := by decide +kernel
theorem dL_part_4 : decode cL_part 4 = .ok (.iload_n 2, 1) := by decide +kernel
theorem dL_part_5 : decode cL_part 5 = .ok (.invokevirtual 48, 3) := by decide +kernel
theorem dL_part_8 : decode cL_part 8 = .ok (.i2l, 1) := by decide +kernel
theorem dL_part_9 : decode cL_part 9 = .ok (.lastore, 1) := by decide +kernel
theorem dL_part_10 : decode cL_part 10 = .ok (.goto 7, 3) := by decide +kernel
theorem dL_part_13 : decode cL_part 13 = .ok (.astore 4, 2) := by decide +kernel
theorem dL_part_15 : decode cL_part 15 = .ok (.iconst 1, 1) := by decide +kernel
theorem dL_part_16 : decode cL_part 16 = .ok (.ireturn, 1) := by decide +kernel
theorem dL_part_17 : decode cL_part 17 = .ok (.iconst 0, 1) := by decide +kernel
theorem dL_part_18 : decode cL_part 18 = .ok (.ireturn, 1) := by decide +kernel
theorem dL_whole_0 : decode cL_whole 0 = .ok (.aload_n 2, 1) := by decide +kernel
theorem dL_whole_1 : decode cL_whole 1 = .ok (.iconst 0, 1) := by decide +kernel
theorem dL_whole_2 : decode cL_whole 2 = .ok (.aload_n 0, 1) := by decide +kernel
theorem dL_whole_3 : decode cL_whole 3 = .ok (.iload_n 1, 1) := by decide +kernel
theorem dL_whole_4 : decode cL_whole 4 = .ok (.invokevirtual 51, 3) := by decide +kernel
theorem dL_whole_7 : decode cL_whole 7 = .ok (.i2l, 1) := by decide +kernel
theorem dL_whole_8 : decode cL_whole 8 = .ok (.lastore, 1) := by decide +kernel
theorem dL_whole_9 : decode cL_whole 9 = .ok (.goto 6, 3) := by decide +kernel
theorem dL_whole_12 : decode cL_whole 12 = .ok (.astore_n 3, 1) := by decide +kernel
theorem dL_whole_13 : decode cL_whole 13 = .ok (.iconst 1, 1) := by decide +kernel
theorem dL_whole_14 : decode cL_whole 14 = .ok (.ireturn, 1) := by decide +kernel
theorem dL_whole_15 : decode cL_whole 15 = .ok (.iconst 0, 1) := by decide +kernel
theorem dL_whole_16 : decode cL_whole 16 = .ok (.ireturn, 1) := by decide +kernel
theorem dL_reason_0 : decode cL_reason 0 = .ok (.aload_n 2, 1) := by decide +kernel
theorem dL_reason_1 : decode cL_reason 1 = .ok (.iconst 0, 1) := by decide +kernel
theorem dL_reason_2 : decode cL_reason 2 = .ok (.aload_n 0, 1) := by decide +kernel
theorem dL_reason_3 : decode cL_reason 3 = .ok (.iload_n 1, 1) := by decide +kernel
theorem dL_reason_4 : decode cL_reason 4 = .ok (.invokevirtual 54, 3) := by decide +kernel
theorem dL_reason_7 : decode cL_reason 7 = .ok (.i2l, 1) := by decide +kernel
theorem dL_reason_8 : decode cL_reason 8 = .ok (.lastore, 1) := by decide +kernel
theorem dL_reason_9 : decode cL_reason 9 = .ok (.goto 6, 3) := by decide +kernel
theorem dL_reason_12 : decode cL_reason 12 = .ok (.astore_n 3, 1) := by decide +kernel
theorem dL_reason_13 : decode cL_reason 13 = .ok (.iconst 1, 1) := by decide +kernel
theorem dL_reason_14 : decode cL_reason 14 = .ok (.ireturn, 1) := by decide +kernel
theorem dL_reason_15 : decode cL_reason 15 = .ok (.iconst 0, 1) := by decide +kernel
theorem dL_reason_16 : decode cL_reason 16 = .ok (.ireturn, 1) := by decide +kernel
theorem dL_blocksWith_0 : decode cL_blocksWith 0 = .ok (.aload_n 3, 1) := by decide +kernel
theorem dL_blocksWith_1 : decode cL_blocksWith 1 = .ok (.iconst 0, 1) := by decide +kernel
theorem dL_blocksWith_2 : decode cL_blocksWith 2 = .ok (.aload_n 0, 1) := by decide +kernel
theorem dL_blocksWith_3 : decode cL_blocksWith 3 = .ok (.iload_n 1, 1) := by decide +kernel
theorem dL_blocksWith_4 : decode cL_blocksWith 4 = .ok (.iload_n 2, 1) := by decide +kernel
theorem dL_blocksWith_5 : decode cL_blocksWith 5 = .ok (.invokevirtual 57, 3) := by decide +kernel
theorem dL_blocksWith_8 : decode cL_blocksWith 8 = .ok (.i2l, 1) := by decide +kernel
theorem dL_blocksWith_9 : decode cL_blocksWith 9 = .ok (.lastore, 1) := by decide +kernel
theorem dL_blocksWith_10 : decode cL_blocksWith 10 = .ok (.goto 11, 3) := by decide +kernel
theorem dL_blocksWith_13 : decode cL_blocksWith 13 = .ok (.astore 4, 2) := by decide +kernel
theorem dL_blocksWith_15 : decode cL_blocksWith 15 = .ok (.iconst 1, 1) := by decide +kernel
theorem dL_blocksWith_16 : decode cL_blocksWith 16 = .ok (.ireturn, 1) := by decide +kernel
theorem dL_blocksWith_17 : decode cL_blocksWith 17 = .ok (.astore 4, 2) := by decide +kernel
theorem dL_blocksWith_19 : decode cL_blocksWith 19 = .ok (.iconst 2, 1) := by decide +kernel
theorem dL_blocksWith_20 : decode cL_blocksWith 20 = .ok (.ireturn, 1) := by decide +kernel
theorem dL_blocksWith_21 : decode cL_blocksWith 21 = .ok (.iconst 0, 1) := by decide +kernel
theorem dL_blocksWith_22 : decode cL_blocksWith 22 = .ok (.ireturn, 1) := by decide +kernel
theorem dL_alike_0 : decode cL_alike 0 = .ok (.aload_n 3, 1) := by decide +kernel
theorem dL_alike_1 : decode cL_alike 1 = .ok (.iconst 0, 1) := by decide +kernel
theorem dL_alike_2 : decode cL_alike 2 = .ok (.aload_n 0, 1) := by decide +kernel
theorem dL_alike_3 : decode cL_alike 3 = .ok (.iload_n 1, 1) := by decide +kernel
theorem dL_alike_4 : decode cL_alike 4 = .ok (.iload_n 2, 1) := by decide +kernel
theorem dL_alike_5 : decode cL_alike 5 = .ok (.invokevirtual 60, 3) := by decide +kernel
theorem dL_alike_8 : decode cL_alike 8 = .ok (.i2l, 1) := by decide +kernel
theorem dL_alike_9 : decode cL_alike 9 = .ok (.lastore, 1) := by decide +kernel
theorem dL_alike_10 : decode cL_alike 10 = .ok (.goto 7, 3) := by decide +kernel
theorem dL_alike_13 : decode cL_alike 13 = .ok (.astore 4, 2) := by decide +kernel
theorem dL_alike_15 : decode cL_alike 15 = .ok (.iconst 1, 1) := by decide +kernel
theorem dL_alike_16 : decode cL_alike 16 = .ok (.ireturn, 1) := by decide +kernel
theorem dL_alike_17 : decode cL_alike 17 = .ok (.iconst 0, 1) := by decide +kernel
theorem dL_alike_18 : decode cL_alike 18 = .ok (.ireturn, 1) := by decide +kernel
theorem dL_type_0 : decode cL_type 0 = .ok (.aload_n 2, 1) := by decide +kernel
theorem dL_type_1 : decode cL_type 1 = .ok (.iconst 0, 1) := by decide +kernel
theorem dL_type_2 : decode cL_type 2 = .ok (.aload_n 0, 1) := by decide +kernel
theorem dL_type_3 : decode cL_type 3 = .ok (.iload_n 1, 1) := by decide +kernel
theorem dL_type_4 : decode cL_type 4 = .ok (.invokevirtual 63, 3) := by decide +kernel
theorem dL_type_7 : decode cL_type 7 = .ok (.i2l, 1) := by decide +kernel
theorem dL_type_8 : decode cL_type 8 = .ok (.lastore, 1) := by decide +kernel
theorem dL_type_9 : decode cL_type 9 = .ok (.goto 9, 3) := by decide +kernel
theorem dL_type_12 : decode cL_type 12 = .ok (.astore_n 3, 1) := by decide +kernel
theorem dL_type_13 : decode cL_type 13 = .ok (.iconst 1, 1) := by decide +kernel
theorem dL_type_14 : decode cL_type 14 = .ok (.ireturn, 1) := by decide +kernel
theorem dL_type_15 : decode cL_type 15 = .ok (.astore_n 3, 1) := by decide +kernel
theorem dL_type_16 : decode cL_type 16 = .ok (.iconst 2, 1) := by decide +kernel
theorem dL_type_17 : decode cL_type 17 = .ok (.ireturn, 1) := by decide +kernel
theorem dL_type_18 : decode cL_type 18 = .ok (.iconst 0, 1) := by decide +kernel
theorem dL_type_19 : decode cL_type 19 = .ok (.ireturn, 1) := by decide +kernel
theorem dL_undo_0 : decode cL_undo 0 = .ok (.aload_n 1, 1) := by decide +kernel
theorem dL_undo_1 : decode cL_undo 1 = .ok (.iconst 0, 1) := by decide +kernel
theorem dL_undo_2 : decode cL_undo 2 = .ok (.aload_n 0, 1) := by decide +kernel
theorem dL_undo_3 : decode cL_undo 3 = .ok (.invokevirtual 66, 3) := by decide +kernel
theorem dL_undo_6 : decode cL_undo 6 = .ok (.i2l, 1) := by decide +kernel
theorem dL_undo_7 : decode cL_undo 7 = .ok (.lastore, 1) := by decide +kernel
theorem dL_undo_8 : decode cL_undo 8 = .ok (.goto 6, 3) := by decide +kernel
theorem dL_undo_11 : decode cL_undo 11 = .ok (.astore_n 2, 1) := by decide +kernel
theorem dL_undo_12 : decode cL_undo 12 = .ok (.iconst 1, 1) := by decide +kernel
theorem dL_undo_13 : decode cL_undo 13 = .ok (.ireturn, 1) := by decide +kernel
theorem dL_undo_14 : decode cL_undo 14 = .ok (.iconst 0, 1) := by decide +kernel
theorem dL_undo_15 : decode cL_undo 15 = .ok (.ireturn, 1) := by decide +kernel
theorem dL_law_0 : decode cL_law 0 = .ok (.new 8, 3) := by decide +kernel
theorem dL_law_3 : decode cL_law 3 = .ok (.dup, 1) := by decide +kernel
theorem dL_law_4 : decode cL_law 4 = .ok (.invokespecial 69, 3) := by decide +kernel
theorem dL_law_7 : decode cL_law 7 = .ok (.astore_n 1, 1) := by decide +kernel
theorem dL_law_8 : decode cL_law 8 = .ok (.new 70, 3) := by decide +kernel
theorem dL_law_11 : decode cL_law 11 = .ok (.dup, 1) := by decide +kernel
theorem dL_law_12 : decode cL_law 12 = .ok (.invokespecial 72, 3) := by decide +kernel
theorem dL_law_15 : decode cL_law 15 = .ok (.astore_n 2, 1) := by decide +kernel
theorem dL_law_16 : decode cL_law 16 = .ok (.iconst 1, 1) := by decide +kernel
theorem dL_law_17 : decode cL_law 17 = .ok (.newarray .long, 2) := by decide +kernel
theorem dL_law_19 : decode cL_law 19 = .ok (.astore_n 3, 1) := by decide +kernel
theorem dL_law_20 : decode cL_law 20 = .ok (.iconst 0, 1) := by decide +kernel
theorem dL_law_21 : decode cL_law 21 = .ok (.istore 4, 2) := by decide +kernel
theorem dL_law_23 : decode cL_law 23 = .ok (.iload 4, 2) := by decide +kernel
theorem dL_law_25 : decode cL_law 25 = .ok (.aload_n 0, 1) := by decide +kernel
theorem dL_law_26 : decode cL_law 26 = .ok (.arraylength, 1) := by decide +kernel
theorem dL_law_27 : decode cL_law 27 = .ok (.iconst 3, 1) := by decide +kernel
theorem dL_law_28 : decode cL_law 28 = .ok (.isub, 1) := by decide +kernel
theorem dL_law_29 : decode cL_law 29 = .ok (.if_icmp .gt 1316, 3) := by decide +kernel
theorem dL_law_32 : decode cL_law 32 = .ok (.aload_n 0, 1) := by decide +kernel
theorem dL_law_33 : decode cL_law 33 = .ok (.iload 4, 2) := by decide +kernel
theorem dL_law_35 : decode cL_law 35 = .ok (.iaload, 1) := by decide +kernel
theorem dL_law_36 : decode cL_law 36 = .ok (.bipush 31, 2) := by decide +kernel
theorem dL_law_38 : decode cL_law 38 = .ok (.iand, 1) := by decide +kernel
theorem dL_law_39 : decode cL_law 39 = .ok (.tableswitch 1300 0 25 #[117, 185, 241, 297, 365, 409, 477, 545, 558, 626, 694, 750, 818, 874, 888, 929, 985, 998, 1011, 1079, 1147, 1160, 1216, 1229, 1242, 1286], 117) := by decide +kernel
theorem dL_law_156 : decode cL_law 156 = .ok (.aload_n 1, 1) := by decide +kernel
theorem dL_law_157 : decode cL_law 157 = .ok (.aload_n 0, 1) := by decide +kernel
theorem dL_law_158 : decode cL_law 158 = .ok (.iload 4, 2) := by decide +kernel
theorem dL_law_160 : decode cL_law 160 = .ok (.iconst 1, 1) := by decide +kernel
theorem dL_law_161 : decode cL_law 161 = .ok (.iadd, 1) := by decide +kernel
theorem dL_law_162 : decode cL_law 162 = .ok (.iaload, 1) := by decide +kernel
theorem dL_law_163 : decode cL_law 163 = .ok (.aload_n 0, 1) := by decide +kernel
theorem dL_law_164 : decode cL_law 164 = .ok (.iload 4, 2) := by decide +kernel
theorem dL_law_166 : decode cL_law 166 = .ok (.iconst 2, 1) := by decide +kernel
theorem dL_law_167 : decode cL_law 167 = .ok (.iadd, 1) := by decide +kernel
theorem dL_law_168 : decode cL_law 168 = .ok (.iaload, 1) := by decide +kernel
theorem dL_law_169 : decode cL_law 169 = .ok (.aload_n 3, 1) := by decide +kernel
theorem dL_law_170 : decode cL_law 170 = .ok (.invokestatic 73, 3) := by decide +kernel
theorem dL_law_173 : decode cL_law 173 = .ok (.istore 5, 2) := by decide +kernel
theorem dL_law_175 : decode cL_law 175 = .ok (.aload_n 2, 1) := by decide +kernel
theorem dL_law_176 : decode cL_law 176 = .ok (.aload_n 0, 1) := by decide +kernel
theorem dL_law_177 : decode cL_law 177 = .ok (.iload 4, 2) := by decide +kernel
theorem dL_law_179 : decode cL_law 179 = .ok (.iconst 1, 1) := by decide +kernel
theorem dL_law_180 : decode cL_law 180 = .ok (.iadd, 1) := by decide +kernel
theorem dL_law_181 : decode cL_law 181 = .ok (.iaload, 1) := by decide +kernel
theorem dL_law_182 : decode cL_law 182 = .ok (.aload_n 0, 1) := by decide +kernel
theorem dL_law_183 : decode cL_law 183 = .ok (.iload 4, 2) := by decide +kernel
theorem dL_law_185 : decode cL_law 185 = .ok (.iconst 2, 1) := by decide +kernel
theorem dL_law_186 : decode cL_law 186 = .ok (.iadd, 1) := by decide +kernel
theorem dL_law_187 : decode cL_law 187 = .ok (.iaload, 1) := by decide +kernel
theorem dL_law_188 : decode cL_law 188 = .ok (.invokevirtual 78, 3) := by decide +kernel
theorem dL_law_191 : decode cL_law 191 = .ok (.istore 6, 2) := by decide +kernel
theorem dL_law_193 : decode cL_law 193 = .ok (.aload_n 2, 1) := by decide +kernel
theorem dL_law_194 : decode cL_law 194 = .ok (.invokevirtual 79, 3) := by decide +kernel
theorem dL_law_197 : decode cL_law 197 = .ok (.iload 5, 2) := by decide +kernel
theorem dL_law_199 : decode cL_law 199 = .ok (.if_icmp .eq 5, 3) := by decide +kernel
theorem dL_law_202 : decode cL_law 202 = .ok (.iconst 0, 1) := by decide +kernel
theorem dL_law_203 : decode cL_law 203 = .ok (.ireturn, 1) := by decide +kernel
theorem dL_law_204 : decode cL_law 204 = .ok (.iload 5, 2) := by decide +kernel
theorem dL_law_206 : decode cL_law 206 = .ok (.ifCond .ne 15, 3) := by decide +kernel
theorem dL_law_209 : decode cL_law 209 = .ok (.aload_n 3, 1) := by decide +kernel
theorem dL_law_210 : decode cL_law 210 = .ok (.iconst 0, 1) := by decide +kernel
theorem dL_law_211 : decode cL_law 211 = .ok (.laload, 1) := by decide +kernel
theorem dL_law_212 : decode cL_law 212 = .ok (.iload 6, 2) := by decide +kernel
theorem dL_law_214 : decode cL_law 214 = .ok (.i2l, 1) := by decide +kernel
theorem dL_law_215 : decode cL_law 215 = .ok (.lcmp, 1) := by decide +kernel
theorem dL_law_216 : decode cL_law 216 = .ok (.ifCond .eq 5, 3) := by decide +kernel
theorem dL_law_219 : decode cL_law 219 = .ok (.iconst 0, 1) := by decide +kernel
theorem dL_law_220 : decode cL_law 220 = .ok (.ireturn, 1) := by decide +kernel
theorem dL_law_221 : decode cL_law 221 = .ok (.goto 1118, 3) := by decide +kernel
theorem dL_law_224 : decode cL_law 224 = .ok (.aload_n 1, 1) := by decide +kernel
theorem dL_law_225 : decode cL_law 225 = .ok (.aload_n 0, 1) := by decide +kernel
theorem dL_law_226 : decode cL_law 226 = .ok (.iload 4, 2) := by decide +kernel
theorem dL_law_228 : decode cL_law 228 = .ok (.iconst 1, 1) := by decide +kernel
theorem dL_law_229 : decode cL_law 229 = .ok (.iadd, 1) := by decide +kernel
theorem dL_law_230 : decode cL_law 230 = .ok (.iaload, 1) := by decide +kernel
theorem dL_law_231 : decode cL_law 231 = .ok (.aload_n 3, 1) := by decide +kernel
theorem dL_law_232 : decode cL_law 232 = .ok (.invokestatic 82, 3) := by decide +kernel
theorem dL_law_235 : decode cL_law 235 = .ok (.istore 5, 2) := by decide +kernel
theorem dL_law_237 : decode cL_law 237 = .ok (.aload_n 2, 1) := by decide +kernel
theorem dL_law_238 : decode cL_law 238 = .ok (.aload_n 0, 1) := by decide +kernel
theorem dL_law_239 : decode cL_law 239 = .ok (.iload 4, 2) := by decide +kernel
theorem dL_law_241 : decode cL_law 241 = .ok (.iconst 1, 1) := by decide +kernel
theorem dL_law_242 : decode cL_law 242 = .ok (.iadd, 1) := by decide +kernel
theorem dL_law_243 : decode cL_law 243 = .ok (.iaload, 1) := by decide +kernel
theorem dL_law_244 : decode cL_law 244 = .ok (.invokevirtual 85, 3) := by decide +kernel
theorem dL_law_247 : decode cL_law 247 = .ok (.istore 6, 2) := by decide +kernel
theorem dL_law_249 : decode cL_law 249 = .ok (.aload_n 2, 1) := by decide +kernel
theorem dL_law_250 : decode cL_law 250 = .ok (.invokevirtual 79, 3) := by decide +kernel
theorem dL_law_253 : decode cL_law 253 = .ok (.iload 5, 2) := by decide +kernel
theorem dL_law_255 : decode cL_law 255 = .ok (.if_icmp .eq 5, 3) := by decide +kernel
theorem dL_law_258 : decode cL_law 258 = .ok (.iconst 0, 1) := by decide +kernel
theorem dL_law_259 : decode cL_law 259 = .ok (.ireturn, 1) := by decide +kernel
theorem dL_law_260 : decode cL_law 260 = .ok (.iload 5, 2) := by decide +kernel
theorem dL_law_262 : decode cL_law 262 = .ok (.ifCond .ne 15, 3) := by decide +kernel
theorem dL_law_265 : decode cL_law 265 = .ok (.aload_n 3, 1) := by decide +kernel
theorem dL_law_266 : decode cL_law 266 = .ok (.iconst 0, 1) := by decide +kernel
theorem dL_law_267 : decode cL_law 267 = .ok (.laload, 1) := by decide +kernel
theorem dL_law_268 : decode cL_law 268 = .ok (.iload 6, 2) := by decide +kernel
theorem dL_law_270 : decode cL_law 270 = .ok (.i2l, 1) := by decide +kernel
theorem dL_law_271 : decode cL_law 271 = .ok (.lcmp, 1) := by decide +kernel
theorem dL_law_272 : decode cL_law 272 = .ok (.ifCond .eq 5, 3) := by decide +kernel
theorem dL_law_275 : decode cL_law 275 = .ok (.iconst 0, 1) := by decide +kernel
theorem dL_law_276 : decode cL_law 276 = .ok (.ireturn, 1) := by decide +kernel
theorem dL_law_277 : decode cL_law 277 = .ok (.goto 1062, 3) := by decide +kernel
theorem dL_law_280 : decode cL_law 280 = .ok (.aload_n 1, 1) := by decide +kernel
theorem dL_law_281 : decode cL_law 281 = .ok (.aload_n 0, 1) := by decide +kernel
theorem dL_law_282 : decode cL_law 282 = .ok (.iload 4, 2) := by decide +kernel
theorem dL_law_284 : decode cL_law 284 = .ok (.iconst 1, 1) := by decide +kernel
theorem dL_law_285 : decode cL_law 285 = .ok (.iadd, 1) := by decide +kernel
theorem dL_law_286 : decode cL_law 286 = .ok (.iaload, 1) := by decide +kernel
theorem dL_law_287 : decode cL_law 287 = .ok (.aload_n 3, 1) := by decide +kernel
theorem dL_law_288 : decode cL_law 288 = .ok (.invokestatic 86, 3) := by decide +kernel
theorem dL_law_291 : decode cL_law 291 = .ok (.istore 5, 2) := by decide +kernel
theorem dL_law_293 : decode cL_law 293 = .ok (.aload_n 2, 1) := by decide +kernel
theorem dL_law_294 : decode cL_law 294 = .ok (.aload_n 0, 1) := by decide +kernel
theorem dL_law_295 : decode cL_law 295 = .ok (.iload 4, 2) := by decide +kernel
theorem dL_law_297 : decode cL_law 297 = .ok (.iconst 1, 1) := by decide +kernel
theorem dL_law_298 : decode cL_law 298 = .ok (.iadd, 1) := by decide +kernel
theorem dL_law_299 : decode cL_law 299 = .ok (.iaload, 1) := by decide +kernel
theorem dL_law_300 : decode cL_law 300 = .ok (.invokevirtual 88, 3) := by decide +kernel
theorem dL_law_303 : decode cL_law 303 = .ok (.istore 6, 2) := by decide +kernel
theorem dL_law_305 : decode cL_law 305 = .ok (.aload_n 2, 1) := by decide +kernel
theorem dL_law_306 : decode cL_law 306 = .ok (.invokevirtual 79, 3) := by decide +kernel
theorem dL_law_309 : decode cL_law 309 = .ok (.iload 5, 2) := by decide +kernel
theorem dL_law_311 : decode cL_law 311 = .ok (.if_icmp .eq 5, 3) := by decide +kernel
theorem dL_law_314 : decode cL_law 314 = .ok (.iconst 0, 1) := by decide +kernel
theorem dL_law_315 : decode cL_law 315 = .ok (.ireturn, 1) := by decide +kernel
theorem dL_law_316 : decode cL_law 316 = .ok (.iload 5, 2) := by decide +kernel
theorem dL_law_318 : decode cL_law 318 = .ok (.ifCond .ne 15, 3) := by decide +kernel
theorem dL_law_321 : decode cL_law 321 = .ok (.aload_n 3, 1) := by decide +kernel
theorem dL_law_322 : decode cL_law 322 = .ok (.iconst 0, 1) := by decide +kernel
theorem dL_law_323 : decode cL_law 323 = .ok (.laload, 1) := by decide +kernel
theorem dL_law_324 : decode cL_law 324 = .ok (.iload 6, 2) := by decide +kernel
theorem dL_law_326 : decode cL_law 326 = .ok (.i2l, 1) := by decide +kernel
theorem dL_law_327 : decode cL_law 327 = .ok (.lcmp, 1) := by decide +kernel
theorem dL_law_328 : decode cL_law 328 = .ok (.ifCond .eq 5, 3) := by decide +kernel
theorem dL_law_331 : decode cL_law 331 = .ok (.iconst 0, 1) := by decide +kernel
theorem dL_law_332 : decode cL_law 332 = .ok (.ireturn, 1) := by decide +kernel
theorem dL_law_333 : decode cL_law 333 = .ok (.goto 1006, 3) := by decide +kernel
theorem dL_law_336 : decode cL_law 336 = .ok (.aload_n 1, 1) := by decide +kernel
theorem dL_law_337 : decode cL_law 337 = .ok (.aload_n 0, 1) := by decide +kernel
theorem dL_law_338 : decode cL_law 338 = .ok (.iload 4, 2) := by decide +kernel
theorem dL_law_340 : decode cL_law 340 = .ok (.iconst 1, 1) := by decide +kernel
theorem dL_law_341 : decode cL_law 341 = .ok (.iadd, 1) := by decide +kernel
theorem dL_law_342 : decode cL_law 342 = .ok (.iaload, 1) := by decide +kernel
theorem dL_law_343 : decode cL_law 343 = .ok (.aload_n 0, 1) := by decide +kernel
theorem dL_law_344 : decode cL_law 344 = .ok (.iload 4, 2) := by decide +kernel
theorem dL_law_346 : decode cL_law 346 = .ok (.iconst 2, 1) := by decide +kernel
theorem dL_law_347 : decode cL_law 347 = .ok (.iadd, 1) := by decide +kernel
theorem dL_law_348 : decode cL_law 348 = .ok (.iaload, 1) := by decide +kernel
theorem dL_law_349 : decode cL_law 349 = .ok (.aload_n 3, 1) := by decide +kernel
theorem dL_law_350 : decode cL_law 350 = .ok (.invokestatic 89, 3) := by decide +kernel
theorem dL_law_353 : decode cL_law 353 = .ok (.istore 5, 2) := by decide +kernel
theorem dL_law_355 : decode cL_law 355 = .ok (.aload_n 2, 1) := by decide +kernel
theorem dL_law_356 : decode cL_law 356 = .ok (.aload_n 0, 1) := by decide +kernel
theorem dL_law_357 : decode cL_law 357 = .ok (.iload 4, 2) := by decide +kernel
theorem dL_law_359 : decode cL_law 359 = .ok (.iconst 1, 1) := by decide +kernel
theorem dL_law_360 : decode cL_law 360 = .ok (.iadd, 1) := by decide +kernel
theorem dL_law_361 : decode cL_law 361 = .ok (.iaload, 1) := by decide +kernel
theorem dL_law_362 : decode cL_law 362 = .ok (.aload_n 0, 1) := by decide +kernel
theorem dL_law_363 : decode cL_law 363 = .ok (.iload 4, 2) := by decide +kernel
theorem dL_law_365 : decode cL_law 365 = .ok (.iconst 2, 1) := by decide +kernel
theorem dL_law_366 : decode cL_law 366 = .ok (.iadd, 1) := by decide +kernel
theorem dL_law_367 : decode cL_law 367 = .ok (.iaload, 1) := by decide +kernel
theorem dL_law_368 : decode cL_law 368 = .ok (.invokevirtual 91, 3) := by decide +kernel
theorem dL_law_371 : decode cL_law 371 = .ok (.istore 6, 2) := by decide +kernel
theorem dL_law_373 : decode cL_law 373 = .ok (.aload_n 2, 1) := by decide +kernel
theorem dL_law_374 : decode cL_law 374 = .ok (.invokevirtual 79, 3) := by decide +kernel
theorem dL_law_377 : decode cL_law 377 = .ok (.iload 5, 2) := by decide +kernel
theorem dL_law_379 : decode cL_law 379 = .ok (.if_icmp .eq 5, 3) := by decide +kernel
theorem dL_law_382 : decode cL_law 382 = .ok (.iconst 0, 1) := by decide +kernel
theorem dL_law_383 : decode cL_law 383 = .ok (.ireturn, 1) := by decide +kernel
theorem dL_law_384 : decode cL_law 384 = .ok (.iload 5, 2) := by decide +kernel
theorem dL_law_386 : decode cL_law 386 = .ok (.ifCond .ne 15, 3) := by decide +kernel
theorem dL_law_389 : decode cL_law 389 = .ok (.aload_n 3, 1) := by decide +kernel
theorem dL_law_390 : decode cL_law 390 = .ok (.iconst 0, 1) := by decide +kernel
theorem dL_law_391 : decode cL_law 391 = .ok (.laload, 1) := by decide +kernel
theorem dL_law_392 : decode cL_law 392 = .ok (.iload 6, 2) := by decide +kernel
theorem dL_law_394 : decode cL_law 394 = .ok (.i2l, 1) := by decide +kernel
theorem dL_law_395 : decode cL_law 395 = .ok (.lcmp, 1) := by decide +kernel
theorem dL_law_396 : decode cL_law 396 = .ok (.ifCond .eq 5, 3) := by decide +kernel
theorem dL_law_399 : decode cL_law 399 = .ok (.iconst 0, 1) := by decide +kernel
theorem dL_law_400 : decode cL_law 400 = .ok (.ireturn, 1) := by decide +kernel
theorem dL_law_401 : decode cL_law 401 = .ok (.goto 938, 3) := by decide +kernel
theorem dL_law_404 : decode cL_law 404 = .ok (.aload_n 1, 1) := by decide +kernel
theorem dL_law_405 : decode cL_law 405 = .ok (.aload_n 3, 1) := by decide +kernel
theorem dL_law_406 : decode cL_law 406 = .ok (.invokestatic 92, 3) := by decide +kernel
theorem dL_law_409 : decode cL_law 409 = .ok (.istore 5, 2) := by decide +kernel
theorem dL_law_411 : decode cL_law 411 = .ok (.aload_n 2, 1) := by decide +kernel
theorem dL_law_412 : decode cL_law 412 = .ok (.invokevirtual 95, 3) := by decide +kernel
theorem dL_law_415 : decode cL_law 415 = .ok (.istore 6, 2) := by decide +kernel
theorem dL_law_417 : decode cL_law 417 = .ok (.aload_n 2, 1) := by decide +kernel
theorem dL_law_418 : decode cL_law 418 = .ok (.invokevirtual 79, 3) := by decide +kernel
theorem dL_law_421 : decode cL_law 421 = .ok (.iload 5, 2) := by decide +kernel
theorem dL_law_423 : decode cL_law 423 = .ok (.if_icmp .eq 5, 3) := by decide +kernel
theorem dL_law_426 : decode cL_law 426 = .ok (.iconst 0, 1) := by decide +kernel
theorem dL_law_427 : decode cL_law 427 = .ok (.ireturn, 1) := by decide +kernel
theorem dL_law_428 : decode cL_law 428 = .ok (.iload 5, 2) := by decide +kernel
theorem dL_law_430 : decode cL_law 430 = .ok (.ifCond .ne 15, 3) := by decide +kernel
theorem dL_law_433 : decode cL_law 433 = .ok (.aload_n 3, 1) := by decide +kernel
theorem dL_law_434 : decode cL_law 434 = .ok (.iconst 0, 1) := by decide +kernel
theorem dL_law_435 : decode cL_law 435 = .ok (.laload, 1) := by decide +kernel
theorem dL_law_436 : decode cL_law 436 = .ok (.iload 6, 2) := by decide +kernel
theorem dL_law_438 : decode cL_law 438 = .ok (.i2l, 1) := by decide +kernel
theorem dL_law_439 : decode cL_law 439 = .ok (.lcmp, 1) := by decide +kernel
theorem dL_law_440 : decode cL_law 440 = .ok (.ifCond .eq 5, 3) := by decide +kernel
theorem dL_law_443 : decode cL_law 443 = .ok (.iconst 0, 1) := by decide +kernel
theorem dL_law_444 : decode cL_law 444 = .ok (.ireturn, 1) := by decide +kernel
theorem dL_law_445 : decode cL_law 445 = .ok (.goto 894, 3) := by decide +kernel
theorem dL_law_448 : decode cL_law 448 = .ok (.aload_n 1, 1) := by decide +kernel
theorem dL_law_449 : decode cL_law 449 = .ok (.aload_n 0, 1) := by decide +kernel
theorem dL_law_450 : decode cL_law 450 = .ok (.iload 4, 2) := by decide +kernel
theorem dL_law_452 : decode cL_law 452 = .ok (.iconst 1, 1) := by decide +kernel
theorem dL_law_453 : decode cL_law 453 = .ok (.iadd, 1) := by decide +kernel
theorem dL_law_454 : decode cL_law 454 = .ok (.iaload, 1) := by decide +kernel
theorem dL_law_455 : decode cL_law 455 = .ok (.aload_n 0, 1) := by decide +kernel
theorem dL_law_456 : decode cL_law 456 = .ok (.iload 4, 2) := by decide +kernel
theorem dL_law_458 : decode cL_law 458 = .ok (.iconst 2, 1) := by decide +kernel
theorem dL_law_459 : decode cL_law 459 = .ok (.iadd, 1) := by decide +kernel
theorem dL_law_460 : decode cL_law 460 = .ok (.iaload, 1) := by decide +kernel
theorem dL_law_461 : decode cL_law 461 = .ok (.aload_n 3, 1) := by decide +kernel
theorem dL_law_462 : decode cL_law 462 = .ok (.invokestatic 96, 3) := by decide +kernel
theorem dL_law_465 : decode cL_law 465 = .ok (.istore 5, 2) := by decide +kernel
theorem dL_law_467 : decode cL_law 467 = .ok (.aload_n 2, 1) := by decide +kernel
theorem dL_law_468 : decode cL_law 468 = .ok (.aload_n 0, 1) := by decide +kernel
theorem dL_law_469 : decode cL_law 469 = .ok (.iload 4, 2) := by decide +kernel
theorem dL_law_471 : decode cL_law 471 = .ok (.iconst 1, 1) := by decide +kernel
theorem dL_law_472 : decode cL_law 472 = .ok (.iadd, 1) := by decide +kernel
theorem dL_law_473 : decode cL_law 473 = .ok (.iaload, 1) := by decide +kernel
theorem dL_law_474 : decode cL_law 474 = .ok (.aload_n 0, 1) := by decide +kernel
theorem dL_law_475 : decode cL_law 475 = .ok (.iload 4, 2) := by decide +kernel
theorem dL_law_477 : decode cL_law 477 = .ok (.iconst 2, 1) := by decide +kernel
theorem dL_law_478 : decode cL_law 478 = .ok (.iadd, 1) := by decide +kernel
theorem dL_law_479 : decode cL_law 479 = .ok (.iaload, 1) := by decide +kernel
theorem dL_law_480 : decode cL_law 480 = .ok (.invokevirtual 98, 3) := by decide +kernel
theorem dL_law_483 : decode cL_law 483 = .ok (.istore 6, 2) := by decide +kernel
theorem dL_law_485 : decode cL_law 485 = .ok (.aload_n 2, 1) := by decide +kernel
theorem dL_law_486 : decode cL_law 486 = .ok (.invokevirtual 79, 3) := by decide +kernel
theorem dL_law_489 : decode cL_law 489 = .ok (.iload 5, 2) := by decide +kernel
theorem dL_law_491 : decode cL_law 491 = .ok (.if_icmp .eq 5, 3) := by decide +kernel
theorem dL_law_494 : decode cL_law 494 = .ok (.iconst 0, 1) := by decide +kernel
theorem dL_law_495 : decode cL_law 495 = .ok (.ireturn, 1) := by decide +kernel
theorem dL_law_496 : decode cL_law 496 = .ok (.iload 5, 2) := by decide +kernel
theorem dL_law_498 : decode cL_law 498 = .ok (.ifCond .ne 15, 3) := by decide +kernel
theorem dL_law_501 : decode cL_law 501 = .ok (.aload_n 3, 1) := by decide +kernel
theorem dL_law_502 : decode cL_law 502 = .ok (.iconst 0, 1) := by decide +kernel
theorem dL_law_503 : decode cL_law 503 = .ok (.laload, 1) := by decide +kernel
theorem dL_law_504 : decode cL_law 504 = .ok (.iload 6, 2) := by decide +kernel
theorem dL_law_506 : decode cL_law 506 = .ok (.i2l, 1) := by decide +kernel
theorem dL_law_507 : decode cL_law 507 = .ok (.lcmp, 1) := by decide +kernel
theorem dL_law_508 : decode cL_law 508 = .ok (.ifCond .eq 5, 3) := by decide +kernel
theorem dL_law_511 : decode cL_law 511 = .ok (.iconst 0, 1) := by decide +kernel
theorem dL_law_512 : decode cL_law 512 = .ok (.ireturn, 1) := by decide +kernel
theorem dL_law_513 : decode cL_law 513 = .ok (.goto 826, 3) := by decide +kernel
theorem dL_law_516 : decode cL_law 516 = .ok (.aload_n 1, 1) := by decide +kernel
theorem dL_law_517 : decode cL_law 517 = .ok (.aload_n 0, 1) := by decide +kernel
theorem dL_law_518 : decode cL_law 518 = .ok (.iload 4, 2) := by decide +kernel
theorem dL_law_520 : decode cL_law 520 = .ok (.iconst 1, 1) := by decide +kernel
theorem dL_law_521 : decode cL_law 521 = .ok (.iadd, 1) := by decide +kernel
theorem dL_law_522 : decode cL_law 522 = .ok (.iaload, 1) := by decide +kernel
theorem dL_law_523 : decode cL_law 523 = .ok (.aload_n 0, 1) := by decide +kernel
theorem dL_law_524 : decode cL_law 524 = .ok (.iload 4, 2) := by decide +kernel
theorem dL_law_526 : decode cL_law 526 = .ok (.iconst 2, 1) := by decide +kernel
theorem dL_law_527 : decode cL_law 527 = .ok (.iadd, 1) := by decide +kernel
theorem dL_law_528 : decode cL_law 528 = .ok (.iaload, 1) := by decide +kernel
theorem dL_law_529 : decode cL_law 529 = .ok (.aload_n 3, 1) := by decide +kernel
theorem dL_law_530 : decode cL_law 530 = .ok (.invokestatic 99, 3) := by decide +kernel
theorem dL_law_533 : decode cL_law 533 = .ok (.istore 5, 2) := by decide +kernel
theorem dL_law_535 : decode cL_law 535 = .ok (.aload_n 2, 1) := by decide +kernel
theorem dL_law_536 : decode cL_law 536 = .ok (.aload_n 0, 1) := by decide +kernel
theorem dL_law_537 : decode cL_law 537 = .ok (.iload 4, 2) := by decide +kernel
theorem dL_law_539 : decode cL_law 539 = .ok (.iconst 1, 1) := by decide +kernel
theorem dL_law_540 : decode cL_law 540 = .ok (.iadd, 1) := by decide +kernel
theorem dL_law_541 : decode cL_law 541 = .ok (.iaload, 1) := by decide +kernel
theorem dL_law_542 : decode cL_law 542 = .ok (.aload_n 0, 1) := by decide +kernel
theorem dL_law_543 : decode cL_law 543 = .ok (.iload 4, 2) := by decide +kernel
theorem dL_law_545 : decode cL_law 545 = .ok (.iconst 2, 1) := by decide +kernel
theorem dL_law_546 : decode cL_law 546 = .ok (.iadd, 1) := by decide +kernel
theorem dL_law_547 : decode cL_law 547 = .ok (.iaload, 1) := by decide +kernel
theorem dL_law_548 : decode cL_law 548 = .ok (.invokevirtual 101, 3) := by decide +kernel
theorem dL_law_551 : decode cL_law 551 = .ok (.istore 6, 2) := by decide +kernel
theorem dL_law_553 : decode cL_law 553 = .ok (.aload_n 2, 1) := by decide +kernel
theorem dL_law_554 : decode cL_law 554 = .ok (.invokevirtual 79, 3) := by decide +kernel
theorem dL_law_557 : decode cL_law 557 = .ok (.iload 5, 2) := by decide +kernel
theorem dL_law_559 : decode cL_law 559 = .ok (.if_icmp .eq 5, 3) := by decide +kernel
theorem dL_law_562 : decode cL_law 562 = .ok (.iconst 0, 1) := by decide +kernel
theorem dL_law_563 : decode cL_law 563 = .ok (.ireturn, 1) := by decide +kernel
theorem dL_law_564 : decode cL_law 564 = .ok (.iload 5, 2) := by decide +kernel
theorem dL_law_566 : decode cL_law 566 = .ok (.ifCond .ne 15, 3) := by decide +kernel
theorem dL_law_569 : decode cL_law 569 = .ok (.aload_n 3, 1) := by decide +kernel
theorem dL_law_570 : decode cL_law 570 = .ok (.iconst 0, 1) := by decide +kernel
theorem dL_law_571 : decode cL_law 571 = .ok (.laload, 1) := by decide +kernel
theorem dL_law_572 : decode cL_law 572 = .ok (.iload 6, 2) := by decide +kernel
theorem dL_law_574 : decode cL_law 574 = .ok (.i2l, 1) := by decide +kernel
theorem dL_law_575 : decode cL_law 575 = .ok (.lcmp, 1) := by decide +kernel
theorem dL_law_576 : decode cL_law 576 = .ok (.ifCond .eq 5, 3) := by decide +kernel
theorem dL_law_579 : decode cL_law 579 = .ok (.iconst 0, 1) := by decide +kernel
theorem dL_law_580 : decode cL_law 580 = .ok (.ireturn, 1) := by decide +kernel
theorem dL_law_581 : decode cL_law 581 = .ok (.goto 758, 3) := by decide +kernel
theorem dL_law_584 : decode cL_law 584 = .ok (.aload_n 1, 1) := by decide +kernel
theorem dL_law_585 : decode cL_law 585 = .ok (.invokevirtual 102, 3) := by decide +kernel
theorem dL_law_588 : decode cL_law 588 = .ok (.aload_n 2, 1) := by decide +kernel
theorem dL_law_589 : decode cL_law 589 = .ok (.invokevirtual 105, 3) := by decide +kernel
theorem dL_law_592 : decode cL_law 592 = .ok (.if_icmp .eq 747, 3) := by decide +kernel
theorem dL_law_595 : decode cL_law 595 = .ok (.iconst 0, 1) := by decide +kernel
theorem dL_law_596 : decode cL_law 596 = .ok (.ireturn, 1) := by decide +kernel
theorem dL_law_597 : decode cL_law 597 = .ok (.aload_n 1, 1) := by decide +kernel
theorem dL_law_598 : decode cL_law 598 = .ok (.aload_n 0, 1) := by decide +kernel
theorem dL_law_599 : decode cL_law 599 = .ok (.iload 4, 2) := by decide +kernel
theorem dL_law_601 : decode cL_law 601 = .ok (.iconst 1, 1) := by decide +kernel
theorem dL_law_602 : decode cL_law 602 = .ok (.iadd, 1) := by decide +kernel
theorem dL_law_603 : decode cL_law 603 = .ok (.iaload, 1) := by decide +kernel
theorem dL_law_604 : decode cL_law 604 = .ok (.aload_n 0, 1) := by decide +kernel
theorem dL_law_605 : decode cL_law 605 = .ok (.iload 4, 2) := by decide +kernel
theorem dL_law_607 : decode cL_law 607 = .ok (.iconst 2, 1) := by decide +kernel
theorem dL_law_608 : decode cL_law 608 = .ok (.iadd, 1) := by decide +kernel
theorem dL_law_609 : decode cL_law 609 = .ok (.iaload, 1) := by decide +kernel
theorem dL_law_610 : decode cL_law 610 = .ok (.aload_n 3, 1) := by decide +kernel
theorem dL_law_611 : decode cL_law 611 = .ok (.invokestatic 106, 3) := by decide +kernel
theorem dL_law_614 : decode cL_law 614 = .ok (.istore 5, 2) := by decide +kernel
theorem dL_law_616 : decode cL_law 616 = .ok (.aload_n 2, 1) := by decide +kernel
theorem dL_law_617 : decode cL_law 617 = .ok (.aload_n 0, 1) := by decide +kernel
theorem dL_law_618 : decode cL_law 618 = .ok (.iload 4, 2) := by decide +kernel
theorem dL_law_620 : decode cL_law 620 = .ok (.iconst 1, 1) := by decide +kernel
theorem dL_law_621 : decode cL_law 621 = .ok (.iadd, 1) := by decide +kernel
theorem dL_law_622 : decode cL_law 622 = .ok (.iaload, 1) := by decide +kernel
theorem dL_law_623 : decode cL_law 623 = .ok (.aload_n 0, 1) := by decide +kernel
theorem dL_law_624 : decode cL_law 624 = .ok (.iload 4, 2) := by decide +kernel
theorem dL_law_626 : decode cL_law 626 = .ok (.iconst 2, 1) := by decide +kernel
theorem dL_law_627 : decode cL_law 627 = .ok (.iadd, 1) := by decide +kernel
theorem dL_law_628 : decode cL_law 628 = .ok (.iaload, 1) := by decide +kernel
theorem dL_law_629 : decode cL_law 629 = .ok (.invokevirtual 108, 3) := by decide +kernel
theorem dL_law_632 : decode cL_law 632 = .ok (.istore 6, 2) := by decide +kernel
theorem dL_law_634 : decode cL_law 634 = .ok (.aload_n 2, 1) := by decide +kernel
theorem dL_law_635 : decode cL_law 635 = .ok (.invokevirtual 79, 3) := by decide +kernel
theorem dL_law_638 : decode cL_law 638 = .ok (.iload 5, 2) := by decide +kernel
theorem dL_law_640 : decode cL_law 640 = .ok (.if_icmp .eq 5, 3) := by decide +kernel
theorem dL_law_643 : decode cL_law 643 = .ok (.iconst 0, 1) := by decide +kernel
theorem dL_law_644 : decode cL_law 644 = .ok (.ireturn, 1) := by decide +kernel
theorem dL_law_645 : decode cL_law 645 = .ok (.iload 5, 2) := by decide +kernel
theorem dL_law_647 : decode cL_law 647 = .ok (.ifCond .ne 15, 3) := by decide +kernel
theorem dL_law_650 : decode cL_law 650 = .ok (.aload_n 3, 1) := by decide +kernel
theorem dL_law_651 : decode cL_law 651 = .ok (.iconst 0, 1) := by decide +kernel
theorem dL_law_652 : decode cL_law 652 = .ok (.laload, 1) := by decide +kernel
theorem dL_law_653 : decode cL_law 653 = .ok (.iload 6, 2) := by decide +kernel
theorem dL_law_655 : decode cL_law 655 = .ok (.i2l, 1) := by decide +kernel
theorem dL_law_656 : decode cL_law 656 = .ok (.lcmp, 1) := by decide +kernel
theorem dL_law_657 : decode cL_law 657 = .ok (.ifCond .eq 5, 3) := by decide +kernel
theorem dL_law_660 : decode cL_law 660 = .ok (.iconst 0, 1) := by decide +kernel
theorem dL_law_661 : decode cL_law 661 = .ok (.ireturn, 1) := by decide +kernel
theorem dL_law_662 : decode cL_law 662 = .ok (.goto 677, 3) := by decide +kernel
theorem dL_law_665 : decode cL_law 665 = .ok (.aload_n 1, 1) := by decide +kernel
theorem dL_law_666 : decode cL_law 666 = .ok (.aload_n 0, 1) := by decide +kernel
theorem dL_law_667 : decode cL_law 667 = .ok (.iload 4, 2) := by decide +kernel
theorem dL_law_669 : decode cL_law 669 = .ok (.iconst 1, 1) := by decide +kernel
theorem dL_law_670 : decode cL_law 670 = .ok (.iadd, 1) := by decide +kernel
theorem dL_law_671 : decode cL_law 671 = .ok (.iaload, 1) := by decide +kernel
theorem dL_law_672 : decode cL_law 672 = .ok (.aload_n 0, 1) := by decide +kernel
theorem dL_law_673 : decode cL_law 673 = .ok (.iload 4, 2) := by decide +kernel
theorem dL_law_675 : decode cL_law 675 = .ok (.iconst 2, 1) := by decide +kernel
theorem dL_law_676 : decode cL_law 676 = .ok (.iadd, 1) := by decide +kernel
theorem dL_law_677 : decode cL_law 677 = .ok (.iaload, 1) := by decide +kernel
theorem dL_law_678 : decode cL_law 678 = .ok (.aload_n 3, 1) := by decide +kernel
theorem dL_law_679 : decode cL_law 679 = .ok (.invokestatic 109, 3) := by decide +kernel
theorem dL_law_682 : decode cL_law 682 = .ok (.istore 5, 2) := by decide +kernel
theorem dL_law_684 : decode cL_law 684 = .ok (.aload_n 2, 1) := by decide +kernel
theorem dL_law_685 : decode cL_law 685 = .ok (.aload_n 0, 1) := by decide +kernel
theorem dL_law_686 : decode cL_law 686 = .ok (.iload 4, 2) := by decide +kernel
theorem dL_law_688 : decode cL_law 688 = .ok (.iconst 1, 1) := by decide +kernel
theorem dL_law_689 : decode cL_law 689 = .ok (.iadd, 1) := by decide +kernel
theorem dL_law_690 : decode cL_law 690 = .ok (.iaload, 1) := by decide +kernel
theorem dL_law_691 : decode cL_law 691 = .ok (.aload_n 0, 1) := by decide +kernel
theorem dL_law_692 : decode cL_law 692 = .ok (.iload 4, 2) := by decide +kernel
theorem dL_law_694 : decode cL_law 694 = .ok (.iconst 2, 1) := by decide +kernel
theorem dL_law_695 : decode cL_law 695 = .ok (.iadd, 1) := by decide +kernel
theorem dL_law_696 : decode cL_law 696 = .ok (.iaload, 1) := by decide +kernel
theorem dL_law_697 : decode cL_law 697 = .ok (.invokevirtual 111, 3) := by decide +kernel
theorem dL_law_700 : decode cL_law 700 = .ok (.istore 6, 2) := by decide +kernel
theorem dL_law_702 : decode cL_law 702 = .ok (.aload_n 2, 1) := by decide +kernel
theorem dL_law_703 : decode cL_law 703 = .ok (.invokevirtual 79, 3) := by decide +kernel
theorem dL_law_706 : decode cL_law 706 = .ok (.iload 5, 2) := by decide +kernel
theorem dL_law_708 : decode cL_law 708 = .ok (.if_icmp .eq 5, 3) := by decide +kernel
theorem dL_law_711 : decode cL_law 711 = .ok (.iconst 0, 1) := by decide +kernel
theorem dL_law_712 : decode cL_law 712 = .ok (.ireturn, 1) := by decide +kernel
theorem dL_law_713 : decode cL_law 713 = .ok (.iload 5, 2) := by decide +kernel
theorem dL_law_715 : decode cL_law 715 = .ok (.ifCond .ne 15, 3) := by decide +kernel
theorem dL_law_718 : decode cL_law 718 = .ok (.aload_n 3, 1) := by decide +kernel
theorem dL_law_719 : decode cL_law 719 = .ok (.iconst 0, 1) := by decide +kernel
theorem dL_law_720 : decode cL_law 720 = .ok (.laload, 1) := by decide +kernel
theorem dL_law_721 : decode cL_law 721 = .ok (.iload 6, 2) := by decide +kernel
theorem dL_law_723 : decode cL_law 723 = .ok (.i2l, 1) := by decide +kernel
theorem dL_law_724 : decode cL_law 724 = .ok (.lcmp, 1) := by decide +kernel
theorem dL_law_725 : decode cL_law 725 = .ok (.ifCond .eq 5, 3) := by decide +kernel
theorem dL_law_728 : decode cL_law 728 = .ok (.iconst 0, 1) := by decide +kernel
theorem dL_law_729 : decode cL_law 729 = .ok (.ireturn, 1) := by decide +kernel
theorem dL_law_730 : decode cL_law 730 = .ok (.goto 609, 3) := by decide +kernel
theorem dL_law_733 : decode cL_law 733 = .ok (.aload_n 1, 1) := by decide +kernel
theorem dL_law_734 : decode cL_law 734 = .ok (.aload_n 0, 1) := by decide +kernel
theorem dL_law_735 : decode cL_law 735 = .ok (.iload 4, 2) := by decide +kernel
theorem dL_law_737 : decode cL_law 737 = .ok (.iconst 1, 1) := by decide +kernel
theorem dL_law_738 : decode cL_law 738 = .ok (.iadd, 1) := by decide +kernel
theorem dL_law_739 : decode cL_law 739 = .ok (.iaload, 1) := by decide +kernel
theorem dL_law_740 : decode cL_law 740 = .ok (.aload_n 3, 1) := by decide +kernel
theorem dL_law_741 : decode cL_law 741 = .ok (.invokestatic 112, 3) := by decide +kernel
theorem dL_law_744 : decode cL_law 744 = .ok (.istore 5, 2) := by decide +kernel
theorem dL_law_746 : decode cL_law 746 = .ok (.aload_n 2, 1) := by decide +kernel
theorem dL_law_747 : decode cL_law 747 = .ok (.aload_n 0, 1) := by decide +kernel
theorem dL_law_748 : decode cL_law 748 = .ok (.iload 4, 2) := by decide +kernel
theorem dL_law_750 : decode cL_law 750 = .ok (.iconst 1, 1) := by decide +kernel
theorem dL_law_751 : decode cL_law 751 = .ok (.iadd, 1) := by decide +kernel
theorem dL_law_752 : decode cL_law 752 = .ok (.iaload, 1) := by decide +kernel
theorem dL_law_753 : decode cL_law 753 = .ok (.invokevirtual 114, 3) := by decide +kernel
theorem dL_law_756 : decode cL_law 756 = .ok (.istore 6, 2) := by decide +kernel
theorem dL_law_758 : decode cL_law 758 = .ok (.aload_n 2, 1) := by decide +kernel
theorem dL_law_759 : decode cL_law 759 = .ok (.invokevirtual 79, 3) := by decide +kernel
theorem dL_law_762 : decode cL_law 762 = .ok (.iload 5, 2) := by decide +kernel
theorem dL_law_764 : decode cL_law 764 = .ok (.if_icmp .eq 5, 3) := by decide +kernel
theorem dL_law_767 : decode cL_law 767 = .ok (.iconst 0, 1) := by decide +kernel
theorem dL_law_768 : decode cL_law 768 = .ok (.ireturn, 1) := by decide +kernel
theorem dL_law_769 : decode cL_law 769 = .ok (.iload 5, 2) := by decide +kernel
theorem dL_law_771 : decode cL_law 771 = .ok (.ifCond .ne 15, 3) := by decide +kernel
theorem dL_law_774 : decode cL_law 774 = .ok (.aload_n 3, 1) := by decide +kernel
theorem dL_law_775 : decode cL_law 775 = .ok (.iconst 0, 1) := by decide +kernel
theorem dL_law_776 : decode cL_law 776 = .ok (.laload, 1) := by decide +kernel
theorem dL_law_777 : decode cL_law 777 = .ok (.iload 6, 2) := by decide +kernel
theorem dL_law_779 : decode cL_law 779 = .ok (.i2l, 1) := by decide +kernel
theorem dL_law_780 : decode cL_law 780 = .ok (.lcmp, 1) := by decide +kernel
theorem dL_law_781 : decode cL_law 781 = .ok (.ifCond .eq 5, 3) := by decide +kernel
theorem dL_law_784 : decode cL_law 784 = .ok (.iconst 0, 1) := by decide +kernel
theorem dL_law_785 : decode cL_law 785 = .ok (.ireturn, 1) := by decide +kernel
theorem dL_law_786 : decode cL_law 786 = .ok (.goto 553, 3) := by decide +kernel
theorem dL_law_789 : decode cL_law 789 = .ok (.aload_n 1, 1) := by decide +kernel
theorem dL_law_790 : decode cL_law 790 = .ok (.aload_n 0, 1) := by decide +kernel
theorem dL_law_791 : decode cL_law 791 = .ok (.iload 4, 2) := by decide +kernel
theorem dL_law_793 : decode cL_law 793 = .ok (.iconst 1, 1) := by decide +kernel
theorem dL_law_794 : decode cL_law 794 = .ok (.iadd, 1) := by decide +kernel
theorem dL_law_795 : decode cL_law 795 = .ok (.iaload, 1) := by decide +kernel
theorem dL_law_796 : decode cL_law 796 = .ok (.aload_n 0, 1) := by decide +kernel
theorem dL_law_797 : decode cL_law 797 = .ok (.iload 4, 2) := by decide +kernel
theorem dL_law_799 : decode cL_law 799 = .ok (.iconst 2, 1) := by decide +kernel
theorem dL_law_800 : decode cL_law 800 = .ok (.iadd, 1) := by decide +kernel
theorem dL_law_801 : decode cL_law 801 = .ok (.iaload, 1) := by decide +kernel
theorem dL_law_802 : decode cL_law 802 = .ok (.aload_n 3, 1) := by decide +kernel
theorem dL_law_803 : decode cL_law 803 = .ok (.invokestatic 115, 3) := by decide +kernel
theorem dL_law_806 : decode cL_law 806 = .ok (.istore 5, 2) := by decide +kernel
theorem dL_law_808 : decode cL_law 808 = .ok (.aload_n 2, 1) := by decide +kernel
theorem dL_law_809 : decode cL_law 809 = .ok (.aload_n 0, 1) := by decide +kernel
theorem dL_law_810 : decode cL_law 810 = .ok (.iload 4, 2) := by decide +kernel
theorem dL_law_812 : decode cL_law 812 = .ok (.iconst 1, 1) := by decide +kernel
theorem dL_law_813 : decode cL_law 813 = .ok (.iadd, 1) := by decide +kernel
theorem dL_law_814 : decode cL_law 814 = .ok (.iaload, 1) := by decide +kernel
theorem dL_law_815 : decode cL_law 815 = .ok (.aload_n 0, 1) := by decide +kernel
theorem dL_law_816 : decode cL_law 816 = .ok (.iload 4, 2) := by decide +kernel
theorem dL_law_818 : decode cL_law 818 = .ok (.iconst 2, 1) := by decide +kernel
theorem dL_law_819 : decode cL_law 819 = .ok (.iadd, 1) := by decide +kernel
theorem dL_law_820 : decode cL_law 820 = .ok (.iaload, 1) := by decide +kernel
theorem dL_law_821 : decode cL_law 821 = .ok (.invokevirtual 117, 3) := by decide +kernel
theorem dL_law_824 : decode cL_law 824 = .ok (.istore 6, 2) := by decide +kernel
theorem dL_law_826 : decode cL_law 826 = .ok (.aload_n 2, 1) := by decide +kernel
theorem dL_law_827 : decode cL_law 827 = .ok (.invokevirtual 79, 3) := by decide +kernel
theorem dL_law_830 : decode cL_law 830 = .ok (.iload 5, 2) := by decide +kernel
theorem dL_law_832 : decode cL_law 832 = .ok (.if_icmp .eq 5, 3) := by decide +kernel
theorem dL_law_835 : decode cL_law 835 = .ok (.iconst 0, 1) := by decide +kernel
theorem dL_law_836 : decode cL_law 836 = .ok (.ireturn, 1) := by decide +kernel
theorem dL_law_837 : decode cL_law 837 = .ok (.iload 5, 2) := by decide +kernel
theorem dL_law_839 : decode cL_law 839 = .ok (.ifCond .ne 15, 3) := by decide +kernel
theorem dL_law_842 : decode cL_law 842 = .ok (.aload_n 3, 1) := by decide +kernel
theorem dL_law_843 : decode cL_law 843 = .ok (.iconst 0, 1) := by decide +kernel
theorem dL_law_844 : decode cL_law 844 = .ok (.laload, 1) := by decide +kernel
theorem dL_law_845 : decode cL_law 845 = .ok (.iload 6, 2) := by decide +kernel
theorem dL_law_847 : decode cL_law 847 = .ok (.i2l, 1) := by decide +kernel
theorem dL_law_848 : decode cL_law 848 = .ok (.lcmp, 1) := by decide +kernel
theorem dL_law_849 : decode cL_law 849 = .ok (.ifCond .eq 5, 3) := by decide +kernel
theorem dL_law_852 : decode cL_law 852 = .ok (.iconst 0, 1) := by decide +kernel
theorem dL_law_853 : decode cL_law 853 = .ok (.ireturn, 1) := by decide +kernel
theorem dL_law_854 : decode cL_law 854 = .ok (.goto 485, 3) := by decide +kernel
theorem dL_law_857 : decode cL_law 857 = .ok (.aload_n 1, 1) := by decide +kernel
theorem dL_law_858 : decode cL_law 858 = .ok (.aload_n 0, 1) := by decide +kernel
theorem dL_law_859 : decode cL_law 859 = .ok (.iload 4, 2) := by decide +kernel
theorem dL_law_861 : decode cL_law 861 = .ok (.iconst 1, 1) := by decide +kernel
theorem dL_law_862 : decode cL_law 862 = .ok (.iadd, 1) := by decide +kernel
theorem dL_law_863 : decode cL_law 863 = .ok (.iaload, 1) := by decide +kernel
theorem dL_law_864 : decode cL_law 864 = .ok (.aload_n 3, 1) := by decide +kernel
theorem dL_law_865 : decode cL_law 865 = .ok (.invokestatic 118, 3) := by decide +kernel
theorem dL_law_868 : decode cL_law 868 = .ok (.istore 5, 2) := by decide +kernel
theorem dL_law_870 : decode cL_law 870 = .ok (.aload_n 2, 1) := by decide +kernel
theorem dL_law_871 : decode cL_law 871 = .ok (.aload_n 0, 1) := by decide +kernel
theorem dL_law_872 : decode cL_law 872 = .ok (.iload 4, 2) := by decide +kernel
theorem dL_law_874 : decode cL_law 874 = .ok (.iconst 1, 1) := by decide +kernel
theorem dL_law_875 : decode cL_law 875 = .ok (.iadd, 1) := by decide +kernel
theorem dL_law_876 : decode cL_law 876 = .ok (.iaload, 1) := by decide +kernel
theorem dL_law_877 : decode cL_law 877 = .ok (.invokevirtual 120, 3) := by decide +kernel
theorem dL_law_880 : decode cL_law 880 = .ok (.istore 6, 2) := by decide +kernel
theorem dL_law_882 : decode cL_law 882 = .ok (.aload_n 2, 1) := by decide +kernel
theorem dL_law_883 : decode cL_law 883 = .ok (.invokevirtual 79, 3) := by decide +kernel
theorem dL_law_886 : decode cL_law 886 = .ok (.iload 5, 2) := by decide +kernel
theorem dL_law_888 : decode cL_law 888 = .ok (.if_icmp .eq 5, 3) := by decide +kernel
theorem dL_law_891 : decode cL_law 891 = .ok (.iconst 0, 1) := by decide +kernel
theorem dL_law_892 : decode cL_law 892 = .ok (.ireturn, 1) := by decide +kernel
theorem dL_law_893 : decode cL_law 893 = .ok (.iload 5, 2) := by decide +kernel
theorem dL_law_895 : decode cL_law 895 = .ok (.ifCond .ne 15, 3) := by decide +kernel
theorem dL_law_898 : decode cL_law 898 = .ok (.aload_n 3, 1) := by decide +kernel
theorem dL_law_899 : decode cL_law 899 = .ok (.iconst 0, 1) := by decide +kernel
theorem dL_law_900 : decode cL_law 900 = .ok (.laload, 1) := by decide +kernel
theorem dL_law_901 : decode cL_law 901 = .ok (.iload 6, 2) := by decide +kernel
theorem dL_law_903 : decode cL_law 903 = .ok (.i2l, 1) := by decide +kernel
theorem dL_law_904 : decode cL_law 904 = .ok (.lcmp, 1) := by decide +kernel
theorem dL_law_905 : decode cL_law 905 = .ok (.ifCond .eq 5, 3) := by decide +kernel
theorem dL_law_908 : decode cL_law 908 = .ok (.iconst 0, 1) := by decide +kernel
theorem dL_law_909 : decode cL_law 909 = .ok (.ireturn, 1) := by decide +kernel
theorem dL_law_910 : decode cL_law 910 = .ok (.goto 429, 3) := by decide +kernel
theorem dL_law_913 : decode cL_law 913 = .ok (.aload_n 1, 1) := by decide +kernel
theorem dL_law_914 : decode cL_law 914 = .ok (.invokevirtual 121, 3) := by decide +kernel
theorem dL_law_917 : decode cL_law 917 = .ok (.aload_n 2, 1) := by decide +kernel
theorem dL_law_918 : decode cL_law 918 = .ok (.invokevirtual 125, 3) := by decide +kernel
theorem dL_law_921 : decode cL_law 921 = .ok (.lcmp, 1) := by decide +kernel
theorem dL_law_922 : decode cL_law 922 = .ok (.ifCond .eq 417, 3) := by decide +kernel
theorem dL_law_925 : decode cL_law 925 = .ok (.iconst 0, 1) := by decide +kernel
theorem dL_law_926 : decode cL_law 926 = .ok (.ireturn, 1) := by decide +kernel
theorem dL_law_927 : decode cL_law 927 = .ok (.aload_n 1, 1) := by decide +kernel
theorem dL_law_928 : decode cL_law 928 = .ok (.invokevirtual 126, 3) := by decide +kernel
theorem dL_law_931 : decode cL_law 931 = .ok (.dstore 5, 2) := by decide +kernel
theorem dL_law_933 : decode cL_law 933 = .ok (.aload_n 2, 1) := by decide +kernel
theorem dL_law_934 : decode cL_law 934 = .ok (.invokevirtual 130, 3) := by decide +kernel
theorem dL_law_937 : decode cL_law 937 = .ok (.dstore 7, 2) := by decide +kernel
theorem dL_law_939 : decode cL_law 939 = .ok (.dload 5, 2) := by decide +kernel
theorem dL_law_941 : decode cL_law 941 = .ok (.dload 7, 2) := by decide +kernel
theorem dL_law_943 : decode cL_law 943 = .ok (.dcmp .l, 1) := by decide +kernel
theorem dL_law_944 : decode cL_law 944 = .ok (.ifCond .eq 21, 3) := by decide +kernel
theorem dL_law_947 : decode cL_law 947 = .ok (.dload 5, 2) := by decide +kernel
theorem dL_law_949 : decode cL_law 949 = .ok (.dload 5, 2) := by decide +kernel
theorem dL_law_951 : decode cL_law 951 = .ok (.dcmp .l, 1) := by decide +kernel
theorem dL_law_952 : decode cL_law 952 = .ok (.ifCond .eq 11, 3) := by decide +kernel
theorem dL_law_955 : decode cL_law 955 = .ok (.dload 7, 2) := by decide +kernel
theorem dL_law_957 : decode cL_law 957 = .ok (.dload 7, 2) := by decide +kernel
theorem dL_law_959 : decode cL_law 959 = .ok (.dcmp .l, 1) := by decide +kernel
theorem dL_law_960 : decode cL_law 960 = .ok (.ifCond .ne 5, 3) := by decide +kernel
theorem dL_law_963 : decode cL_law 963 = .ok (.iconst 0, 1) := by decide +kernel
theorem dL_law_964 : decode cL_law 964 = .ok (.ireturn, 1) := by decide +kernel
theorem dL_law_965 : decode cL_law 965 = .ok (.goto 374, 3) := by decide +kernel
theorem dL_law_968 : decode cL_law 968 = .ok (.aload_n 1, 1) := by decide +kernel
theorem dL_law_969 : decode cL_law 969 = .ok (.aload_n 0, 1) := by decide +kernel
theorem dL_law_970 : decode cL_law 970 = .ok (.iload 4, 2) := by decide +kernel
theorem dL_law_972 : decode cL_law 972 = .ok (.iconst 1, 1) := by decide +kernel
theorem dL_law_973 : decode cL_law 973 = .ok (.iadd, 1) := by decide +kernel
theorem dL_law_974 : decode cL_law 974 = .ok (.iaload, 1) := by decide +kernel
theorem dL_law_975 : decode cL_law 975 = .ok (.aload_n 3, 1) := by decide +kernel
theorem dL_law_976 : decode cL_law 976 = .ok (.invokestatic 131, 3) := by decide +kernel
theorem dL_law_979 : decode cL_law 979 = .ok (.istore 5, 2) := by decide +kernel
theorem dL_law_981 : decode cL_law 981 = .ok (.aload_n 2, 1) := by decide +kernel
theorem dL_law_982 : decode cL_law 982 = .ok (.aload_n 0, 1) := by decide +kernel
theorem dL_law_983 : decode cL_law 983 = .ok (.iload 4, 2) := by decide +kernel
theorem dL_law_985 : decode cL_law 985 = .ok (.iconst 1, 1) := by decide +kernel
theorem dL_law_986 : decode cL_law 986 = .ok (.iadd, 1) := by decide +kernel
theorem dL_law_987 : decode cL_law 987 = .ok (.iaload, 1) := by decide +kernel
theorem dL_law_988 : decode cL_law 988 = .ok (.invokevirtual 133, 3) := by decide +kernel
theorem dL_law_991 : decode cL_law 991 = .ok (.istore 6, 2) := by decide +kernel
theorem dL_law_993 : decode cL_law 993 = .ok (.aload_n 2, 1) := by decide +kernel
theorem dL_law_994 : decode cL_law 994 = .ok (.invokevirtual 79, 3) := by decide +kernel
theorem dL_law_997 : decode cL_law 997 = .ok (.iload 5, 2) := by decide +kernel
theorem dL_law_999 : decode cL_law 999 = .ok (.if_icmp .eq 5, 3) := by decide +kernel
theorem dL_law_1002 : decode cL_law 1002 = .ok (.iconst 0, 1) := by decide +kernel
theorem dL_law_1003 : decode cL_law 1003 = .ok (.ireturn, 1) := by decide +kernel
theorem dL_law_1004 : decode cL_law 1004 = .ok (.iload 5, 2) := by decide +kernel
theorem dL_law_1006 : decode cL_law 1006 = .ok (.ifCond .ne 15, 3) := by decide +kernel
theorem dL_law_1009 : decode cL_law 1009 = .ok (.aload_n 3, 1) := by decide +kernel
theorem dL_law_1010 : decode cL_law 1010 = .ok (.iconst 0, 1) := by decide +kernel
theorem dL_law_1011 : decode cL_law 1011 = .ok (.laload, 1) := by decide +kernel
theorem dL_law_1012 : decode cL_law 1012 = .ok (.iload 6, 2) := by decide +kernel
theorem dL_law_1014 : decode cL_law 1014 = .ok (.i2l, 1) := by decide +kernel
theorem dL_law_1015 : decode cL_law 1015 = .ok (.lcmp, 1) := by decide +kernel
theorem dL_law_1016 : decode cL_law 1016 = .ok (.ifCond .eq 5, 3) := by decide +kernel
theorem dL_law_1019 : decode cL_law 1019 = .ok (.iconst 0, 1) := by decide +kernel
theorem dL_law_1020 : decode cL_law 1020 = .ok (.ireturn, 1) := by decide +kernel
theorem dL_law_1021 : decode cL_law 1021 = .ok (.goto 318, 3) := by decide +kernel
theorem dL_law_1024 : decode cL_law 1024 = .ok (.aload_n 1, 1) := by decide +kernel
theorem dL_law_1025 : decode cL_law 1025 = .ok (.invokevirtual 134, 3) := by decide +kernel
theorem dL_law_1028 : decode cL_law 1028 = .ok (.aload_n 2, 1) := by decide +kernel
theorem dL_law_1029 : decode cL_law 1029 = .ok (.invokevirtual 137, 3) := by decide +kernel
theorem dL_law_1032 : decode cL_law 1032 = .ok (.if_icmp .eq 307, 3) := by decide +kernel
theorem dL_law_1035 : decode cL_law 1035 = .ok (.iconst 0, 1) := by decide +kernel
theorem dL_law_1036 : decode cL_law 1036 = .ok (.ireturn, 1) := by decide +kernel
theorem dL_law_1037 : decode cL_law 1037 = .ok (.aload_n 1, 1) := by decide +kernel
theorem dL_law_1038 : decode cL_law 1038 = .ok (.invokevirtual 138, 3) := by decide +kernel
theorem dL_law_1041 : decode cL_law 1041 = .ok (.aload_n 2, 1) := by decide +kernel
theorem dL_law_1042 : decode cL_law 1042 = .ok (.invokevirtual 141, 3) := by decide +kernel
theorem dL_law_1045 : decode cL_law 1045 = .ok (.if_icmp .eq 294, 3) := by decide +kernel
theorem dL_law_1048 : decode cL_law 1048 = .ok (.iconst 0, 1) := by decide +kernel
theorem dL_law_1049 : decode cL_law 1049 = .ok (.ireturn, 1) := by decide +kernel
theorem dL_law_1050 : decode cL_law 1050 = .ok (.aload_n 1, 1) := by decide +kernel
theorem dL_law_1051 : decode cL_law 1051 = .ok (.aload_n 0, 1) := by decide +kernel
theorem dL_law_1052 : decode cL_law 1052 = .ok (.iload 4, 2) := by decide +kernel
theorem dL_law_1054 : decode cL_law 1054 = .ok (.iconst 1, 1) := by decide +kernel
theorem dL_law_1055 : decode cL_law 1055 = .ok (.iadd, 1) := by decide +kernel
theorem dL_law_1056 : decode cL_law 1056 = .ok (.iaload, 1) := by decide +kernel
theorem dL_law_1057 : decode cL_law 1057 = .ok (.aload_n 0, 1) := by decide +kernel
theorem dL_law_1058 : decode cL_law 1058 = .ok (.iload 4, 2) := by decide +kernel
theorem dL_law_1060 : decode cL_law 1060 = .ok (.iconst 2, 1) := by decide +kernel
theorem dL_law_1061 : decode cL_law 1061 = .ok (.iadd, 1) := by decide +kernel
theorem dL_law_1062 : decode cL_law 1062 = .ok (.iaload, 1) := by decide +kernel
theorem dL_law_1063 : decode cL_law 1063 = .ok (.aload_n 3, 1) := by decide +kernel
theorem dL_law_1064 : decode cL_law 1064 = .ok (.invokestatic 142, 3) := by decide +kernel
theorem dL_law_1067 : decode cL_law 1067 = .ok (.istore 5, 2) := by decide +kernel
theorem dL_law_1069 : decode cL_law 1069 = .ok (.aload_n 2, 1) := by decide +kernel
theorem dL_law_1070 : decode cL_law 1070 = .ok (.aload_n 0, 1) := by decide +kernel
theorem dL_law_1071 : decode cL_law 1071 = .ok (.iload 4, 2) := by decide +kernel
theorem dL_law_1073 : decode cL_law 1073 = .ok (.iconst 1, 1) := by decide +kernel
theorem dL_law_1074 : decode cL_law 1074 = .ok (.iadd, 1) := by decide +kernel
theorem dL_law_1075 : decode cL_law 1075 = .ok (.iaload, 1) := by decide +kernel
theorem dL_law_1076 : decode cL_law 1076 = .ok (.aload_n 0, 1) := by decide +kernel
theorem dL_law_1077 : decode cL_law 1077 = .ok (.iload 4, 2) := by decide +kernel
theorem dL_law_1079 : decode cL_law 1079 = .ok (.iconst 2, 1) := by decide +kernel
theorem dL_law_1080 : decode cL_law 1080 = .ok (.iadd, 1) := by decide +kernel
theorem dL_law_1081 : decode cL_law 1081 = .ok (.iaload, 1) := by decide +kernel
theorem dL_law_1082 : decode cL_law 1082 = .ok (.invokevirtual 144, 3) := by decide +kernel
theorem dL_law_1085 : decode cL_law 1085 = .ok (.istore 6, 2) := by decide +kernel
theorem dL_law_1087 : decode cL_law 1087 = .ok (.aload_n 2, 1) := by decide +kernel
theorem dL_law_1088 : decode cL_law 1088 = .ok (.invokevirtual 79, 3) := by decide +kernel
theorem dL_law_1091 : decode cL_law 1091 = .ok (.iload 5, 2) := by decide +kernel
theorem dL_law_1093 : decode cL_law 1093 = .ok (.if_icmp .eq 5, 3) := by decide +kernel
theorem dL_law_1096 : decode cL_law 1096 = .ok (.iconst 0, 1) := by decide +kernel
theorem dL_law_1097 : decode cL_law 1097 = .ok (.ireturn, 1) := by decide +kernel
theorem dL_law_1098 : decode cL_law 1098 = .ok (.iload 5, 2) := by decide +kernel
theorem dL_law_1100 : decode cL_law 1100 = .ok (.ifCond .ne 15, 3) := by decide +kernel
theorem dL_law_1103 : decode cL_law 1103 = .ok (.aload_n 3, 1) := by decide +kernel
theorem dL_law_1104 : decode cL_law 1104 = .ok (.iconst 0, 1) := by decide +kernel
theorem dL_law_1105 : decode cL_law 1105 = .ok (.laload, 1) := by decide +kernel
theorem dL_law_1106 : decode cL_law 1106 = .ok (.iload 6, 2) := by decide +kernel
theorem dL_law_1108 : decode cL_law 1108 = .ok (.i2l, 1) := by decide +kernel
theorem dL_law_1109 : decode cL_law 1109 = .ok (.lcmp, 1) := by decide +kernel
theorem dL_law_1110 : decode cL_law 1110 = .ok (.ifCond .eq 5, 3) := by decide +kernel
theorem dL_law_1113 : decode cL_law 1113 = .ok (.iconst 0, 1) := by decide +kernel
theorem dL_law_1114 : decode cL_law 1114 = .ok (.ireturn, 1) := by decide +kernel
theorem dL_law_1115 : decode cL_law 1115 = .ok (.goto 224, 3) := by decide +kernel
theorem dL_law_1118 : decode cL_law 1118 = .ok (.aload_n 1, 1) := by decide +kernel
theorem dL_law_1119 : decode cL_law 1119 = .ok (.aload_n 0, 1) := by decide +kernel
theorem dL_law_1120 : decode cL_law 1120 = .ok (.iload 4, 2) := by decide +kernel
theorem dL_law_1122 : decode cL_law 1122 = .ok (.iconst 1, 1) := by decide +kernel
theorem dL_law_1123 : decode cL_law 1123 = .ok (.iadd, 1) := by decide +kernel
theorem dL_law_1124 : decode cL_law 1124 = .ok (.iaload, 1) := by decide +kernel
theorem dL_law_1125 : decode cL_law 1125 = .ok (.aload_n 0, 1) := by decide +kernel
theorem dL_law_1126 : decode cL_law 1126 = .ok (.iload 4, 2) := by decide +kernel
theorem dL_law_1128 : decode cL_law 1128 = .ok (.iconst 2, 1) := by decide +kernel
theorem dL_law_1129 : decode cL_law 1129 = .ok (.iadd, 1) := by decide +kernel
theorem dL_law_1130 : decode cL_law 1130 = .ok (.iaload, 1) := by decide +kernel
theorem dL_law_1131 : decode cL_law 1131 = .ok (.aload_n 3, 1) := by decide +kernel
theorem dL_law_1132 : decode cL_law 1132 = .ok (.invokestatic 145, 3) := by decide +kernel
theorem dL_law_1135 : decode cL_law 1135 = .ok (.istore 5, 2) := by decide +kernel
theorem dL_law_1137 : decode cL_law 1137 = .ok (.aload_n 2, 1) := by decide +kernel
theorem dL_law_1138 : decode cL_law 1138 = .ok (.aload_n 0, 1) := by decide +kernel
theorem dL_law_1139 : decode cL_law 1139 = .ok (.iload 4, 2) := by decide +kernel
theorem dL_law_1141 : decode cL_law 1141 = .ok (.iconst 1, 1) := by decide +kernel
theorem dL_law_1142 : decode cL_law 1142 = .ok (.iadd, 1) := by decide +kernel
theorem dL_law_1143 : decode cL_law 1143 = .ok (.iaload, 1) := by decide +kernel
theorem dL_law_1144 : decode cL_law 1144 = .ok (.aload_n 0, 1) := by decide +kernel
theorem dL_law_1145 : decode cL_law 1145 = .ok (.iload 4, 2) := by decide +kernel
theorem dL_law_1147 : decode cL_law 1147 = .ok (.iconst 2, 1) := by decide +kernel
theorem dL_law_1148 : decode cL_law 1148 = .ok (.iadd, 1) := by decide +kernel
theorem dL_law_1149 : decode cL_law 1149 = .ok (.iaload, 1) := by decide +kernel
theorem dL_law_1150 : decode cL_law 1150 = .ok (.invokevirtual 147, 3) := by decide +kernel
theorem dL_law_1153 : decode cL_law 1153 = .ok (.istore 6, 2) := by decide +kernel
theorem dL_law_1155 : decode cL_law 1155 = .ok (.aload_n 2, 1) := by decide +kernel
theorem dL_law_1156 : decode cL_law 1156 = .ok (.invokevirtual 79, 3) := by decide +kernel
theorem dL_law_1159 : decode cL_law 1159 = .ok (.iload 5, 2) := by decide +kernel
theorem dL_law_1161 : decode cL_law 1161 = .ok (.if_icmp .eq 5, 3) := by decide +kernel
theorem dL_law_1164 : decode cL_law 1164 = .ok (.iconst 0, 1) := by decide +kernel
theorem dL_law_1165 : decode cL_law 1165 = .ok (.ireturn, 1) := by decide +kernel
theorem dL_law_1166 : decode cL_law 1166 = .ok (.iload 5, 2) := by decide +kernel
theorem dL_law_1168 : decode cL_law 1168 = .ok (.ifCond .ne 15, 3) := by decide +kernel
theorem dL_law_1171 : decode cL_law 1171 = .ok (.aload_n 3, 1) := by decide +kernel
theorem dL_law_1172 : decode cL_law 1172 = .ok (.iconst 0, 1) := by decide +kernel
theorem dL_law_1173 : decode cL_law 1173 = .ok (.laload, 1) := by decide +kernel
theorem dL_law_1174 : decode cL_law 1174 = .ok (.iload 6, 2) := by decide +kernel
theorem dL_law_1176 : decode cL_law 1176 = .ok (.i2l, 1) := by decide +kernel
theorem dL_law_1177 : decode cL_law 1177 = .ok (.lcmp, 1) := by decide +kernel
theorem dL_law_1178 : decode cL_law 1178 = .ok (.ifCond .eq 5, 3) := by decide +kernel
theorem dL_law_1181 : decode cL_law 1181 = .ok (.iconst 0, 1) := by decide +kernel
theorem dL_law_1182 : decode cL_law 1182 = .ok (.ireturn, 1) := by decide +kernel
theorem dL_law_1183 : decode cL_law 1183 = .ok (.goto 156, 3) := by decide +kernel
theorem dL_law_1186 : decode cL_law 1186 = .ok (.aload_n 1, 1) := by decide +kernel
theorem dL_law_1187 : decode cL_law 1187 = .ok (.invokevirtual 148, 3) := by decide +kernel
theorem dL_law_1190 : decode cL_law 1190 = .ok (.aload_n 2, 1) := by decide +kernel
theorem dL_law_1191 : decode cL_law 1191 = .ok (.invokevirtual 151, 3) := by decide +kernel
theorem dL_law_1194 : decode cL_law 1194 = .ok (.if_icmp .eq 145, 3) := by decide +kernel
theorem dL_law_1197 : decode cL_law 1197 = .ok (.iconst 0, 1) := by decide +kernel
theorem dL_law_1198 : decode cL_law 1198 = .ok (.ireturn, 1) := by decide +kernel
theorem dL_law_1199 : decode cL_law 1199 = .ok (.aload_n 1, 1) := by decide +kernel
theorem dL_law_1200 : decode cL_law 1200 = .ok (.aload_n 0, 1) := by decide +kernel
theorem dL_law_1201 : decode cL_law 1201 = .ok (.iload 4, 2) := by decide +kernel
theorem dL_law_1203 : decode cL_law 1203 = .ok (.iconst 1, 1) := by decide +kernel
theorem dL_law_1204 : decode cL_law 1204 = .ok (.iadd, 1) := by decide +kernel
theorem dL_law_1205 : decode cL_law 1205 = .ok (.iaload, 1) := by decide +kernel
theorem dL_law_1206 : decode cL_law 1206 = .ok (.aload_n 3, 1) := by decide +kernel
theorem dL_law_1207 : decode cL_law 1207 = .ok (.invokestatic 152, 3) := by decide +kernel
theorem dL_law_1210 : decode cL_law 1210 = .ok (.istore 5, 2) := by decide +kernel
theorem dL_law_1212 : decode cL_law 1212 = .ok (.aload_n 2, 1) := by decide +kernel
theorem dL_law_1213 : decode cL_law 1213 = .ok (.aload_n 0, 1) := by decide +kernel
theorem dL_law_1214 : decode cL_law 1214 = .ok (.iload 4, 2) := by decide +kernel
theorem dL_law_1216 : decode cL_law 1216 = .ok (.iconst 1, 1) := by decide +kernel
theorem dL_law_1217 : decode cL_law 1217 = .ok (.iadd, 1) := by decide +kernel
theorem dL_law_1218 : decode cL_law 1218 = .ok (.iaload, 1) := by decide +kernel
theorem dL_law_1219 : decode cL_law 1219 = .ok (.invokevirtual 154, 3) := by decide +kernel
theorem dL_law_1222 : decode cL_law 1222 = .ok (.istore 6, 2) := by decide +kernel
theorem dL_law_1224 : decode cL_law 1224 = .ok (.aload_n 2, 1) := by decide +kernel
theorem dL_law_1225 : decode cL_law 1225 = .ok (.invokevirtual 79, 3) := by decide +kernel
theorem dL_law_1228 : decode cL_law 1228 = .ok (.iload 5, 2) := by decide +kernel
theorem dL_law_1230 : decode cL_law 1230 = .ok (.if_icmp .eq 5, 3) := by decide +kernel
theorem dL_law_1233 : decode cL_law 1233 = .ok (.iconst 0, 1) := by decide +kernel
theorem dL_law_1234 : decode cL_law 1234 = .ok (.ireturn, 1) := by decide +kernel
theorem dL_law_1235 : decode cL_law 1235 = .ok (.iload 5, 2) := by decide +kernel
theorem dL_law_1237 : decode cL_law 1237 = .ok (.ifCond .ne 15, 3) := by decide +kernel
theorem dL_law_1240 : decode cL_law 1240 = .ok (.aload_n 3, 1) := by decide +kernel
theorem dL_law_1241 : decode cL_law 1241 = .ok (.iconst 0, 1) := by decide +kernel
theorem dL_law_1242 : decode cL_law 1242 = .ok (.laload, 1) := by decide +kernel
theorem dL_law_1243 : decode cL_law 1243 = .ok (.iload 6, 2) := by decide +kernel
theorem dL_law_1245 : decode cL_law 1245 = .ok (.i2l, 1) := by decide +kernel
theorem dL_law_1246 : decode cL_law 1246 = .ok (.lcmp, 1) := by decide +kernel
theorem dL_law_1247 : decode cL_law 1247 = .ok (.ifCond .eq 5, 3) := by decide +kernel
theorem dL_law_1250 : decode cL_law 1250 = .ok (.iconst 0, 1) := by decide +kernel
theorem dL_law_1251 : decode cL_law 1251 = .ok (.ireturn, 1) := by decide +kernel
theorem dL_law_1252 : decode cL_law 1252 = .ok (.goto 87, 3) := by decide +kernel
theorem dL_law_1255 : decode cL_law 1255 = .ok (.aload_n 1, 1) := by decide +kernel
theorem dL_law_1256 : decode cL_law 1256 = .ok (.invokevirtual 155, 3) := by decide +kernel
theorem dL_law_1259 : decode cL_law 1259 = .ok (.aload_n 2, 1) := by decide +kernel
theorem dL_law_1260 : decode cL_law 1260 = .ok (.invokevirtual 158, 3) := by decide +kernel
theorem dL_law_1263 : decode cL_law 1263 = .ok (.if_icmp .eq 76, 3) := by decide +kernel
theorem dL_law_1266 : decode cL_law 1266 = .ok (.iconst 0, 1) := by decide +kernel
theorem dL_law_1267 : decode cL_law 1267 = .ok (.ireturn, 1) := by decide +kernel
theorem dL_law_1268 : decode cL_law 1268 = .ok (.aload_n 1, 1) := by decide +kernel
theorem dL_law_1269 : decode cL_law 1269 = .ok (.invokevirtual 159, 3) := by decide +kernel
theorem dL_law_1272 : decode cL_law 1272 = .ok (.aload_n 2, 1) := by decide +kernel
theorem dL_law_1273 : decode cL_law 1273 = .ok (.invokevirtual 162, 3) := by decide +kernel
theorem dL_law_1276 : decode cL_law 1276 = .ok (.if_icmp .eq 63, 3) := by decide +kernel
theorem dL_law_1279 : decode cL_law 1279 = .ok (.iconst 0, 1) := by decide +kernel
theorem dL_law_1280 : decode cL_law 1280 = .ok (.ireturn, 1) := by decide +kernel
theorem dL_law_1281 : decode cL_law 1281 = .ok (.aload_n 1, 1) := by decide +kernel
theorem dL_law_1282 : decode cL_law 1282 = .ok (.aload_n 3, 1) := by decide +kernel
theorem dL_law_1283 : decode cL_law 1283 = .ok (.invokestatic 163, 3) := by decide +kernel
theorem dL_law_1286 : decode cL_law 1286 = .ok (.istore 5, 2) := by decide +kernel
theorem dL_law_1288 : decode cL_law 1288 = .ok (.aload_n 2, 1) := by decide +kernel
theorem dL_law_1289 : decode cL_law 1289 = .ok (.invokevirtual 165, 3) := by decide +kernel
theorem dL_law_1292 : decode cL_law 1292 = .ok (.istore 6, 2) := by decide +kernel
theorem dL_law_1294 : decode cL_law 1294 = .ok (.aload_n 2, 1) := by decide +kernel
theorem dL_law_1295 : decode cL_law 1295 = .ok (.invokevirtual 79, 3) := by decide +kernel
theorem dL_law_1298 : decode cL_law 1298 = .ok (.iload 5, 2) := by decide +kernel
theorem dL_law_1300 : decode cL_law 1300 = .ok (.if_icmp .eq 5, 3) := by decide +kernel
theorem dL_law_1303 : decode cL_law 1303 = .ok (.iconst 0, 1) := by decide +kernel
theorem dL_law_1304 : decode cL_law 1304 = .ok (.ireturn, 1) := by decide +kernel
theorem dL_law_1305 : decode cL_law 1305 = .ok (.iload 5, 2) := by decide +kernel
theorem dL_law_1307 : decode cL_law 1307 = .ok (.ifCond .ne 15, 3) := by decide +kernel
theorem dL_law_1310 : decode cL_law 1310 = .ok (.aload_n 3, 1) := by decide +kernel
theorem dL_law_1311 : decode cL_law 1311 = .ok (.iconst 0, 1) := by decide +kernel
theorem dL_law_1312 : decode cL_law 1312 = .ok (.laload, 1) := by decide +kernel
theorem dL_law_1313 : decode cL_law 1313 = .ok (.iload 6, 2) := by decide +kernel
theorem dL_law_1315 : decode cL_law 1315 = .ok (.i2l, 1) := by decide +kernel
theorem dL_law_1316 : decode cL_law 1316 = .ok (.lcmp, 1) := by decide +kernel
theorem dL_law_1317 : decode cL_law 1317 = .ok (.ifCond .eq 5, 3) := by decide +kernel
theorem dL_law_1320 : decode cL_law 1320 = .ok (.iconst 0, 1) := by decide +kernel
theorem dL_law_1321 : decode cL_law 1321 = .ok (.ireturn, 1) := by decide +kernel
theorem dL_law_1322 : decode cL_law 1322 = .ok (.goto 17, 3) := by decide +kernel
theorem dL_law_1325 : decode cL_law 1325 = .ok (.aload_n 1, 1) := by decide +kernel
theorem dL_law_1326 : decode cL_law 1326 = .ok (.invokevirtual 166, 3) := by decide +kernel
theorem dL_law_1329 : decode cL_law 1329 = .ok (.aload_n 2, 1) := by decide +kernel
theorem dL_law_1330 : decode cL_law 1330 = .ok (.invokevirtual 169, 3) := by decide +kernel
theorem dL_law_1333 : decode cL_law 1333 = .ok (.lcmp, 1) := by decide +kernel
theorem dL_law_1334 : decode cL_law 1334 = .ok (.ifCond .eq 5, 3) := by decide +kernel
theorem dL_law_1337 : decode cL_law 1337 = .ok (.iconst 0, 1) := by decide +kernel
theorem dL_law_1338 : decode cL_law 1338 = .ok (.ireturn, 1) := by decide +kernel
theorem dL_law_1339 : decode cL_law 1339 = .ok (.iinc 4 3, 3) := by decide +kernel
theorem dL_law_1342 : decode cL_law 1342 = .ok (.goto (-1319), 3) := by decide +kernel
theorem dL_law_1345 : decode cL_law 1345 = .ok (.iconst 1, 1) := by decide +kernel
theorem dL_law_1346 : decode cL_law 1346 = .ok (.ireturn, 1) := by decide +kernel
