theorem dX12_layComes_51 : decode cX12_layComes 51 = .ok (.goto 9, 3) := by decide +kernel
theorem dX12_layComes_54 : decode cX12_layComes 54 = .ok (.aload_n 0, 1) := by decide +kernel
theorem dX12_layComes_55 : decode cX12_layComes 55 = .ok (.iload_n 2, 1) := by decide +kernel
theorem dX12_layComes_56 : decode cX12_layComes 56 = .ok (.iload_n 3, 1) := by decide +kernel
theorem dX12_layComes_57 : decode cX12_layComes 57 = .ok (.invokevirtual 246, 3) := by decide +kernel
theorem dX12_layComes_60 : decode cX12_layComes 60 = .ok (.istore 4, 2) := by decide +kernel
theorem dX12_layComes_62 : decode cX12_layComes 62 = .ok (.iload 4, 2) := by decide +kernel
theorem dX12_layComes_64 : decode cX12_layComes 64 = .ok (.ifCond .eq 10, 3) := by decide +kernel
theorem dX12_layComes_67 : decode cX12_layComes 67 = .ok (.aload_n 0, 1) := by decide +kernel
theorem dX12_layComes_68 : decode cX12_layComes 68 = .ok (.iload_n 2, 1) := by decide +kernel
theorem dX12_layComes_69 : decode cX12_layComes 69 = .ok (.iload_n 3, 1) := by decide +kernel
theorem dX12_layComes_70 : decode cX12_layComes 70 = .ok (.invokevirtual 269, 3) := by decide +kernel
theorem dX12_layComes_73 : decode cX12_layComes 73 = .ok (.pop, 1) := by decide +kernel
theorem dX12_layComes_74 : decode cX12_layComes 74 = .ok (.iinc 3 1, 3) := by decide +kernel
theorem dX12_layComes_77 : decode cX12_layComes 77 = .ok (.goto (-60), 3) := by decide +kernel
theorem dX12_layComes_80 : decode cX12_layComes 80 = .ok (.iinc 2 1, 3) := by decide +kernel
theorem dX12_layComes_83 : decode cX12_layComes 83 = .ok (.goto (-76), 3) := by decide +kernel
theorem dX12_layComes_86 : decode cX12_layComes 86 = .ok (.return_, 1) := by decide +kernel
theorem dX12_isSoInAll_0 : decode cX12_isSoInAll 0 = .ok (.iconst 1, 1) := by decide +kernel
theorem dX12_isSoInAll_1 : decode cX12_isSoInAll 1 = .ok (.istore_n 3, 1) := by decide +kernel
theorem dX12_isSoInAll_2 : decode cX12_isSoInAll 2 = .ok (.iconst 0, 1) := by decide +kernel
theorem dX12_isSoInAll_3 : decode cX12_isSoInAll 3 = .ok (.istore 4, 2) := by decide +kernel
theorem dX12_isSoInAll_5 : decode cX12_isSoInAll 5 = .ok (.iload 4, 2) := by decide +kernel
theorem dX12_isSoInAll_7 : decode cX12_isSoInAll 7 = .ok (.sipush 216, 3) := by decide +kernel
theorem dX12_isSoInAll_10 : decode cX12_isSoInAll 10 = .ok (.if_icmp .ge 39, 3) := by decide +kernel
theorem dX12_isSoInAll_13 : decode cX12_isSoInAll 13 = .ok (.iload_n 3, 1) := by decide +kernel
theorem dX12_isSoInAll_14 : decode cX12_isSoInAll 14 = .ok (.ifCond .eq 27, 3) := by decide +kernel
theorem dX12_isSoInAll_17 : decode cX12_isSoInAll 17 = .ok (.aload_n 0, 1) := by decide +kernel
theorem dX12_isSoInAll_18 : decode cX12_isSoInAll 18 = .ok (.iload_n 2, 1) := by decide +kernel
theorem dX12_isSoInAll_19 : decode cX12_isSoInAll 19 = .ok (.iload 4, 2) := by decide +kernel
theorem dX12_isSoInAll_21 : decode cX12_isSoInAll 21 = .ok (.invokevirtual 246, 3) := by decide +kernel
theorem dX12_isSoInAll_24 : decode cX12_isSoInAll 24 = .ok (.ifCond .eq 13, 3) := by decide +kernel
theorem dX12_isSoInAll_27 : decode cX12_isSoInAll 27 = .ok (.aload_n 0, 1) := by decide +kernel
theorem dX12_isSoInAll_28 : decode cX12_isSoInAll 28 = .ok (.iload_n 1, 1) := by decide +kernel
theorem dX12_isSoInAll_29 : decode cX12_isSoInAll 29 = .ok (.iload 4, 2) := by decide +kernel
theorem dX12_isSoInAll_31 : decode cX12_isSoInAll 31 = .ok (.invokevirtual 239, 3) := by decide +kernel
theorem dX12_isSoInAll_34 : decode cX12_isSoInAll 34 = .ok (.ifCond .eq 7, 3) := by decide +kernel
theorem dX12_isSoInAll_37 : decode cX12_isSoInAll 37 = .ok (.iconst 1, 1) := by decide +kernel
theorem dX12_isSoInAll_38 : decode cX12_isSoInAll 38 = .ok (.goto 4, 3) := by decide +kernel
theorem dX12_isSoInAll_41 : decode cX12_isSoInAll 41 = .ok (.iconst 0, 1) := by decide +kernel
theorem dX12_isSoInAll_42 : decode cX12_isSoInAll 42 = .ok (.istore_n 3, 1) := by decide +kernel
theorem dX12_isSoInAll_43 : decode cX12_isSoInAll 43 = .ok (.iinc 4 1, 3) := by decide +kernel
theorem dX12_isSoInAll_46 : decode cX12_isSoInAll 46 = .ok (.goto (-41), 3) := by decide +kernel
theorem dX12_isSoInAll_49 : decode cX12_isSoInAll 49 = .ok (.iload_n 3, 1) := by decide +kernel
theorem dX12_isSoInAll_50 : decode cX12_isSoInAll 50 = .ok (.ireturn, 1) := by decide +kernel
theorem dX12_giveUp_0 : decode cX12_giveUp 0 = .ok (.iconst 0, 1) := by decide +kernel
theorem dX12_giveUp_1 : decode cX12_giveUp 1 = .ok (.istore_n 1, 1) := by decide +kernel
theorem dX12_giveUp_2 : decode cX12_giveUp 2 = .ok (.iconst 0, 1) := by decide +kernel
theorem dX12_giveUp_3 : decode cX12_giveUp 3 = .ok (.istore_n 2, 1) := by decide +kernel
theorem dX12_giveUp_4 : decode cX12_giveUp 4 = .ok (.iload_n 2, 1) := by decide +kernel
theorem dX12_giveUp_5 : decode cX12_giveUp 5 = .ok (.aload_n 0, 1) := by decide +kernel
theorem dX12_giveUp_6 : decode cX12_giveUp 6 = .ok (.getfield 205, 3) := by decide +kernel
theorem dX12_giveUp_9 : decode cX12_giveUp 9 = .ok (.if_icmp .ge 85, 3) := by decide +kernel
theorem dX12_giveUp_12 : decode cX12_giveUp 12 = .ok (.iconst 0, 1) := by decide +kernel
theorem dX12_giveUp_13 : decode cX12_giveUp 13 = .ok (.istore_n 3, 1) := by decide +kernel
theorem dX12_giveUp_14 : decode cX12_giveUp 14 = .ok (.iload_n 3, 1) := by decide +kernel
theorem dX12_giveUp_15 : decode cX12_giveUp 15 = .ok (.aload_n 0, 1) := by decide +kernel
theorem dX12_giveUp_16 : decode cX12_giveUp 16 = .ok (.getfield 217, 3) := by decide +kernel
theorem dX12_giveUp_19 : decode cX12_giveUp 19 = .ok (.if_icmp .ge 69, 3) := by decide +kernel
theorem dX12_giveUp_22 : decode cX12_giveUp 22 = .ok (.aload_n 0, 1) := by decide +kernel
theorem dX12_giveUp_23 : decode cX12_giveUp 23 = .ok (.getfield 13, 3) := by decide +kernel
theorem dX12_giveUp_26 : decode cX12_giveUp 26 = .ok (.iload_n 2, 1) := by decide +kernel
theorem dX12_giveUp_27 : decode cX12_giveUp 27 = .ok (.iaload, 1) := by decide +kernel
theorem dX12_giveUp_28 : decode cX12_giveUp 28 = .ok (.bipush 6, 2) := by decide +kernel
theorem dX12_giveUp_30 : decode cX12_giveUp 30 = .ok (.if_icmp .ne 58, 3) := by decide +kernel
theorem dX12_giveUp_33 : decode cX12_giveUp 33 = .ok (.aload_n 0, 1) := by decide +kernel
theorem dX12_giveUp_34 : decode cX12_giveUp 34 = .ok (.getfield 99, 3) := by decide +kernel
theorem dX12_giveUp_37 : decode cX12_giveUp 37 = .ok (.aload_n 0, 1) := by decide +kernel
theorem dX12_giveUp_38 : decode cX12_giveUp 38 = .ok (.getfield 25, 3) := by decide +kernel
theorem dX12_giveUp_41 : decode cX12_giveUp 41 = .ok (.iload_n 2, 1) := by decide +kernel
theorem dX12_giveUp_42 : decode cX12_giveUp 42 = .ok (.iaload, 1) := by decide +kernel
theorem dX12_giveUp_43 : decode cX12_giveUp 43 = .ok (.iaload, 1) := by decide +kernel
theorem dX12_giveUp_44 : decode cX12_giveUp 44 = .ok (.iload_n 3, 1) := by decide +kernel
theorem dX12_giveUp_45 : decode cX12_giveUp 45 = .ok (.invokestatic 236, 3) := by decide +kernel
theorem dX12_giveUp_48 : decode cX12_giveUp 48 = .ok (.ifCond .eq 34, 3) := by decide +kernel
theorem dX12_giveUp_51 : decode cX12_giveUp 51 = .ok (.aload_n 0, 1) := by decide +kernel
theorem dX12_giveUp_52 : decode cX12_giveUp 52 = .ok (.iload_n 3, 1) := by decide +kernel
theorem dX12_giveUp_53 : decode cX12_giveUp 53 = .ok (.iload_n 2, 1) := by decide +kernel
theorem dX12_giveUp_54 : decode cX12_giveUp 54 = .ok (.invokevirtual 272, 3) := by decide +kernel
theorem dX12_giveUp_57 : decode cX12_giveUp 57 = .ok (.ifCond .ne 25, 3) := by decide +kernel
theorem dX12_giveUp_60 : decode cX12_giveUp 60 = .ok (.aload_n 0, 1) := by decide +kernel
theorem dX12_giveUp_61 : decode cX12_giveUp 61 = .ok (.getfield 99, 3) := by decide +kernel
theorem dX12_giveUp_64 : decode cX12_giveUp 64 = .ok (.aload_n 0, 1) := by decide +kernel
theorem dX12_giveUp_65 : decode cX12_giveUp 65 = .ok (.getfield 25, 3) := by decide +kernel
theorem dX12_giveUp_68 : decode cX12_giveUp 68 = .ok (.iload_n 2, 1) := by decide +kernel
theorem dX12_giveUp_69 : decode cX12_giveUp 69 = .ok (.iaload, 1) := by decide +kernel
theorem dX12_giveUp_70 : decode cX12_giveUp 70 = .ok (.dup2, 1) := by decide +kernel
theorem dX12_giveUp_71 : decode cX12_giveUp 71 = .ok (.iaload, 1) := by decide +kernel
theorem dX12_giveUp_72 : decode cX12_giveUp 72 = .ok (.iconst 1, 1) := by decide +kernel
theorem dX12_giveUp_73 : decode cX12_giveUp 73 = .ok (.iload_n 3, 1) := by decide +kernel
theorem dX12_giveUp_74 : decode cX12_giveUp 74 = .ok (.ishl, 1) := by decide +kernel
theorem dX12_giveUp_75 : decode cX12_giveUp 75 = .ok (.iconst (-1), 1) := by decide +kernel
theorem dX12_giveUp_76 : decode cX12_giveUp 76 = .ok (.ixor, 1) := by decide +kernel
theorem dX12_giveUp_77 : decode cX12_giveUp 77 = .ok (.iand, 1) := by decide +kernel
theorem dX12_giveUp_78 : decode cX12_giveUp 78 = .ok (.iastore, 1) := by decide +kernel
theorem dX12_giveUp_79 : decode cX12_giveUp 79 = .ok (.iinc 1 1, 3) := by decide +kernel
theorem dX12_giveUp_82 : decode cX12_giveUp 82 = .ok (.iinc 3 1, 3) := by decide +kernel
theorem dX12_giveUp_85 : decode cX12_giveUp 85 = .ok (.goto (-71), 3) := by decide +kernel
theorem dX12_giveUp_88 : decode cX12_giveUp 88 = .ok (.iinc 2 1, 3) := by decide +kernel
theorem dX12_giveUp_91 : decode cX12_giveUp 91 = .ok (.goto (-87), 3) := by decide +kernel
theorem dX12_giveUp_94 : decode cX12_giveUp 94 = .ok (.iload_n 1, 1) := by decide +kernel
theorem dX12_giveUp_95 : decode cX12_giveUp 95 = .ok (.ireturn, 1) := by decide +kernel
theorem dX12_findInvariants_0 : decode cX12_findInvariants 0 = .ok (.iconst 0, 1) := by decide +kernel
theorem dX12_findInvariants_1 : decode cX12_findInvariants 1 = .ok (.istore_n 3, 1) := by decide +kernel
theorem dX12_findInvariants_2 : decode cX12_findInvariants 2 = .ok (.iload_n 3, 1) := by decide +kernel
theorem dX12_findInvariants_3 : decode cX12_findInvariants 3 = .ok (.iconst 3, 1) := by decide +kernel
theorem dX12_findInvariants_4 : decode cX12_findInvariants 4 = .ok (.if_icmp .ge 16, 3) := by decide +kernel
theorem dX12_findInvariants_7 : decode cX12_findInvariants 7 = .ok (.aload_n 0, 1) := by decide +kernel
theorem dX12_findInvariants_8 : decode cX12_findInvariants 8 = .ok (.getfield 99, 3) := by decide +kernel
theorem dX12_findInvariants_11 : decode cX12_findInvariants 11 = .ok (.iload_n 3, 1) := by decide +kernel
theorem dX12_findInvariants_12 : decode cX12_findInvariants 12 = .ok (.iload_n 2, 1) := by decide +kernel
theorem dX12_findInvariants_13 : decode cX12_findInvariants 13 = .ok (.iastore, 1) := by decide +kernel
theorem dX12_findInvariants_14 : decode cX12_findInvariants 14 = .ok (.iinc 3 1, 3) := by decide +kernel
theorem dX12_findInvariants_17 : decode cX12_findInvariants 17 = .ok (.goto (-15), 3) := by decide +kernel
theorem dX12_findInvariants_20 : decode cX12_findInvariants 20 = .ok (.aload_n 0, 1) := by decide +kernel
theorem dX12_findInvariants_21 : decode cX12_findInvariants 21 = .ok (.aload_n 1, 1) := by decide +kernel
theorem dX12_findInvariants_22 : decode cX12_findInvariants 22 = .ok (.invokevirtual 275, 3) := by decide +kernel
theorem dX12_findInvariants_25 : decode cX12_findInvariants 25 = .ok (.iconst 0, 1) := by decide +kernel
theorem dX12_findInvariants_26 : decode cX12_findInvariants 26 = .ok (.istore_n 3, 1) := by decide +kernel
theorem dX12_findInvariants_27 : decode cX12_findInvariants 27 = .ok (.iload_n 3, 1) := by decide +kernel
theorem dX12_findInvariants_28 : decode cX12_findInvariants 28 = .ok (.bipush 15, 2) := by decide +kernel
theorem dX12_findInvariants_30 : decode cX12_findInvariants 30 = .ok (.if_icmp .ge 21, 3) := by decide +kernel
theorem dX12_findInvariants_33 : decode cX12_findInvariants 33 = .ok (.aload_n 0, 1) := by decide +kernel
theorem dX12_findInvariants_34 : decode cX12_findInvariants 34 = .ok (.invokevirtual 278, 3) := by decide +kernel
theorem dX12_findInvariants_37 : decode cX12_findInvariants 37 = .ok (.ifCond .le 14, 3) := by decide +kernel
theorem dX12_findInvariants_40 : decode cX12_findInvariants 40 = .ok (.aload_n 0, 1) := by decide +kernel
theorem dX12_findInvariants_41 : decode cX12_findInvariants 41 = .ok (.aload_n 1, 1) := by decide +kernel
theorem dX12_findInvariants_42 : decode cX12_findInvariants 42 = .ok (.invokevirtual 275, 3) := by decide +kernel
theorem dX12_findInvariants_45 : decode cX12_findInvariants 45 = .ok (.iinc 3 1, 3) := by decide +kernel
theorem dX12_findInvariants_48 : decode cX12_findInvariants 48 = .ok (.goto (-21), 3) := by decide +kernel
theorem dX12_findInvariants_51 : decode cX12_findInvariants 51 = .ok (.return_, 1) := by decide +kernel
theorem dX12_left_0 : decode cX12_left 0 = .ok (.iconst 1, 1) := by decide +kernel
theorem dX12_left_1 : decode cX12_left 1 = .ok (.aload_n 0, 1) := by decide +kernel
theorem dX12_left_2 : decode cX12_left 2 = .ok (.getfield 217, 3) := by decide +kernel
theorem dX12_left_5 : decode cX12_left 5 = .ok (.ishl, 1) := by decide +kernel
theorem dX12_left_6 : decode cX12_left 6 = .ok (.iconst 1, 1) := by decide +kernel
theorem dX12_left_7 : decode cX12_left 7 = .ok (.isub, 1) := by decide +kernel
theorem dX12_left_8 : decode cX12_left 8 = .ok (.aload_n 1, 1) := by decide +kernel
theorem dX12_left_9 : decode cX12_left 9 = .ok (.iconst 3, 1) := by decide +kernel
theorem dX12_left_10 : decode cX12_left 10 = .ok (.iaload, 1) := by decide +kernel
theorem dX12_left_11 : decode cX12_left 11 = .ok (.iconst (-1), 1) := by decide +kernel
theorem dX12_left_12 : decode cX12_left 12 = .ok (.ixor, 1) := by decide +kernel
theorem dX12_left_13 : decode cX12_left 13 = .ok (.iand, 1) := by decide +kernel
theorem dX12_left_14 : decode cX12_left 14 = .ok (.ireturn, 1) := by decide +kernel
theorem dX12_invariants_0 : decode cX12_invariants 0 = .ok (.aload_n 0, 1) := by decide +kernel
theorem dX12_invariants_1 : decode cX12_invariants 1 = .ok (.aload_n 1, 1) := by decide +kernel
theorem dX12_invariants_2 : decode cX12_invariants 2 = .ok (.aload_n 0, 1) := by decide +kernel
theorem dX12_invariants_3 : decode cX12_invariants 3 = .ok (.aload_n 1, 1) := by decide +kernel
theorem dX12_invariants_4 : decode cX12_invariants 4 = .ok (.invokevirtual 281, 3) := by decide +kernel
theorem dX12_invariants_7 : decode cX12_invariants 7 = .ok (.invokevirtual 285, 3) := by decide +kernel
theorem dX12_invariants_10 : decode cX12_invariants 10 = .ok (.return_, 1) := by decide +kernel
theorem dX12_goOnFresh_0 : decode cX12_goOnFresh 0 = .ok (.iconst 0, 1) := by decide +kernel
theorem dX12_goOnFresh_1 : decode cX12_goOnFresh 1 = .ok (.istore_n 2, 1) := by decide +kernel
theorem dX12_goOnFresh_2 : decode cX12_goOnFresh 2 = .ok (.iconst 0, 1) := by decide +kernel
theorem dX12_goOnFresh_3 : decode cX12_goOnFresh 3 = .ok (.istore_n 3, 1) := by decide +kernel
theorem dX12_goOnFresh_4 : decode cX12_goOnFresh 4 = .ok (.iload_n 3, 1) := by decide +kernel
theorem dX12_goOnFresh_5 : decode cX12_goOnFresh 5 = .ok (.iconst 4, 1) := by decide +kernel
theorem dX12_goOnFresh_6 : decode cX12_goOnFresh 6 = .ok (.if_icmp .ge 91, 3) := by decide +kernel
theorem dX12_goOnFresh_9 : decode cX12_goOnFresh 9 = .ok (.aload_n 0, 1) := by decide +kernel
theorem dX12_goOnFresh_10 : decode cX12_goOnFresh 10 = .ok (.getfield 96, 3) := by decide +kernel
theorem dX12_goOnFresh_13 : decode cX12_goOnFresh 13 = .ok (.iconst 4, 1) := by decide +kernel
theorem dX12_goOnFresh_14 : decode cX12_goOnFresh 14 = .ok (.iload_n 1, 1) := by decide +kernel
theorem dX12_goOnFresh_15 : decode cX12_goOnFresh 15 = .ok (.imul, 1) := by decide +kernel
theorem dX12_goOnFresh_16 : decode cX12_goOnFresh 16 = .ok (.iload_n 3, 1) := by decide +kernel
theorem dX12_goOnFresh_17 : decode cX12_goOnFresh 17 = .ok (.iadd, 1) := by decide +kernel
theorem dX12_goOnFresh_18 : decode cX12_goOnFresh 18 = .ok (.laload, 1) := by decide +kernel
theorem dX12_goOnFresh_19 : decode cX12_goOnFresh 19 = .ok (.lstore 4, 2) := by decide +kernel
theorem dX12_goOnFresh_21 : decode cX12_goOnFresh 21 = .ok (.aload_n 0, 1) := by decide +kernel
theorem dX12_goOnFresh_22 : decode cX12_goOnFresh 22 = .ok (.getfield 96, 3) := by decide +kernel
theorem dX12_goOnFresh_25 : decode cX12_goOnFresh 25 = .ok (.iconst 4, 1) := by decide +kernel
theorem dX12_goOnFresh_26 : decode cX12_goOnFresh 26 = .ok (.iload_n 1, 1) := by decide +kernel
theorem dX12_goOnFresh_27 : decode cX12_goOnFresh 27 = .ok (.imul, 1) := by decide +kernel
theorem dX12_goOnFresh_28 : decode cX12_goOnFresh 28 = .ok (.iload_n 3, 1) := by decide +kernel
theorem dX12_goOnFresh_29 : decode cX12_goOnFresh 29 = .ok (.iadd, 1) := by decide +kernel
theorem dX12_goOnFresh_30 : decode cX12_goOnFresh 30 = .ok (.lconst 0, 1) := by decide +kernel
theorem dX12_goOnFresh_31 : decode cX12_goOnFresh 31 = .ok (.lastore, 1) := by decide +kernel
theorem dX12_goOnFresh_32 : decode cX12_goOnFresh 32 = .ok (.iload_n 2, 1) := by decide +kernel
theorem dX12_goOnFresh_33 : decode cX12_goOnFresh 33 = .ok (.ifCond .ne 10, 3) := by decide +kernel
theorem dX12_goOnFresh_36 : decode cX12_goOnFresh 36 = .ok (.lload 4, 2) := by decide +kernel
theorem dX12_goOnFresh_38 : decode cX12_goOnFresh 38 = .ok (.lconst 0, 1) := by decide +kernel
theorem dX12_goOnFresh_39 : decode cX12_goOnFresh 39 = .ok (.lcmp, 1) := by decide +kernel
theorem dX12_goOnFresh_40 : decode cX12_goOnFresh 40 = .ok (.ifCond .eq 7, 3) := by decide +kernel
theorem dX12_goOnFresh_43 : decode cX12_goOnFresh 43 = .ok (.iconst 1, 1) := by decide +kernel
theorem dX12_goOnFresh_44 : decode cX12_goOnFresh 44 = .ok (.goto 4, 3) := by decide +kernel
theorem dX12_goOnFresh_47 : decode cX12_goOnFresh 47 = .ok (.iconst 0, 1) := by decide +kernel
theorem dX12_goOnFresh_48 : decode cX12_goOnFresh 48 = .ok (.istore_n 2, 1) := by decide +kernel
theorem dX12_goOnFresh_49 : decode cX12_goOnFresh 49 = .ok (.bipush 54, 2) := by decide +kernel
theorem dX12_goOnFresh_51 : decode cX12_goOnFresh 51 = .ok (.iload_n 3, 1) := by decide +kernel
theorem dX12_goOnFresh_52 : decode cX12_goOnFresh 52 = .ok (.imul, 1) := by decide +kernel
theorem dX12_goOnFresh_53 : decode cX12_goOnFresh 53 = .ok (.istore 6, 2) := by decide +kernel
theorem dX12_goOnFresh_55 : decode cX12_goOnFresh 55 = .ok (.lload 4, 2) := by decide +kernel
theorem dX12_goOnFresh_57 : decode cX12_goOnFresh 57 = .ok (.lconst 0, 1) := by decide +kernel
theorem dX12_goOnFresh_58 : decode cX12_goOnFresh 58 = .ok (.lcmp, 1) := by decide +kernel
theorem dX12_goOnFresh_59 : decode cX12_goOnFresh 59 = .ok (.ifCond .eq 32, 3) := by decide +kernel
theorem dX12_goOnFresh_62 : decode cX12_goOnFresh 62 = .ok (.lload 4, 2) := by decide +kernel
theorem dX12_goOnFresh_64 : decode cX12_goOnFresh 64 = .ok (.lconst 1, 1) := by decide +kernel
theorem dX12_goOnFresh_65 : decode cX12_goOnFresh 65 = .ok (.land, 1) := by decide +kernel
theorem dX12_goOnFresh_66 : decode cX12_goOnFresh 66 = .ok (.lconst 1, 1) := by decide +kernel
theorem dX12_goOnFresh_67 : decode cX12_goOnFresh 67 = .ok (.lcmp, 1) := by decide +kernel
theorem dX12_goOnFresh_68 : decode cX12_goOnFresh 68 = .ok (.ifCond .ne 11, 3) := by decide +kernel
theorem dX12_goOnFresh_71 : decode cX12_goOnFresh 71 = .ok (.aload_n 0, 1) := by decide +kernel
theorem dX12_goOnFresh_72 : decode cX12_goOnFresh 72 = .ok (.iload_n 1, 1) := by decide +kernel
theorem dX12_goOnFresh_73 : decode cX12_goOnFresh 73 = .ok (.iload 6, 2) := by decide +kernel
theorem dX12_goOnFresh_75 : decode cX12_goOnFresh 75 = .ok (.invokevirtual 269, 3) := by decide +kernel
theorem dX12_goOnFresh_78 : decode cX12_goOnFresh 78 = .ok (.pop, 1) := by decide +kernel
theorem dX12_goOnFresh_79 : decode cX12_goOnFresh 79 = .ok (.lload 4, 2) := by decide +kernel
theorem dX12_goOnFresh_81 : decode cX12_goOnFresh 81 = .ok (.iconst 1, 1) := by decide +kernel
theorem dX12_goOnFresh_82 : decode cX12_goOnFresh 82 = .ok (.lshr, 1) := by decide +kernel
theorem dX12_goOnFresh_83 : decode cX12_goOnFresh 83 = .ok (.lstore 4, 2) := by decide +kernel
theorem dX12_goOnFresh_85 : decode cX12_goOnFresh 85 = .ok (.iinc 6 1, 3) := by decide +kernel
theorem dX12_goOnFresh_88 : decode cX12_goOnFresh 88 = .ok (.goto (-33), 3) := by decide +kernel
theorem dX12_goOnFresh_91 : decode cX12_goOnFresh 91 = .ok (.iinc 3 1, 3) := by decide +kernel
theorem dX12_goOnFresh_94 : decode cX12_goOnFresh 94 = .ok (.goto (-90), 3) := by decide +kernel
theorem dX12_goOnFresh_97 : decode cX12_goOnFresh 97 = .ok (.iload_n 2, 1) := by decide +kernel
theorem dX12_goOnFresh_98 : decode cX12_goOnFresh 98 = .ok (.ireturn, 1) := by decide +kernel
theorem dX12_layReached_0 : decode cX12_layReached 0 = .ok (.aload_n 0, 1) := by decide +kernel
theorem dX12_layReached_1 : decode cX12_layReached 1 = .ok (.aload_n 1, 1) := by decide +kernel
theorem dX12_layReached_2 : decode cX12_layReached 2 = .ok (.invokevirtual 262, 3) := by decide +kernel
theorem dX12_layReached_5 : decode cX12_layReached 5 = .ok (.iconst 1, 1) := by decide +kernel
theorem dX12_layReached_6 : decode cX12_layReached 6 = .ok (.istore_n 2, 1) := by decide +kernel
theorem dX12_layReached_7 : decode cX12_layReached 7 = .ok (.iload_n 2, 1) := by decide +kernel
theorem dX12_layReached_8 : decode cX12_layReached 8 = .ok (.ifCond .eq 42, 3) := by decide +kernel
theorem dX12_layReached_11 : decode cX12_layReached 11 = .ok (.iconst 0, 1) := by decide +kernel
theorem dX12_layReached_12 : decode cX12_layReached 12 = .ok (.istore_n 2, 1) := by decide +kernel
theorem dX12_layReached_13 : decode cX12_layReached 13 = .ok (.iconst 0, 1) := by decide +kernel
theorem dX12_layReached_14 : decode cX12_layReached 14 = .ok (.istore_n 3, 1) := by decide +kernel
theorem dX12_layReached_15 : decode cX12_layReached 15 = .ok (.iload_n 3, 1) := by decide +kernel
theorem dX12_layReached_16 : decode cX12_layReached 16 = .ok (.aload_n 0, 1) := by decide +kernel
theorem dX12_layReached_17 : decode cX12_layReached 17 = .ok (.getfield 205, 3) := by decide +kernel
theorem dX12_layReached_20 : decode cX12_layReached 20 = .ok (.if_icmp .ge 27, 3) := by decide +kernel
theorem dX12_layReached_23 : decode cX12_layReached 23 = .ok (.aload_n 0, 1) := by decide +kernel
theorem dX12_layReached_24 : decode cX12_layReached 24 = .ok (.iload_n 3, 1) := by decide +kernel
theorem dX12_layReached_25 : decode cX12_layReached 25 = .ok (.invokevirtual 289, 3) := by decide +kernel
theorem dX12_layReached_28 : decode cX12_layReached 28 = .ok (.ifCond .ne 7, 3) := by decide +kernel
theorem dX12_layReached_31 : decode cX12_layReached 31 = .ok (.iload_n 2, 1) := by decide +kernel
theorem dX12_layReached_32 : decode cX12_layReached 32 = .ok (.ifCond .eq 7, 3) := by decide +kernel
theorem dX12_layReached_35 : decode cX12_layReached 35 = .ok (.iconst 1, 1) := by decide +kernel
theorem dX12_layReached_36 : decode cX12_layReached 36 = .ok (.goto 4, 3) := by decide +kernel
theorem dX12_layReached_39 : decode cX12_layReached 39 = .ok (.iconst 0, 1) := by decide +kernel
theorem dX12_layReached_40 : decode cX12_layReached 40 = .ok (.istore_n 2, 1) := by decide +kernel
theorem dX12_layReached_41 : decode cX12_layReached 41 = .ok (.iinc 3 1, 3) := by decide +kernel
theorem dX12_layReached_44 : decode cX12_layReached 44 = .ok (.goto (-29), 3) := by decide +kernel
theorem dX12_layReached_47 : decode cX12_layReached 47 = .ok (.goto (-40), 3) := by decide +kernel
theorem dX12_layReached_50 : decode cX12_layReached 50 = .ok (.return_, 1) := by decide +kernel
theorem dX12_nodeOf_0 : decode cX12_nodeOf 0 = .ok (.bipush (-9), 2) := by decide +kernel
theorem dX12_nodeOf_2 : decode cX12_nodeOf 2 = .ok (.istore_n 3, 1) := by decide +kernel
theorem dX12_nodeOf_3 : decode cX12_nodeOf 3 = .ok (.iconst 0, 1) := by decide +kernel
theorem dX12_nodeOf_4 : decode cX12_nodeOf 4 = .ok (.istore 4, 2) := by decide +kernel
theorem dX12_nodeOf_6 : decode cX12_nodeOf 6 = .ok (.iload 4, 2) := by decide +kernel
theorem dX12_nodeOf_8 : decode cX12_nodeOf 8 = .ok (.aload_n 0, 1) := by decide +kernel
theorem dX12_nodeOf_9 : decode cX12_nodeOf 9 = .ok (.getfield 205, 3) := by decide +kernel
theorem dX12_nodeOf_12 : decode cX12_nodeOf 12 = .ok (.if_icmp .ge 38, 3) := by decide +kernel
theorem dX12_nodeOf_15 : decode cX12_nodeOf 15 = .ok (.aload_n 0, 1) := by decide +kernel
theorem dX12_nodeOf_16 : decode cX12_nodeOf 16 = .ok (.getfield 13, 3) := by decide +kernel
theorem dX12_nodeOf_19 : decode cX12_nodeOf 19 = .ok (.iload 4, 2) := by decide +kernel
theorem dX12_nodeOf_21 : decode cX12_nodeOf 21 = .ok (.iaload, 1) := by decide +kernel
theorem dX12_nodeOf_22 : decode cX12_nodeOf 22 = .ok (.iload_n 1, 1) := by decide +kernel
theorem dX12_nodeOf_23 : decode cX12_nodeOf 23 = .ok (.if_icmp .ne 19, 3) := by decide +kernel
theorem dX12_nodeOf_26 : decode cX12_nodeOf 26 = .ok (.aload_n 0, 1) := by decide +kernel
theorem dX12_nodeOf_27 : decode cX12_nodeOf 27 = .ok (.getfield 25, 3) := by decide +kernel
theorem dX12_nodeOf_30 : decode cX12_nodeOf 30 = .ok (.iload 4, 2) := by decide +kernel
theorem dX12_nodeOf_32 : decode cX12_nodeOf 32 = .ok (.iaload, 1) := by decide +kernel
theorem dX12_nodeOf_33 : decode cX12_nodeOf 33 = .ok (.iload_n 2, 1) := by decide +kernel
theorem dX12_nodeOf_34 : decode cX12_nodeOf 34 = .ok (.if_icmp .ne 8, 3) := by decide +kernel
theorem dX12_nodeOf_37 : decode cX12_nodeOf 37 = .ok (.iload 4, 2) := by decide +kernel
theorem dX12_nodeOf_39 : decode cX12_nodeOf 39 = .ok (.goto 4, 3) := by decide +kernel
theorem dX12_nodeOf_42 : decode cX12_nodeOf 42 = .ok (.iload_n 3, 1) := by decide +kernel
theorem dX12_nodeOf_43 : decode cX12_nodeOf 43 = .ok (.istore_n 3, 1) := by decide +kernel
theorem dX12_nodeOf_44 : decode cX12_nodeOf 44 = .ok (.iinc 4 1, 3) := by decide +kernel
theorem dX12_nodeOf_47 : decode cX12_nodeOf 47 = .ok (.goto (-41), 3) := by decide +kernel
theorem dX12_nodeOf_50 : decode cX12_nodeOf 50 = .ok (.iload_n 3, 1) := by decide +kernel
theorem dX12_nodeOf_51 : decode cX12_nodeOf 51 = .ok (.ireturn, 1) := by decide +kernel
theorem dX12_failing_0 : decode cX12_failing 0 = .ok (.aload_n 0, 1) := by decide +kernel
theorem dX12_failing_1 : decode cX12_failing 1 = .ok (.iconst 5, 1) := by decide +kernel
theorem dX12_failing_2 : decode cX12_failing 2 = .ok (.iload_n 1, 1) := by decide +kernel
theorem dX12_failing_3 : decode cX12_failing 3 = .ok (.invokevirtual 292, 3) := by decide +kernel
theorem dX12_failing_6 : decode cX12_failing 6 = .ok (.istore_n 2, 1) := by decide +kernel
theorem dX12_failing_7 : decode cX12_failing 7 = .ok (.iconst 0, 1) := by decide +kernel
theorem dX12_failing_8 : decode cX12_failing 8 = .ok (.istore_n 3, 1) := by decide +kernel
theorem dX12_failing_9 : decode cX12_failing 9 = .ok (.iload_n 3, 1) := by decide +kernel
theorem dX12_failing_10 : decode cX12_failing 10 = .ok (.sipush 216, 3) := by decide +kernel
theorem dX12_failing_13 : decode cX12_failing 13 = .ok (.if_icmp .ge 32, 3) := by decide +kernel
theorem dX12_failing_16 : decode cX12_failing 16 = .ok (.aload_n 0, 1) := by decide +kernel
theorem dX12_failing_17 : decode cX12_failing 17 = .ok (.iload_n 2, 1) := by decide +kernel
theorem dX12_failing_18 : decode cX12_failing 18 = .ok (.iload_n 3, 1) := by decide +kernel
theorem dX12_failing_19 : decode cX12_failing 19 = .ok (.invokevirtual 246, 3) := by decide +kernel
theorem dX12_failing_22 : decode cX12_failing 22 = .ok (.ifCond .eq 17, 3) := by decide +kernel
theorem dX12_failing_25 : decode cX12_failing 25 = .ok (.aload_n 0, 1) := by decide +kernel
theorem dX12_failing_26 : decode cX12_failing 26 = .ok (.iload_n 2, 1) := by decide +kernel
theorem dX12_failing_27 : decode cX12_failing 27 = .ok (.iload_n 3, 1) := by decide +kernel
theorem dX12_failing_28 : decode cX12_failing 28 = .ok (.invokevirtual 255, 3) := by decide +kernel
theorem dX12_failing_31 : decode cX12_failing 31 = .ok (.ifCond .ne 8, 3) := by decide +kernel
theorem dX12_failing_34 : decode cX12_failing 34 = .ok (.iload_n 3, 1) := by decide +kernel
theorem dX12_failing_35 : decode cX12_failing 35 = .ok (.invokestatic 295, 3) := by decide +kernel
theorem dX12_failing_38 : decode cX12_failing 38 = .ok (.ireturn, 1) := by decide +kernel
theorem dX12_failing_39 : decode cX12_failing 39 = .ok (.iinc 3 1, 3) := by decide +kernel
theorem dX12_failing_42 : decode cX12_failing 42 = .ok (.goto (-33), 3) := by decide +kernel
theorem dX12_failing_45 : decode cX12_failing 45 = .ok (.bipush (-9), 2) := by decide +kernel
theorem dX12_failing_47 : decode cX12_failing 47 = .ok (.ireturn, 1) := by decide +kernel
theorem dX12_fine_0 : decode cX12_fine 0 = .ok (.iconst 0, 1) := by decide +kernel
theorem dX12_fine_1 : decode cX12_fine 1 = .ok (.istore_n 1, 1) := by decide +kernel
theorem dX12_fine_2 : decode cX12_fine 2 = .ok (.iconst 0, 1) := by decide +kernel
theorem dX12_fine_3 : decode cX12_fine 3 = .ok (.istore_n 2, 1) := by decide +kernel
theorem dX12_fine_4 : decode cX12_fine 4 = .ok (.iload_n 2, 1) := by decide +kernel
theorem dX12_fine_5 : decode cX12_fine 5 = .ok (.aload_n 0, 1) := by decide +kernel
theorem dX12_fine_6 : decode cX12_fine 6 = .ok (.getfield 208, 3) := by decide +kernel
theorem dX12_fine_9 : decode cX12_fine 9 = .ok (.if_icmp .ge 29, 3) := by decide +kernel
theorem dX12_fine_12 : decode cX12_fine 12 = .ok (.iload_n 1, 1) := by decide +kernel
theorem dX12_fine_13 : decode cX12_fine 13 = .ok (.aload_n 0, 1) := by decide +kernel
theorem dX12_fine_14 : decode cX12_fine 14 = .ok (.iload_n 2, 1) := by decide +kernel
theorem dX12_fine_15 : decode cX12_fine 15 = .ok (.invokevirtual 298, 3) := by decide +kernel
theorem dX12_fine_18 : decode cX12_fine 18 = .ok (.bipush (-9), 2) := by decide +kernel
theorem dX12_fine_20 : decode cX12_fine 20 = .ok (.if_icmp .ne 9, 3) := by decide +kernel
theorem dX12_fine_23 : decode cX12_fine 23 = .ok (.iconst 1, 1) := by decide +kernel
theorem dX12_fine_24 : decode cX12_fine 24 = .ok (.iload_n 2, 1) := by decide +kernel
theorem dX12_fine_25 : decode cX12_fine 25 = .ok (.ishl, 1) := by decide +kernel
theorem dX12_fine_26 : decode cX12_fine 26 = .ok (.goto 4, 3) := by decide +kernel
theorem dX12_fine_29 : decode cX12_fine 29 = .ok (.iconst 0, 1) := by decide +kernel
theorem dX12_fine_30 : decode cX12_fine 30 = .ok (.ior, 1) := by decide +kernel
theorem dX12_fine_31 : decode cX12_fine 31 = .ok (.istore_n 1, 1) := by decide +kernel
theorem dX12_fine_32 : decode cX12_fine 32 = .ok (.iinc 2 1, 3) := by decide +kernel
theorem dX12_fine_35 : decode cX12_fine 35 = .ok (.goto (-31), 3) := by decide +kernel
theorem dX12_fine_38 : decode cX12_fine 38 = .ok (.iload_n 1, 1) := by decide +kernel
theorem dX12_fine_39 : decode cX12_fine 39 = .ok (.ireturn, 1) := by decide +kernel
theorem dX12_provedBy_0 : decode cX12_provedBy 0 = .ok (.aload_n 0, 1) := by decide +kernel
theorem dX12_provedBy_1 : decode cX12_provedBy 1 = .ok (.aload_n 1, 1) := by decide +kernel
theorem dX12_provedBy_2 : decode cX12_provedBy 2 = .ok (.iload_n 2, 1) := by decide +kernel
theorem dX12_provedBy_3 : decode cX12_provedBy 3 = .ok (.invokevirtual 285, 3) := by decide +kernel
theorem dX12_provedBy_6 : decode cX12_provedBy 6 = .ok (.aload_n 0, 1) := by decide +kernel
theorem dX12_provedBy_7 : decode cX12_provedBy 7 = .ok (.invokevirtual 301, 3) := by decide +kernel
theorem dX12_provedBy_10 : decode cX12_provedBy 10 = .ok (.invokestatic 304, 3) := by decide +kernel
theorem dX12_provedBy_13 : decode cX12_provedBy 13 = .ok (.ireturn, 1) := by decide +kernel
theorem dX12_about_0 : decode cX12_about 0 = .ok (.iload_n 1, 1) := by decide +kernel
theorem dX12_about_1 : decode cX12_about 1 = .ok (.tableswitch 165 0 11 #[63, 68, 73, 78, 83, 90, 103, 116, 133, 150, 155, 160], 63) := by decide +kernel
theorem dX12_about_64 : decode cX12_about 64 = .ok (.aload_n 0, 1) := by decide +kernel
theorem dX12_about_65 : decode cX12_about 65 = .ok (.getfield 208, 3) := by decide +kernel
theorem dX12_about_68 : decode cX12_about 68 = .ok (.ireturn, 1) := by decide +kernel
theorem dX12_about_69 : decode cX12_about 69 = .ok (.aload_n 0, 1) := by decide +kernel
theorem dX12_about_70 : decode cX12_about 70 = .ok (.getfield 211, 3) := by decide +kernel
theorem dX12_about_73 : decode cX12_about 73 = .ok (.ireturn, 1) := by decide +kernel
theorem dX12_about_74 : decode cX12_about 74 = .ok (.aload_n 0, 1) := by decide +kernel
theorem dX12_about_75 : decode cX12_about 75 = .ok (.getfield 214, 3) := by decide +kernel
theorem dX12_about_78 : decode cX12_about 78 = .ok (.ireturn, 1) := by decide +kernel
theorem dX12_about_79 : decode cX12_about 79 = .ok (.aload_n 0, 1) := by decide +kernel
theorem dX12_about_80 : decode cX12_about 80 = .ok (.getfield 217, 3) := by decide +kernel
theorem dX12_about_83 : decode cX12_about 83 = .ok (.ireturn, 1) := by decide +kernel
theorem dX12_about_84 : decode cX12_about 84 = .ok (.aload_n 0, 1) := by decide +kernel
theorem dX12_about_85 : decode cX12_about 85 = .ok (.getfield 70, 3) := by decide +kernel
theorem dX12_about_88 : decode cX12_about 88 = .ok (.iconst 3, 1) := by decide +kernel
theorem dX12_about_89 : decode cX12_about 89 = .ok (.iaload, 1) := by decide +kernel
theorem dX12_about_90 : decode cX12_about 90 = .ok (.ireturn, 1) := by decide +kernel
theorem dX12_about_91 : decode cX12_about 91 = .ok (.aload_n 0, 1) := by decide +kernel
theorem dX12_about_92 : decode cX12_about 92 = .ok (.aload_n 0, 1) := by decide +kernel
theorem dX12_about_93 : decode cX12_about 93 = .ok (.getfield 70, 3) := by decide +kernel
theorem dX12_about_96 : decode cX12_about 96 = .ok (.invokevirtual 307, 3) := by decide +kernel
theorem dX12_about_99 : decode cX12_about 99 = .ok (.aload_n 0, 1) := by decide +kernel
theorem dX12_about_100 : decode cX12_about 100 = .ok (.invokevirtual 301, 3) := by decide +kernel
theorem dX12_about_103 : decode cX12_about 103 = .ok (.ireturn, 1) := by decide +kernel
theorem dX12_about_104 : decode cX12_about 104 = .ok (.aload_n 0, 1) := by decide +kernel
theorem dX12_about_105 : decode cX12_about 105 = .ok (.aload_n 0, 1) := by decide +kernel
theorem dX12_about_106 : decode cX12_about 106 = .ok (.getfield 70, 3) := by decide +kernel
theorem dX12_about_109 : decode cX12_about 109 = .ok (.invokevirtual 310, 3) := by decide +kernel
theorem dX12_about_112 : decode cX12_about 112 = .ok (.aload_n 0, 1) := by decide +kernel
theorem dX12_about_113 : decode cX12_about 113 = .ok (.invokevirtual 301, 3) := by decide +kernel
theorem dX12_about_116 : decode cX12_about 116 = .ok (.ireturn, 1) := by decide +kernel
theorem dX12_about_117 : decode cX12_about 117 = .ok (.aload_n 0, 1) := by decide +kernel
theorem dX12_about_118 : decode cX12_about 118 = .ok (.aload_n 0, 1) := by decide +kernel
theorem dX12_about_119 : decode cX12_about 119 = .ok (.getfield 70, 3) := by decide +kernel
theorem dX12_about_122 : decode cX12_about 122 = .ok (.invokevirtual 307, 3) := by decide +kernel
theorem dX12_about_125 : decode cX12_about 125 = .ok (.aload_n 0, 1) := by decide +kernel
theorem dX12_about_126 : decode cX12_about 126 = .ok (.aload_n 0, 1) := by decide +kernel
theorem dX12_about_127 : decode cX12_about 127 = .ok (.getfield 205, 3) := by decide +kernel
theorem dX12_about_130 : decode cX12_about 130 = .ok (.invokevirtual 313, 3) := by decide +kernel
theorem dX12_about_133 : decode cX12_about 133 = .ok (.ireturn, 1) := by decide +kernel
theorem dX12_about_134 : decode cX12_about 134 = .ok (.aload_n 0, 1) := by decide +kernel
theorem dX12_about_135 : decode cX12_about 135 = .ok (.aload_n 0, 1) := by decide +kernel
theorem dX12_about_136 : decode cX12_about 136 = .ok (.getfield 70, 3) := by decide +kernel
theorem dX12_about_139 : decode cX12_about 139 = .ok (.invokevirtual 310, 3) := by decide +kernel
theorem dX12_about_142 : decode cX12_about 142 = .ok (.aload_n 0, 1) := by decide +kernel
theorem dX12_about_143 : decode cX12_about 143 = .ok (.aload_n 0, 1) := by decide +kernel
theorem dX12_about_144 : decode cX12_about 144 = .ok (.getfield 205, 3) := by decide +kernel
theorem dX12_about_147 : decode cX12_about 147 = .ok (.invokevirtual 313, 3) := by decide +kernel
theorem dX12_about_150 : decode cX12_about 150 = .ok (.ireturn, 1) := by decide +kernel
theorem dX12_about_151 : decode cX12_about 151 = .ok (.aload_n 0, 1) := by decide +kernel
theorem dX12_about_152 : decode cX12_about 152 = .ok (.getfield 223, 3) := by decide +kernel
theorem dX12_about_155 : decode cX12_about 155 = .ok (.ireturn, 1) := by decide +kernel
theorem dX12_about_156 : decode cX12_about 156 = .ok (.aload_n 0, 1) := by decide +kernel
theorem dX12_about_157 : decode cX12_about 157 = .ok (.getfield 316, 3) := by decide +kernel
theorem dX12_about_160 : decode cX12_about 160 = .ok (.ireturn, 1) := by decide +kernel
theorem dX12_about_161 : decode cX12_about 161 = .ok (.aload_n 0, 1) := by decide +kernel
theorem dX12_about_162 : decode cX12_about 162 = .ok (.getfield 118, 3) := by decide +kernel
theorem dX12_about_165 : decode cX12_about 165 = .ok (.ireturn, 1) := by decide +kernel
theorem dX12_about_166 : decode cX12_about 166 = .ok (.bipush (-2), 2) := by decide +kernel
theorem dX12_about_168 : decode cX12_about 168 = .ok (.ireturn, 1) := by decide +kernel
theorem dX12_manyGuessed_0 : decode cX12_manyGuessed 0 = .ok (.iconst 0, 1) := by decide +kernel
theorem dX12_manyGuessed_1 : decode cX12_manyGuessed 1 = .ok (.istore_n 2, 1) := by decide +kernel
theorem dX12_manyGuessed_2 : decode cX12_manyGuessed 2 = .ok (.iconst 0, 1) := by decide +kernel
theorem dX12_manyGuessed_3 : decode cX12_manyGuessed 3 = .ok (.istore_n 3, 1) := by decide +kernel
theorem dX12_manyGuessed_4 : decode cX12_manyGuessed 4 = .ok (.iload_n 3, 1) := by decide +kernel
theorem dX12_manyGuessed_5 : decode cX12_manyGuessed 5 = .ok (.sipush 216, 3) := by decide +kernel
theorem dX12_manyGuessed_8 : decode cX12_manyGuessed 8 = .ok (.if_icmp .ge 26, 3) := by decide +kernel
theorem dX12_manyGuessed_11 : decode cX12_manyGuessed 11 = .ok (.iload_n 2, 1) := by decide +kernel
theorem dX12_manyGuessed_12 : decode cX12_manyGuessed 12 = .ok (.aload_n 0, 1) := by decide +kernel
theorem dX12_manyGuessed_13 : decode cX12_manyGuessed 13 = .ok (.iload_n 1, 1) := by decide +kernel
theorem dX12_manyGuessed_14 : decode cX12_manyGuessed 14 = .ok (.iload_n 3, 1) := by decide +kernel
theorem dX12_manyGuessed_15 : decode cX12_manyGuessed 15 = .ok (.invokevirtual 266, 3) := by decide +kernel
theorem dX12_manyGuessed_18 : decode cX12_manyGuessed 18 = .ok (.ifCond .eq 7, 3) := by decide +kernel
theorem dX12_manyGuessed_21 : decode cX12_manyGuessed 21 = .ok (.iconst 1, 1) := by decide +kernel
theorem dX12_manyGuessed_22 : decode cX12_manyGuessed 22 = .ok (.goto 4, 3) := by decide +kernel
theorem dX12_manyGuessed_25 : decode cX12_manyGuessed 25 = .ok (.iconst 0, 1) := by decide +kernel
theorem dX12_manyGuessed_26 : decode cX12_manyGuessed 26 = .ok (.iadd, 1) := by decide +kernel
theorem dX12_manyGuessed_27 : decode cX12_manyGuessed 27 = .ok (.istore_n 2, 1) := by decide +kernel
theorem dX12_manyGuessed_28 : decode cX12_manyGuessed 28 = .ok (.iinc 3 1, 3) := by decide +kernel
theorem dX12_manyGuessed_31 : decode cX12_manyGuessed 31 = .ok (.goto (-27), 3) := by decide +kernel
theorem dX12_manyGuessed_34 : decode cX12_manyGuessed 34 = .ok (.iload_n 2, 1) := by decide +kernel
theorem dX12_manyGuessed_35 : decode cX12_manyGuessed 35 = .ok (.ireturn, 1) := by decide +kernel
theorem dX12_loop_0 : decode cX12_loop 0 = .ok (.iload_n 1, 1) := by decide +kernel
theorem dX12_loop_1 : decode cX12_loop 1 = .ok (.i2l, 1) := by decide +kernel
theorem dX12_loop_2 : decode cX12_loop 2 = .ok (.lconst 0, 1) := by decide +kernel
theorem dX12_loop_3 : decode cX12_loop 3 = .ok (.aload_n 0, 1) := by decide +kernel
theorem dX12_loop_4 : decode cX12_loop 4 = .ok (.getfield 211, 3) := by decide +kernel
theorem dX12_loop_7 : decode cX12_loop 7 = .ok (.iconst 1, 1) := by decide +kernel
theorem dX12_loop_8 : decode cX12_loop 8 = .ok (.isub, 1) := by decide +kernel
theorem dX12_loop_9 : decode cX12_loop 9 = .ok (.i2l, 1) := by decide +kernel
theorem dX12_loop_10 : decode cX12_loop 10 = .ok (.invokestatic 114, 3) := by decide +kernel
theorem dX12_loop_13 : decode cX12_loop 13 = .ok (.ifCond .ne 5, 3) := by decide +kernel
theorem dX12_loop_16 : decode cX12_loop 16 = .ok (.iconst (-1), 1) := by decide +kernel
theorem dX12_loop_17 : decode cX12_loop 17 = .ok (.ireturn, 1) := by decide +kernel
theorem dX12_loop_18 : decode cX12_loop 18 = .ok (.iload_n 2, 1) := by decide +kernel
theorem dX12_loop_19 : decode cX12_loop 19 = .ok (.i2l, 1) := by decide +kernel
theorem dX12_loop_20 : decode cX12_loop 20 = .ok (.lconst 0, 1) := by decide +kernel
theorem dX12_loop_21 : decode cX12_loop 21 = .ok (.ldc2_w 319, 3) := by decide +kernel
theorem dX12_loop_24 : decode cX12_loop 24 = .ok (.invokestatic 114, 3) := by decide +kernel
theorem dX12_loop_27 : decode cX12_loop 27 = .ok (.ifCond .ne 6, 3) := by decide +kernel
theorem dX12_loop_30 : decode cX12_loop 30 = .ok (.bipush (-2), 2) := by decide +kernel
theorem dX12_loop_32 : decode cX12_loop 32 = .ok (.ireturn, 1) := by decide +kernel
theorem dX12_loop_33 : decode cX12_loop 33 = .ok (.aload_n 0, 1) := by decide +kernel
theorem dX12_loop_34 : decode cX12_loop 34 = .ok (.bipush 6, 2) := by decide +kernel
theorem dX12_loop_36 : decode cX12_loop 36 = .ok (.iload_n 1, 1) := by decide +kernel
theorem dX12_loop_37 : decode cX12_loop 37 = .ok (.invokevirtual 292, 3) := by decide +kernel
theorem dX12_loop_40 : decode cX12_loop 40 = .ok (.istore_n 3, 1) := by decide +kernel
theorem dX12_loop_41 : decode cX12_loop 41 = .ok (.iload_n 2, 1) := by decide +kernel
theorem dX12_loop_42 : decode cX12_loop 42 = .ok (.iconst 2, 1) := by decide +kernel
theorem dX12_loop_43 : decode cX12_loop 43 = .ok (.if_icmp .ne 17, 3) := by decide +kernel
theorem dX12_loop_46 : decode cX12_loop 46 = .ok (.aload_n 0, 1) := by decide +kernel
theorem dX12_loop_47 : decode cX12_loop 47 = .ok (.aload_n 0, 1) := by decide +kernel
theorem dX12_loop_48 : decode cX12_loop 48 = .ok (.getfield 70, 3) := by decide +kernel
theorem dX12_loop_51 : decode cX12_loop 51 = .ok (.invokevirtual 310, 3) := by decide +kernel
theorem dX12_loop_54 : decode cX12_loop 54 = .ok (.aload_n 0, 1) := by decide +kernel
theorem dX12_loop_55 : decode cX12_loop 55 = .ok (.iload_n 3, 1) := by decide +kernel
theorem dX12_loop_56 : decode cX12_loop 56 = .ok (.invokevirtual 313, 3) := by decide +kernel
theorem dX12_loop_59 : decode cX12_loop 59 = .ok (.ireturn, 1) := by decide +kernel
theorem dX12_loop_60 : decode cX12_loop 60 = .ok (.aload_n 0, 1) := by decide +kernel
theorem dX12_loop_61 : decode cX12_loop 61 = .ok (.aload_n 0, 1) := by decide +kernel
theorem dX12_loop_62 : decode cX12_loop 62 = .ok (.getfield 70, 3) := by decide +kernel
theorem dX12_loop_65 : decode cX12_loop 65 = .ok (.invokevirtual 307, 3) := by decide +kernel
theorem dX12_loop_68 : decode cX12_loop 68 = .ok (.iload_n 2, 1) := by decide +kernel
theorem dX12_loop_69 : decode cX12_loop 69 = .ok (.ifCond .ne 12, 3) := by decide +kernel
theorem dX12_loop_72 : decode cX12_loop 72 = .ok (.aload_n 0, 1) := by decide +kernel
theorem dX12_loop_73 : decode cX12_loop 73 = .ok (.getfield 99, 3) := by decide +kernel
theorem dX12_loop_76 : decode cX12_loop 76 = .ok (.iload_n 1, 1) := by decide +kernel
theorem dX12_loop_77 : decode cX12_loop 77 = .ok (.iaload, 1) := by decide +kernel
theorem dX12_loop_78 : decode cX12_loop 78 = .ok (.goto 26, 3) := by decide +kernel
theorem dX12_loop_81 : decode cX12_loop 81 = .ok (.iload_n 2, 1) := by decide +kernel
theorem dX12_loop_82 : decode cX12_loop 82 = .ok (.iconst 1, 1) := by decide +kernel
theorem dX12_loop_83 : decode cX12_loop 83 = .ok (.if_icmp .ne 16, 3) := by decide +kernel
theorem dX12_loop_86 : decode cX12_loop 86 = .ok (.aload_n 0, 1) := by decide +kernel
theorem dX12_loop_87 : decode cX12_loop 87 = .ok (.aload_n 0, 1) := by decide +kernel
theorem dX12_loop_88 : decode cX12_loop 88 = .ok (.getfield 99, 3) := by decide +kernel
theorem dX12_loop_91 : decode cX12_loop 91 = .ok (.iload_n 1, 1) := by decide +kernel
theorem dX12_loop_92 : decode cX12_loop 92 = .ok (.iaload, 1) := by decide +kernel
theorem dX12_loop_93 : decode cX12_loop 93 = .ok (.invokevirtual 321, 3) := by decide +kernel
theorem dX12_loop_96 : decode cX12_loop 96 = .ok (.goto 8, 3) := by decide +kernel
theorem dX12_loop_99 : decode cX12_loop 99 = .ok (.aload_n 0, 1) := by decide +kernel
theorem dX12_loop_100 : decode cX12_loop 100 = .ok (.iload_n 3, 1) := by decide +kernel
theorem dX12_loop_101 : decode cX12_loop 101 = .ok (.invokevirtual 313, 3) := by decide +kernel
theorem dX12_loop_104 : decode cX12_loop 104 = .ok (.ireturn, 1) := by decide +kernel
theorem dX12_check_0 : decode cX12_check 0 = .ok (.iload_n 1, 1) := by decide +kernel
theorem dX12_check_1 : decode cX12_check 1 = .ok (.i2l, 1) := by decide +kernel
theorem dX12_check_2 : decode cX12_check 2 = .ok (.lconst 0, 1) := by decide +kernel
theorem dX12_check_3 : decode cX12_check 3 = .ok (.aload_n 0, 1) := by decide +kernel
theorem dX12_check_4 : decode cX12_check 4 = .ok (.getfield 208, 3) := by decide +kernel
theorem dX12_check_7 : decode cX12_check 7 = .ok (.iconst 1, 1) := by decide +kernel
theorem dX12_check_8 : decode cX12_check 8 = .ok (.isub, 1) := by decide +kernel
theorem dX12_check_9 : decode cX12_check 9 = .ok (.i2l, 1) := by decide +kernel
theorem dX12_check_10 : decode cX12_check 10 = .ok (.invokestatic 114, 3) := by decide +kernel
theorem dX12_check_13 : decode cX12_check 13 = .ok (.ifCond .ne 5, 3) := by decide +kernel
theorem dX12_check_16 : decode cX12_check 16 = .ok (.iconst (-1), 1) := by decide +kernel
theorem dX12_check_17 : decode cX12_check 17 = .ok (.ireturn, 1) := by decide +kernel
theorem dX12_check_18 : decode cX12_check 18 = .ok (.iload_n 2, 1) := by decide +kernel
theorem dX12_check_19 : decode cX12_check 19 = .ok (.i2l, 1) := by decide +kernel
theorem dX12_check_20 : decode cX12_check 20 = .ok (.lconst 0, 1) := by decide +kernel
theorem dX12_check_21 : decode cX12_check 21 = .ok (.ldc2_w 319, 3) := by decide +kernel
theorem dX12_check_24 : decode cX12_check 24 = .ok (.invokestatic 114, 3) := by decide +kernel
theorem dX12_check_27 : decode cX12_check 27 = .ok (.ifCond .ne 6, 3) := by decide +kernel
theorem dX12_check_30 : decode cX12_check 30 = .ok (.bipush (-2), 2) := by decide +kernel
theorem dX12_check_32 : decode cX12_check 32 = .ok (.ireturn, 1) := by decide +kernel
theorem dX12_check_33 : decode cX12_check 33 = .ok (.iload_n 2, 1) := by decide +kernel
theorem dX12_check_34 : decode cX12_check 34 = .ok (.iconst 2, 1) := by decide +kernel
theorem dX12_check_35 : decode cX12_check 35 = .ok (.irem, 1) := by decide +kernel
theorem dX12_check_36 : decode cX12_check 36 = .ok (.ifCond .ne 14, 3) := by decide +kernel
theorem dX12_check_39 : decode cX12_check 39 = .ok (.aload_n 0, 1) := by decide +kernel
theorem dX12_check_40 : decode cX12_check 40 = .ok (.aload_n 0, 1) := by decide +kernel
theorem dX12_check_41 : decode cX12_check 41 = .ok (.getfield 70, 3) := by decide +kernel
theorem dX12_check_44 : decode cX12_check 44 = .ok (.invokevirtual 307, 3) := by decide +kernel
theorem dX12_check_47 : decode cX12_check 47 = .ok (.goto 11, 3) := by decide +kernel
theorem dX12_check_50 : decode cX12_check 50 = .ok (.aload_n 0, 1) := by decide +kernel
theorem dX12_check_51 : decode cX12_check 51 = .ok (.aload_n 0, 1) := by decide +kernel
theorem dX12_check_52 : decode cX12_check 52 = .ok (.getfield 70, 3) := by decide +kernel
theorem dX12_check_55 : decode cX12_check 55 = .ok (.invokevirtual 310, 3) := by decide +kernel
theorem dX12_check_58 : decode cX12_check 58 = .ok (.iload_n 2, 1) := by decide +kernel
theorem dX12_check_59 : decode cX12_check 59 = .ok (.iconst 2, 1) := by decide +kernel
theorem dX12_check_60 : decode cX12_check 60 = .ok (.if_icmp .ge 16, 3) := by decide +kernel
theorem dX12_check_63 : decode cX12_check 63 = .ok (.aload_n 0, 1) := by decide +kernel
theorem dX12_check_64 : decode cX12_check 64 = .ok (.aload_n 0, 1) := by decide +kernel
theorem dX12_check_65 : decode cX12_check 65 = .ok (.iconst 5, 1) := by decide +kernel
theorem dX12_check_66 : decode cX12_check 66 = .ok (.iload_n 1, 1) := by decide +kernel
theorem dX12_check_67 : decode cX12_check 67 = .ok (.invokevirtual 292, 3) := by decide +kernel
theorem dX12_check_70 : decode cX12_check 70 = .ok (.invokevirtual 313, 3) := by decide +kernel
theorem dX12_check_73 : decode cX12_check 73 = .ok (.goto 8, 3) := by decide +kernel
theorem dX12_check_76 : decode cX12_check 76 = .ok (.aload_n 0, 1) := by decide +kernel
theorem dX12_check_77 : decode cX12_check 77 = .ok (.iload_n 1, 1) := by decide +kernel
theorem dX12_check_78 : decode cX12_check 78 = .ok (.invokevirtual 298, 3) := by decide +kernel
theorem dX12_check_81 : decode cX12_check 81 = .ok (.ireturn, 1) := by decide +kernel
theorem dX12_start_0 : decode cX12_start 0 = .ok (.iload_n 1, 1) := by decide +kernel
theorem dX12_start_1 : decode cX12_start 1 = .ok (.i2l, 1) := by decide +kernel
theorem dX12_start_2 : decode cX12_start 2 = .ok (.lconst 0, 1) := by decide +kernel
theorem dX12_start_3 : decode cX12_start 3 = .ok (.ldc2_w 324, 3) := by decide +kernel
theorem dX12_start_6 : decode cX12_start 6 = .ok (.invokestatic 114, 3) := by decide +kernel
theorem dX12_start_9 : decode cX12_start 9 = .ok (.ifCond .eq 12, 3) := by decide +kernel
theorem dX12_start_12 : decode cX12_start 12 = .ok (.aload_n 0, 1) := by decide +kernel
theorem dX12_start_13 : decode cX12_start 13 = .ok (.getfield 70, 3) := by decide +kernel
theorem dX12_start_16 : decode cX12_start 16 = .ok (.iload_n 1, 1) := by decide +kernel
theorem dX12_start_17 : decode cX12_start 17 = .ok (.iaload, 1) := by decide +kernel
theorem dX12_start_18 : decode cX12_start 18 = .ok (.goto 4, 3) := by decide +kernel
theorem dX12_start_21 : decode cX12_start 21 = .ok (.iconst (-1), 1) := by decide +kernel
theorem dX12_start_22 : decode cX12_start 22 = .ok (.ireturn, 1) := by decide +kernel
theorem dX12_note_0 : decode cX12_note 0 = .ok (.iconst 0, 1) := by decide +kernel
theorem dX12_note_1 : decode cX12_note 1 = .ok (.istore_n 1, 1) := by decide +kernel
theorem dX12_note_2 : decode cX12_note 2 = .ok (.iload_n 1, 1) := by decide +kernel
theorem dX12_note_3 : decode cX12_note 3 = .ok (.iconst 4, 1) := by decide +kernel
theorem dX12_note_4 : decode cX12_note 4 = .ok (.if_icmp .ge 28, 3) := by decide +kernel
theorem dX12_note_7 : decode cX12_note 7 = .ok (.aload_n 0, 1) := by decide +kernel
theorem dX12_note_8 : decode cX12_note 8 = .ok (.getfield 76, 3) := by decide +kernel
theorem dX12_note_11 : decode cX12_note 11 = .ok (.iconst 4, 1) := by decide +kernel
theorem dX12_note_12 : decode cX12_note 12 = .ok (.aload_n 0, 1) := by decide +kernel
theorem dX12_note_13 : decode cX12_note 13 = .ok (.getfield 326, 3) := by decide +kernel
theorem dX12_note_16 : decode cX12_note 16 = .ok (.imul, 1) := by decide +kernel
theorem dX12_note_17 : decode cX12_note 17 = .ok (.iload_n 1, 1) := by decide +kernel
theorem dX12_note_18 : decode cX12_note 18 = .ok (.iadd, 1) := by decide +kernel
theorem dX12_note_19 : decode cX12_note 19 = .ok (.aload_n 0, 1) := by decide +kernel
theorem dX12_note_20 : decode cX12_note 20 = .ok (.getfield 70, 3) := by decide +kernel
theorem dX12_note_23 : decode cX12_note 23 = .ok (.iload_n 1, 1) := by decide +kernel
theorem dX12_note_24 : decode cX12_note 24 = .ok (.iaload, 1) := by decide +kernel
theorem dX12_note_25 : decode cX12_note 25 = .ok (.iastore, 1) := by decide +kernel
theorem dX12_note_26 : decode cX12_note 26 = .ok (.iinc 1 1, 3) := by decide +kernel
theorem dX12_note_29 : decode cX12_note 29 = .ok (.goto (-27), 3) := by decide +kernel
theorem dX12_note_32 : decode cX12_note 32 = .ok (.aload_n 0, 1) := by decide +kernel
theorem dX12_note_33 : decode cX12_note 33 = .ok (.aload_n 0, 1) := by decide +kernel
theorem dX12_note_34 : decode cX12_note 34 = .ok (.getfield 326, 3) := by decide +kernel
theorem dX12_note_37 : decode cX12_note 37 = .ok (.iconst 1, 1) := by decide +kernel
theorem dX12_note_38 : decode cX12_note 38 = .ok (.iadd, 1) := by decide +kernel
theorem dX12_note_39 : decode cX12_note 39 = .ok (.bipush 14, 2) := by decide +kernel
theorem dX12_note_41 : decode cX12_note 41 = .ok (.irem, 1) := by decide +kernel
theorem dX12_note_42 : decode cX12_note 42 = .ok (.putfield 326, 3) := by decide +kernel
theorem dX12_note_45 : decode cX12_note 45 = .ok (.aload_n 0, 1) := by decide +kernel
theorem dX12_note_46 : decode cX12_note 46 = .ok (.aload_n 0, 1) := by decide +kernel
theorem dX12_note_47 : decode cX12_note 47 = .ok (.getfield 223, 3) := by decide +kernel
theorem dX12_note_50 : decode cX12_note 50 = .ok (.bipush 14, 2) := by decide +kernel
theorem dX12_note_52 : decode cX12_note 52 = .ok (.if_icmp .ge 12, 3) := by decide +kernel
theorem dX12_note_55 : decode cX12_note 55 = .ok (.aload_n 0, 1) := by decide +kernel
theorem dX12_note_56 : decode cX12_note 56 = .ok (.getfield 223, 3) := by decide +kernel
theorem dX12_note_59 : decode cX12_note 59 = .ok (.iconst 1, 1) := by decide +kernel
theorem dX12_note_60 : decode cX12_note 60 = .ok (.iadd, 1) := by decide +kernel
theorem dX12_note_61 : decode cX12_note 61 = .ok (.goto 5, 3) := by decide +kernel
theorem dX12_note_64 : decode cX12_note 64 = .ok (.bipush 14, 2) := by decide +kernel
theorem dX12_note_66 : decode cX12_note 66 = .ok (.putfield 223, 3) := by decide +kernel
theorem dX12_note_69 : decode cX12_note 69 = .ok (.return_, 1) := by decide +kernel
theorem dX12_begin_0 : decode cX12_begin 0 = .ok (.iload_n 1, 1) := by decide +kernel
theorem dX12_begin_1 : decode cX12_begin 1 = .ok (.i2l, 1) := by decide +kernel
theorem dX12_begin_2 : decode cX12_begin 2 = .ok (.lconst 0, 1) := by decide +kernel
theorem dX12_begin_3 : decode cX12_begin 3 = .ok (.ldc2_w 324, 3) := by decide +kernel
theorem dX12_begin_6 : decode cX12_begin 6 = .ok (.invokestatic 114, 3) := by decide +kernel
theorem dX12_begin_9 : decode cX12_begin 9 = .ok (.ifCond .ne 5, 3) := by decide +kernel
theorem dX12_begin_12 : decode cX12_begin 12 = .ok (.iconst (-1), 1) := by decide +kernel
theorem dX12_begin_13 : decode cX12_begin 13 = .ok (.ireturn, 1) := by decide +kernel
theorem dX12_begin_14 : decode cX12_begin 14 = .ok (.iload_n 2, 1) := by decide +kernel
theorem dX12_begin_15 : decode cX12_begin 15 = .ok (.i2l, 1) := by decide +kernel
theorem dX12_begin_16 : decode cX12_begin 16 = .ok (.lconst 0, 1) := by decide +kernel
theorem dX12_begin_17 : decode cX12_begin 17 = .ok (.ldc2_w 329, 3) := by decide +kernel
theorem dX12_begin_20 : decode cX12_begin 20 = .ok (.invokestatic 114, 3) := by decide +kernel
theorem dX12_begin_23 : decode cX12_begin 23 = .ok (.ifCond .ne 6, 3) := by decide +kernel
theorem dX12_begin_26 : decode cX12_begin 26 = .ok (.bipush (-2), 2) := by decide +kernel
theorem dX12_begin_28 : decode cX12_begin 28 = .ok (.ireturn, 1) := by decide +kernel
theorem dX12_begin_29 : decode cX12_begin 29 = .ok (.aload_n 0, 1) := by decide +kernel
theorem dX12_begin_30 : decode cX12_begin 30 = .ok (.invokevirtual 331, 3) := by decide +kernel
theorem dX12_begin_33 : decode cX12_begin 33 = .ok (.aload_n 0, 1) := by decide +kernel
theorem dX12_begin_34 : decode cX12_begin 34 = .ok (.getfield 70, 3) := by decide +kernel
theorem dX12_begin_37 : decode cX12_begin 37 = .ok (.iload_n 1, 1) := by decide +kernel
theorem dX12_begin_38 : decode cX12_begin 38 = .ok (.iaload, 1) := by decide +kernel
theorem dX12_begin_39 : decode cX12_begin 39 = .ok (.istore_n 3, 1) := by decide +kernel
theorem dX12_begin_40 : decode cX12_begin 40 = .ok (.aload_n 0, 1) := by decide +kernel
theorem dX12_begin_41 : decode cX12_begin 41 = .ok (.getfield 70, 3) := by decide +kernel
theorem dX12_begin_44 : decode cX12_begin 44 = .ok (.iload_n 1, 1) := by decide +kernel
theorem dX12_begin_45 : decode cX12_begin 45 = .ok (.iload_n 2, 1) := by decide +kernel
theorem dX12_begin_46 : decode cX12_begin 46 = .ok (.iastore, 1) := by decide +kernel
theorem dX12_begin_47 : decode cX12_begin 47 = .ok (.iload_n 3, 1) := by decide +kernel
theorem dX12_begin_48 : decode cX12_begin 48 = .ok (.ireturn, 1) := by decide +kernel
theorem dX12_turn_0 : decode cX12_turn 0 = .ok (.iload_n 1, 1) := by decide +kernel
theorem dX12_turn_1 : decode cX12_turn 1 = .ok (.i2l, 1) := by decide +kernel
theorem dX12_turn_2 : decode cX12_turn 2 = .ok (.lconst 0, 1) := by decide +kernel
theorem dX12_turn_3 : decode cX12_turn 3 = .ok (.aload_n 0, 1) := by decide +kernel
theorem dX12_turn_4 : decode cX12_turn 4 = .ok (.getfield 217, 3) := by decide +kernel
theorem dX12_turn_7 : decode cX12_turn 7 = .ok (.iconst 1, 1) := by decide +kernel
theorem dX12_turn_8 : decode cX12_turn 8 = .ok (.isub, 1) := by decide +kernel
theorem dX12_turn_9 : decode cX12_turn 9 = .ok (.i2l, 1) := by decide +kernel
theorem dX12_turn_10 : decode cX12_turn 10 = .ok (.invokestatic 114, 3) := by decide +kernel
theorem dX12_turn_13 : decode cX12_turn 13 = .ok (.ifCond .ne 5, 3) := by decide +kernel
theorem dX12_turn_16 : decode cX12_turn 16 = .ok (.iconst (-1), 1) := by decide +kernel
theorem dX12_turn_17 : decode cX12_turn 17 = .ok (.ireturn, 1) := by decide +kernel
theorem dX12_turn_18 : decode cX12_turn 18 = .ok (.aload_n 0, 1) := by decide +kernel
theorem dX12_turn_19 : decode cX12_turn 19 = .ok (.invokevirtual 331, 3) := by decide +kernel
theorem dX12_turn_22 : decode cX12_turn 22 = .ok (.aload_n 0, 1) := by decide +kernel
theorem dX12_turn_23 : decode cX12_turn 23 = .ok (.getfield 70, 3) := by decide +kernel
theorem dX12_turn_26 : decode cX12_turn 26 = .ok (.iconst 3, 1) := by decide +kernel
theorem dX12_turn_27 : decode cX12_turn 27 = .ok (.dup2, 1) := by decide +kernel
theorem dX12_turn_28 : decode cX12_turn 28 = .ok (.iaload, 1) := by decide +kernel
theorem dX12_turn_29 : decode cX12_turn 29 = .ok (.iconst 1, 1) := by decide +kernel
theorem dX12_turn_30 : decode cX12_turn 30 = .ok (.iload_n 1, 1) := by decide +kernel
theorem dX12_turn_31 : decode cX12_turn 31 = .ok (.ishl, 1) := by decide +kernel
theorem dX12_turn_32 : decode cX12_turn 32 = .ok (.ixor, 1) := by decide +kernel
theorem dX12_turn_33 : decode cX12_turn 33 = .ok (.iastore, 1) := by decide +kernel
theorem dX12_turn_34 : decode cX12_turn 34 = .ok (.aload_n 0, 1) := by decide +kernel
theorem dX12_turn_35 : decode cX12_turn 35 = .ok (.getfield 70, 3) := by decide +kernel
theorem dX12_turn_38 : decode cX12_turn 38 = .ok (.iconst 3, 1) := by decide +kernel
theorem dX12_turn_39 : decode cX12_turn 39 = .ok (.iaload, 1) := by decide +kernel
theorem dX12_turn_40 : decode cX12_turn 40 = .ok (.iload_n 1, 1) := by decide +kernel
theorem dX12_turn_41 : decode cX12_turn 41 = .ok (.ishr, 1) := by decide +kernel
theorem dX12_turn_42 : decode cX12_turn 42 = .ok (.iconst 1, 1) := by decide +kernel
theorem dX12_turn_43 : decode cX12_turn 43 = .ok (.iand, 1) := by decide +kernel
theorem dX12_turn_44 : decode cX12_turn 44 = .ok (.ireturn, 1) := by decide +kernel
theorem dX12_undo_0 : decode cX12_undo 0 = .ok (.aload_n 0, 1) := by decide +kernel
theorem dX12_undo_1 : decode cX12_undo 1 = .ok (.getfield 223, 3) := by decide +kernel
theorem dX12_undo_4 : decode cX12_undo 4 = .ok (.ifCond .ne 6, 3) := by decide +kernel
theorem dX12_undo_7 : decode cX12_undo 7 = .ok (.bipush (-3), 2) := by decide +kernel
theorem dX12_undo_9 : decode cX12_undo 9 = .ok (.ireturn, 1) := by decide +kernel
theorem dX12_undo_10 : decode cX12_undo 10 = .ok (.aload_n 0, 1) := by decide +kernel
theorem dX12_undo_11 : decode cX12_undo 11 = .ok (.dup, 1) := by decide +kernel
theorem dX12_undo_12 : decode cX12_undo 12 = .ok (.getfield 223, 3) := by decide +kernel
theorem dX12_undo_15 : decode cX12_undo 15 = .ok (.iconst 1, 1) := by decide +kernel
theorem dX12_undo_16 : decode cX12_undo 16 = .ok (.isub, 1) := by decide +kernel
theorem dX12_undo_17 : decode cX12_undo 17 = .ok (.putfield 223, 3) := by decide +kernel
theorem dX12_undo_20 : decode cX12_undo 20 = .ok (.aload_n 0, 1) := by decide +kernel
theorem dX12_undo_21 : decode cX12_undo 21 = .ok (.aload_n 0, 1) := by decide +kernel
theorem dX12_undo_22 : decode cX12_undo 22 = .ok (.getfield 326, 3) := by decide +kernel
theorem dX12_undo_25 : decode cX12_undo 25 = .ok (.bipush 14, 2) := by decide +kernel
theorem dX12_undo_27 : decode cX12_undo 27 = .ok (.iadd, 1) := by decide +kernel
theorem dX12_undo_28 : decode cX12_undo 28 = .ok (.iconst 1, 1) := by decide +kernel
theorem dX12_undo_29 : decode cX12_undo 29 = .ok (.isub, 1) := by decide +kernel
theorem dX12_undo_30 : decode cX12_undo 30 = .ok (.bipush 14, 2) := by decide +kernel
theorem dX12_undo_32 : decode cX12_undo 32 = .ok (.irem, 1) := by decide +kernel
theorem dX12_undo_33 : decode cX12_undo 33 = .ok (.putfield 326, 3) := by decide +kernel
theorem dX12_undo_36 : decode cX12_undo 36 = .ok (.iconst 0, 1) := by decide +kernel
theorem dX12_undo_37 : decode cX12_undo 37 = .ok (.istore_n 1, 1) := by decide +kernel
theorem dX12_undo_38 : decode cX12_undo 38 = .ok (.iload_n 1, 1) := by decide +kernel
theorem dX12_undo_39 : decode cX12_undo 39 = .ok (.iconst 4, 1) := by decide +kernel
theorem dX12_undo_40 : decode cX12_undo 40 = .ok (.if_icmp .ge 28, 3) := by decide +kernel
theorem dX12_undo_43 : decode cX12_undo 43 = .ok (.aload_n 0, 1) := by decide +kernel
theorem dX12_undo_44 : decode cX12_undo 44 = .ok (.getfield 70, 3) := by decide +kernel
theorem dX12_undo_47 : decode cX12_undo 47 = .ok (.iload_n 1, 1) := by decide +kernel
theorem dX12_undo_48 : decode cX12_undo 48 = .ok (.aload_n 0, 1) := by decide +kernel
theorem dX12_undo_49 : decode cX12_undo 49 = .ok (.getfield 76, 3) := by decide +kernel
theorem dX12_undo_52 : decode cX12_undo 52 = .ok (.iconst 4, 1) := by decide +kernel
theorem dX12_undo_53 : decode cX12_undo 53 = .ok (.aload_n 0, 1) := by decide +kernel
theorem dX12_undo_54 : decode cX12_undo 54 = .ok (.getfield 326, 3) := by decide +kernel
theorem dX12_undo_57 : decode cX12_undo 57 = .ok (.imul, 1) := by decide +kernel
theorem dX12_undo_58 : decode cX12_undo 58 = .ok (.iload_n 1, 1) := by decide +kernel
theorem dX12_undo_59 : decode cX12_undo 59 = .ok (.iadd, 1) := by decide +kernel
theorem dX12_undo_60 : decode cX12_undo 60 = .ok (.iaload, 1) := by decide +kernel
theorem dX12_undo_61 : decode cX12_undo 61 = .ok (.iastore, 1) := by decide +kernel
theorem dX12_undo_62 : decode cX12_undo 62 = .ok (.iinc 1 1, 3) := by decide +kernel
theorem dX12_undo_65 : decode cX12_undo 65 = .ok (.goto (-27), 3) := by decide +kernel
theorem dX12_undo_68 : decode cX12_undo 68 = .ok (.aload_n 0, 1) := by decide +kernel
theorem dX12_undo_69 : decode cX12_undo 69 = .ok (.getfield 223, 3) := by decide +kernel
theorem dX12_undo_72 : decode cX12_undo 72 = .ok (.ireturn, 1) := by decide +kernel
theorem dX12_falls_0 : decode cX12_falls 0 = .ok (.iload_n 1, 1) := by decide +kernel
theorem dX12_falls_1 : decode cX12_falls 1 = .ok (.i2l, 1) := by decide +kernel
theorem dX12_falls_2 : decode cX12_falls 2 = .ok (.lconst 0, 1) := by decide +kernel
theorem dX12_falls_3 : decode cX12_falls 3 = .ok (.aload_n 0, 1) := by decide +kernel
theorem dX12_falls_4 : decode cX12_falls 4 = .ok (.getfield 211, 3) := by decide +kernel
theorem dX12_falls_7 : decode cX12_falls 7 = .ok (.iconst 1, 1) := by decide +kernel
theorem dX12_falls_8 : decode cX12_falls 8 = .ok (.isub, 1) := by decide +kernel
theorem dX12_falls_9 : decode cX12_falls 9 = .ok (.i2l, 1) := by decide +kernel
theorem dX12_falls_10 : decode cX12_falls 10 = .ok (.invokestatic 114, 3) := by decide +kernel
theorem dX12_falls_13 : decode cX12_falls 13 = .ok (.ifCond .ne 5, 3) := by decide +kernel
theorem dX12_falls_16 : decode cX12_falls 16 = .ok (.iconst (-1), 1) := by decide +kernel
theorem dX12_falls_17 : decode cX12_falls 17 = .ok (.ireturn, 1) := by decide +kernel
theorem dX12_falls_18 : decode cX12_falls 18 = .ok (.iload_n 2, 1) := by decide +kernel
theorem dX12_falls_19 : decode cX12_falls 19 = .ok (.ifCond .lt 18, 3) := by decide +kernel
theorem dX12_falls_22 : decode cX12_falls 22 = .ok (.iload_n 2, 1) := by decide +kernel
theorem dX12_falls_23 : decode cX12_falls 23 = .ok (.aload_n 0, 1) := by decide +kernel
theorem dX12_falls_24 : decode cX12_falls 24 = .ok (.aload_n 0, 1) := by decide +kernel
theorem dX12_falls_25 : decode cX12_falls 25 = .ok (.getfield 70, 3) := by decide +kernel
theorem dX12_falls_28 : decode cX12_falls 28 = .ok (.invokevirtual 281, 3) := by decide +kernel
theorem dX12_falls_31 : decode cX12_falls 31 = .ok (.iconst (-1), 1) := by decide +kernel
theorem dX12_falls_32 : decode cX12_falls 32 = .ok (.ixor, 1) := by decide +kernel
theorem dX12_falls_33 : decode cX12_falls 33 = .ok (.iand, 1) := by decide +kernel
theorem dX12_falls_34 : decode cX12_falls 34 = .ok (.ifCond .eq 6, 3) := by decide +kernel
theorem dX12_falls_37 : decode cX12_falls 37 = .ok (.bipush (-2), 2) := by decide +kernel
theorem dX12_falls_39 : decode cX12_falls 39 = .ok (.ireturn, 1) := by decide +kernel
theorem dX12_falls_40 : decode cX12_falls 40 = .ok (.aload_n 0, 1) := by decide +kernel
theorem dX12_falls_41 : decode cX12_falls 41 = .ok (.aload_n 0, 1) := by decide +kernel
theorem dX12_falls_42 : decode cX12_falls 42 = .ok (.getfield 70, 3) := by decide +kernel
theorem dX12_falls_45 : decode cX12_falls 45 = .ok (.invokevirtual 307, 3) := by decide +kernel
theorem dX12_falls_48 : decode cX12_falls 48 = .ok (.aload_n 0, 1) := by decide +kernel
theorem dX12_falls_49 : decode cX12_falls 49 = .ok (.getfield 99, 3) := by decide +kernel
theorem dX12_falls_52 : decode cX12_falls 52 = .ok (.iload_n 1, 1) := by decide +kernel
theorem dX12_falls_53 : decode cX12_falls 53 = .ok (.iload_n 2, 1) := by decide +kernel
theorem dX12_falls_54 : decode cX12_falls 54 = .ok (.iastore, 1) := by decide +kernel
theorem dX12_falls_55 : decode cX12_falls 55 = .ok (.aload_n 0, 1) := by decide +kernel
theorem dX12_falls_56 : decode cX12_falls 56 = .ok (.aload_n 0, 1) := by decide +kernel
theorem dX12_falls_57 : decode cX12_falls 57 = .ok (.getfield 70, 3) := by decide +kernel
theorem dX12_falls_60 : decode cX12_falls 60 = .ok (.invokevirtual 275, 3) := by decide +kernel
theorem dX12_falls_63 : decode cX12_falls 63 = .ok (.aload_n 0, 1) := by decide +kernel
theorem dX12_falls_64 : decode cX12_falls 64 = .ok (.bipush 6, 2) := by decide +kernel
theorem dX12_falls_66 : decode cX12_falls 66 = .ok (.iload_n 1, 1) := by decide +kernel
theorem dX12_falls_67 : decode cX12_falls 67 = .ok (.invokevirtual 292, 3) := by decide +kernel
theorem dX12_falls_70 : decode cX12_falls 70 = .ok (.istore_n 3, 1) := by decide +kernel
theorem dX12_falls_71 : decode cX12_falls 71 = .ok (.bipush (-9), 2) := by decide +kernel
theorem dX12_falls_73 : decode cX12_falls 73 = .ok (.istore 4, 2) := by decide +kernel
theorem dX12_falls_75 : decode cX12_falls 75 = .ok (.aload_n 0, 1) := by decide +kernel
theorem dX12_falls_76 : decode cX12_falls 76 = .ok (.getfield 217, 3) := by decide +kernel
theorem dX12_falls_79 : decode cX12_falls 79 = .ok (.iconst 1, 1) := by decide +kernel
theorem dX12_falls_80 : decode cX12_falls 80 = .ok (.isub, 1) := by decide +kernel
theorem dX12_falls_81 : decode cX12_falls 81 = .ok (.istore 5, 2) := by decide +kernel
theorem dX12_falls_83 : decode cX12_falls 83 = .ok (.iload 5, 2) := by decide +kernel
theorem dX12_falls_85 : decode cX12_falls 85 = .ok (.ifCond .lt 37, 3) := by decide +kernel
theorem dX12_falls_88 : decode cX12_falls 88 = .ok (.iload_n 2, 1) := by decide +kernel
theorem dX12_falls_89 : decode cX12_falls 89 = .ok (.iload 5, 2) := by decide +kernel
theorem dX12_falls_91 : decode cX12_falls 91 = .ok (.invokestatic 236, 3) := by decide +kernel
theorem dX12_falls_94 : decode cX12_falls 94 = .ok (.ifCond .eq 18, 3) := by decide +kernel
theorem dX12_falls_97 : decode cX12_falls 97 = .ok (.aload_n 0, 1) := by decide +kernel
theorem dX12_falls_98 : decode cX12_falls 98 = .ok (.iload 5, 2) := by decide +kernel
theorem dX12_falls_100 : decode cX12_falls 100 = .ok (.iload_n 3, 1) := by decide +kernel
theorem dX12_falls_101 : decode cX12_falls 101 = .ok (.invokevirtual 272, 3) := by decide +kernel
theorem dX12_falls_104 : decode cX12_falls 104 = .ok (.ifCond .ne 8, 3) := by decide +kernel
theorem dX12_falls_107 : decode cX12_falls 107 = .ok (.iload 5, 2) := by decide +kernel
theorem dX12_falls_109 : decode cX12_falls 109 = .ok (.goto 5, 3) := by decide +kernel
theorem dX12_falls_112 : decode cX12_falls 112 = .ok (.iload 4, 2) := by decide +kernel
theorem dX12_falls_114 : decode cX12_falls 114 = .ok (.istore 4, 2) := by decide +kernel
theorem dX12_falls_116 : decode cX12_falls 116 = .ok (.iinc 5 (-1), 3) := by decide +kernel
theorem dX12_falls_119 : decode cX12_falls 119 = .ok (.goto (-36), 3) := by decide +kernel
theorem dX12_falls_122 : decode cX12_falls 122 = .ok (.iload 4, 2) := by decide +kernel
theorem dX12_falls_124 : decode cX12_falls 124 = .ok (.ireturn, 1) := by decide +kernel
theorem dX12_fewest_0 : decode cX12_fewest 0 = .ok (.iload_n 1, 1) := by decide +kernel
theorem dX12_fewest_1 : decode cX12_fewest 1 = .ok (.i2l, 1) := by decide +kernel
theorem dX12_fewest_2 : decode cX12_fewest 2 = .ok (.lconst 0, 1) := by decide +kernel
theorem dX12_fewest_3 : decode cX12_fewest 3 = .ok (.lconst 1, 1) := by decide +kernel
theorem dX12_fewest_4 : decode cX12_fewest 4 = .ok (.invokestatic 114, 3) := by decide +kernel
theorem dX12_fewest_7 : decode cX12_fewest 7 = .ok (.ifCond .ne 6, 3) := by decide +kernel
theorem dX12_fewest_10 : decode cX12_fewest 10 = .ok (.bipush (-2), 2) := by decide +kernel
theorem dX12_fewest_12 : decode cX12_fewest 12 = .ok (.ireturn, 1) := by decide +kernel
theorem dX12_fewest_13 : decode cX12_fewest 13 = .ok (.aload_n 0, 1) := by decide +kernel
theorem dX12_fewest_14 : decode cX12_fewest 14 = .ok (.aload_n 0, 1) := by decide +kernel
theorem dX12_fewest_15 : decode cX12_fewest 15 = .ok (.getfield 70, 3) := by decide +kernel
theorem dX12_fewest_18 : decode cX12_fewest 18 = .ok (.invokevirtual 281, 3) := by decide +kernel
theorem dX12_fewest_21 : decode cX12_fewest 21 = .ok (.istore_n 2, 1) := by decide +kernel
theorem dX12_fewest_22 : decode cX12_fewest 22 = .ok (.aload_n 0, 1) := by decide +kernel
theorem dX12_fewest_23 : decode cX12_fewest 23 = .ok (.aload_n 0, 1) := by decide +kernel
theorem dX12_fewest_24 : decode cX12_fewest 24 = .ok (.getfield 70, 3) := by decide +kernel
theorem dX12_fewest_27 : decode cX12_fewest 27 = .ok (.iload_n 2, 1) := by decide +kernel
theorem dX12_fewest_28 : decode cX12_fewest 28 = .ok (.invokevirtual 334, 3) := by decide +kernel
theorem dX12_fewest_31 : decode cX12_fewest 31 = .ok (.istore_n 3, 1) := by decide +kernel
theorem dX12_fewest_32 : decode cX12_fewest 32 = .ok (.iload_n 2, 1) := by decide +kernel
theorem dX12_fewest_33 : decode cX12_fewest 33 = .ok (.istore 4, 2) := by decide +kernel
theorem dX12_fewest_35 : decode cX12_fewest 35 = .ok (.iload_n 2, 1) := by decide +kernel
theorem dX12_fewest_36 : decode cX12_fewest 36 = .ok (.istore 5, 2) := by decide +kernel
theorem dX12_fewest_38 : decode cX12_fewest 38 = .ok (.iload 5, 2) := by decide +kernel
theorem dX12_fewest_40 : decode cX12_fewest 40 = .ok (.ifCond .lt 66, 3) := by decide +kernel
theorem dX12_fewest_43 : decode cX12_fewest 43 = .ok (.iload 5, 2) := by decide +kernel
theorem dX12_fewest_45 : decode cX12_fewest 45 = .ok (.iload_n 2, 1) := by decide +kernel
theorem dX12_fewest_46 : decode cX12_fewest 46 = .ok (.iconst (-1), 1) := by decide +kernel
theorem dX12_fewest_47 : decode cX12_fewest 47 = .ok (.ixor, 1) := by decide +kernel
theorem dX12_fewest_48 : decode cX12_fewest 48 = .ok (.iand, 1) := by decide +kernel
theorem dX12_fewest_49 : decode cX12_fewest 49 = .ok (.ifCond .ne 34, 3) := by decide +kernel
theorem dX12_fewest_52 : decode cX12_fewest 52 = .ok (.iload 5, 2) := by decide +kernel
theorem dX12_fewest_54 : decode cX12_fewest 54 = .ok (.invokestatic 304, 3) := by decide +kernel
theorem dX12_fewest_57 : decode cX12_fewest 57 = .ok (.iload 4, 2) := by decide +kernel
theorem dX12_fewest_59 : decode cX12_fewest 59 = .ok (.invokestatic 304, 3) := by decide +kernel
theorem dX12_fewest_62 : decode cX12_fewest 62 = .ok (.if_icmp .gt 21, 3) := by decide +kernel
theorem dX12_fewest_65 : decode cX12_fewest 65 = .ok (.aload_n 0, 1) := by decide +kernel
theorem dX12_fewest_66 : decode cX12_fewest 66 = .ok (.aload_n 0, 1) := by decide +kernel
theorem dX12_fewest_67 : decode cX12_fewest 67 = .ok (.getfield 70, 3) := by decide +kernel
theorem dX12_fewest_70 : decode cX12_fewest 70 = .ok (.iload 5, 2) := by decide +kernel
theorem dX12_fewest_72 : decode cX12_fewest 72 = .ok (.invokevirtual 334, 3) := by decide +kernel
theorem dX12_fewest_75 : decode cX12_fewest 75 = .ok (.iload_n 3, 1) := by decide +kernel
theorem dX12_fewest_76 : decode cX12_fewest 76 = .ok (.if_icmp .ne 7, 3) := by decide +kernel
theorem dX12_fewest_79 : decode cX12_fewest 79 = .ok (.iconst 1, 1) := by decide +kernel
theorem dX12_fewest_80 : decode cX12_fewest 80 = .ok (.goto 4, 3) := by decide +kernel
theorem dX12_fewest_83 : decode cX12_fewest 83 = .ok (.iconst 0, 1) := by decide +kernel
theorem dX12_fewest_84 : decode cX12_fewest 84 = .ok (.istore 6, 2) := by decide +kernel
theorem dX12_fewest_86 : decode cX12_fewest 86 = .ok (.iload 6, 2) := by decide +kernel
theorem dX12_fewest_88 : decode cX12_fewest 88 = .ok (.ifCond .eq 8, 3) := by decide +kernel
theorem dX12_fewest_91 : decode cX12_fewest 91 = .ok (.iload 5, 2) := by decide +kernel
theorem dX12_fewest_93 : decode cX12_fewest 93 = .ok (.goto 5, 3) := by decide +kernel
theorem dX12_fewest_96 : decode cX12_fewest 96 = .ok (.iload 4, 2) := by decide +kernel
theorem dX12_fewest_98 : decode cX12_fewest 98 = .ok (.istore 4, 2) := by decide +kernel
theorem dX12_fewest_100 : decode cX12_fewest 100 = .ok (.iinc 5 (-1), 3) := by decide +kernel
theorem dX12_fewest_103 : decode cX12_fewest 103 = .ok (.goto (-65), 3) := by decide +kernel
theorem dX12_fewest_106 : decode cX12_fewest 106 = .ok (.iload_n 1, 1) := by decide +kernel
theorem dX12_fewest_107 : decode cX12_fewest 107 = .ok (.ifCond .ne 11, 3) := by decide +kernel
theorem dX12_fewest_110 : decode cX12_fewest 110 = .ok (.iload 4, 2) := by decide +kernel
theorem dX12_fewest_112 : decode cX12_fewest 112 = .ok (.invokestatic 304, 3) := by decide +kernel
theorem dX12_fewest_115 : decode cX12_fewest 115 = .ok (.goto 5, 3) := by decide +kernel
theorem dX12_fewest_118 : decode cX12_fewest 118 = .ok (.iload 4, 2) := by decide +kernel
theorem dX12_fewest_120 : decode cX12_fewest 120 = .ok (.ireturn, 1) := by decide +kernel
theorem dX12_isState_0 : decode cX12_isState 0 = .ok (.iload_n 1, 1) := by decide +kernel
theorem dX12_isState_1 : decode cX12_isState 1 = .ok (.bipush 100, 2) := by decide +kernel
theorem dX12_isState_3 : decode cX12_isState 3 = .ok (.idiv, 1) := by decide +kernel
theorem dX12_isState_4 : decode cX12_isState 4 = .ok (.i2l, 1) := by decide +kernel
theorem dX12_isState_5 : decode cX12_isState 5 = .ok (.lconst 0, 1) := by decide +kernel
theorem dX12_isState_6 : decode cX12_isState 6 = .ok (.ldc2_w 338, 3) := by decide +kernel
theorem dX12_isState_9 : decode cX12_isState 9 = .ok (.invokestatic 114, 3) := by decide +kernel
theorem dX12_isState_12 : decode cX12_isState 12 = .ok (.ifCond .eq 40, 3) := by decide +kernel
theorem dX12_isState_15 : decode cX12_isState 15 = .ok (.iload_n 1, 1) := by decide +kernel
theorem dX12_isState_16 : decode cX12_isState 16 = .ok (.bipush 10, 2) := by decide +kernel
theorem dX12_isState_18 : decode cX12_isState 18 = .ok (.idiv, 1) := by decide +kernel
theorem dX12_isState_19 : decode cX12_isState 19 = .ok (.bipush 10, 2) := by decide +kernel
theorem dX12_isState_21 : decode cX12_isState 21 = .ok (.irem, 1) := by decide +kernel
theorem dX12_isState_22 : decode cX12_isState 22 = .ok (.i2l, 1) := by decide +kernel
theorem dX12_isState_23 : decode cX12_isState 23 = .ok (.lconst 0, 1) := by decide +kernel
theorem dX12_isState_24 : decode cX12_isState 24 = .ok (.ldc2_w 338, 3) := by decide +kernel
theorem dX12_isState_27 : decode cX12_isState 27 = .ok (.invokestatic 114, 3) := by decide +kernel
theorem dX12_isState_30 : decode cX12_isState 30 = .ok (.ifCond .eq 22, 3) := by decide +kernel
theorem dX12_isState_33 : decode cX12_isState 33 = .ok (.iload_n 1, 1) := by decide +kernel
theorem dX12_isState_34 : decode cX12_isState 34 = .ok (.bipush 10, 2) := by decide +kernel
theorem dX12_isState_36 : decode cX12_isState 36 = .ok (.irem, 1) := by decide +kernel
theorem dX12_isState_37 : decode cX12_isState 37 = .ok (.i2l, 1) := by decide +kernel
theorem dX12_isState_38 : decode cX12_isState 38 = .ok (.lconst 0, 1) := by decide +kernel
theorem dX12_isState_39 : decode cX12_isState 39 = .ok (.ldc2_w 338, 3) := by decide +kernel
theorem dX12_isState_42 : decode cX12_isState 42 = .ok (.invokestatic 114, 3) := by decide +kernel
theorem dX12_isState_45 : decode cX12_isState 45 = .ok (.ifCond .eq 7, 3) := by decide +kernel
theorem dX12_isState_48 : decode cX12_isState 48 = .ok (.iconst 1, 1) := by decide +kernel
theorem dX12_isState_49 : decode cX12_isState 49 = .ok (.goto 4, 3) := by decide +kernel
theorem dX12_isState_52 : decode cX12_isState 52 = .ok (.iconst 0, 1) := by decide +kernel
theorem dX12_isState_53 : decode cX12_isState 53 = .ok (.ireturn, 1) := by decide +kernel
theorem dX12_isReachedAtEnd_0 : decode cX12_isReachedAtEnd 0 = .ok (.aload_n 0, 1) := by decide +kernel
theorem dX12_isReachedAtEnd_1 : decode cX12_isReachedAtEnd 1 = .ok (.iload_n 1, 1) := by decide +kernel
theorem dX12_isReachedAtEnd_2 : decode cX12_isReachedAtEnd 2 = .ok (.invokevirtual 340, 3) := by decide +kernel
theorem dX12_isReachedAtEnd_5 : decode cX12_isReachedAtEnd 5 = .ok (.ifCond .ne 5, 3) := by decide +kernel
theorem dX12_isReachedAtEnd_8 : decode cX12_isReachedAtEnd 8 = .ok (.iconst 0, 1) := by decide +kernel
theorem dX12_isReachedAtEnd_9 : decode cX12_isReachedAtEnd 9 = .ok (.ireturn, 1) := by decide +kernel
theorem dX12_isReachedAtEnd_10 : decode cX12_isReachedAtEnd 10 = .ok (.aload_n 0, 1) := by decide +kernel
theorem dX12_isReachedAtEnd_11 : decode cX12_isReachedAtEnd 11 = .ok (.aload_n 0, 1) := by decide +kernel
theorem dX12_isReachedAtEnd_12 : decode cX12_isReachedAtEnd 12 = .ok (.getfield 73, 3) := by decide +kernel
theorem dX12_isReachedAtEnd_15 : decode cX12_isReachedAtEnd 15 = .ok (.invokevirtual 310, 3) := by decide +kernel
theorem dX12_isReachedAtEnd_18 : decode cX12_isReachedAtEnd 18 = .ok (.aload_n 0, 1) := by decide +kernel
theorem dX12_isReachedAtEnd_19 : decode cX12_isReachedAtEnd 19 = .ok (.aload_n 0, 1) := by decide +kernel
theorem dX12_isReachedAtEnd_20 : decode cX12_isReachedAtEnd 20 = .ok (.getfield 205, 3) := by decide +kernel
theorem dX12_isReachedAtEnd_23 : decode cX12_isReachedAtEnd 23 = .ok (.bipush 36, 2) := by decide +kernel
theorem dX12_isReachedAtEnd_25 : decode cX12_isReachedAtEnd 25 = .ok (.iload_n 1, 1) := by decide +kernel
theorem dX12_isReachedAtEnd_26 : decode cX12_isReachedAtEnd 26 = .ok (.bipush 100, 2) := by decide +kernel
theorem dX12_isReachedAtEnd_28 : decode cX12_isReachedAtEnd 28 = .ok (.idiv, 1) := by decide +kernel
theorem dX12_isReachedAtEnd_29 : decode cX12_isReachedAtEnd 29 = .ok (.imul, 1) := by decide +kernel
theorem dX12_isReachedAtEnd_30 : decode cX12_isReachedAtEnd 30 = .ok (.bipush 6, 2) := by decide +kernel
theorem dX12_isReachedAtEnd_32 : decode cX12_isReachedAtEnd 32 = .ok (.iload_n 1, 1) := by decide +kernel
theorem dX12_isReachedAtEnd_33 : decode cX12_isReachedAtEnd 33 = .ok (.bipush 10, 2) := by decide +kernel
theorem dX12_isReachedAtEnd_35 : decode cX12_isReachedAtEnd 35 = .ok (.idiv, 1) := by decide +kernel
theorem dX12_isReachedAtEnd_36 : decode cX12_isReachedAtEnd 36 = .ok (.bipush 10, 2) := by decide +kernel
theorem dX12_isReachedAtEnd_38 : decode cX12_isReachedAtEnd 38 = .ok (.irem, 1) := by decide +kernel
theorem dX12_isReachedAtEnd_39 : decode cX12_isReachedAtEnd 39 = .ok (.imul, 1) := by decide +kernel
theorem dX12_isReachedAtEnd_40 : decode cX12_isReachedAtEnd 40 = .ok (.iadd, 1) := by decide +kernel
theorem dX12_isReachedAtEnd_41 : decode cX12_isReachedAtEnd 41 = .ok (.iload_n 1, 1) := by decide +kernel
theorem dX12_isReachedAtEnd_42 : decode cX12_isReachedAtEnd 42 = .ok (.bipush 10, 2) := by decide +kernel
theorem dX12_isReachedAtEnd_44 : decode cX12_isReachedAtEnd 44 = .ok (.irem, 1) := by decide +kernel
theorem dX12_isReachedAtEnd_45 : decode cX12_isReachedAtEnd 45 = .ok (.iadd, 1) := by decide +kernel
theorem dX12_isReachedAtEnd_46 : decode cX12_isReachedAtEnd 46 = .ok (.invokevirtual 246, 3) := by decide +kernel
theorem dX12_isReachedAtEnd_49 : decode cX12_isReachedAtEnd 49 = .ok (.ireturn, 1) := by decide +kernel
theorem dX12_judged_0 : decode cX12_judged 0 = .ok (.iload_n 1, 1) := by decide +kernel
theorem dX12_judged_1 : decode cX12_judged 1 = .ok (.tableswitch 317 1 6 #[39, 67, 112, 175, 238, 300], 39) := by decide +kernel
theorem dX12_judged_40 : decode cX12_judged 40 = .ok (.iload_n 2, 1) := by decide +kernel
theorem dX12_judged_41 : decode cX12_judged 41 = .ok (.iconst 2, 1) := by decide +kernel
theorem dX12_judged_42 : decode cX12_judged 42 = .ok (.if_icmp .gt 14, 3) := by decide +kernel
theorem dX12_judged_45 : decode cX12_judged 45 = .ok (.iload_n 3, 1) := by decide +kernel
theorem dX12_judged_46 : decode cX12_judged 46 = .ok (.ifCond .ne 10, 3) := by decide +kernel
theorem dX12_judged_49 : decode cX12_judged 49 = .ok (.iload 4, 2) := by decide +kernel
theorem dX12_judged_51 : decode cX12_judged 51 = .ok (.bipush 6, 2) := by decide +kernel
theorem dX12_judged_53 : decode cX12_judged 53 = .ok (.if_icmp .le 5, 3) := by decide +kernel
theorem dX12_judged_56 : decode cX12_judged 56 = .ok (.iconst 0, 1) := by decide +kernel
theorem dX12_judged_57 : decode cX12_judged 57 = .ok (.ireturn, 1) := by decide +kernel
theorem dX12_judged_58 : decode cX12_judged 58 = .ok (.aload_n 0, 1) := by decide +kernel
theorem dX12_judged_59 : decode cX12_judged 59 = .ok (.getfield 73, 3) := by decide +kernel
theorem dX12_judged_62 : decode cX12_judged 62 = .ok (.iload_n 2, 1) := by decide +kernel
theorem dX12_judged_63 : decode cX12_judged 63 = .ok (.iload 4, 2) := by decide +kernel
theorem dX12_judged_65 : decode cX12_judged 65 = .ok (.iastore, 1) := by decide +kernel
theorem dX12_judged_66 : decode cX12_judged 66 = .ok (.iconst 1, 1) := by decide +kernel
theorem dX12_judged_67 : decode cX12_judged 67 = .ok (.ireturn, 1) := by decide +kernel
theorem dX12_judged_68 : decode cX12_judged 68 = .ok (.iload_n 2, 1) := by decide +kernel
theorem dX12_judged_69 : decode cX12_judged 69 = .ok (.aload_n 0, 1) := by decide +kernel
theorem dX12_judged_70 : decode cX12_judged 70 = .ok (.getfield 217, 3) := by decide +kernel
theorem dX12_judged_73 : decode cX12_judged 73 = .ok (.if_icmp .ge 13, 3) := by decide +kernel
theorem dX12_judged_76 : decode cX12_judged 76 = .ok (.iload_n 3, 1) := by decide +kernel
theorem dX12_judged_77 : decode cX12_judged 77 = .ok (.ifCond .ne 9, 3) := by decide +kernel
theorem dX12_judged_80 : decode cX12_judged 80 = .ok (.iload 4, 2) := by decide +kernel
theorem dX12_judged_82 : decode cX12_judged 82 = .ok (.iconst 1, 1) := by decide +kernel
theorem dX12_judged_83 : decode cX12_judged 83 = .ok (.if_icmp .le 5, 3) := by decide +kernel
theorem dX12_judged_86 : decode cX12_judged 86 = .ok (.iconst 0, 1) := by decide +kernel
theorem dX12_judged_87 : decode cX12_judged 87 = .ok (.ireturn, 1) := by decide +kernel
theorem dX12_judged_88 : decode cX12_judged 88 = .ok (.aload_n 0, 1) := by decide +kernel
theorem dX12_judged_89 : decode cX12_judged 89 = .ok (.getfield 73, 3) := by decide +kernel
theorem dX12_judged_92 : decode cX12_judged 92 = .ok (.iconst 3, 1) := by decide +kernel
theorem dX12_judged_93 : decode cX12_judged 93 = .ok (.aload_n 0, 1) := by decide +kernel
theorem dX12_judged_94 : decode cX12_judged 94 = .ok (.getfield 73, 3) := by decide +kernel
theorem dX12_judged_97 : decode cX12_judged 97 = .ok (.iconst 3, 1) := by decide +kernel
theorem dX12_judged_98 : decode cX12_judged 98 = .ok (.iaload, 1) := by decide +kernel
theorem dX12_judged_99 : decode cX12_judged 99 = .ok (.iconst 1, 1) := by decide +kernel
theorem dX12_judged_100 : decode cX12_judged 100 = .ok (.iload_n 2, 1) := by decide +kernel
theorem dX12_judged_101 : decode cX12_judged 101 = .ok (.ishl, 1) := by decide +kernel
theorem dX12_judged_102 : decode cX12_judged 102 = .ok (.iconst (-1), 1) := by decide +kernel
theorem dX12_judged_103 : decode cX12_judged 103 = .ok (.ixor, 1) := by decide +kernel
theorem dX12_judged_104 : decode cX12_judged 104 = .ok (.iand, 1) := by decide +kernel
theorem dX12_judged_105 : decode cX12_judged 105 = .ok (.iload 4, 2) := by decide +kernel
theorem dX12_judged_107 : decode cX12_judged 107 = .ok (.iload_n 2, 1) := by decide +kernel
theorem dX12_judged_108 : decode cX12_judged 108 = .ok (.ishl, 1) := by decide +kernel
theorem dX12_judged_109 : decode cX12_judged 109 = .ok (.ior, 1) := by decide +kernel
theorem dX12_judged_110 : decode cX12_judged 110 = .ok (.iastore, 1) := by decide +kernel
theorem dX12_judged_111 : decode cX12_judged 111 = .ok (.iconst 1, 1) := by decide +kernel
theorem dX12_judged_112 : decode cX12_judged 112 = .ok (.ireturn, 1) := by decide +kernel
theorem dX12_judged_113 : decode cX12_judged 113 = .ok (.iload_n 2, 1) := by decide +kernel
theorem dX12_judged_114 : decode cX12_judged 114 = .ok (.aload_n 0, 1) := by decide +kernel
theorem dX12_judged_115 : decode cX12_judged 115 = .ok (.getfield 208, 3) := by decide +kernel
theorem dX12_judged_118 : decode cX12_judged 118 = .ok (.if_icmp .ge 13, 3) := by decide +kernel
theorem dX12_judged_121 : decode cX12_judged 121 = .ok (.iload_n 3, 1) := by decide +kernel
theorem dX12_judged_122 : decode cX12_judged 122 = .ok (.ifCond .ne 9, 3) := by decide +kernel
theorem dX12_judged_125 : decode cX12_judged 125 = .ok (.iload 4, 2) := by decide +kernel
theorem dX12_judged_127 : decode cX12_judged 127 = .ok (.iconst 1, 1) := by decide +kernel
theorem dX12_judged_128 : decode cX12_judged 128 = .ok (.if_icmp .le 5, 3) := by decide +kernel
theorem dX12_judged_131 : decode cX12_judged 131 = .ok (.iconst 0, 1) := by decide +kernel
theorem dX12_judged_132 : decode cX12_judged 132 = .ok (.ireturn, 1) := by decide +kernel
theorem dX12_judged_133 : decode cX12_judged 133 = .ok (.aload_n 0, 1) := by decide +kernel
theorem dX12_judged_134 : decode cX12_judged 134 = .ok (.aload_n 0, 1) := by decide +kernel
theorem dX12_judged_135 : decode cX12_judged 135 = .ok (.getfield 73, 3) := by decide +kernel
theorem dX12_judged_138 : decode cX12_judged 138 = .ok (.invokevirtual 307, 3) := by decide +kernel
theorem dX12_judged_141 : decode cX12_judged 141 = .ok (.aload_n 0, 1) := by decide +kernel
theorem dX12_judged_142 : decode cX12_judged 142 = .ok (.iload_n 2, 1) := by decide +kernel
theorem dX12_judged_143 : decode cX12_judged 143 = .ok (.invokevirtual 298, 3) := by decide +kernel
theorem dX12_judged_146 : decode cX12_judged 146 = .ok (.bipush (-9), 2) := by decide +kernel
theorem dX12_judged_148 : decode cX12_judged 148 = .ok (.if_icmp .ne 7, 3) := by decide +kernel
theorem dX12_judged_151 : decode cX12_judged 151 = .ok (.iconst 1, 1) := by decide +kernel
theorem dX12_judged_152 : decode cX12_judged 152 = .ok (.goto 4, 3) := by decide +kernel
theorem dX12_judged_155 : decode cX12_judged 155 = .ok (.iconst 0, 1) := by decide +kernel
theorem dX12_judged_156 : decode cX12_judged 156 = .ok (.iload 4, 2) := by decide +kernel
theorem dX12_judged_158 : decode cX12_judged 158 = .ok (.iconst 1, 1) := by decide +kernel
theorem dX12_judged_159 : decode cX12_judged 159 = .ok (.if_icmp .ne 7, 3) := by decide +kernel
theorem dX12_judged_162 : decode cX12_judged 162 = .ok (.iconst 1, 1) := by decide +kernel
theorem dX12_judged_163 : decode cX12_judged 163 = .ok (.goto 4, 3) := by decide +kernel
theorem dX12_judged_166 : decode cX12_judged 166 = .ok (.iconst 0, 1) := by decide +kernel
theorem dX12_judged_167 : decode cX12_judged 167 = .ok (.if_icmp .ne 7, 3) := by decide +kernel
theorem dX12_judged_170 : decode cX12_judged 170 = .ok (.iconst 1, 1) := by decide +kernel
theorem dX12_judged_171 : decode cX12_judged 171 = .ok (.goto 4, 3) := by decide +kernel
theorem dX12_judged_174 : decode cX12_judged 174 = .ok (.iconst 0, 1) := by decide +kernel
theorem dX12_judged_175 : decode cX12_judged 175 = .ok (.ireturn, 1) := by decide +kernel
theorem dX12_judged_176 : decode cX12_judged 176 = .ok (.iload_n 2, 1) := by decide +kernel
theorem dX12_judged_177 : decode cX12_judged 177 = .ok (.aload_n 0, 1) := by decide +kernel
theorem dX12_judged_178 : decode cX12_judged 178 = .ok (.getfield 208, 3) := by decide +kernel
theorem dX12_judged_181 : decode cX12_judged 181 = .ok (.if_icmp .ge 13, 3) := by decide +kernel
theorem dX12_judged_184 : decode cX12_judged 184 = .ok (.iload_n 3, 1) := by decide +kernel
theorem dX12_judged_185 : decode cX12_judged 185 = .ok (.ifCond .ne 9, 3) := by decide +kernel
theorem dX12_judged_188 : decode cX12_judged 188 = .ok (.iload 4, 2) := by decide +kernel
theorem dX12_judged_190 : decode cX12_judged 190 = .ok (.iconst 1, 1) := by decide +kernel
theorem dX12_judged_191 : decode cX12_judged 191 = .ok (.if_icmp .le 5, 3) := by decide +kernel
theorem dX12_judged_194 : decode cX12_judged 194 = .ok (.iconst 0, 1) := by decide +kernel
theorem dX12_judged_195 : decode cX12_judged 195 = .ok (.ireturn, 1) := by decide +kernel
theorem dX12_judged_196 : decode cX12_judged 196 = .ok (.aload_n 0, 1) := by decide +kernel
theorem dX12_judged_197 : decode cX12_judged 197 = .ok (.aload_n 0, 1) := by decide +kernel
theorem dX12_judged_198 : decode cX12_judged 198 = .ok (.getfield 73, 3) := by decide +kernel
theorem dX12_judged_201 : decode cX12_judged 201 = .ok (.invokevirtual 310, 3) := by decide +kernel
theorem dX12_judged_204 : decode cX12_judged 204 = .ok (.aload_n 0, 1) := by decide +kernel
theorem dX12_judged_205 : decode cX12_judged 205 = .ok (.iload_n 2, 1) := by decide +kernel
theorem dX12_judged_206 : decode cX12_judged 206 = .ok (.invokevirtual 298, 3) := by decide +kernel
theorem dX12_judged_209 : decode cX12_judged 209 = .ok (.bipush (-9), 2) := by decide +kernel
theorem dX12_judged_211 : decode cX12_judged 211 = .ok (.if_icmp .ne 7, 3) := by decide +kernel
theorem dX12_judged_214 : decode cX12_judged 214 = .ok (.iconst 1, 1) := by decide +kernel
theorem dX12_judged_215 : decode cX12_judged 215 = .ok (.goto 4, 3) := by decide +kernel
theorem dX12_judged_218 : decode cX12_judged 218 = .ok (.iconst 0, 1) := by decide +kernel
theorem dX12_judged_219 : decode cX12_judged 219 = .ok (.iload 4, 2) := by decide +kernel
theorem dX12_judged_221 : decode cX12_judged 221 = .ok (.iconst 1, 1) := by decide +kernel
theorem dX12_judged_222 : decode cX12_judged 222 = .ok (.if_icmp .ne 7, 3) := by decide +kernel
theorem dX12_judged_225 : decode cX12_judged 225 = .ok (.iconst 1, 1) := by decide +kernel
theorem dX12_judged_226 : decode cX12_judged 226 = .ok (.goto 4, 3) := by decide +kernel
theorem dX12_judged_229 : decode cX12_judged 229 = .ok (.iconst 0, 1) := by decide +kernel
theorem dX12_judged_230 : decode cX12_judged 230 = .ok (.if_icmp .ne 7, 3) := by decide +kernel
theorem dX12_judged_233 : decode cX12_judged 233 = .ok (.iconst 1, 1) := by decide +kernel
theorem dX12_judged_234 : decode cX12_judged 234 = .ok (.goto 4, 3) := by decide +kernel
theorem dX12_judged_237 : decode cX12_judged 237 = .ok (.iconst 0, 1) := by decide +kernel
theorem dX12_judged_238 : decode cX12_judged 238 = .ok (.ireturn, 1) := by decide +kernel
theorem dX12_judged_239 : decode cX12_judged 239 = .ok (.iload_n 2, 1) := by decide +kernel
theorem dX12_judged_240 : decode cX12_judged 240 = .ok (.aload_n 0, 1) := by decide +kernel
theorem dX12_judged_241 : decode cX12_judged 241 = .ok (.getfield 211, 3) := by decide +kernel
theorem dX12_judged_244 : decode cX12_judged 244 = .ok (.if_icmp .ge 17, 3) := by decide +kernel
theorem dX12_judged_247 : decode cX12_judged 247 = .ok (.iload_n 3, 1) := by decide +kernel
theorem dX12_judged_248 : decode cX12_judged 248 = .ok (.aload_n 0, 1) := by decide +kernel
theorem dX12_judged_249 : decode cX12_judged 249 = .ok (.getfield 217, 3) := by decide +kernel
theorem dX12_judged_252 : decode cX12_judged 252 = .ok (.if_icmp .ge 9, 3) := by decide +kernel
theorem dX12_judged_255 : decode cX12_judged 255 = .ok (.iload 4, 2) := by decide +kernel
theorem dX12_judged_257 : decode cX12_judged 257 = .ok (.iconst 1, 1) := by decide +kernel
theorem dX12_judged_258 : decode cX12_judged 258 = .ok (.if_icmp .le 5, 3) := by decide +kernel
theorem dX12_judged_261 : decode cX12_judged 261 = .ok (.iconst 0, 1) := by decide +kernel
theorem dX12_judged_262 : decode cX12_judged 262 = .ok (.ireturn, 1) := by decide +kernel
theorem dX12_judged_263 : decode cX12_judged 263 = .ok (.aload_n 0, 1) := by decide +kernel
theorem dX12_judged_264 : decode cX12_judged 264 = .ok (.aload_n 0, 1) := by decide +kernel
theorem dX12_judged_265 : decode cX12_judged 265 = .ok (.getfield 73, 3) := by decide +kernel
theorem dX12_judged_268 : decode cX12_judged 268 = .ok (.invokevirtual 307, 3) := by decide +kernel
theorem dX12_judged_271 : decode cX12_judged 271 = .ok (.aload_n 0, 1) := by decide +kernel
theorem dX12_judged_272 : decode cX12_judged 272 = .ok (.getfield 99, 3) := by decide +kernel
theorem dX12_judged_275 : decode cX12_judged 275 = .ok (.iload_n 2, 1) := by decide +kernel
theorem dX12_judged_276 : decode cX12_judged 276 = .ok (.iaload, 1) := by decide +kernel
theorem dX12_judged_277 : decode cX12_judged 277 = .ok (.iload_n 3, 1) := by decide +kernel
theorem dX12_judged_278 : decode cX12_judged 278 = .ok (.invokestatic 236, 3) := by decide +kernel
theorem dX12_judged_281 : decode cX12_judged 281 = .ok (.iload 4, 2) := by decide +kernel
theorem dX12_judged_283 : decode cX12_judged 283 = .ok (.iconst 1, 1) := by decide +kernel
theorem dX12_judged_284 : decode cX12_judged 284 = .ok (.if_icmp .ne 7, 3) := by decide +kernel
theorem dX12_judged_287 : decode cX12_judged 287 = .ok (.iconst 1, 1) := by decide +kernel
theorem dX12_judged_288 : decode cX12_judged 288 = .ok (.goto 4, 3) := by decide +kernel
theorem dX12_judged_291 : decode cX12_judged 291 = .ok (.iconst 0, 1) := by decide +kernel
theorem dX12_judged_292 : decode cX12_judged 292 = .ok (.if_icmp .ne 7, 3) := by decide +kernel
theorem dX12_judged_295 : decode cX12_judged 295 = .ok (.iconst 1, 1) := by decide +kernel
theorem dX12_judged_296 : decode cX12_judged 296 = .ok (.goto 4, 3) := by decide +kernel
theorem dX12_judged_299 : decode cX12_judged 299 = .ok (.iconst 0, 1) := by decide +kernel
theorem dX12_judged_300 : decode cX12_judged 300 = .ok (.ireturn, 1) := by decide +kernel
theorem dX12_judged_301 : decode cX12_judged 301 = .ok (.aload_n 0, 1) := by decide +kernel
theorem dX12_judged_302 : decode cX12_judged 302 = .ok (.bipush 100, 2) := by decide +kernel
theorem dX12_judged_304 : decode cX12_judged 304 = .ok (.iload_n 2, 1) := by decide +kernel
theorem dX12_judged_305 : decode cX12_judged 305 = .ok (.imul, 1) := by decide +kernel
theorem dX12_judged_306 : decode cX12_judged 306 = .ok (.bipush 10, 2) := by decide +kernel
theorem dX12_judged_308 : decode cX12_judged 308 = .ok (.iload_n 3, 1) := by decide +kernel
theorem dX12_judged_309 : decode cX12_judged 309 = .ok (.imul, 1) := by decide +kernel
theorem dX12_judged_310 : decode cX12_judged 310 = .ok (.iadd, 1) := by decide +kernel
theorem dX12_judged_311 : decode cX12_judged 311 = .ok (.iload 4, 2) := by decide +kernel
theorem dX12_judged_313 : decode cX12_judged 313 = .ok (.iadd, 1) := by decide +kernel
theorem dX12_judged_314 : decode cX12_judged 314 = .ok (.invokevirtual 343, 3) := by decide +kernel
theorem dX12_judged_317 : decode cX12_judged 317 = .ok (.ireturn, 1) := by decide +kernel
theorem dX12_judged_318 : decode cX12_judged 318 = .ok (.iconst 0, 1) := by decide +kernel
theorem dX12_judged_319 : decode cX12_judged 319 = .ok (.ireturn, 1) := by decide +kernel
theorem dX12_tenThousands_0 : decode cX12_tenThousands 0 = .ok (.lconst 1, 1) := by decide +kernel
theorem dX12_tenThousands_1 : decode cX12_tenThousands 1 = .ok (.lstore_n 1, 1) := by decide +kernel
theorem dX12_tenThousands_2 : decode cX12_tenThousands 2 = .ok (.iconst 0, 1) := by decide +kernel
theorem dX12_tenThousands_3 : decode cX12_tenThousands 3 = .ok (.istore_n 3, 1) := by decide +kernel
theorem dX12_tenThousands_4 : decode cX12_tenThousands 4 = .ok (.iload_n 3, 1) := by decide +kernel
theorem dX12_tenThousands_5 : decode cX12_tenThousands 5 = .ok (.iload_n 0, 1) := by decide +kernel
theorem dX12_tenThousands_6 : decode cX12_tenThousands 6 = .ok (.if_icmp .ge 15, 3) := by decide +kernel
theorem dX12_tenThousands_9 : decode cX12_tenThousands 9 = .ok (.lload_n 1, 1) := by decide +kernel
theorem dX12_tenThousands_10 : decode cX12_tenThousands 10 = .ok (.ldc2_w 346, 3) := by decide +kernel
theorem dX12_tenThousands_13 : decode cX12_tenThousands 13 = .ok (.lmul, 1) := by decide +kernel
theorem dX12_tenThousands_14 : decode cX12_tenThousands 14 = .ok (.lstore_n 1, 1) := by decide +kernel
theorem dX12_tenThousands_15 : decode cX12_tenThousands 15 = .ok (.iinc 3 1, 3) := by decide +kernel
theorem dX12_tenThousands_18 : decode cX12_tenThousands 18 = .ok (.goto (-14), 3) := by decide +kernel
theorem dX12_tenThousands_21 : decode cX12_tenThousands 21 = .ok (.lload_n 1, 1) := by decide +kernel
theorem dX12_tenThousands_22 : decode cX12_tenThousands 22 = .ok (.lreturn, 1) := by decide +kernel
theorem dX12_layTrial_0 : decode cX12_layTrial 0 = .ok (.iconst 0, 1) := by decide +kernel
theorem dX12_layTrial_1 : decode cX12_layTrial 1 = .ok (.istore_n 1, 1) := by decide +kernel
theorem dX12_layTrial_2 : decode cX12_layTrial 2 = .ok (.iload_n 1, 1) := by decide +kernel
theorem dX12_layTrial_3 : decode cX12_layTrial 3 = .ok (.iconst 4, 1) := by decide +kernel
theorem dX12_layTrial_4 : decode cX12_layTrial 4 = .ok (.if_icmp .ge 21, 3) := by decide +kernel
theorem dX12_layTrial_7 : decode cX12_layTrial 7 = .ok (.aload_n 0, 1) := by decide +kernel
theorem dX12_layTrial_8 : decode cX12_layTrial 8 = .ok (.getfield 73, 3) := by decide +kernel
theorem dX12_layTrial_11 : decode cX12_layTrial 11 = .ok (.iload_n 1, 1) := by decide +kernel
theorem dX12_layTrial_12 : decode cX12_layTrial 12 = .ok (.aload_n 0, 1) := by decide +kernel
theorem dX12_layTrial_13 : decode cX12_layTrial 13 = .ok (.getfield 70, 3) := by decide +kernel
theorem dX12_layTrial_16 : decode cX12_layTrial 16 = .ok (.iload_n 1, 1) := by decide +kernel
theorem dX12_layTrial_17 : decode cX12_layTrial 17 = .ok (.iaload, 1) := by decide +kernel
theorem dX12_layTrial_18 : decode cX12_layTrial 18 = .ok (.iastore, 1) := by decide +kernel
theorem dX12_layTrial_19 : decode cX12_layTrial 19 = .ok (.iinc 1 1, 3) := by decide +kernel
theorem dX12_layTrial_22 : decode cX12_layTrial 22 = .ok (.goto (-20), 3) := by decide +kernel
theorem dX12_layTrial_25 : decode cX12_layTrial 25 = .ok (.return_, 1) := by decide +kernel
theorem dX12_judge_0 : decode cX12_judge 0 = .ok (.iload_n 1, 1) := by decide +kernel
theorem dX12_judge_1 : decode cX12_judge 1 = .ok (.i2l, 1) := by decide +kernel
theorem dX12_judge_2 : decode cX12_judge 2 = .ok (.lconst 1, 1) := by decide +kernel
theorem dX12_judge_3 : decode cX12_judge 3 = .ok (.ldc2_w 348, 3) := by decide +kernel
theorem dX12_judge_6 : decode cX12_judge 6 = .ok (.invokestatic 114, 3) := by decide +kernel
theorem dX12_judge_9 : decode cX12_judge 9 = .ok (.ifCond .eq 17, 3) := by decide +kernel
theorem dX12_judge_12 : decode cX12_judge 12 = .ok (.lload_n 2, 1) := by decide +kernel
theorem dX12_judge_13 : decode cX12_judge 13 = .ok (.lconst 0, 1) := by decide +kernel
theorem dX12_judge_14 : decode cX12_judge 14 = .ok (.iload_n 1, 1) := by decide +kernel
theorem dX12_judge_15 : decode cX12_judge 15 = .ok (.invokestatic 350, 3) := by decide +kernel
theorem dX12_judge_18 : decode cX12_judge 18 = .ok (.lconst 1, 1) := by decide +kernel
theorem dX12_judge_19 : decode cX12_judge 19 = .ok (.lsub, 1) := by decide +kernel
theorem dX12_judge_20 : decode cX12_judge 20 = .ok (.invokestatic 114, 3) := by decide +kernel
theorem dX12_judge_23 : decode cX12_judge 23 = .ok (.ifCond .ne 6, 3) := by decide +kernel
theorem dX12_judge_26 : decode cX12_judge 26 = .ok (.bipush (-2), 2) := by decide +kernel
theorem dX12_judge_28 : decode cX12_judge 28 = .ok (.ireturn, 1) := by decide +kernel
theorem dX12_judge_29 : decode cX12_judge 29 = .ok (.aload_n 0, 1) := by decide +kernel
theorem dX12_judge_30 : decode cX12_judge 30 = .ok (.invokevirtual 354, 3) := by decide +kernel
theorem dX12_judge_33 : decode cX12_judge 33 = .ok (.iconst 0, 1) := by decide +kernel
theorem dX12_judge_34 : decode cX12_judge 34 = .ok (.istore 4, 2) := by decide +kernel
theorem dX12_judge_36 : decode cX12_judge 36 = .ok (.iload 4, 2) := by decide +kernel
theorem dX12_judge_38 : decode cX12_judge 38 = .ok (.iload_n 1, 1) := by decide +kernel
theorem dX12_judge_39 : decode cX12_judge 39 = .ok (.if_icmp .ge 64, 3) := by decide +kernel
theorem dX12_judge_42 : decode cX12_judge 42 = .ok (.lload_n 2, 1) := by decide +kernel
theorem dX12_judge_43 : decode cX12_judge 43 = .ok (.iload_n 1, 1) := by decide +kernel
theorem dX12_judge_44 : decode cX12_judge 44 = .ok (.iconst 1, 1) := by decide +kernel
theorem dX12_judge_45 : decode cX12_judge 45 = .ok (.isub, 1) := by decide +kernel
theorem dX12_judge_46 : decode cX12_judge 46 = .ok (.iload 4, 2) := by decide +kernel
theorem dX12_judge_48 : decode cX12_judge 48 = .ok (.isub, 1) := by decide +kernel
theorem dX12_judge_49 : decode cX12_judge 49 = .ok (.invokestatic 350, 3) := by decide +kernel
theorem dX12_judge_52 : decode cX12_judge 52 = .ok (.ldiv, 1) := by decide +kernel
theorem dX12_judge_53 : decode cX12_judge 53 = .ok (.ldc2_w 346, 3) := by decide +kernel
theorem dX12_judge_56 : decode cX12_judge 56 = .ok (.lrem, 1) := by decide +kernel
theorem dX12_judge_57 : decode cX12_judge 57 = .ok (.l2i, 1) := by decide +kernel
theorem dX12_judge_58 : decode cX12_judge 58 = .ok (.istore 5, 2) := by decide +kernel
theorem dX12_judge_60 : decode cX12_judge 60 = .ok (.aload_n 0, 1) := by decide +kernel
theorem dX12_judge_61 : decode cX12_judge 61 = .ok (.iload 5, 2) := by decide +kernel
theorem dX12_judge_63 : decode cX12_judge 63 = .ok (.sipush 1000, 3) := by decide +kernel
theorem dX12_judge_66 : decode cX12_judge 66 = .ok (.idiv, 1) := by decide +kernel
theorem dX12_judge_67 : decode cX12_judge 67 = .ok (.iload 5, 2) := by decide +kernel
theorem dX12_judge_69 : decode cX12_judge 69 = .ok (.bipush 100, 2) := by decide +kernel
theorem dX12_judge_71 : decode cX12_judge 71 = .ok (.idiv, 1) := by decide +kernel
theorem dX12_judge_72 : decode cX12_judge 72 = .ok (.bipush 10, 2) := by decide +kernel
theorem dX12_judge_74 : decode cX12_judge 74 = .ok (.irem, 1) := by decide +kernel
theorem dX12_judge_75 : decode cX12_judge 75 = .ok (.iload 5, 2) := by decide +kernel
theorem dX12_judge_77 : decode cX12_judge 77 = .ok (.bipush 10, 2) := by decide +kernel
theorem dX12_judge_79 : decode cX12_judge 79 = .ok (.idiv, 1) := by decide +kernel
theorem dX12_judge_80 : decode cX12_judge 80 = .ok (.bipush 10, 2) := by decide +kernel
theorem dX12_judge_82 : decode cX12_judge 82 = .ok (.irem, 1) := by decide +kernel
theorem dX12_judge_83 : decode cX12_judge 83 = .ok (.iload 5, 2) := by decide +kernel
theorem dX12_judge_85 : decode cX12_judge 85 = .ok (.bipush 10, 2) := by decide +kernel
theorem dX12_judge_87 : decode cX12_judge 87 = .ok (.irem, 1) := by decide +kernel
theorem dX12_judge_88 : decode cX12_judge 88 = .ok (.invokevirtual 357, 3) := by decide +kernel
theorem dX12_judge_91 : decode cX12_judge 91 = .ok (.ifCond .ne 6, 3) := by decide +kernel
theorem dX12_judge_94 : decode cX12_judge 94 = .ok (.iload 4, 2) := by decide +kernel
theorem dX12_judge_96 : decode cX12_judge 96 = .ok (.ireturn, 1) := by decide +kernel
theorem dX12_judge_97 : decode cX12_judge 97 = .ok (.iinc 4 1, 3) := by decide +kernel
theorem dX12_judge_100 : decode cX12_judge 100 = .ok (.goto (-64), 3) := by decide +kernel
theorem dX12_judge_103 : decode cX12_judge 103 = .ok (.bipush (-9), 2) := by decide +kernel
theorem dX12_judge_105 : decode cX12_judge 105 = .ok (.ireturn, 1) := by decide +kernel
theorem dX12_share_0 : decode cX12_share 0 = .ok (.iload_n 1, 1) := by decide +kernel
theorem dX12_share_1 : decode cX12_share 1 = .ok (.i2l, 1) := by decide +kernel
theorem dX12_share_2 : decode cX12_share 2 = .ok (.lconst 0, 1) := by decide +kernel
theorem dX12_share_3 : decode cX12_share 3 = .ok (.aload_n 0, 1) := by decide +kernel
theorem dX12_share_4 : decode cX12_share 4 = .ok (.getfield 217, 3) := by decide +kernel
theorem dX12_share_7 : decode cX12_share 7 = .ok (.iconst 1, 1) := by decide +kernel
theorem dX12_share_8 : decode cX12_share 8 = .ok (.isub, 1) := by decide +kernel
theorem dX12_share_9 : decode cX12_share 9 = .ok (.i2l, 1) := by decide +kernel
theorem dX12_share_10 : decode cX12_share 10 = .ok (.invokestatic 114, 3) := by decide +kernel
theorem dX12_share_13 : decode cX12_share 13 = .ok (.ifCond .ne 5, 3) := by decide +kernel
theorem dX12_share_16 : decode cX12_share 16 = .ok (.iconst (-1), 1) := by decide +kernel
theorem dX12_share_17 : decode cX12_share 17 = .ok (.ireturn, 1) := by decide +kernel
theorem dX12_share_18 : decode cX12_share 18 = .ok (.aload_n 0, 1) := by decide +kernel
theorem dX12_share_19 : decode cX12_share 19 = .ok (.aload_n 0, 1) := by decide +kernel
theorem dX12_share_20 : decode cX12_share 20 = .ok (.getfield 70, 3) := by decide +kernel
theorem dX12_share_23 : decode cX12_share 23 = .ok (.invokevirtual 281, 3) := by decide +kernel
theorem dX12_share_26 : decode cX12_share 26 = .ok (.istore_n 3, 1) := by decide +kernel
theorem dX12_share_27 : decode cX12_share 27 = .ok (.iload_n 3, 1) := by decide +kernel
theorem dX12_share_28 : decode cX12_share 28 = .ok (.iload_n 1, 1) := by decide +kernel
theorem dX12_share_29 : decode cX12_share 29 = .ok (.invokestatic 236, 3) := by decide +kernel
theorem dX12_share_32 : decode cX12_share 32 = .ok (.ifCond .ne 6, 3) := by decide +kernel
theorem dX12_share_35 : decode cX12_share 35 = .ok (.bipush (-3), 2) := by decide +kernel
theorem dX12_share_37 : decode cX12_share 37 = .ok (.ireturn, 1) := by decide +kernel
theorem dX12_share_38 : decode cX12_share 38 = .ok (.iconst 0, 1) := by decide +kernel
theorem dX12_share_39 : decode cX12_share 39 = .ok (.istore 4, 2) := by decide +kernel
theorem dX12_share_41 : decode cX12_share 41 = .ok (.iload 4, 2) := by decide +kernel
theorem dX12_share_43 : decode cX12_share 43 = .ok (.iload_n 3, 1) := by decide +kernel
theorem dX12_share_44 : decode cX12_share 44 = .ok (.if_icmp .gt 39, 3) := by decide +kernel
theorem dX12_share_47 : decode cX12_share 47 = .ok (.aload_n 0, 1) := by decide +kernel
theorem dX12_share_48 : decode cX12_share 48 = .ok (.getfield 105, 3) := by decide +kernel
theorem dX12_share_51 : decode cX12_share 51 = .ok (.iload 4, 2) := by decide +kernel
theorem dX12_share_53 : decode cX12_share 53 = .ok (.iload 4, 2) := by decide +kernel
theorem dX12_share_55 : decode cX12_share 55 = .ok (.iload_n 3, 1) := by decide +kernel
theorem dX12_share_56 : decode cX12_share 56 = .ok (.iconst (-1), 1) := by decide +kernel
theorem dX12_share_57 : decode cX12_share 57 = .ok (.ixor, 1) := by decide +kernel
theorem dX12_share_58 : decode cX12_share 58 = .ok (.iand, 1) := by decide +kernel
theorem dX12_share_59 : decode cX12_share 59 = .ok (.ifCond .ne 16, 3) := by decide +kernel
theorem dX12_share_62 : decode cX12_share 62 = .ok (.aload_n 0, 1) := by decide +kernel
theorem dX12_share_63 : decode cX12_share 63 = .ok (.aload_n 0, 1) := by decide +kernel
theorem dX12_share_64 : decode cX12_share 64 = .ok (.getfield 70, 3) := by decide +kernel
theorem dX12_share_67 : decode cX12_share 67 = .ok (.iload 4, 2) := by decide +kernel
theorem dX12_share_69 : decode cX12_share 69 = .ok (.invokevirtual 334, 3) := by decide +kernel
theorem dX12_share_72 : decode cX12_share 72 = .ok (.goto 4, 3) := by decide +kernel
theorem dX12_share_75 : decode cX12_share 75 = .ok (.iconst 0, 1) := by decide +kernel
theorem dX12_share_76 : decode cX12_share 76 = .ok (.iastore, 1) := by decide +kernel
theorem dX12_share_77 : decode cX12_share 77 = .ok (.iinc 4 1, 3) := by decide +kernel
theorem dX12_share_80 : decode cX12_share 80 = .ok (.goto (-39), 3) := by decide +kernel
theorem dX12_share_83 : decode cX12_share 83 = .ok (.iload_n 3, 1) := by decide +kernel
theorem dX12_share_84 : decode cX12_share 84 = .ok (.invokestatic 304, 3) := by decide +kernel
theorem dX12_share_87 : decode cX12_share 87 = .ok (.istore 4, 2) := by decide +kernel
theorem dX12_share_89 : decode cX12_share 89 = .ok (.iconst 0, 1) := by decide +kernel
theorem dX12_share_90 : decode cX12_share 90 = .ok (.istore 5, 2) := by decide +kernel
theorem dX12_share_92 : decode cX12_share 92 = .ok (.iconst 0, 1) := by decide +kernel
theorem dX12_share_93 : decode cX12_share 93 = .ok (.istore 6, 2) := by decide +kernel
theorem dX12_share_95 : decode cX12_share 95 = .ok (.iload 6, 2) := by decide +kernel
theorem dX12_share_97 : decode cX12_share 97 = .ok (.iload_n 3, 1) := by decide +kernel
theorem dX12_share_98 : decode cX12_share 98 = .ok (.if_icmp .gt 75, 3) := by decide +kernel
theorem dX12_share_101 : decode cX12_share 101 = .ok (.iload 6, 2) := by decide +kernel
theorem dX12_share_103 : decode cX12_share 103 = .ok (.iload_n 3, 1) := by decide +kernel
theorem dX12_share_104 : decode cX12_share 104 = .ok (.iconst (-1), 1) := by decide +kernel
theorem dX12_share_105 : decode cX12_share 105 = .ok (.ixor, 1) := by decide +kernel
theorem dX12_share_106 : decode cX12_share 106 = .ok (.iand, 1) := by decide +kernel
theorem dX12_share_107 : decode cX12_share 107 = .ok (.ifCond .ne 60, 3) := by decide +kernel
theorem dX12_share_110 : decode cX12_share 110 = .ok (.iload 6, 2) := by decide +kernel
theorem dX12_share_112 : decode cX12_share 112 = .ok (.iload_n 1, 1) := by decide +kernel
theorem dX12_share_113 : decode cX12_share 113 = .ok (.invokestatic 236, 3) := by decide +kernel
theorem dX12_share_116 : decode cX12_share 116 = .ok (.ifCond .ne 51, 3) := by decide +kernel
theorem dX12_share_119 : decode cX12_share 119 = .ok (.iload 6, 2) := by decide +kernel
theorem dX12_share_121 : decode cX12_share 121 = .ok (.invokestatic 304, 3) := by decide +kernel
theorem dX12_share_124 : decode cX12_share 124 = .ok (.istore 7, 2) := by decide +kernel
theorem dX12_share_126 : decode cX12_share 126 = .ok (.iload 5, 2) := by decide +kernel
theorem dX12_share_128 : decode cX12_share 128 = .ok (.iload 7, 2) := by decide +kernel
theorem dX12_share_130 : decode cX12_share 130 = .ok (.invokestatic 360, 3) := by decide +kernel
theorem dX12_share_133 : decode cX12_share 133 = .ok (.iload 4, 2) := by decide +kernel
theorem dX12_share_135 : decode cX12_share 135 = .ok (.iconst 1, 1) := by decide +kernel
theorem dX12_share_136 : decode cX12_share 136 = .ok (.isub, 1) := by decide +kernel
theorem dX12_share_137 : decode cX12_share 137 = .ok (.iload 7, 2) := by decide +kernel
theorem dX12_share_139 : decode cX12_share 139 = .ok (.isub, 1) := by decide +kernel
theorem dX12_share_140 : decode cX12_share 140 = .ok (.invokestatic 360, 3) := by decide +kernel
theorem dX12_share_143 : decode cX12_share 143 = .ok (.imul, 1) := by decide +kernel
theorem dX12_share_144 : decode cX12_share 144 = .ok (.aload_n 0, 1) := by decide +kernel
theorem dX12_share_145 : decode cX12_share 145 = .ok (.getfield 105, 3) := by decide +kernel
theorem dX12_share_148 : decode cX12_share 148 = .ok (.iload 6, 2) := by decide +kernel
theorem dX12_share_150 : decode cX12_share 150 = .ok (.iconst 1, 1) := by decide +kernel
theorem dX12_share_151 : decode cX12_share 151 = .ok (.iload_n 1, 1) := by decide +kernel
theorem dX12_share_152 : decode cX12_share 152 = .ok (.ishl, 1) := by decide +kernel
theorem dX12_share_153 : decode cX12_share 153 = .ok (.ior, 1) := by decide +kernel
theorem dX12_share_154 : decode cX12_share 154 = .ok (.iaload, 1) := by decide +kernel
theorem dX12_share_155 : decode cX12_share 155 = .ok (.aload_n 0, 1) := by decide +kernel
theorem dX12_share_156 : decode cX12_share 156 = .ok (.getfield 105, 3) := by decide +kernel
theorem dX12_share_159 : decode cX12_share 159 = .ok (.iload 6, 2) := by decide +kernel
theorem dX12_share_161 : decode cX12_share 161 = .ok (.iaload, 1) := by decide +kernel
theorem dX12_share_162 : decode cX12_share 162 = .ok (.isub, 1) := by decide +kernel
theorem dX12_share_163 : decode cX12_share 163 = .ok (.imul, 1) := by decide +kernel
theorem dX12_share_164 : decode cX12_share 164 = .ok (.iadd, 1) := by decide +kernel
theorem dX12_share_165 : decode cX12_share 165 = .ok (.istore 5, 2) := by decide +kernel
theorem dX12_share_167 : decode cX12_share 167 = .ok (.iinc 6 1, 3) := by decide +kernel
theorem dX12_share_170 : decode cX12_share 170 = .ok (.goto (-75), 3) := by decide +kernel
theorem dX12_share_173 : decode cX12_share 173 = .ok (.iload 5, 2) := by decide +kernel
theorem dX12_share_175 : decode cX12_share 175 = .ok (.iload 4, 2) := by decide +kernel
theorem dX12_share_177 : decode cX12_share 177 = .ok (.invokestatic 360, 3) := by decide +kernel
theorem dX12_share_180 : decode cX12_share 180 = .ok (.iload_n 2, 1) := by decide +kernel
theorem dX12_share_181 : decode cX12_share 181 = .ok (.invokestatic 363, 3) := by decide +kernel
theorem dX12_share_184 : decode cX12_share 184 = .ok (.ireturn, 1) := by decide +kernel
theorem dX12_see_0 : decode cX12_see 0 = .ok (.iload_n 1, 1) := by decide +kernel
theorem dX12_see_1 : decode cX12_see 1 = .ok (.i2l, 1) := by decide +kernel
theorem dX12_see_2 : decode cX12_see 2 = .ok (.lconst 0, 1) := by decide +kernel
theorem dX12_see_3 : decode cX12_see 3 = .ok (.aload_n 0, 1) := by decide +kernel
theorem dX12_see_4 : decode cX12_see 4 = .ok (.getfield 208, 3) := by decide +kernel
theorem dX12_see_7 : decode cX12_see 7 = .ok (.iconst 1, 1) := by decide +kernel
theorem dX12_see_8 : decode cX12_see 8 = .ok (.isub, 1) := by decide +kernel
theorem dX12_see_9 : decode cX12_see 9 = .ok (.i2l, 1) := by decide +kernel
theorem dX12_see_10 : decode cX12_see 10 = .ok (.invokestatic 114, 3) := by decide +kernel
theorem dX12_see_13 : decode cX12_see 13 = .ok (.ifCond .ne 5, 3) := by decide +kernel
theorem dX12_see_16 : decode cX12_see 16 = .ok (.iconst (-1), 1) := by decide +kernel
theorem dX12_see_17 : decode cX12_see 17 = .ok (.ireturn, 1) := by decide +kernel
theorem dX12_see_18 : decode cX12_see 18 = .ok (.iload_n 2, 1) := by decide +kernel
theorem dX12_see_19 : decode cX12_see 19 = .ok (.i2l, 1) := by decide +kernel
theorem dX12_see_20 : decode cX12_see 20 = .ok (.lconst 0, 1) := by decide +kernel
theorem dX12_see_21 : decode cX12_see 21 = .ok (.lconst 1, 1) := by decide +kernel
theorem dX12_see_22 : decode cX12_see 22 = .ok (.invokestatic 114, 3) := by decide +kernel
theorem dX12_see_25 : decode cX12_see 25 = .ok (.ifCond .ne 6, 3) := by decide +kernel
theorem dX12_see_28 : decode cX12_see 28 = .ok (.bipush (-2), 2) := by decide +kernel
theorem dX12_see_30 : decode cX12_see 30 = .ok (.ireturn, 1) := by decide +kernel
theorem dX12_see_31 : decode cX12_see 31 = .ok (.aload_n 0, 1) := by decide +kernel
theorem dX12_see_32 : decode cX12_see 32 = .ok (.getfield 316, 3) := by decide +kernel
theorem dX12_see_35 : decode cX12_see 35 = .ok (.bipush 6, 2) := by decide +kernel
theorem dX12_see_37 : decode cX12_see 37 = .ok (.if_icmp .ne 6, 3) := by decide +kernel
theorem dX12_see_40 : decode cX12_see 40 = .ok (.bipush (-4), 2) := by decide +kernel
theorem dX12_see_42 : decode cX12_see 42 = .ok (.ireturn, 1) := by decide +kernel
theorem dX12_see_43 : decode cX12_see 43 = .ok (.aload_n 0, 1) := by decide +kernel
theorem dX12_see_44 : decode cX12_see 44 = .ok (.getfield 86, 3) := by decide +kernel
theorem dX12_see_47 : decode cX12_see 47 = .ok (.aload_n 0, 1) := by decide +kernel
theorem dX12_see_48 : decode cX12_see 48 = .ok (.getfield 316, 3) := by decide +kernel
theorem dX12_see_51 : decode cX12_see 51 = .ok (.iload_n 1, 1) := by decide +kernel
theorem dX12_see_52 : decode cX12_see 52 = .ok (.iastore, 1) := by decide +kernel
theorem dX12_see_53 : decode cX12_see 53 = .ok (.aload_n 0, 1) := by decide +kernel
theorem dX12_see_54 : decode cX12_see 54 = .ok (.getfield 89, 3) := by decide +kernel
theorem dX12_see_57 : decode cX12_see 57 = .ok (.aload_n 0, 1) := by decide +kernel
theorem dX12_see_58 : decode cX12_see 58 = .ok (.getfield 316, 3) := by decide +kernel
theorem dX12_see_61 : decode cX12_see 61 = .ok (.iload_n 2, 1) := by decide +kernel
theorem dX12_see_62 : decode cX12_see 62 = .ok (.iastore, 1) := by decide +kernel
theorem dX12_see_63 : decode cX12_see 63 = .ok (.aload_n 0, 1) := by decide +kernel
theorem dX12_see_64 : decode cX12_see 64 = .ok (.dup, 1) := by decide +kernel
theorem dX12_see_65 : decode cX12_see 65 = .ok (.getfield 316, 3) := by decide +kernel
theorem dX12_see_68 : decode cX12_see 68 = .ok (.iconst 1, 1) := by decide +kernel
theorem dX12_see_69 : decode cX12_see 69 = .ok (.iadd, 1) := by decide +kernel
theorem dX12_see_70 : decode cX12_see 70 = .ok (.putfield 316, 3) := by decide +kernel
theorem dX12_see_73 : decode cX12_see 73 = .ok (.aload_n 0, 1) := by decide +kernel
theorem dX12_see_74 : decode cX12_see 74 = .ok (.getfield 316, 3) := by decide +kernel
theorem dX12_see_77 : decode cX12_see 77 = .ok (.ireturn, 1) := by decide +kernel
theorem dX12_unsee_0 : decode cX12_unsee 0 = .ok (.aload_n 0, 1) := by decide +kernel
theorem dX12_unsee_1 : decode cX12_unsee 1 = .ok (.getfield 316, 3) := by decide +kernel
theorem dX12_unsee_4 : decode cX12_unsee 4 = .ok (.istore_n 1, 1) := by decide +kernel
theorem dX12_unsee_5 : decode cX12_unsee 5 = .ok (.aload_n 0, 1) := by decide +kernel
theorem dX12_unsee_6 : decode cX12_unsee 6 = .ok (.iconst 0, 1) := by decide +kernel
theorem dX12_unsee_7 : decode cX12_unsee 7 = .ok (.putfield 316, 3) := by decide +kernel
theorem dX12_unsee_10 : decode cX12_unsee 10 = .ok (.iload_n 1, 1) := by decide +kernel
theorem dX12_unsee_11 : decode cX12_unsee 11 = .ok (.ireturn, 1) := by decide +kernel
theorem dX12_can_0 : decode cX12_can 0 = .ok (.iconst 0, 1) := by decide +kernel
theorem dX12_can_1 : decode cX12_can 1 = .ok (.istore 4, 2) := by decide +kernel
theorem dX12_can_3 : decode cX12_can 3 = .ok (.aload_n 0, 1) := by decide +kernel
theorem dX12_can_4 : decode cX12_can 4 = .ok (.getfield 13, 3) := by decide +kernel
theorem dX12_can_7 : decode cX12_can 7 = .ok (.iload_n 1, 1) := by decide +kernel
theorem dX12_can_8 : decode cX12_can 8 = .ok (.iaload, 1) := by decide +kernel
theorem dX12_can_9 : decode cX12_can 9 = .ok (.tableswitch 252 0 10 #[59, 59, 59, 74, 123, 149, 185, 252, 212, 252, 243], 59) := by decide +kernel
theorem dX12_can_68 : decode cX12_can 68 = .ok (.aload_n 0, 1) := by decide +kernel
theorem dX12_can_69 : decode cX12_can 69 = .ok (.iload_n 1, 1) := by decide +kernel
theorem dX12_can_70 : decode cX12_can 70 = .ok (.iconst 1, 1) := by decide +kernel
theorem dX12_can_71 : decode cX12_can 71 = .ok (.iadd, 1) := by decide +kernel
theorem dX12_can_72 : decode cX12_can 72 = .ok (.aload_n 0, 1) := by decide +kernel
theorem dX12_can_73 : decode cX12_can 73 = .ok (.iload_n 1, 1) := by decide +kernel
theorem dX12_can_74 : decode cX12_can 74 = .ok (.iload_n 2, 1) := by decide +kernel
theorem dX12_can_75 : decode cX12_can 75 = .ok (.iconst 0, 1) := by decide +kernel
theorem dX12_can_76 : decode cX12_can 76 = .ok (.invokevirtual 249, 3) := by decide +kernel
theorem dX12_can_79 : decode cX12_can 79 = .ok (.invokevirtual 246, 3) := by decide +kernel
theorem dX12_can_82 : decode cX12_can 82 = .ok (.ireturn, 1) := by decide +kernel
theorem dX12_can_83 : decode cX12_can 83 = .ok (.iconst 0, 1) := by decide +kernel
theorem dX12_can_84 : decode cX12_can 84 = .ok (.istore 5, 2) := by decide +kernel
theorem dX12_can_86 : decode cX12_can 86 = .ok (.iload 5, 2) := by decide +kernel
theorem dX12_can_88 : decode cX12_can 88 = .ok (.bipush 6, 2) := by decide +kernel
theorem dX12_can_90 : decode cX12_can 90 = .ok (.if_icmp .ge 39, 3) := by decide +kernel
theorem dX12_can_93 : decode cX12_can 93 = .ok (.iload 4, 2) := by decide +kernel
theorem dX12_can_95 : decode cX12_can 95 = .ok (.ifCond .ne 21, 3) := by decide +kernel
theorem dX12_can_98 : decode cX12_can 98 = .ok (.aload_n 0, 1) := by decide +kernel
theorem dX12_can_99 : decode cX12_can 99 = .ok (.iload_n 1, 1) := by decide +kernel
theorem dX12_can_100 : decode cX12_can 100 = .ok (.iconst 1, 1) := by decide +kernel
theorem dX12_can_101 : decode cX12_can 101 = .ok (.iadd, 1) := by decide +kernel
theorem dX12_can_102 : decode cX12_can 102 = .ok (.aload_n 0, 1) := by decide +kernel
theorem dX12_can_103 : decode cX12_can 103 = .ok (.iload_n 1, 1) := by decide +kernel
theorem dX12_can_104 : decode cX12_can 104 = .ok (.iload_n 2, 1) := by decide +kernel
theorem dX12_can_105 : decode cX12_can 105 = .ok (.iload 5, 2) := by decide +kernel
theorem dX12_can_107 : decode cX12_can 107 = .ok (.invokevirtual 249, 3) := by decide +kernel
theorem dX12_can_110 : decode cX12_can 110 = .ok (.invokevirtual 246, 3) := by decide +kernel
theorem dX12_can_113 : decode cX12_can 113 = .ok (.ifCond .eq 7, 3) := by decide +kernel
theorem dX12_can_116 : decode cX12_can 116 = .ok (.iconst 1, 1) := by decide +kernel
theorem dX12_can_117 : decode cX12_can 117 = .ok (.goto 4, 3) := by decide +kernel
theorem dX12_can_120 : decode cX12_can 120 = .ok (.iconst 0, 1) := by decide +kernel
theorem dX12_can_121 : decode cX12_can 121 = .ok (.istore 4, 2) := by decide +kernel
theorem dX12_can_123 : decode cX12_can 123 = .ok (.iinc 5 1, 3) := by decide +kernel
theorem dX12_can_126 : decode cX12_can 126 = .ok (.goto (-40), 3) := by decide +kernel
theorem dX12_can_129 : decode cX12_can 129 = .ok (.iload 4, 2) := by decide +kernel
theorem dX12_can_131 : decode cX12_can 131 = .ok (.ireturn, 1) := by decide +kernel
theorem dX12_can_132 : decode cX12_can 132 = .ok (.aload_n 0, 1) := by decide +kernel
theorem dX12_can_133 : decode cX12_can 133 = .ok (.iload_n 1, 1) := by decide +kernel
theorem dX12_can_134 : decode cX12_can 134 = .ok (.iload_n 2, 1) := by decide +kernel
theorem dX12_can_135 : decode cX12_can 135 = .ok (.invokevirtual 255, 3) := by decide +kernel
theorem dX12_can_138 : decode cX12_can 138 = .ok (.ifCond .eq 18, 3) := by decide +kernel
theorem dX12_can_141 : decode cX12_can 141 = .ok (.aload_n 0, 1) := by decide +kernel
theorem dX12_can_142 : decode cX12_can 142 = .ok (.iload_n 1, 1) := by decide +kernel
theorem dX12_can_143 : decode cX12_can 143 = .ok (.iconst 1, 1) := by decide +kernel
theorem dX12_can_144 : decode cX12_can 144 = .ok (.iadd, 1) := by decide +kernel
theorem dX12_can_145 : decode cX12_can 145 = .ok (.iload_n 2, 1) := by decide +kernel
theorem dX12_can_146 : decode cX12_can 146 = .ok (.invokevirtual 246, 3) := by decide +kernel
theorem dX12_can_149 : decode cX12_can 149 = .ok (.ifCond .eq 7, 3) := by decide +kernel
theorem dX12_can_152 : decode cX12_can 152 = .ok (.iconst 1, 1) := by decide +kernel
theorem dX12_can_153 : decode cX12_can 153 = .ok (.goto 4, 3) := by decide +kernel
theorem dX12_can_156 : decode cX12_can 156 = .ok (.iconst 0, 1) := by decide +kernel
theorem dX12_can_157 : decode cX12_can 157 = .ok (.ireturn, 1) := by decide +kernel
theorem dX12_can_158 : decode cX12_can 158 = .ok (.aload_n 0, 1) := by decide +kernel
theorem dX12_can_159 : decode cX12_can 159 = .ok (.iload_n 1, 1) := by decide +kernel
theorem dX12_can_160 : decode cX12_can 160 = .ok (.iload_n 2, 1) := by decide +kernel
theorem dX12_can_161 : decode cX12_can 161 = .ok (.invokevirtual 255, 3) := by decide +kernel
theorem dX12_can_164 : decode cX12_can 164 = .ok (.ifCond .eq 14, 3) := by decide +kernel
theorem dX12_can_167 : decode cX12_can 167 = .ok (.aload_n 0, 1) := by decide +kernel
theorem dX12_can_168 : decode cX12_can 168 = .ok (.iload_n 1, 1) := by decide +kernel
theorem dX12_can_169 : decode cX12_can 169 = .ok (.iconst 1, 1) := by decide +kernel
theorem dX12_can_170 : decode cX12_can 170 = .ok (.iadd, 1) := by decide +kernel
theorem dX12_can_171 : decode cX12_can 171 = .ok (.iload_n 2, 1) := by decide +kernel
theorem dX12_can_172 : decode cX12_can 172 = .ok (.invokevirtual 246, 3) := by decide +kernel
theorem dX12_can_175 : decode cX12_can 175 = .ok (.goto 18, 3) := by decide +kernel
theorem dX12_can_178 : decode cX12_can 178 = .ok (.aload_n 0, 1) := by decide +kernel
theorem dX12_can_179 : decode cX12_can 179 = .ok (.getfield 25, 3) := by decide +kernel
theorem dX12_can_182 : decode cX12_can 182 = .ok (.iload_n 1, 1) := by decide +kernel
theorem dX12_can_183 : decode cX12_can 183 = .ok (.iaload, 1) := by decide +kernel
theorem dX12_can_184 : decode cX12_can 184 = .ok (.iload_n 3, 1) := by decide +kernel
theorem dX12_can_185 : decode cX12_can 185 = .ok (.if_icmp .ne 7, 3) := by decide +kernel
theorem dX12_can_188 : decode cX12_can 188 = .ok (.iconst 1, 1) := by decide +kernel
theorem dX12_can_189 : decode cX12_can 189 = .ok (.goto 4, 3) := by decide +kernel
theorem dX12_can_192 : decode cX12_can 192 = .ok (.iconst 0, 1) := by decide +kernel
theorem dX12_can_193 : decode cX12_can 193 = .ok (.ireturn, 1) := by decide +kernel
theorem dX12_can_194 : decode cX12_can 194 = .ok (.aload_n 0, 1) := by decide +kernel
theorem dX12_can_195 : decode cX12_can 195 = .ok (.aload_n 0, 1) := by decide +kernel
theorem dX12_can_196 : decode cX12_can 196 = .ok (.iload_n 1, 1) := by decide +kernel
theorem dX12_can_197 : decode cX12_can 197 = .ok (.iload_n 2, 1) := by decide +kernel
theorem dX12_can_198 : decode cX12_can 198 = .ok (.invokevirtual 255, 3) := by decide +kernel
theorem dX12_can_201 : decode cX12_can 201 = .ok (.ifCond .eq 9, 3) := by decide +kernel
theorem dX12_can_204 : decode cX12_can 204 = .ok (.iload_n 1, 1) := by decide +kernel
theorem dX12_can_205 : decode cX12_can 205 = .ok (.iconst 1, 1) := by decide +kernel
theorem dX12_can_206 : decode cX12_can 206 = .ok (.iadd, 1) := by decide +kernel
theorem dX12_can_207 : decode cX12_can 207 = .ok (.goto 9, 3) := by decide +kernel
theorem dX12_can_210 : decode cX12_can 210 = .ok (.aload_n 0, 1) := by decide +kernel
theorem dX12_can_211 : decode cX12_can 211 = .ok (.getfield 28, 3) := by decide +kernel
theorem dX12_can_214 : decode cX12_can 214 = .ok (.iload_n 1, 1) := by decide +kernel
theorem dX12_can_215 : decode cX12_can 215 = .ok (.iaload, 1) := by decide +kernel
theorem dX12_can_216 : decode cX12_can 216 = .ok (.iload_n 2, 1) := by decide +kernel
theorem dX12_can_217 : decode cX12_can 217 = .ok (.invokevirtual 246, 3) := by decide +kernel
theorem dX12_can_220 : decode cX12_can 220 = .ok (.ireturn, 1) := by decide +kernel
theorem dX12_can_221 : decode cX12_can 221 = .ok (.aload_n 0, 1) := by decide +kernel
theorem dX12_can_222 : decode cX12_can 222 = .ok (.iload_n 1, 1) := by decide +kernel
theorem dX12_can_223 : decode cX12_can 223 = .ok (.iconst 1, 1) := by decide +kernel
theorem dX12_can_224 : decode cX12_can 224 = .ok (.iadd, 1) := by decide +kernel
theorem dX12_can_225 : decode cX12_can 225 = .ok (.iload_n 2, 1) := by decide +kernel
theorem dX12_can_226 : decode cX12_can 226 = .ok (.invokevirtual 246, 3) := by decide +kernel
theorem dX12_can_229 : decode cX12_can 229 = .ok (.ifCond .ne 17, 3) := by decide +kernel
theorem dX12_can_232 : decode cX12_can 232 = .ok (.aload_n 0, 1) := by decide +kernel
theorem dX12_can_233 : decode cX12_can 233 = .ok (.aload_n 0, 1) := by decide +kernel
theorem dX12_can_234 : decode cX12_can 234 = .ok (.getfield 28, 3) := by decide +kernel
theorem dX12_can_237 : decode cX12_can 237 = .ok (.iload_n 1, 1) := by decide +kernel
theorem dX12_can_238 : decode cX12_can 238 = .ok (.iaload, 1) := by decide +kernel
theorem dX12_can_239 : decode cX12_can 239 = .ok (.iload_n 2, 1) := by decide +kernel
theorem dX12_can_240 : decode cX12_can 240 = .ok (.invokevirtual 246, 3) := by decide +kernel
theorem dX12_can_243 : decode cX12_can 243 = .ok (.ifCond .eq 7, 3) := by decide +kernel
theorem dX12_can_246 : decode cX12_can 246 = .ok (.iconst 1, 1) := by decide +kernel
theorem dX12_can_247 : decode cX12_can 247 = .ok (.goto 4, 3) := by decide +kernel
theorem dX12_can_250 : decode cX12_can 250 = .ok (.iconst 0, 1) := by decide +kernel
theorem dX12_can_251 : decode cX12_can 251 = .ok (.ireturn, 1) := by decide +kernel
theorem dX12_can_252 : decode cX12_can 252 = .ok (.aload_n 0, 1) := by decide +kernel
theorem dX12_can_253 : decode cX12_can 253 = .ok (.iload_n 1, 1) := by decide +kernel
theorem dX12_can_254 : decode cX12_can 254 = .ok (.iconst 1, 1) := by decide +kernel
theorem dX12_can_255 : decode cX12_can 255 = .ok (.iadd, 1) := by decide +kernel
theorem dX12_can_256 : decode cX12_can 256 = .ok (.iload_n 2, 1) := by decide +kernel
theorem dX12_can_257 : decode cX12_can 257 = .ok (.invokevirtual 246, 3) := by decide +kernel
theorem dX12_can_260 : decode cX12_can 260 = .ok (.ireturn, 1) := by decide +kernel
theorem dX12_can_261 : decode cX12_can 261 = .ok (.aload_n 0, 1) := by decide +kernel
theorem dX12_can_262 : decode cX12_can 262 = .ok (.aload_n 0, 1) := by decide +kernel
theorem dX12_can_263 : decode cX12_can 263 = .ok (.getfield 28, 3) := by decide +kernel
theorem dX12_can_266 : decode cX12_can 266 = .ok (.iload_n 1, 1) := by decide +kernel
theorem dX12_can_267 : decode cX12_can 267 = .ok (.iaload, 1) := by decide +kernel
theorem dX12_can_268 : decode cX12_can 268 = .ok (.iload_n 2, 1) := by decide +kernel
theorem dX12_can_269 : decode cX12_can 269 = .ok (.invokevirtual 246, 3) := by decide +kernel
theorem dX12_can_272 : decode cX12_can 272 = .ok (.ireturn, 1) := by decide +kernel
theorem dX12_layCans_0 : decode cX12_layCans 0 = .ok (.iconst 0, 1) := by decide +kernel
theorem dX12_layCans_1 : decode cX12_layCans 1 = .ok (.istore_n 2, 1) := by decide +kernel
theorem dX12_layCans_2 : decode cX12_layCans 2 = .ok (.iload_n 2, 1) := by decide +kernel
theorem dX12_layCans_3 : decode cX12_layCans 3 = .ok (.sipush 248, 3) := by decide +kernel
theorem dX12_layCans_6 : decode cX12_layCans 6 = .ok (.if_icmp .ge 16, 3) := by decide +kernel
theorem dX12_layCans_9 : decode cX12_layCans 9 = .ok (.aload_n 0, 1) := by decide +kernel
theorem dX12_layCans_10 : decode cX12_layCans 10 = .ok (.getfield 92, 3) := by decide +kernel
theorem dX12_layCans_13 : decode cX12_layCans 13 = .ok (.iload_n 2, 1) := by decide +kernel
theorem dX12_layCans_14 : decode cX12_layCans 14 = .ok (.lconst 0, 1) := by decide +kernel
theorem dX12_layCans_15 : decode cX12_layCans 15 = .ok (.lastore, 1) := by decide +kernel
theorem dX12_layCans_16 : decode cX12_layCans 16 = .ok (.iinc 2 1, 3) := by decide +kernel
theorem dX12_layCans_19 : decode cX12_layCans 19 = .ok (.goto (-17), 3) := by decide +kernel
theorem dX12_layCans_22 : decode cX12_layCans 22 = .ok (.iconst 1, 1) := by decide +kernel
theorem dX12_layCans_23 : decode cX12_layCans 23 = .ok (.istore_n 2, 1) := by decide +kernel
theorem dX12_layCans_24 : decode cX12_layCans 24 = .ok (.iload_n 2, 1) := by decide +kernel
theorem dX12_layCans_25 : decode cX12_layCans 25 = .ok (.ifCond .eq 83, 3) := by decide +kernel
theorem dX12_layCans_28 : decode cX12_layCans 28 = .ok (.iconst 0, 1) := by decide +kernel
theorem dX12_layCans_29 : decode cX12_layCans 29 = .ok (.istore_n 2, 1) := by decide +kernel
theorem dX12_layCans_30 : decode cX12_layCans 30 = .ok (.aload_n 0, 1) := by decide +kernel
theorem dX12_layCans_31 : decode cX12_layCans 31 = .ok (.getfield 205, 3) := by decide +kernel
theorem dX12_layCans_34 : decode cX12_layCans 34 = .ok (.iconst 1, 1) := by decide +kernel
theorem dX12_layCans_35 : decode cX12_layCans 35 = .ok (.isub, 1) := by decide +kernel
theorem dX12_layCans_36 : decode cX12_layCans 36 = .ok (.istore_n 3, 1) := by decide +kernel
theorem dX12_layCans_37 : decode cX12_layCans 37 = .ok (.iload_n 3, 1) := by decide +kernel
theorem dX12_layCans_38 : decode cX12_layCans 38 = .ok (.ifCond .lt 67, 3) := by decide +kernel
theorem dX12_layCans_41 : decode cX12_layCans 41 = .ok (.iconst 0, 1) := by decide +kernel
theorem dX12_layCans_42 : decode cX12_layCans 42 = .ok (.istore 4, 2) := by decide +kernel
theorem dX12_layCans_44 : decode cX12_layCans 44 = .ok (.iload 4, 2) := by decide +kernel
theorem dX12_layCans_46 : decode cX12_layCans 46 = .ok (.sipush 216, 3) := by decide +kernel
theorem dX12_layCans_49 : decode cX12_layCans 49 = .ok (.if_icmp .ge 50, 3) := by decide +kernel
theorem dX12_layCans_52 : decode cX12_layCans 52 = .ok (.aload_n 0, 1) := by decide +kernel
theorem dX12_layCans_53 : decode cX12_layCans 53 = .ok (.iload_n 3, 1) := by decide +kernel
theorem dX12_layCans_54 : decode cX12_layCans 54 = .ok (.iload 4, 2) := by decide +kernel
theorem dX12_layCans_56 : decode cX12_layCans 56 = .ok (.invokevirtual 246, 3) := by decide +kernel
theorem dX12_layCans_59 : decode cX12_layCans 59 = .ok (.ifCond .ne 24, 3) := by decide +kernel
theorem dX12_layCans_62 : decode cX12_layCans 62 = .ok (.aload_n 0, 1) := by decide +kernel
theorem dX12_layCans_63 : decode cX12_layCans 63 = .ok (.iload_n 3, 1) := by decide +kernel
theorem dX12_layCans_64 : decode cX12_layCans 64 = .ok (.iload 4, 2) := by decide +kernel
theorem dX12_layCans_66 : decode cX12_layCans 66 = .ok (.iload_n 1, 1) := by decide +kernel
theorem dX12_layCans_67 : decode cX12_layCans 67 = .ok (.invokevirtual 367, 3) := by decide +kernel
theorem dX12_layCans_70 : decode cX12_layCans 70 = .ok (.ifCond .eq 13, 3) := by decide +kernel
theorem dX12_layCans_73 : decode cX12_layCans 73 = .ok (.aload_n 0, 1) := by decide +kernel
theorem dX12_layCans_74 : decode cX12_layCans 74 = .ok (.iload_n 3, 1) := by decide +kernel
theorem dX12_layCans_75 : decode cX12_layCans 75 = .ok (.iload 4, 2) := by decide +kernel
theorem dX12_layCans_77 : decode cX12_layCans 77 = .ok (.invokevirtual 252, 3) := by decide +kernel
theorem dX12_layCans_80 : decode cX12_layCans 80 = .ok (.ifCond .ne 7, 3) := by decide +kernel
theorem dX12_layCans_83 : decode cX12_layCans 83 = .ok (.iload_n 2, 1) := by decide +kernel
theorem dX12_layCans_84 : decode cX12_layCans 84 = .ok (.ifCond .eq 7, 3) := by decide +kernel
theorem dX12_layCans_87 : decode cX12_layCans 87 = .ok (.iconst 1, 1) := by decide +kernel
theorem dX12_layCans_88 : decode cX12_layCans 88 = .ok (.goto 4, 3) := by decide +kernel
theorem dX12_layCans_91 : decode cX12_layCans 91 = .ok (.iconst 0, 1) := by decide +kernel
theorem dX12_layCans_92 : decode cX12_layCans 92 = .ok (.istore_n 2, 1) := by decide +kernel
theorem dX12_layCans_93 : decode cX12_layCans 93 = .ok (.iinc 4 1, 3) := by decide +kernel
theorem dX12_layCans_96 : decode cX12_layCans 96 = .ok (.goto (-52), 3) := by decide +kernel
theorem dX12_layCans_99 : decode cX12_layCans 99 = .ok (.iinc 3 (-1), 3) := by decide +kernel
theorem dX12_layCans_102 : decode cX12_layCans 102 = .ok (.goto (-65), 3) := by decide +kernel
theorem dX12_layCans_105 : decode cX12_layCans 105 = .ok (.goto (-81), 3) := by decide +kernel
theorem dX12_layCans_108 : decode cX12_layCans 108 = .ok (.return_, 1) := by decide +kernel
theorem dX12_leave_0 : decode cX12_leave 0 = .ok (.aload_n 0, 1) := by decide +kernel
theorem dX12_leave_1 : decode cX12_leave 1 = .ok (.iload_n 1, 1) := by decide +kernel
theorem dX12_leave_2 : decode cX12_leave 2 = .ok (.invokevirtual 371, 3) := by decide +kernel
theorem dX12_leave_5 : decode cX12_leave 5 = .ok (.iconst 0, 1) := by decide +kernel
theorem dX12_leave_6 : decode cX12_leave 6 = .ok (.istore_n 3, 1) := by decide +kernel
theorem dX12_leave_7 : decode cX12_leave 7 = .ok (.iload_n 3, 1) := by decide +kernel
theorem dX12_leave_8 : decode cX12_leave 8 = .ok (.iconst 4, 1) := by decide +kernel
theorem dX12_leave_9 : decode cX12_leave 9 = .ok (.if_icmp .ge 42, 3) := by decide +kernel
theorem dX12_leave_12 : decode cX12_leave 12 = .ok (.aload_n 0, 1) := by decide +kernel
theorem dX12_leave_13 : decode cX12_leave 13 = .ok (.getfield 102, 3) := by decide +kernel
theorem dX12_leave_16 : decode cX12_leave 16 = .ok (.iload_n 3, 1) := by decide +kernel
theorem dX12_leave_17 : decode cX12_leave 17 = .ok (.dup2, 1) := by decide +kernel
theorem dX12_leave_18 : decode cX12_leave 18 = .ok (.laload, 1) := by decide +kernel
theorem dX12_leave_19 : decode cX12_leave 19 = .ok (.iload_n 2, 1) := by decide +kernel
theorem dX12_leave_20 : decode cX12_leave 20 = .ok (.iconst 1, 1) := by decide +kernel
theorem dX12_leave_21 : decode cX12_leave 21 = .ok (.if_icmp .ne 12, 3) := by decide +kernel
theorem dX12_leave_24 : decode cX12_leave 24 = .ok (.aload_n 0, 1) := by decide +kernel
theorem dX12_leave_25 : decode cX12_leave 25 = .ok (.getfield 92, 3) := by decide +kernel
theorem dX12_leave_28 : decode cX12_leave 28 = .ok (.iload_n 3, 1) := by decide +kernel
theorem dX12_leave_29 : decode cX12_leave 29 = .ok (.laload, 1) := by decide +kernel
theorem dX12_leave_30 : decode cX12_leave 30 = .ok (.goto 13, 3) := by decide +kernel
theorem dX12_leave_33 : decode cX12_leave 33 = .ok (.aload_n 0, 1) := by decide +kernel
theorem dX12_leave_34 : decode cX12_leave 34 = .ok (.getfield 92, 3) := by decide +kernel
theorem dX12_leave_37 : decode cX12_leave 37 = .ok (.iload_n 3, 1) := by decide +kernel
theorem dX12_leave_38 : decode cX12_leave 38 = .ok (.laload, 1) := by decide +kernel
theorem dX12_leave_39 : decode cX12_leave 39 = .ok (.ldc2_w 374, 3) := by decide +kernel
theorem dX12_leave_42 : decode cX12_leave 42 = .ok (.lxor, 1) := by decide +kernel
theorem dX12_leave_43 : decode cX12_leave 43 = .ok (.land, 1) := by decide +kernel
theorem dX12_leave_44 : decode cX12_leave 44 = .ok (.lastore, 1) := by decide +kernel
theorem dX12_leave_45 : decode cX12_leave 45 = .ok (.iinc 3 1, 3) := by decide +kernel
theorem dX12_leave_48 : decode cX12_leave 48 = .ok (.goto (-41), 3) := by decide +kernel
theorem dX12_leave_51 : decode cX12_leave 51 = .ok (.return_, 1) := by decide +kernel
theorem dX12_which_0 : decode cX12_which 0 = .ok (.iload_n 1, 1) := by decide +kernel
theorem dX12_which_1 : decode cX12_which 1 = .ok (.i2l, 1) := by decide +kernel
theorem dX12_which_2 : decode cX12_which 2 = .ok (.lconst 0, 1) := by decide +kernel
theorem dX12_which_3 : decode cX12_which 3 = .ok (.lconst 1, 1) := by decide +kernel
theorem dX12_which_4 : decode cX12_which 4 = .ok (.invokestatic 114, 3) := by decide +kernel
theorem dX12_which_7 : decode cX12_which 7 = .ok (.ifCond .ne 6, 3) := by decide +kernel
theorem dX12_which_10 : decode cX12_which 10 = .ok (.bipush (-2), 2) := by decide +kernel
theorem dX12_which_12 : decode cX12_which 12 = .ok (.ireturn, 1) := by decide +kernel
theorem dX12_which_13 : decode cX12_which 13 = .ok (.iconst 0, 1) := by decide +kernel
theorem dX12_which_14 : decode cX12_which 14 = .ok (.istore_n 2, 1) := by decide +kernel
theorem dX12_which_15 : decode cX12_which 15 = .ok (.iload_n 2, 1) := by decide +kernel
theorem dX12_which_16 : decode cX12_which 16 = .ok (.iconst 4, 1) := by decide +kernel
theorem dX12_which_17 : decode cX12_which 17 = .ok (.if_icmp .ge 18, 3) := by decide +kernel
theorem dX12_which_20 : decode cX12_which 20 = .ok (.aload_n 0, 1) := by decide +kernel
theorem dX12_which_21 : decode cX12_which 21 = .ok (.getfield 102, 3) := by decide +kernel
theorem dX12_which_24 : decode cX12_which 24 = .ok (.iload_n 2, 1) := by decide +kernel
theorem dX12_which_25 : decode cX12_which 25 = .ok (.ldc2_w 376, 3) := by decide +kernel
theorem dX12_which_28 : decode cX12_which 28 = .ok (.lastore, 1) := by decide +kernel
theorem dX12_which_29 : decode cX12_which 29 = .ok (.iinc 2 1, 3) := by decide +kernel
theorem dX12_which_32 : decode cX12_which 32 = .ok (.goto (-17), 3) := by decide +kernel
theorem dX12_which_35 : decode cX12_which 35 = .ok (.iconst 0, 1) := by decide +kernel
theorem dX12_which_36 : decode cX12_which 36 = .ok (.istore_n 2, 1) := by decide +kernel
theorem dX12_which_37 : decode cX12_which 37 = .ok (.iload_n 2, 1) := by decide +kernel
theorem dX12_which_38 : decode cX12_which 38 = .ok (.aload_n 0, 1) := by decide +kernel
theorem dX12_which_39 : decode cX12_which 39 = .ok (.getfield 316, 3) := by decide +kernel
theorem dX12_which_42 : decode cX12_which 42 = .ok (.if_icmp .ge 43, 3) := by decide +kernel
theorem dX12_which_45 : decode cX12_which 45 = .ok (.aload_n 0, 1) := by decide +kernel
theorem dX12_which_46 : decode cX12_which 46 = .ok (.aload_n 0, 1) := by decide +kernel
theorem dX12_which_47 : decode cX12_which 47 = .ok (.getfield 86, 3) := by decide +kernel
theorem dX12_which_50 : decode cX12_which 50 = .ok (.iload_n 2, 1) := by decide +kernel
theorem dX12_which_51 : decode cX12_which 51 = .ok (.iaload, 1) := by decide +kernel
theorem dX12_which_52 : decode cX12_which 52 = .ok (.aload_n 0, 1) := by decide +kernel
theorem dX12_which_53 : decode cX12_which 53 = .ok (.getfield 208, 3) := by decide +kernel
theorem dX12_which_56 : decode cX12_which 56 = .ok (.if_icmp .ge 12, 3) := by decide +kernel
theorem dX12_which_59 : decode cX12_which 59 = .ok (.aload_n 0, 1) := by decide +kernel
theorem dX12_which_60 : decode cX12_which 60 = .ok (.getfield 86, 3) := by decide +kernel
theorem dX12_which_63 : decode cX12_which 63 = .ok (.iload_n 2, 1) := by decide +kernel
theorem dX12_which_64 : decode cX12_which 64 = .ok (.iaload, 1) := by decide +kernel
theorem dX12_which_65 : decode cX12_which 65 = .ok (.goto 5, 3) := by decide +kernel
theorem dX12_which_68 : decode cX12_which 68 = .ok (.bipush (-9), 2) := by decide +kernel
theorem dX12_which_70 : decode cX12_which 70 = .ok (.aload_n 0, 1) := by decide +kernel
theorem dX12_which_71 : decode cX12_which 71 = .ok (.getfield 89, 3) := by decide +kernel
theorem dX12_which_74 : decode cX12_which 74 = .ok (.iload_n 2, 1) := by decide +kernel
theorem dX12_which_75 : decode cX12_which 75 = .ok (.iaload, 1) := by decide +kernel
theorem dX12_which_76 : decode cX12_which 76 = .ok (.invokevirtual 378, 3) := by decide +kernel
theorem dX12_which_79 : decode cX12_which 79 = .ok (.iinc 2 1, 3) := by decide +kernel
theorem dX12_which_82 : decode cX12_which 82 = .ok (.goto (-45), 3) := by decide +kernel
theorem dX12_which_85 : decode cX12_which 85 = .ok (.iconst 0, 1) := by decide +kernel
theorem dX12_which_86 : decode cX12_which 86 = .ok (.istore_n 2, 1) := by decide +kernel
theorem dX12_which_87 : decode cX12_which 87 = .ok (.bipush (-9), 2) := by decide +kernel
theorem dX12_which_89 : decode cX12_which 89 = .ok (.istore_n 3, 1) := by decide +kernel
theorem dX12_which_90 : decode cX12_which 90 = .ok (.sipush 215, 3) := by decide +kernel
theorem dX12_which_93 : decode cX12_which 93 = .ok (.istore 4, 2) := by decide +kernel
theorem dX12_which_95 : decode cX12_which 95 = .ok (.iload 4, 2) := by decide +kernel
theorem dX12_which_97 : decode cX12_which 97 = .ok (.ifCond .lt 79, 3) := by decide +kernel
theorem dX12_which_100 : decode cX12_which 100 = .ok (.aload_n 0, 1) := by decide +kernel
theorem dX12_which_101 : decode cX12_which 101 = .ok (.getfield 70, 3) := by decide +kernel
theorem dX12_which_104 : decode cX12_which 104 = .ok (.iload 4, 2) := by decide +kernel
theorem dX12_which_106 : decode cX12_which 106 = .ok (.invokestatic 258, 3) := by decide +kernel
theorem dX12_which_109 : decode cX12_which 109 = .ok (.ifCond .eq 30, 3) := by decide +kernel
theorem dX12_which_112 : decode cX12_which 112 = .ok (.aload_n 0, 1) := by decide +kernel
theorem dX12_which_113 : decode cX12_which 113 = .ok (.getfield 102, 3) := by decide +kernel
theorem dX12_which_116 : decode cX12_which 116 = .ok (.iload 4, 2) := by decide +kernel
theorem dX12_which_118 : decode cX12_which 118 = .ok (.bipush 54, 2) := by decide +kernel
theorem dX12_which_120 : decode cX12_which 120 = .ok (.idiv, 1) := by decide +kernel
theorem dX12_which_121 : decode cX12_which 121 = .ok (.laload, 1) := by decide +kernel
theorem dX12_which_122 : decode cX12_which 122 = .ok (.iload 4, 2) := by decide +kernel
theorem dX12_which_124 : decode cX12_which 124 = .ok (.bipush 54, 2) := by decide +kernel
theorem dX12_which_126 : decode cX12_which 126 = .ok (.irem, 1) := by decide +kernel
theorem dX12_which_127 : decode cX12_which 127 = .ok (.lshr, 1) := by decide +kernel
theorem dX12_which_128 : decode cX12_which 128 = .ok (.lconst 1, 1) := by decide +kernel
theorem dX12_which_129 : decode cX12_which 129 = .ok (.land, 1) := by decide +kernel
theorem dX12_which_130 : decode cX12_which 130 = .ok (.lconst 1, 1) := by decide +kernel
theorem dX12_which_131 : decode cX12_which 131 = .ok (.lcmp, 1) := by decide +kernel
theorem dX12_which_132 : decode cX12_which 132 = .ok (.ifCond .ne 7, 3) := by decide +kernel
theorem dX12_which_135 : decode cX12_which 135 = .ok (.iconst 1, 1) := by decide +kernel
theorem dX12_which_136 : decode cX12_which 136 = .ok (.goto 4, 3) := by decide +kernel
theorem dX12_which_139 : decode cX12_which 139 = .ok (.iconst 0, 1) := by decide +kernel
theorem dX12_which_140 : decode cX12_which 140 = .ok (.istore 5, 2) := by decide +kernel
theorem dX12_which_142 : decode cX12_which 142 = .ok (.iload_n 2, 1) := by decide +kernel
theorem dX12_which_143 : decode cX12_which 143 = .ok (.iload 5, 2) := by decide +kernel
theorem dX12_which_145 : decode cX12_which 145 = .ok (.ifCond .eq 7, 3) := by decide +kernel
theorem dX12_which_148 : decode cX12_which 148 = .ok (.iconst 1, 1) := by decide +kernel
theorem dX12_which_149 : decode cX12_which 149 = .ok (.goto 4, 3) := by decide +kernel
theorem dX12_which_152 : decode cX12_which 152 = .ok (.iconst 0, 1) := by decide +kernel
theorem dX12_which_153 : decode cX12_which 153 = .ok (.iadd, 1) := by decide +kernel
theorem dX12_which_154 : decode cX12_which 154 = .ok (.istore_n 2, 1) := by decide +kernel
theorem dX12_which_155 : decode cX12_which 155 = .ok (.iload 5, 2) := by decide +kernel
theorem dX12_which_157 : decode cX12_which 157 = .ok (.ifCond .eq 11, 3) := by decide +kernel
theorem dX12_which_160 : decode cX12_which 160 = .ok (.iload 4, 2) := by decide +kernel
theorem dX12_which_162 : decode cX12_which 162 = .ok (.invokestatic 295, 3) := by decide +kernel
theorem dX12_which_165 : decode cX12_which 165 = .ok (.goto 4, 3) := by decide +kernel
theorem dX12_which_168 : decode cX12_which 168 = .ok (.iload_n 3, 1) := by decide +kernel
theorem dX12_which_169 : decode cX12_which 169 = .ok (.istore_n 3, 1) := by decide +kernel
theorem dX12_which_170 : decode cX12_which 170 = .ok (.iinc 4 (-1), 3) := by decide +kernel
theorem dX12_which_173 : decode cX12_which 173 = .ok (.goto (-78), 3) := by decide +kernel
theorem dX12_which_176 : decode cX12_which 176 = .ok (.iload_n 1, 1) := by decide +kernel
theorem dX12_which_177 : decode cX12_which 177 = .ok (.ifCond .ne 7, 3) := by decide +kernel
theorem dX12_which_180 : decode cX12_which 180 = .ok (.iload_n 2, 1) := by decide +kernel
theorem dX12_which_181 : decode cX12_which 181 = .ok (.goto 4, 3) := by decide +kernel
theorem dX12_which_184 : decode cX12_which 184 = .ok (.iload_n 3, 1) := by decide +kernel
theorem dX12_which_185 : decode cX12_which 185 = .ok (.ireturn, 1) := by decide +kernel
theorem dX12_lost_0 : decode cX12_lost 0 = .ok (.iload_n 1, 1) := by decide +kernel
theorem dX12_lost_1 : decode cX12_lost 1 = .ok (.i2l, 1) := by decide +kernel
theorem dX12_lost_2 : decode cX12_lost 2 = .ok (.lconst 0, 1) := by decide +kernel
theorem dX12_lost_3 : decode cX12_lost 3 = .ok (.ldc2_w 382, 3) := by decide +kernel
theorem dX12_lost_6 : decode cX12_lost 6 = .ok (.invokestatic 114, 3) := by decide +kernel
theorem dX12_lost_9 : decode cX12_lost 9 = .ok (.ifCond .ne 6, 3) := by decide +kernel
theorem dX12_lost_12 : decode cX12_lost 12 = .ok (.bipush (-2), 2) := by decide +kernel
theorem dX12_lost_14 : decode cX12_lost 14 = .ok (.ireturn, 1) := by decide +kernel
theorem dX12_lost_15 : decode cX12_lost 15 = .ok (.aload_n 0, 1) := by decide +kernel
theorem dX12_lost_16 : decode cX12_lost 16 = .ok (.aload_n 0, 1) := by decide +kernel
theorem dX12_lost_17 : decode cX12_lost 17 = .ok (.getfield 70, 3) := by decide +kernel
theorem dX12_lost_20 : decode cX12_lost 20 = .ok (.invokevirtual 281, 3) := by decide +kernel
theorem dX12_lost_23 : decode cX12_lost 23 = .ok (.istore_n 3, 1) := by decide +kernel
theorem dX12_lost_24 : decode cX12_lost 24 = .ok (.iload_n 3, 1) := by decide +kernel
theorem dX12_lost_25 : decode cX12_lost 25 = .ok (.invokestatic 304, 3) := by decide +kernel
theorem dX12_lost_28 : decode cX12_lost 28 = .ok (.istore 4, 2) := by decide +kernel
theorem dX12_lost_30 : decode cX12_lost 30 = .ok (.iconst 0, 1) := by decide +kernel
theorem dX12_lost_31 : decode cX12_lost 31 = .ok (.istore 5, 2) := by decide +kernel
theorem dX12_lost_33 : decode cX12_lost 33 = .ok (.iconst 0, 1) := by decide +kernel
theorem dX12_lost_34 : decode cX12_lost 34 = .ok (.istore 6, 2) := by decide +kernel
theorem dX12_lost_36 : decode cX12_lost 36 = .ok (.iload 6, 2) := by decide +kernel
theorem dX12_lost_38 : decode cX12_lost 38 = .ok (.iload_n 3, 1) := by decide +kernel
theorem dX12_lost_39 : decode cX12_lost 39 = .ok (.if_icmp .gt 65, 3) := by decide +kernel
theorem dX12_lost_42 : decode cX12_lost 42 = .ok (.iload 6, 2) := by decide +kernel
theorem dX12_lost_44 : decode cX12_lost 44 = .ok (.iload_n 3, 1) := by decide +kernel
theorem dX12_lost_45 : decode cX12_lost 45 = .ok (.iconst (-1), 1) := by decide +kernel
theorem dX12_lost_46 : decode cX12_lost 46 = .ok (.ixor, 1) := by decide +kernel
theorem dX12_lost_47 : decode cX12_lost 47 = .ok (.iand, 1) := by decide +kernel
theorem dX12_lost_48 : decode cX12_lost 48 = .ok (.ifCond .ne 50, 3) := by decide +kernel
theorem dX12_lost_51 : decode cX12_lost 51 = .ok (.aload_n 0, 1) := by decide +kernel
theorem dX12_lost_52 : decode cX12_lost 52 = .ok (.aload_n 0, 1) := by decide +kernel
theorem dX12_lost_53 : decode cX12_lost 53 = .ok (.getfield 70, 3) := by decide +kernel
theorem dX12_lost_56 : decode cX12_lost 56 = .ok (.iload 6, 2) := by decide +kernel
theorem dX12_lost_58 : decode cX12_lost 58 = .ok (.invokevirtual 334, 3) := by decide +kernel
theorem dX12_lost_61 : decode cX12_lost 61 = .ok (.aload_n 0, 1) := by decide +kernel
theorem dX12_lost_62 : decode cX12_lost 62 = .ok (.getfield 208, 3) := by decide +kernel
theorem dX12_lost_65 : decode cX12_lost 65 = .ok (.if_icmp .ne 33, 3) := by decide +kernel
theorem dX12_lost_68 : decode cX12_lost 68 = .ok (.iload 5, 2) := by decide +kernel
theorem dX12_lost_70 : decode cX12_lost 70 = .ok (.bipush 10, 2) := by decide +kernel
theorem dX12_lost_72 : decode cX12_lost 72 = .ok (.iload_n 1, 1) := by decide +kernel
theorem dX12_lost_73 : decode cX12_lost 73 = .ok (.isub, 1) := by decide +kernel
theorem dX12_lost_74 : decode cX12_lost 74 = .ok (.iload 6, 2) := by decide +kernel
theorem dX12_lost_76 : decode cX12_lost 76 = .ok (.invokestatic 304, 3) := by decide +kernel
theorem dX12_lost_79 : decode cX12_lost 79 = .ok (.invokestatic 384, 3) := by decide +kernel
theorem dX12_lost_82 : decode cX12_lost 82 = .ok (.iload_n 1, 1) := by decide +kernel
theorem dX12_lost_83 : decode cX12_lost 83 = .ok (.iload 4, 2) := by decide +kernel
theorem dX12_lost_85 : decode cX12_lost 85 = .ok (.iload 6, 2) := by decide +kernel
theorem dX12_lost_87 : decode cX12_lost 87 = .ok (.invokestatic 304, 3) := by decide +kernel
theorem dX12_lost_90 : decode cX12_lost 90 = .ok (.isub, 1) := by decide +kernel
theorem dX12_lost_91 : decode cX12_lost 91 = .ok (.invokestatic 384, 3) := by decide +kernel
theorem dX12_lost_94 : decode cX12_lost 94 = .ok (.imul, 1) := by decide +kernel
theorem dX12_lost_95 : decode cX12_lost 95 = .ok (.iadd, 1) := by decide +kernel
theorem dX12_lost_96 : decode cX12_lost 96 = .ok (.istore 5, 2) := by decide +kernel
theorem dX12_lost_98 : decode cX12_lost 98 = .ok (.iinc 6 1, 3) := by decide +kernel
theorem dX12_lost_101 : decode cX12_lost 101 = .ok (.goto (-65), 3) := by decide +kernel
theorem dX12_lost_104 : decode cX12_lost 104 = .ok (.iload 5, 2) := by decide +kernel
theorem dX12_lost_106 : decode cX12_lost 106 = .ok (.bipush 10, 2) := by decide +kernel
theorem dX12_lost_108 : decode cX12_lost 108 = .ok (.iload 4, 2) := by decide +kernel
theorem dX12_lost_110 : decode cX12_lost 110 = .ok (.invokestatic 384, 3) := by decide +kernel
theorem dX12_lost_113 : decode cX12_lost 113 = .ok (.iload_n 2, 1) := by decide +kernel
theorem dX12_lost_114 : decode cX12_lost 114 = .ok (.invokestatic 363, 3) := by decide +kernel
theorem dX12_lost_117 : decode cX12_lost 117 = .ok (.ireturn, 1) := by decide +kernel
theorem dX12_seed_0 : decode cX12_seed 0 = .ok (.aload_n 0, 1) := by decide +kernel
theorem dX12_seed_1 : decode cX12_seed 1 = .ok (.getfield 387, 3) := by decide +kernel
theorem dX12_seed_4 : decode cX12_seed 4 = .ok (.lstore_n 3, 1) := by decide +kernel
theorem dX12_seed_5 : decode cX12_seed 5 = .ok (.aload_n 0, 1) := by decide +kernel
theorem dX12_seed_6 : decode cX12_seed 6 = .ok (.lload_n 1, 1) := by decide +kernel
theorem dX12_seed_7 : decode cX12_seed 7 = .ok (.putfield 387, 3) := by decide +kernel
theorem dX12_seed_10 : decode cX12_seed 10 = .ok (.lload_n 3, 1) := by decide +kernel
theorem dX12_seed_11 : decode cX12_seed 11 = .ok (.lreturn, 1) := by decide +kernel
theorem dX12_draw_0 : decode cX12_draw 0 = .ok (.aload_n 0, 1) := by decide +kernel
theorem dX12_draw_1 : decode cX12_draw 1 = .ok (.aload_n 0, 1) := by decide +kernel
theorem dX12_draw_2 : decode cX12_draw 2 = .ok (.getfield 387, 3) := by decide +kernel
theorem dX12_draw_5 : decode cX12_draw 5 = .ok (.ldc2_w 391, 3) := by decide +kernel
theorem dX12_draw_8 : decode cX12_draw 8 = .ok (.lmul, 1) := by decide +kernel
theorem dX12_draw_9 : decode cX12_draw 9 = .ok (.ldc2_w 393, 3) := by decide +kernel
theorem dX12_draw_12 : decode cX12_draw 12 = .ok (.ladd, 1) := by decide +kernel
theorem dX12_draw_13 : decode cX12_draw 13 = .ok (.putfield 387, 3) := by decide +kernel
theorem dX12_draw_16 : decode cX12_draw 16 = .ok (.aload_n 0, 1) := by decide +kernel
theorem dX12_draw_17 : decode cX12_draw 17 = .ok (.getfield 387, 3) := by decide +kernel
theorem dX12_draw_20 : decode cX12_draw 20 = .ok (.bipush 33, 2) := by decide +kernel
theorem dX12_draw_22 : decode cX12_draw 22 = .ok (.lushr, 1) := by decide +kernel
theorem dX12_draw_23 : decode cX12_draw 23 = .ok (.iload_n 1, 1) := by decide +kernel
theorem dX12_draw_24 : decode cX12_draw 24 = .ok (.i2l, 1) := by decide +kernel
theorem dX12_draw_25 : decode cX12_draw 25 = .ok (.lrem, 1) := by decide +kernel
theorem dX12_draw_26 : decode cX12_draw 26 = .ok (.l2i, 1) := by decide +kernel
theorem dX12_draw_27 : decode cX12_draw 27 = .ok (.ireturn, 1) := by decide +kernel
theorem dX12_step_0 : decode cX12_step 0 = .ok (.aload_n 0, 1) := by decide +kernel
theorem dX12_step_1 : decode cX12_step 1 = .ok (.getfield 395, 3) := by decide +kernel
theorem dX12_step_4 : decode cX12_step 4 = .ok (.istore_n 1, 1) := by decide +kernel
theorem dX12_step_5 : decode cX12_step 5 = .ok (.aload_n 0, 1) := by decide +kernel
theorem dX12_step_6 : decode cX12_step 6 = .ok (.dup, 1) := by decide +kernel
theorem dX12_step_7 : decode cX12_step 7 = .ok (.getfield 395, 3) := by decide +kernel
theorem dX12_step_10 : decode cX12_step 10 = .ok (.iconst 1, 1) := by decide +kernel
theorem dX12_step_11 : decode cX12_step 11 = .ok (.iadd, 1) := by decide +kernel
theorem dX12_step_12 : decode cX12_step 12 = .ok (.putfield 395, 3) := by decide +kernel
theorem dX12_step_15 : decode cX12_step 15 = .ok (.aload_n 0, 1) := by decide +kernel
theorem dX12_step_16 : decode cX12_step 16 = .ok (.getfield 13, 3) := by decide +kernel
theorem dX12_step_19 : decode cX12_step 19 = .ok (.iload_n 1, 1) := by decide +kernel
theorem dX12_step_20 : decode cX12_step 20 = .ok (.iaload, 1) := by decide +kernel
theorem dX12_step_21 : decode cX12_step 21 = .ok (.tableswitch 197 0 10 #[59, 59, 59, 76, 98, 117, 136, 197, 167, 197, 194], 59) := by decide +kernel
theorem dX12_step_80 : decode cX12_step 80 = .ok (.aload_n 0, 1) := by decide +kernel
theorem dX12_step_81 : decode cX12_step 81 = .ok (.aload_n 0, 1) := by decide +kernel
theorem dX12_step_82 : decode cX12_step 82 = .ok (.iload_n 1, 1) := by decide +kernel
theorem dX12_step_83 : decode cX12_step 83 = .ok (.aload_n 0, 1) := by decide +kernel
theorem dX12_step_84 : decode cX12_step 84 = .ok (.getfield 398, 3) := by decide +kernel
theorem dX12_step_87 : decode cX12_step 87 = .ok (.iconst 0, 1) := by decide +kernel
theorem dX12_step_88 : decode cX12_step 88 = .ok (.invokevirtual 249, 3) := by decide +kernel
theorem dX12_step_91 : decode cX12_step 91 = .ok (.putfield 398, 3) := by decide +kernel
theorem dX12_step_94 : decode cX12_step 94 = .ok (.bipush (-9), 2) := by decide +kernel
theorem dX12_step_96 : decode cX12_step 96 = .ok (.ireturn, 1) := by decide +kernel
theorem dX12_step_97 : decode cX12_step 97 = .ok (.aload_n 0, 1) := by decide +kernel
theorem dX12_step_98 : decode cX12_step 98 = .ok (.aload_n 0, 1) := by decide +kernel
theorem dX12_step_99 : decode cX12_step 99 = .ok (.iload_n 1, 1) := by decide +kernel
theorem dX12_step_100 : decode cX12_step 100 = .ok (.aload_n 0, 1) := by decide +kernel
theorem dX12_step_101 : decode cX12_step 101 = .ok (.getfield 398, 3) := by decide +kernel
theorem dX12_step_104 : decode cX12_step 104 = .ok (.aload_n 0, 1) := by decide +kernel
theorem dX12_step_105 : decode cX12_step 105 = .ok (.bipush 6, 2) := by decide +kernel
theorem dX12_step_107 : decode cX12_step 107 = .ok (.invokevirtual 401, 3) := by decide +kernel
theorem dX12_step_110 : decode cX12_step 110 = .ok (.invokevirtual 249, 3) := by decide +kernel
theorem dX12_step_113 : decode cX12_step 113 = .ok (.putfield 398, 3) := by decide +kernel
theorem dX12_step_116 : decode cX12_step 116 = .ok (.bipush (-9), 2) := by decide +kernel
theorem dX12_step_118 : decode cX12_step 118 = .ok (.ireturn, 1) := by decide +kernel
theorem dX12_step_119 : decode cX12_step 119 = .ok (.aload_n 0, 1) := by decide +kernel
theorem dX12_step_120 : decode cX12_step 120 = .ok (.iload_n 1, 1) := by decide +kernel
theorem dX12_step_121 : decode cX12_step 121 = .ok (.aload_n 0, 1) := by decide +kernel
theorem dX12_step_122 : decode cX12_step 122 = .ok (.getfield 398, 3) := by decide +kernel
theorem dX12_step_125 : decode cX12_step 125 = .ok (.invokevirtual 255, 3) := by decide +kernel
theorem dX12_step_128 : decode cX12_step 128 = .ok (.ifCond .eq 8, 3) := by decide +kernel
theorem dX12_step_131 : decode cX12_step 131 = .ok (.bipush (-9), 2) := by decide +kernel
theorem dX12_step_133 : decode cX12_step 133 = .ok (.goto 4, 3) := by decide +kernel
theorem dX12_step_136 : decode cX12_step 136 = .ok (.iconst 2, 1) := by decide +kernel
theorem dX12_step_137 : decode cX12_step 137 = .ok (.ireturn, 1) := by decide +kernel
theorem dX12_step_138 : decode cX12_step 138 = .ok (.aload_n 0, 1) := by decide +kernel
theorem dX12_step_139 : decode cX12_step 139 = .ok (.iload_n 1, 1) := by decide +kernel
theorem dX12_step_140 : decode cX12_step 140 = .ok (.aload_n 0, 1) := by decide +kernel
theorem dX12_step_141 : decode cX12_step 141 = .ok (.getfield 398, 3) := by decide +kernel
theorem dX12_step_144 : decode cX12_step 144 = .ok (.invokevirtual 255, 3) := by decide +kernel
theorem dX12_step_147 : decode cX12_step 147 = .ok (.ifCond .eq 8, 3) := by decide +kernel
theorem dX12_step_150 : decode cX12_step 150 = .ok (.bipush (-9), 2) := by decide +kernel
theorem dX12_step_152 : decode cX12_step 152 = .ok (.goto 4, 3) := by decide +kernel
theorem dX12_step_155 : decode cX12_step 155 = .ok (.iconst 1, 1) := by decide +kernel
theorem dX12_step_156 : decode cX12_step 156 = .ok (.ireturn, 1) := by decide +kernel
theorem dX12_step_157 : decode cX12_step 157 = .ok (.aload_n 0, 1) := by decide +kernel
theorem dX12_step_158 : decode cX12_step 158 = .ok (.aload_n 0, 1) := by decide +kernel
theorem dX12_step_159 : decode cX12_step 159 = .ok (.iload_n 1, 1) := by decide +kernel
theorem dX12_step_160 : decode cX12_step 160 = .ok (.aload_n 0, 1) := by decide +kernel
theorem dX12_step_161 : decode cX12_step 161 = .ok (.getfield 398, 3) := by decide +kernel
theorem dX12_step_164 : decode cX12_step 164 = .ok (.invokevirtual 255, 3) := by decide +kernel
theorem dX12_step_167 : decode cX12_step 167 = .ok (.ifCond .eq 9, 3) := by decide +kernel
theorem dX12_step_170 : decode cX12_step 170 = .ok (.iload_n 1, 1) := by decide +kernel
theorem dX12_step_171 : decode cX12_step 171 = .ok (.iconst 1, 1) := by decide +kernel
theorem dX12_step_172 : decode cX12_step 172 = .ok (.iadd, 1) := by decide +kernel
theorem dX12_step_173 : decode cX12_step 173 = .ok (.goto 9, 3) := by decide +kernel
theorem dX12_step_176 : decode cX12_step 176 = .ok (.aload_n 0, 1) := by decide +kernel
theorem dX12_step_177 : decode cX12_step 177 = .ok (.getfield 28, 3) := by decide +kernel
theorem dX12_step_180 : decode cX12_step 180 = .ok (.iload_n 1, 1) := by decide +kernel
theorem dX12_step_181 : decode cX12_step 181 = .ok (.iaload, 1) := by decide +kernel
theorem dX12_step_182 : decode cX12_step 182 = .ok (.putfield 395, 3) := by decide +kernel
theorem dX12_step_185 : decode cX12_step 185 = .ok (.bipush (-9), 2) := by decide +kernel
theorem dX12_step_187 : decode cX12_step 187 = .ok (.ireturn, 1) := by decide +kernel
theorem dX12_step_188 : decode cX12_step 188 = .ok (.aload_n 0, 1) := by decide +kernel
theorem dX12_step_189 : decode cX12_step 189 = .ok (.aload_n 0, 1) := by decide +kernel
theorem dX12_step_190 : decode cX12_step 190 = .ok (.iconst 2, 1) := by decide +kernel
theorem dX12_step_191 : decode cX12_step 191 = .ok (.invokevirtual 401, 3) := by decide +kernel
theorem dX12_step_194 : decode cX12_step 194 = .ok (.ifCond .ne 9, 3) := by decide +kernel
theorem dX12_step_197 : decode cX12_step 197 = .ok (.iload_n 1, 1) := by decide +kernel
theorem dX12_step_198 : decode cX12_step 198 = .ok (.iconst 1, 1) := by decide +kernel
theorem dX12_step_199 : decode cX12_step 199 = .ok (.iadd, 1) := by decide +kernel
theorem dX12_step_200 : decode cX12_step 200 = .ok (.goto 9, 3) := by decide +kernel
theorem dX12_step_203 : decode cX12_step 203 = .ok (.aload_n 0, 1) := by decide +kernel
theorem dX12_step_204 : decode cX12_step 204 = .ok (.getfield 28, 3) := by decide +kernel
theorem dX12_step_207 : decode cX12_step 207 = .ok (.iload_n 1, 1) := by decide +kernel
theorem dX12_step_208 : decode cX12_step 208 = .ok (.iaload, 1) := by decide +kernel
theorem dX12_step_209 : decode cX12_step 209 = .ok (.putfield 395, 3) := by decide +kernel
theorem dX12_step_212 : decode cX12_step 212 = .ok (.bipush (-9), 2) := by decide +kernel
theorem dX12_step_214 : decode cX12_step 214 = .ok (.ireturn, 1) := by decide +kernel
theorem dX12_step_215 : decode cX12_step 215 = .ok (.bipush (-9), 2) := by decide +kernel
theorem dX12_step_217 : decode cX12_step 217 = .ok (.ireturn, 1) := by decide +kernel
theorem dX12_step_218 : decode cX12_step 218 = .ok (.aload_n 0, 1) := by decide +kernel
theorem dX12_step_219 : decode cX12_step 219 = .ok (.aload_n 0, 1) := by decide +kernel
theorem dX12_step_220 : decode cX12_step 220 = .ok (.getfield 28, 3) := by decide +kernel
theorem dX12_step_223 : decode cX12_step 223 = .ok (.iload_n 1, 1) := by decide +kernel
theorem dX12_step_224 : decode cX12_step 224 = .ok (.iaload, 1) := by decide +kernel
theorem dX12_step_225 : decode cX12_step 225 = .ok (.putfield 395, 3) := by decide +kernel
theorem dX12_step_228 : decode cX12_step 228 = .ok (.bipush (-9), 2) := by decide +kernel
theorem dX12_step_230 : decode cX12_step 230 = .ok (.ireturn, 1) := by decide +kernel
theorem dX12_run_0 : decode cX12_run 0 = .ok (.aload_n 0, 1) := by decide +kernel
theorem dX12_run_1 : decode cX12_run 1 = .ok (.iconst 0, 1) := by decide +kernel
theorem dX12_run_2 : decode cX12_run 2 = .ok (.putfield 398, 3) := by decide +kernel
theorem dX12_run_5 : decode cX12_run 5 = .ok (.aload_n 0, 1) := by decide +kernel
theorem dX12_run_6 : decode cX12_run 6 = .ok (.iconst 0, 1) := by decide +kernel
theorem dX12_run_7 : decode cX12_run 7 = .ok (.putfield 395, 3) := by decide +kernel
theorem dX12_run_10 : decode cX12_run 10 = .ok (.iconst 0, 1) := by decide +kernel
theorem dX12_run_11 : decode cX12_run 11 = .ok (.istore_n 1, 1) := by decide +kernel
theorem dX12_run_12 : decode cX12_run 12 = .ok (.iload_n 1, 1) := by decide +kernel
theorem dX12_run_13 : decode cX12_run 13 = .ok (.iconst 3, 1) := by decide +kernel
theorem dX12_run_14 : decode cX12_run 14 = .ok (.if_icmp .ge 47, 3) := by decide +kernel
theorem dX12_run_17 : decode cX12_run 17 = .ok (.aload_n 0, 1) := by decide +kernel
theorem dX12_run_18 : decode cX12_run 18 = .ok (.aload_n 0, 1) := by decide +kernel
theorem dX12_run_19 : decode cX12_run 19 = .ok (.getfield 398, 3) := by decide +kernel
theorem dX12_run_22 : decode cX12_run 22 = .ok (.iload_n 1, 1) := by decide +kernel
theorem dX12_run_23 : decode cX12_run 23 = .ok (.aload_n 0, 1) := by decide +kernel
theorem dX12_run_24 : decode cX12_run 24 = .ok (.getfield 70, 3) := by decide +kernel
theorem dX12_run_27 : decode cX12_run 27 = .ok (.iload_n 1, 1) := by decide +kernel
theorem dX12_run_28 : decode cX12_run 28 = .ok (.iaload, 1) := by decide +kernel
theorem dX12_run_29 : decode cX12_run 29 = .ok (.bipush 6, 2) := by decide +kernel
theorem dX12_run_31 : decode cX12_run 31 = .ok (.if_icmp .ne 12, 3) := by decide +kernel
theorem dX12_run_34 : decode cX12_run 34 = .ok (.aload_n 0, 1) := by decide +kernel
theorem dX12_run_35 : decode cX12_run 35 = .ok (.bipush 6, 2) := by decide +kernel
theorem dX12_run_37 : decode cX12_run 37 = .ok (.invokevirtual 401, 3) := by decide +kernel
theorem dX12_run_40 : decode cX12_run 40 = .ok (.goto 9, 3) := by decide +kernel
theorem dX12_run_43 : decode cX12_run 43 = .ok (.aload_n 0, 1) := by decide +kernel
theorem dX12_run_44 : decode cX12_run 44 = .ok (.getfield 70, 3) := by decide +kernel
theorem dX12_run_47 : decode cX12_run 47 = .ok (.iload_n 1, 1) := by decide +kernel
theorem dX12_run_48 : decode cX12_run 48 = .ok (.iaload, 1) := by decide +kernel
theorem dX12_run_49 : decode cX12_run 49 = .ok (.invokestatic 242, 3) := by decide +kernel
theorem dX12_run_52 : decode cX12_run 52 = .ok (.putfield 398, 3) := by decide +kernel
theorem dX12_run_55 : decode cX12_run 55 = .ok (.iinc 1 1, 3) := by decide +kernel
theorem dX12_run_58 : decode cX12_run 58 = .ok (.goto (-46), 3) := by decide +kernel
theorem dX12_run_61 : decode cX12_run 61 = .ok (.iconst 0, 1) := by decide +kernel
theorem dX12_run_62 : decode cX12_run 62 = .ok (.istore_n 1, 1) := by decide +kernel
theorem dX12_run_63 : decode cX12_run 63 = .ok (.bipush (-9), 2) := by decide +kernel
theorem dX12_run_65 : decode cX12_run 65 = .ok (.istore_n 2, 1) := by decide +kernel
theorem dX12_run_66 : decode cX12_run 66 = .ok (.iload_n 2, 1) := by decide +kernel
theorem dX12_run_67 : decode cX12_run 67 = .ok (.bipush (-9), 2) := by decide +kernel
theorem dX12_run_69 : decode cX12_run 69 = .ok (.if_icmp .ne 55, 3) := by decide +kernel
theorem dX12_run_72 : decode cX12_run 72 = .ok (.aload_n 0, 1) := by decide +kernel
theorem dX12_run_73 : decode cX12_run 73 = .ok (.getfield 395, 3) := by decide +kernel
theorem dX12_run_76 : decode cX12_run 76 = .ok (.aload_n 0, 1) := by decide +kernel
theorem dX12_run_77 : decode cX12_run 77 = .ok (.getfield 205, 3) := by decide +kernel
theorem dX12_run_80 : decode cX12_run 80 = .ok (.if_icmp .ge 44, 3) := by decide +kernel
theorem dX12_run_83 : decode cX12_run 83 = .ok (.iload_n 1, 1) := by decide +kernel
theorem dX12_run_84 : decode cX12_run 84 = .ok (.aload_n 0, 1) := by decide +kernel
theorem dX12_run_85 : decode cX12_run 85 = .ok (.getfield 13, 3) := by decide +kernel
theorem dX12_run_88 : decode cX12_run 88 = .ok (.aload_n 0, 1) := by decide +kernel
theorem dX12_run_89 : decode cX12_run 89 = .ok (.getfield 395, 3) := by decide +kernel
theorem dX12_run_92 : decode cX12_run 92 = .ok (.iaload, 1) := by decide +kernel
theorem dX12_run_93 : decode cX12_run 93 = .ok (.invokestatic 220, 3) := by decide +kernel
theorem dX12_run_96 : decode cX12_run 96 = .ok (.ifCond .eq 7, 3) := by decide +kernel
theorem dX12_run_99 : decode cX12_run 99 = .ok (.iconst 1, 1) := by decide +kernel
theorem dX12_run_100 : decode cX12_run 100 = .ok (.goto 4, 3) := by decide +kernel
theorem dX12_run_103 : decode cX12_run 103 = .ok (.iconst 0, 1) := by decide +kernel
theorem dX12_run_104 : decode cX12_run 104 = .ok (.iadd, 1) := by decide +kernel
theorem dX12_run_105 : decode cX12_run 105 = .ok (.istore_n 1, 1) := by decide +kernel
theorem dX12_run_106 : decode cX12_run 106 = .ok (.iload_n 1, 1) := by decide +kernel
theorem dX12_run_107 : decode cX12_run 107 = .ok (.bipush 60, 2) := by decide +kernel
theorem dX12_run_109 : decode cX12_run 109 = .ok (.if_icmp .le 7, 3) := by decide +kernel
theorem dX12_run_112 : decode cX12_run 112 = .ok (.iconst 3, 1) := by decide +kernel
theorem dX12_run_113 : decode cX12_run 113 = .ok (.goto 7, 3) := by decide +kernel
theorem dX12_run_116 : decode cX12_run 116 = .ok (.aload_n 0, 1) := by decide +kernel
theorem dX12_run_117 : decode cX12_run 117 = .ok (.invokevirtual 404, 3) := by decide +kernel
theorem dX12_run_120 : decode cX12_run 120 = .ok (.istore_n 2, 1) := by decide +kernel
theorem dX12_run_121 : decode cX12_run 121 = .ok (.goto (-55), 3) := by decide +kernel
theorem dX12_run_124 : decode cX12_run 124 = .ok (.iload_n 2, 1) := by decide +kernel
theorem dX12_run_125 : decode cX12_run 125 = .ok (.bipush (-9), 2) := by decide +kernel
theorem dX12_run_127 : decode cX12_run 127 = .ok (.if_icmp .ne 7, 3) := by decide +kernel
theorem dX12_run_130 : decode cX12_run 130 = .ok (.iconst 0, 1) := by decide +kernel
theorem dX12_run_131 : decode cX12_run 131 = .ok (.goto 4, 3) := by decide +kernel
theorem dX12_run_134 : decode cX12_run 134 = .ok (.iload_n 2, 1) := by decide +kernel
theorem dX12_run_135 : decode cX12_run 135 = .ok (.ireturn, 1) := by decide +kernel
theorem dX12_drawn_0 : decode cX12_drawn 0 = .ok (.iload_n 1, 1) := by decide +kernel
theorem dX12_drawn_1 : decode cX12_drawn 1 = .ok (.i2l, 1) := by decide +kernel
theorem dX12_drawn_2 : decode cX12_drawn 2 = .ok (.lconst 1, 1) := by decide +kernel
theorem dX12_drawn_3 : decode cX12_drawn 3 = .ok (.ldc2_w 407, 3) := by decide +kernel
theorem dX12_drawn_6 : decode cX12_drawn 6 = .ok (.invokestatic 114, 3) := by decide +kernel
theorem dX12_drawn_9 : decode cX12_drawn 9 = .ok (.ifCond .ne 6, 3) := by decide +kernel
theorem dX12_drawn_12 : decode cX12_drawn 12 = .ok (.bipush (-2), 2) := by decide +kernel
theorem dX12_drawn_14 : decode cX12_drawn 14 = .ok (.ireturn, 1) := by decide +kernel
theorem dX12_drawn_15 : decode cX12_drawn 15 = .ok (.iconst 0, 1) := by decide +kernel
theorem dX12_drawn_16 : decode cX12_drawn 16 = .ok (.istore_n 2, 1) := by decide +kernel
theorem dX12_drawn_17 : decode cX12_drawn 17 = .ok (.iconst 0, 1) := by decide +kernel
theorem dX12_drawn_18 : decode cX12_drawn 18 = .ok (.istore_n 3, 1) := by decide +kernel
theorem dX12_drawn_19 : decode cX12_drawn 19 = .ok (.iload_n 3, 1) := by decide +kernel
theorem dX12_drawn_20 : decode cX12_drawn 20 = .ok (.iload_n 1, 1) := by decide +kernel
theorem dX12_drawn_21 : decode cX12_drawn 21 = .ok (.if_icmp .ge 16, 3) := by decide +kernel
theorem dX12_drawn_24 : decode cX12_drawn 24 = .ok (.iload_n 2, 1) := by decide +kernel
theorem dX12_drawn_25 : decode cX12_drawn 25 = .ok (.aload_n 0, 1) := by decide +kernel
theorem dX12_drawn_26 : decode cX12_drawn 26 = .ok (.invokevirtual 409, 3) := by decide +kernel
theorem dX12_drawn_29 : decode cX12_drawn 29 = .ok (.iadd, 1) := by decide +kernel
theorem dX12_drawn_30 : decode cX12_drawn 30 = .ok (.istore_n 2, 1) := by decide +kernel
theorem dX12_drawn_31 : decode cX12_drawn 31 = .ok (.iinc 3 1, 3) := by decide +kernel
theorem dX12_drawn_34 : decode cX12_drawn 34 = .ok (.goto (-15), 3) := by decide +kernel
theorem dX12_drawn_37 : decode cX12_drawn 37 = .ok (.iload_n 2, 1) := by decide +kernel
theorem dX12_drawn_38 : decode cX12_drawn 38 = .ok (.ireturn, 1) := by decide +kernel
theorem dX12_keep_0 : decode cX12_keep 0 = .ok (.iload_n 1, 1) := by decide +kernel
theorem dX12_keep_1 : decode cX12_keep 1 = .ok (.i2l, 1) := by decide +kernel
theorem dX12_keep_2 : decode cX12_keep 2 = .ok (.lconst 0, 1) := by decide +kernel
theorem dX12_keep_3 : decode cX12_keep 3 = .ok (.lconst 1, 1) := by decide +kernel
theorem dX12_keep_4 : decode cX12_keep 4 = .ok (.invokestatic 114, 3) := by decide +kernel
theorem dX12_keep_7 : decode cX12_keep 7 = .ok (.ifCond .ne 5, 3) := by decide +kernel
theorem dX12_keep_10 : decode cX12_keep 10 = .ok (.iconst (-1), 1) := by decide +kernel
theorem dX12_keep_11 : decode cX12_keep 11 = .ok (.ireturn, 1) := by decide +kernel
theorem dX12_keep_12 : decode cX12_keep 12 = .ok (.aload_n 0, 1) := by decide +kernel
theorem dX12_keep_13 : decode cX12_keep 13 = .ok (.getfield 82, 3) := by decide +kernel
theorem dX12_keep_16 : decode cX12_keep 16 = .ok (.iload_n 1, 1) := by decide +kernel
theorem dX12_keep_17 : decode cX12_keep 17 = .ok (.iconst 1, 1) := by decide +kernel
theorem dX12_keep_18 : decode cX12_keep 18 = .ok (.bastore, 1) := by decide +kernel
theorem dX12_keep_19 : decode cX12_keep 19 = .ok (.iconst 0, 1) := by decide +kernel
theorem dX12_keep_20 : decode cX12_keep 20 = .ok (.istore_n 2, 1) := by decide +kernel
theorem dX12_keep_21 : decode cX12_keep 21 = .ok (.iload_n 2, 1) := by decide +kernel
theorem dX12_keep_22 : decode cX12_keep 22 = .ok (.iconst 4, 1) := by decide +kernel
theorem dX12_keep_23 : decode cX12_keep 23 = .ok (.if_icmp .ge 25, 3) := by decide +kernel
theorem dX12_keep_26 : decode cX12_keep 26 = .ok (.aload_n 0, 1) := by decide +kernel
theorem dX12_keep_27 : decode cX12_keep 27 = .ok (.getfield 79, 3) := by decide +kernel
theorem dX12_keep_30 : decode cX12_keep 30 = .ok (.iconst 4, 1) := by decide +kernel
theorem dX12_keep_31 : decode cX12_keep 31 = .ok (.iload_n 1, 1) := by decide +kernel
theorem dX12_keep_32 : decode cX12_keep 32 = .ok (.imul, 1) := by decide +kernel
theorem dX12_keep_33 : decode cX12_keep 33 = .ok (.iload_n 2, 1) := by decide +kernel
theorem dX12_keep_34 : decode cX12_keep 34 = .ok (.iadd, 1) := by decide +kernel
theorem dX12_keep_35 : decode cX12_keep 35 = .ok (.aload_n 0, 1) := by decide +kernel
theorem dX12_keep_36 : decode cX12_keep 36 = .ok (.getfield 70, 3) := by decide +kernel
theorem dX12_keep_39 : decode cX12_keep 39 = .ok (.iload_n 2, 1) := by decide +kernel
theorem dX12_keep_40 : decode cX12_keep 40 = .ok (.iaload, 1) := by decide +kernel
theorem dX12_keep_41 : decode cX12_keep 41 = .ok (.iastore, 1) := by decide +kernel
theorem dX12_keep_42 : decode cX12_keep 42 = .ok (.iinc 2 1, 3) := by decide +kernel
theorem dX12_keep_45 : decode cX12_keep 45 = .ok (.goto (-24), 3) := by decide +kernel
theorem dX12_keep_48 : decode cX12_keep 48 = .ok (.aload_n 0, 1) := by decide +kernel
theorem dX12_keep_49 : decode cX12_keep 49 = .ok (.getfield 70, 3) := by decide +kernel
theorem dX12_keep_52 : decode cX12_keep 52 = .ok (.iconst 3, 1) := by decide +kernel
theorem dX12_keep_53 : decode cX12_keep 53 = .ok (.iaload, 1) := by decide +kernel
theorem dX12_keep_54 : decode cX12_keep 54 = .ok (.invokestatic 304, 3) := by decide +kernel
theorem dX12_keep_57 : decode cX12_keep 57 = .ok (.ireturn, 1) := by decide +kernel
theorem dX12_again_0 : decode cX12_again 0 = .ok (.iload_n 1, 1) := by decide +kernel
theorem dX12_again_1 : decode cX12_again 1 = .ok (.i2l, 1) := by decide +kernel
theorem dX12_again_2 : decode cX12_again 2 = .ok (.lconst 0, 1) := by decide +kernel
theorem dX12_again_3 : decode cX12_again 3 = .ok (.lconst 1, 1) := by decide +kernel
theorem dX12_again_4 : decode cX12_again 4 = .ok (.invokestatic 114, 3) := by decide +kernel
theorem dX12_again_7 : decode cX12_again 7 = .ok (.ifCond .ne 5, 3) := by decide +kernel
theorem dX12_again_10 : decode cX12_again 10 = .ok (.iconst (-1), 1) := by decide +kernel
theorem dX12_again_11 : decode cX12_again 11 = .ok (.ireturn, 1) := by decide +kernel
theorem dX12_again_12 : decode cX12_again 12 = .ok (.aload_n 0, 1) := by decide +kernel
theorem dX12_again_13 : decode cX12_again 13 = .ok (.getfield 82, 3) := by decide +kernel
theorem dX12_again_16 : decode cX12_again 16 = .ok (.iload_n 1, 1) := by decide +kernel
theorem dX12_again_17 : decode cX12_again 17 = .ok (.baload, 1) := by decide +kernel
theorem dX12_again_18 : decode cX12_again 18 = .ok (.ifCond .ne 6, 3) := by decide +kernel
theorem dX12_again_21 : decode cX12_again 21 = .ok (.bipush (-3), 2) := by decide +kernel
theorem dX12_again_23 : decode cX12_again 23 = .ok (.ireturn, 1) := by decide +kernel
theorem dX12_again_24 : decode cX12_again 24 = .ok (.iconst 0, 1) := by decide +kernel
theorem dX12_again_25 : decode cX12_again 25 = .ok (.istore_n 2, 1) := by decide +kernel
theorem dX12_again_26 : decode cX12_again 26 = .ok (.iload_n 2, 1) := by decide +kernel
theorem dX12_again_27 : decode cX12_again 27 = .ok (.iconst 4, 1) := by decide +kernel
theorem dX12_again_28 : decode cX12_again 28 = .ok (.if_icmp .ge 25, 3) := by decide +kernel
theorem dX12_again_31 : decode cX12_again 31 = .ok (.aload_n 0, 1) := by decide +kernel
theorem dX12_again_32 : decode cX12_again 32 = .ok (.getfield 70, 3) := by decide +kernel
theorem dX12_again_35 : decode cX12_again 35 = .ok (.iload_n 2, 1) := by decide +kernel
theorem dX12_again_36 : decode cX12_again 36 = .ok (.aload_n 0, 1) := by decide +kernel
theorem dX12_again_37 : decode cX12_again 37 = .ok (.getfield 79, 3) := by decide +kernel
theorem dX12_again_40 : decode cX12_again 40 = .ok (.iconst 4, 1) := by decide +kernel
theorem dX12_again_41 : decode cX12_again 41 = .ok (.iload_n 1, 1) := by decide +kernel
theorem dX12_again_42 : decode cX12_again 42 = .ok (.imul, 1) := by decide +kernel
theorem dX12_again_43 : decode cX12_again 43 = .ok (.iload_n 2, 1) := by decide +kernel
theorem dX12_again_44 : decode cX12_again 44 = .ok (.iadd, 1) := by decide +kernel
theorem dX12_again_45 : decode cX12_again 45 = .ok (.iaload, 1) := by decide +kernel
theorem dX12_again_46 : decode cX12_again 46 = .ok (.iastore, 1) := by decide +kernel
theorem dX12_again_47 : decode cX12_again 47 = .ok (.iinc 2 1, 3) := by decide +kernel
theorem dX12_again_50 : decode cX12_again 50 = .ok (.goto (-24), 3) := by decide +kernel
theorem dX12_again_53 : decode cX12_again 53 = .ok (.aload_n 0, 1) := by decide +kernel
theorem dX12_again_54 : decode cX12_again 54 = .ok (.iconst 0, 1) := by decide +kernel
theorem dX12_again_55 : decode cX12_again 55 = .ok (.putfield 223, 3) := by decide +kernel
theorem dX12_again_58 : decode cX12_again 58 = .ok (.aload_n 0, 1) := by decide +kernel
theorem dX12_again_59 : decode cX12_again 59 = .ok (.getfield 70, 3) := by decide +kernel
theorem dX12_again_62 : decode cX12_again 62 = .ok (.iconst 3, 1) := by decide +kernel
theorem dX12_again_63 : decode cX12_again 63 = .ok (.iaload, 1) := by decide +kernel
theorem dX12_again_64 : decode cX12_again 64 = .ok (.invokestatic 304, 3) := by decide +kernel
theorem dX12_again_67 : decode cX12_again 67 = .ok (.ireturn, 1) := by decide +kernel
theorem dJ6_numberOfTrailingZeros_0f7a4_0 : decode cJ6_numberOfTrailingZeros_0f7a4 0 = .ok (.iload_n 0, 1) := by decide +kernel
theorem dJ6_numberOfTrailingZeros_0f7a4_1 : decode cJ6_numberOfTrailingZeros_0f7a4 1 = .ok (.iconst (-1), 1) := by decide +kernel
theorem dJ6_numberOfTrailingZeros_0f7a4_2 : decode cJ6_numberOfTrailingZeros_0f7a4 2 = .ok (.ixor, 1) := by decide +kernel
theorem dJ6_numberOfTrailingZeros_0f7a4_3 : decode cJ6_numberOfTrailingZeros_0f7a4 3 = .ok (.iload_n 0, 1) := by decide +kernel
theorem dJ6_numberOfTrailingZeros_0f7a4_4 : decode cJ6_numberOfTrailingZeros_0f7a4 4 = .ok (.iconst 1, 1) := by decide +kernel
theorem dJ6_numberOfTrailingZeros_0f7a4_5 : decode cJ6_numberOfTrailingZeros_0f7a4 5 = .ok (.isub, 1) := by decide +kernel
theorem dJ6_numberOfTrailingZeros_0f7a4_6 : decode cJ6_numberOfTrailingZeros_0f7a4 6 = .ok (.iand, 1) := by decide +kernel
theorem dJ6_numberOfTrailingZeros_0f7a4_7 : decode cJ6_numberOfTrailingZeros_0f7a4 7 = .ok (.istore_n 0, 1) := by decide +kernel
theorem dJ6_numberOfTrailingZeros_0f7a4_8 : decode cJ6_numberOfTrailingZeros_0f7a4 8 = .ok (.iload_n 0, 1) := by decide +kernel
theorem dJ6_numberOfTrailingZeros_0f7a4_9 : decode cJ6_numberOfTrailingZeros_0f7a4 9 = .ok (.ifCond .gt 8, 3) := by decide +kernel
theorem dJ6_numberOfTrailingZeros_0f7a4_12 : decode cJ6_numberOfTrailingZeros_0f7a4 12 = .ok (.iload_n 0, 1) := by decide +kernel
theorem dJ6_numberOfTrailingZeros_0f7a4_13 : decode cJ6_numberOfTrailingZeros_0f7a4 13 = .ok (.bipush 32, 2) := by decide +kernel
theorem dJ6_numberOfTrailingZeros_0f7a4_15 : decode cJ6_numberOfTrailingZeros_0f7a4 15 = .ok (.iand, 1) := by decide +kernel
theorem dJ6_numberOfTrailingZeros_0f7a4_16 : decode cJ6_numberOfTrailingZeros_0f7a4 16 = .ok (.ireturn, 1) := by decide +kernel
theorem dJ6_numberOfTrailingZeros_0f7a4_17 : decode cJ6_numberOfTrailingZeros_0f7a4 17 = .ok (.iconst 1, 1) := by decide +kernel
theorem dJ6_numberOfTrailingZeros_0f7a4_18 : decode cJ6_numberOfTrailingZeros_0f7a4 18 = .ok (.istore_n 1, 1) := by decide +kernel
theorem dJ6_numberOfTrailingZeros_0f7a4_19 : decode cJ6_numberOfTrailingZeros_0f7a4 19 = .ok (.iload_n 0, 1) := by decide +kernel
theorem dJ6_numberOfTrailingZeros_0f7a4_20 : decode cJ6_numberOfTrailingZeros_0f7a4 20 = .ok (.ldc_w 264, 3) := by decide +kernel
theorem dJ6_numberOfTrailingZeros_0f7a4_23 : decode cJ6_numberOfTrailingZeros_0f7a4 23 = .ok (.if_icmp .le 11, 3) := by decide +kernel
theorem dJ6_numberOfTrailingZeros_0f7a4_26 : decode cJ6_numberOfTrailingZeros_0f7a4 26 = .ok (.iinc 1 16, 3) := by decide +kernel
theorem dJ6_numberOfTrailingZeros_0f7a4_29 : decode cJ6_numberOfTrailingZeros_0f7a4 29 = .ok (.iload_n 0, 1) := by decide +kernel
theorem dJ6_numberOfTrailingZeros_0f7a4_30 : decode cJ6_numberOfTrailingZeros_0f7a4 30 = .ok (.bipush 16, 2) := by decide +kernel
theorem dJ6_numberOfTrailingZeros_0f7a4_32 : decode cJ6_numberOfTrailingZeros_0f7a4 32 = .ok (.iushr, 1) := by decide +kernel
theorem dJ6_numberOfTrailingZeros_0f7a4_33 : decode cJ6_numberOfTrailingZeros_0f7a4 33 = .ok (.istore_n 0, 1) := by decide +kernel
theorem dJ6_numberOfTrailingZeros_0f7a4_34 : decode cJ6_numberOfTrailingZeros_0f7a4 34 = .ok (.iload_n 0, 1) := by decide +kernel
theorem dJ6_numberOfTrailingZeros_0f7a4_35 : decode cJ6_numberOfTrailingZeros_0f7a4 35 = .ok (.sipush 256, 3) := by decide +kernel
theorem dJ6_numberOfTrailingZeros_0f7a4_38 : decode cJ6_numberOfTrailingZeros_0f7a4 38 = .ok (.if_icmp .le 11, 3) := by decide +kernel
theorem dJ6_numberOfTrailingZeros_0f7a4_41 : decode cJ6_numberOfTrailingZeros_0f7a4 41 = .ok (.iinc 1 8, 3) := by decide +kernel
theorem dJ6_numberOfTrailingZeros_0f7a4_44 : decode cJ6_numberOfTrailingZeros_0f7a4 44 = .ok (.iload_n 0, 1) := by decide +kernel
theorem dJ6_numberOfTrailingZeros_0f7a4_45 : decode cJ6_numberOfTrailingZeros_0f7a4 45 = .ok (.bipush 8, 2) := by decide +kernel
theorem dJ6_numberOfTrailingZeros_0f7a4_47 : decode cJ6_numberOfTrailingZeros_0f7a4 47 = .ok (.iushr, 1) := by decide +kernel
theorem dJ6_numberOfTrailingZeros_0f7a4_48 : decode cJ6_numberOfTrailingZeros_0f7a4 48 = .ok (.istore_n 0, 1) := by decide +kernel
theorem dJ6_numberOfTrailingZeros_0f7a4_49 : decode cJ6_numberOfTrailingZeros_0f7a4 49 = .ok (.iload_n 0, 1) := by decide +kernel
theorem dJ6_numberOfTrailingZeros_0f7a4_50 : decode cJ6_numberOfTrailingZeros_0f7a4 50 = .ok (.bipush 16, 2) := by decide +kernel
theorem dJ6_numberOfTrailingZeros_0f7a4_52 : decode cJ6_numberOfTrailingZeros_0f7a4 52 = .ok (.if_icmp .le 10, 3) := by decide +kernel
theorem dJ6_numberOfTrailingZeros_0f7a4_55 : decode cJ6_numberOfTrailingZeros_0f7a4 55 = .ok (.iinc 1 4, 3) := by decide +kernel
theorem dJ6_numberOfTrailingZeros_0f7a4_58 : decode cJ6_numberOfTrailingZeros_0f7a4 58 = .ok (.iload_n 0, 1) := by decide +kernel
theorem dJ6_numberOfTrailingZeros_0f7a4_59 : decode cJ6_numberOfTrailingZeros_0f7a4 59 = .ok (.iconst 4, 1) := by decide +kernel
theorem dJ6_numberOfTrailingZeros_0f7a4_60 : decode cJ6_numberOfTrailingZeros_0f7a4 60 = .ok (.iushr, 1) := by decide +kernel
theorem dJ6_numberOfTrailingZeros_0f7a4_61 : decode cJ6_numberOfTrailingZeros_0f7a4 61 = .ok (.istore_n 0, 1) := by decide +kernel
theorem dJ6_numberOfTrailingZeros_0f7a4_62 : decode cJ6_numberOfTrailingZeros_0f7a4 62 = .ok (.iload_n 0, 1) := by decide +kernel
theorem dJ6_numberOfTrailingZeros_0f7a4_63 : decode cJ6_numberOfTrailingZeros_0f7a4 63 = .ok (.iconst 4, 1) := by decide +kernel
theorem dJ6_numberOfTrailingZeros_0f7a4_64 : decode cJ6_numberOfTrailingZeros_0f7a4 64 = .ok (.if_icmp .le 10, 3) := by decide +kernel
theorem dJ6_numberOfTrailingZeros_0f7a4_67 : decode cJ6_numberOfTrailingZeros_0f7a4 67 = .ok (.iinc 1 2, 3) := by decide +kernel
theorem dJ6_numberOfTrailingZeros_0f7a4_70 : decode cJ6_numberOfTrailingZeros_0f7a4 70 = .ok (.iload_n 0, 1) := by decide +kernel
theorem dJ6_numberOfTrailingZeros_0f7a4_71 : decode cJ6_numberOfTrailingZeros_0f7a4 71 = .ok (.iconst 2, 1) := by decide +kernel
theorem dJ6_numberOfTrailingZeros_0f7a4_72 : decode cJ6_numberOfTrailingZeros_0f7a4 72 = .ok (.iushr, 1) := by decide +kernel
theorem dJ6_numberOfTrailingZeros_0f7a4_73 : decode cJ6_numberOfTrailingZeros_0f7a4 73 = .ok (.istore_n 0, 1) := by decide +kernel
theorem dJ6_numberOfTrailingZeros_0f7a4_74 : decode cJ6_numberOfTrailingZeros_0f7a4 74 = .ok (.iload_n 1, 1) := by decide +kernel
theorem dJ6_numberOfTrailingZeros_0f7a4_75 : decode cJ6_numberOfTrailingZeros_0f7a4 75 = .ok (.iload_n 0, 1) := by decide +kernel
theorem dJ6_numberOfTrailingZeros_0f7a4_76 : decode cJ6_numberOfTrailingZeros_0f7a4 76 = .ok (.iconst 1, 1) := by decide +kernel
theorem dJ6_numberOfTrailingZeros_0f7a4_77 : decode cJ6_numberOfTrailingZeros_0f7a4 77 = .ok (.iushr, 1) := by decide +kernel
theorem dJ6_numberOfTrailingZeros_0f7a4_78 : decode cJ6_numberOfTrailingZeros_0f7a4 78 = .ok (.iadd, 1) := by decide +kernel
theorem dJ6_numberOfTrailingZeros_0f7a4_79 : decode cJ6_numberOfTrailingZeros_0f7a4 79 = .ok (.ireturn, 1) := by decide +kernel
theorem dJ6_bitCount_0f7a4_0 : decode cJ6_bitCount_0f7a4 0 = .ok (.iload_n 0, 1) := by decide +kernel
theorem dJ6_bitCount_0f7a4_1 : decode cJ6_bitCount_0f7a4 1 = .ok (.iload_n 0, 1) := by decide +kernel
theorem dJ6_bitCount_0f7a4_2 : decode cJ6_bitCount_0f7a4 2 = .ok (.iconst 1, 1) := by decide +kernel
theorem dJ6_bitCount_0f7a4_3 : decode cJ6_bitCount_0f7a4 3 = .ok (.iushr, 1) := by decide +kernel
theorem dJ6_bitCount_0f7a4_4 : decode cJ6_bitCount_0f7a4 4 = .ok (.ldc_w 265, 3) := by decide +kernel
theorem dJ6_bitCount_0f7a4_7 : decode cJ6_bitCount_0f7a4 7 = .ok (.iand, 1) := by decide +kernel
theorem dJ6_bitCount_0f7a4_8 : decode cJ6_bitCount_0f7a4 8 = .ok (.isub, 1) := by decide +kernel
theorem dJ6_bitCount_0f7a4_9 : decode cJ6_bitCount_0f7a4 9 = .ok (.istore_n 0, 1) := by decide +kernel
theorem dJ6_bitCount_0f7a4_10 : decode cJ6_bitCount_0f7a4 10 = .ok (.iload_n 0, 1) := by decide +kernel
theorem dJ6_bitCount_0f7a4_11 : decode cJ6_bitCount_0f7a4 11 = .ok (.ldc_w 266, 3) := by decide +kernel
theorem dJ6_bitCount_0f7a4_14 : decode cJ6_bitCount_0f7a4 14 = .ok (.iand, 1) := by decide +kernel
theorem dJ6_bitCount_0f7a4_15 : decode cJ6_bitCount_0f7a4 15 = .ok (.iload_n 0, 1) := by decide +kernel
theorem dJ6_bitCount_0f7a4_16 : decode cJ6_bitCount_0f7a4 16 = .ok (.iconst 2, 1) := by decide +kernel
theorem dJ6_bitCount_0f7a4_17 : decode cJ6_bitCount_0f7a4 17 = .ok (.iushr, 1) := by decide +kernel
theorem dJ6_bitCount_0f7a4_18 : decode cJ6_bitCount_0f7a4 18 = .ok (.ldc_w 266, 3) := by decide +kernel
theorem dJ6_bitCount_0f7a4_21 : decode cJ6_bitCount_0f7a4 21 = .ok (.iand, 1) := by decide +kernel
theorem dJ6_bitCount_0f7a4_22 : decode cJ6_bitCount_0f7a4 22 = .ok (.iadd, 1) := by decide +kernel
theorem dJ6_bitCount_0f7a4_23 : decode cJ6_bitCount_0f7a4 23 = .ok (.istore_n 0, 1) := by decide +kernel
theorem dJ6_bitCount_0f7a4_24 : decode cJ6_bitCount_0f7a4 24 = .ok (.iload_n 0, 1) := by decide +kernel
theorem dJ6_bitCount_0f7a4_25 : decode cJ6_bitCount_0f7a4 25 = .ok (.iload_n 0, 1) := by decide +kernel
theorem dJ6_bitCount_0f7a4_26 : decode cJ6_bitCount_0f7a4 26 = .ok (.iconst 4, 1) := by decide +kernel
theorem dJ6_bitCount_0f7a4_27 : decode cJ6_bitCount_0f7a4 27 = .ok (.iushr, 1) := by decide +kernel
theorem dJ6_bitCount_0f7a4_28 : decode cJ6_bitCount_0f7a4 28 = .ok (.iadd, 1) := by decide +kernel
theorem dJ6_bitCount_0f7a4_29 : decode cJ6_bitCount_0f7a4 29 = .ok (.ldc_w 267, 3) := by decide +kernel
theorem dJ6_bitCount_0f7a4_32 : decode cJ6_bitCount_0f7a4 32 = .ok (.iand, 1) := by decide +kernel
theorem dJ6_bitCount_0f7a4_33 : decode cJ6_bitCount_0f7a4 33 = .ok (.istore_n 0, 1) := by decide +kernel
theorem dJ6_bitCount_0f7a4_34 : decode cJ6_bitCount_0f7a4 34 = .ok (.iload_n 0, 1) := by decide +kernel
theorem dJ6_bitCount_0f7a4_35 : decode cJ6_bitCount_0f7a4 35 = .ok (.iload_n 0, 1) := by decide +kernel
theorem dJ6_bitCount_0f7a4_36 : decode cJ6_bitCount_0f7a4 36 = .ok (.bipush 8, 2) := by decide +kernel
theorem dJ6_bitCount_0f7a4_38 : decode cJ6_bitCount_0f7a4 38 = .ok (.iushr, 1) := by decide +kernel
theorem dJ6_bitCount_0f7a4_39 : decode cJ6_bitCount_0f7a4 39 = .ok (.iadd, 1) := by decide +kernel
theorem dJ6_bitCount_0f7a4_40 : decode cJ6_bitCount_0f7a4 40 = .ok (.istore_n 0, 1) := by decide +kernel
theorem dJ6_bitCount_0f7a4_41 : decode cJ6_bitCount_0f7a4 41 = .ok (.iload_n 0, 1) := by decide +kernel
theorem dJ6_bitCount_0f7a4_42 : decode cJ6_bitCount_0f7a4 42 = .ok (.iload_n 0, 1) := by decide +kernel
theorem dJ6_bitCount_0f7a4_43 : decode cJ6_bitCount_0f7a4 43 = .ok (.bipush 16, 2) := by decide +kernel
theorem dJ6_bitCount_0f7a4_45 : decode cJ6_bitCount_0f7a4 45 = .ok (.iushr, 1) := by decide +kernel
theorem dJ6_bitCount_0f7a4_46 : decode cJ6_bitCount_0f7a4 46 = .ok (.iadd, 1) := by decide +kernel
theorem dJ6_bitCount_0f7a4_47 : decode cJ6_bitCount_0f7a4 47 = .ok (.istore_n 0, 1) := by decide +kernel
theorem dJ6_bitCount_0f7a4_48 : decode cJ6_bitCount_0f7a4 48 = .ok (.iload_n 0, 1) := by decide +kernel
theorem dJ6_bitCount_0f7a4_49 : decode cJ6_bitCount_0f7a4 49 = .ok (.bipush 63, 2) := by decide +kernel
theorem dJ6_bitCount_0f7a4_51 : decode cJ6_bitCount_0f7a4 51 = .ok (.iand, 1) := by decide +kernel
theorem dJ6_bitCount_0f7a4_52 : decode cJ6_bitCount_0f7a4 52 = .ok (.ireturn, 1) := by decide +kernel
theorem dJ13_numberOfTrailingZeros_95d88_0 : decode cJ13_numberOfTrailingZeros_95d88 0 = .ok (.lload_n 0, 1) := by decide +kernel
theorem dJ13_numberOfTrailingZeros_95d88_1 : decode cJ13_numberOfTrailingZeros_95d88 1 = .ok (.l2i, 1) := by decide +kernel
theorem dJ13_numberOfTrailingZeros_95d88_2 : decode cJ13_numberOfTrailingZeros_95d88 2 = .ok (.istore_n 2, 1) := by decide +kernel
theorem dJ13_numberOfTrailingZeros_95d88_3 : decode cJ13_numberOfTrailingZeros_95d88 3 = .ok (.iload_n 2, 1) := by decide +kernel
theorem dJ13_numberOfTrailingZeros_95d88_4 : decode cJ13_numberOfTrailingZeros_95d88 4 = .ok (.ifCond .ne 17, 3) := by decide +kernel
theorem dJ13_numberOfTrailingZeros_95d88_7 : decode cJ13_numberOfTrailingZeros_95d88 7 = .ok (.bipush 32, 2) := by decide +kernel
theorem dJ13_numberOfTrailingZeros_95d88_9 : decode cJ13_numberOfTrailingZeros_95d88 9 = .ok (.lload_n 0, 1) := by decide +kernel
theorem dJ13_numberOfTrailingZeros_95d88_10 : decode cJ13_numberOfTrailingZeros_95d88 10 = .ok (.bipush 32, 2) := by decide +kernel
theorem dJ13_numberOfTrailingZeros_95d88_12 : decode cJ13_numberOfTrailingZeros_95d88 12 = .ok (.lushr, 1) := by decide +kernel
theorem dJ13_numberOfTrailingZeros_95d88_13 : decode cJ13_numberOfTrailingZeros_95d88 13 = .ok (.l2i, 1) := by decide +kernel
theorem dJ13_numberOfTrailingZeros_95d88_14 : decode cJ13_numberOfTrailingZeros_95d88 14 = .ok (.invokestatic 311, 3) := by decide +kernel
theorem dJ13_numberOfTrailingZeros_95d88_17 : decode cJ13_numberOfTrailingZeros_95d88 17 = .ok (.iadd, 1) := by decide +kernel
theorem dJ13_numberOfTrailingZeros_95d88_18 : decode cJ13_numberOfTrailingZeros_95d88 18 = .ok (.goto 7, 3) := by decide +kernel
theorem dJ13_numberOfTrailingZeros_95d88_21 : decode cJ13_numberOfTrailingZeros_95d88 21 = .ok (.iload_n 2, 1) := by decide +kernel
theorem dJ13_numberOfTrailingZeros_95d88_22 : decode cJ13_numberOfTrailingZeros_95d88 22 = .ok (.invokestatic 311, 3) := by decide +kernel
theorem dJ13_numberOfTrailingZeros_95d88_25 : decode cJ13_numberOfTrailingZeros_95d88 25 = .ok (.ireturn, 1) := by decide +kernel
theorem dJ13_bitCount_95d88_0 : decode cJ13_bitCount_95d88 0 = .ok (.lload_n 0, 1) := by decide +kernel
theorem dJ13_bitCount_95d88_1 : decode cJ13_bitCount_95d88 1 = .ok (.lload_n 0, 1) := by decide +kernel
theorem dJ13_bitCount_95d88_2 : decode cJ13_bitCount_95d88 2 = .ok (.iconst 1, 1) := by decide +kernel
theorem dJ13_bitCount_95d88_3 : decode cJ13_bitCount_95d88 3 = .ok (.lushr, 1) := by decide +kernel
theorem dJ13_bitCount_95d88_4 : decode cJ13_bitCount_95d88 4 = .ok (.ldc2_w 314, 3) := by decide +kernel
theorem dJ13_bitCount_95d88_7 : decode cJ13_bitCount_95d88 7 = .ok (.land, 1) := by decide +kernel
theorem dJ13_bitCount_95d88_8 : decode cJ13_bitCount_95d88 8 = .ok (.lsub, 1) := by decide +kernel
theorem dJ13_bitCount_95d88_9 : decode cJ13_bitCount_95d88 9 = .ok (.lstore_n 0, 1) := by decide +kernel
theorem dJ13_bitCount_95d88_10 : decode cJ13_bitCount_95d88 10 = .ok (.lload_n 0, 1) := by decide +kernel
theorem dJ13_bitCount_95d88_11 : decode cJ13_bitCount_95d88 11 = .ok (.ldc2_w 316, 3) := by decide +kernel
theorem dJ13_bitCount_95d88_14 : decode cJ13_bitCount_95d88 14 = .ok (.land, 1) := by decide +kernel
theorem dJ13_bitCount_95d88_15 : decode cJ13_bitCount_95d88 15 = .ok (.lload_n 0, 1) := by decide +kernel
theorem dJ13_bitCount_95d88_16 : decode cJ13_bitCount_95d88 16 = .ok (.iconst 2, 1) := by decide +kernel
theorem dJ13_bitCount_95d88_17 : decode cJ13_bitCount_95d88 17 = .ok (.lushr, 1) := by decide +kernel
theorem dJ13_bitCount_95d88_18 : decode cJ13_bitCount_95d88 18 = .ok (.ldc2_w 316, 3) := by decide +kernel
theorem dJ13_bitCount_95d88_21 : decode cJ13_bitCount_95d88 21 = .ok (.land, 1) := by decide +kernel
theorem dJ13_bitCount_95d88_22 : decode cJ13_bitCount_95d88 22 = .ok (.ladd, 1) := by decide +kernel
theorem dJ13_bitCount_95d88_23 : decode cJ13_bitCount_95d88 23 = .ok (.lstore_n 0, 1) := by decide +kernel
theorem dJ13_bitCount_95d88_24 : decode cJ13_bitCount_95d88 24 = .ok (.lload_n 0, 1) := by decide +kernel
theorem dJ13_bitCount_95d88_25 : decode cJ13_bitCount_95d88 25 = .ok (.lload_n 0, 1) := by decide +kernel
theorem dJ13_bitCount_95d88_26 : decode cJ13_bitCount_95d88 26 = .ok (.iconst 4, 1) := by decide +kernel
theorem dJ13_bitCount_95d88_27 : decode cJ13_bitCount_95d88 27 = .ok (.lushr, 1) := by decide +kernel
theorem dJ13_bitCount_95d88_28 : decode cJ13_bitCount_95d88 28 = .ok (.ladd, 1) := by decide +kernel
theorem dJ13_bitCount_95d88_29 : decode cJ13_bitCount_95d88 29 = .ok (.ldc2_w 318, 3) := by decide +kernel
theorem dJ13_bitCount_95d88_32 : decode cJ13_bitCount_95d88 32 = .ok (.land, 1) := by decide +kernel
theorem dJ13_bitCount_95d88_33 : decode cJ13_bitCount_95d88 33 = .ok (.lstore_n 0, 1) := by decide +kernel
theorem dJ13_bitCount_95d88_34 : decode cJ13_bitCount_95d88 34 = .ok (.lload_n 0, 1) := by decide +kernel
theorem dJ13_bitCount_95d88_35 : decode cJ13_bitCount_95d88 35 = .ok (.lload_n 0, 1) := by decide +kernel
theorem dJ13_bitCount_95d88_36 : decode cJ13_bitCount_95d88 36 = .ok (.bipush 8, 2) := by decide +kernel
theorem dJ13_bitCount_95d88_38 : decode cJ13_bitCount_95d88 38 = .ok (.lushr, 1) := by decide +kernel
theorem dJ13_bitCount_95d88_39 : decode cJ13_bitCount_95d88 39 = .ok (.ladd, 1) := by decide +kernel
theorem dJ13_bitCount_95d88_40 : decode cJ13_bitCount_95d88 40 = .ok (.lstore_n 0, 1) := by decide +kernel
theorem dJ13_bitCount_95d88_41 : decode cJ13_bitCount_95d88 41 = .ok (.lload_n 0, 1) := by decide +kernel
theorem dJ13_bitCount_95d88_42 : decode cJ13_bitCount_95d88 42 = .ok (.lload_n 0, 1) := by decide +kernel
theorem dJ13_bitCount_95d88_43 : decode cJ13_bitCount_95d88 43 = .ok (.bipush 16, 2) := by decide +kernel
theorem dJ13_bitCount_95d88_45 : decode cJ13_bitCount_95d88 45 = .ok (.lushr, 1) := by decide +kernel
theorem dJ13_bitCount_95d88_46 : decode cJ13_bitCount_95d88 46 = .ok (.ladd, 1) := by decide +kernel
theorem dJ13_bitCount_95d88_47 : decode cJ13_bitCount_95d88 47 = .ok (.lstore_n 0, 1) := by decide +kernel
theorem dJ13_bitCount_95d88_48 : decode cJ13_bitCount_95d88 48 = .ok (.lload_n 0, 1) := by decide +kernel
theorem dJ13_bitCount_95d88_49 : decode cJ13_bitCount_95d88 49 = .ok (.lload_n 0, 1) := by decide +kernel
theorem dJ13_bitCount_95d88_50 : decode cJ13_bitCount_95d88 50 = .ok (.bipush 32, 2) := by decide +kernel
theorem dJ13_bitCount_95d88_52 : decode cJ13_bitCount_95d88 52 = .ok (.lushr, 1) := by decide +kernel
theorem dJ13_bitCount_95d88_53 : decode cJ13_bitCount_95d88 53 = .ok (.ladd, 1) := by decide +kernel
theorem dJ13_bitCount_95d88_54 : decode cJ13_bitCount_95d88 54 = .ok (.lstore_n 0, 1) := by decide +kernel
theorem dJ13_bitCount_95d88_55 : decode cJ13_bitCount_95d88 55 = .ok (.lload_n 0, 1) := by decide +kernel
theorem dJ13_bitCount_95d88_56 : decode cJ13_bitCount_95d88 56 = .ok (.l2i, 1) := by decide +kernel
theorem dJ13_bitCount_95d88_57 : decode cJ13_bitCount_95d88 57 = .ok (.bipush 127, 2) := by decide +kernel
theorem dJ13_bitCount_95d88_59 : decode cJ13_bitCount_95d88 59 = .ok (.iand, 1) := by decide +kernel
theorem dJ13_bitCount_95d88_60 : decode cJ13_bitCount_95d88 60 = .ok (.ireturn, 1) := by decide +kernel
theorem dJ9_max_7cf53_0 : decode cJ9_max_7cf53 0 = .ok (.iload_n 0, 1) := by decide +kernel
theorem dJ9_max_7cf53_1 : decode cJ9_max_7cf53 1 = .ok (.iload_n 1, 1) := by decide +kernel
theorem dJ9_max_7cf53_2 : decode cJ9_max_7cf53 2 = .ok (.if_icmp .lt 7, 3) := by decide +kernel
theorem dJ9_max_7cf53_5 : decode cJ9_max_7cf53 5 = .ok (.iload_n 0, 1) := by decide +kernel
theorem dJ9_max_7cf53_6 : decode cJ9_max_7cf53 6 = .ok (.goto 4, 3) := by decide +kernel
theorem dJ9_max_7cf53_9 : decode cJ9_max_7cf53 9 = .ok (.iload_n 1, 1) := by decide +kernel
theorem dJ9_max_7cf53_10 : decode cJ9_max_7cf53 10 = .ok (.ireturn, 1) := by decide +kernel
theorem dJ9_min_7cf53_0 : decode cJ9_min_7cf53 0 = .ok (.iload_n 0, 1) := by decide +kernel
theorem dJ9_min_7cf53_1 : decode cJ9_min_7cf53 1 = .ok (.iload_n 1, 1) := by decide +kernel
theorem dJ9_min_7cf53_2 : decode cJ9_min_7cf53 2 = .ok (.if_icmp .gt 7, 3) := by decide +kernel
theorem dJ9_min_7cf53_5 : decode cJ9_min_7cf53 5 = .ok (.iload_n 0, 1) := by decide +kernel
theorem dJ9_min_7cf53_6 : decode cJ9_min_7cf53 6 = .ok (.goto 4, 3) := by decide +kernel
theorem dJ9_min_7cf53_9 : decode cJ9_min_7cf53 9 = .ok (.iload_n 1, 1) := by decide +kernel
theorem dJ9_min_7cf53_10 : decode cJ9_min_7cf53 10 = .ok (.ireturn, 1) := by decide +kernel
theorem dL_law_0 : decode cL_law 0 = .ok (.new 7, 3) := by decide +kernel
theorem dL_law_3 : decode cL_law 3 = .ok (.dup, 1) := by decide +kernel
theorem dL_law_4 : decode cL_law 4 = .ok (.invokespecial 9, 3) := by decide +kernel
theorem dL_law_7 : decode cL_law 7 = .ok (.astore_n 1, 1) := by decide +kernel
theorem dL_law_8 : decode cL_law 8 = .ok (.new 10, 3) := by decide +kernel
theorem dL_law_11 : decode cL_law 11 = .ok (.dup, 1) := by decide +kernel
theorem dL_law_12 : decode cL_law 12 = .ok (.invokespecial 12, 3) := by decide +kernel
theorem dL_law_15 : decode cL_law 15 = .ok (.astore_n 2, 1) := by decide +kernel
theorem dL_law_16 : decode cL_law 16 = .ok (.iconst 0, 1) := by decide +kernel
theorem dL_law_17 : decode cL_law 17 = .ok (.istore_n 3, 1) := by decide +kernel
theorem dL_law_18 : decode cL_law 18 = .ok (.iload_n 3, 1) := by decide +kernel
theorem dL_law_19 : decode cL_law 19 = .ok (.aload_n 0, 1) := by decide +kernel
theorem dL_law_20 : decode cL_law 20 = .ok (.arraylength, 1) := by decide +kernel
theorem dL_law_21 : decode cL_law 21 = .ok (.iconst 4, 1) := by decide +kernel
theorem dL_law_22 : decode cL_law 22 = .ok (.isub, 1) := by decide +kernel
theorem dL_law_23 : decode cL_law 23 = .ok (.if_icmp .gt 775, 3) := by decide +kernel
theorem dL_law_26 : decode cL_law 26 = .ok (.aload_n 0, 1) := by decide +kernel
theorem dL_law_27 : decode cL_law 27 = .ok (.iload_n 3, 1) := by decide +kernel
theorem dL_law_28 : decode cL_law 28 = .ok (.iaload, 1) := by decide +kernel
theorem dL_law_29 : decode cL_law 29 = .ok (.bipush 31, 2) := by decide +kernel
theorem dL_law_31 : decode cL_law 31 = .ok (.iand, 1) := by decide +kernel
theorem dL_law_32 : decode cL_law 32 = .ok (.tableswitch 760 0 22 #[108, 131, 144, 157, 170, 193, 226, 259, 282, 315, 338, 351, 384, 407, 470, 519, 552, 565, 588, 637, 691, 714, 737], 108) := by decide +kernel
theorem dL_law_140 : decode cL_law 140 = .ok (.aload_n 1, 1) := by decide +kernel
theorem dL_law_141 : decode cL_law 141 = .ok (.aload_n 0, 1) := by decide +kernel
theorem dL_law_142 : decode cL_law 142 = .ok (.iload_n 3, 1) := by decide +kernel
theorem dL_law_143 : decode cL_law 143 = .ok (.iconst 1, 1) := by decide +kernel
theorem dL_law_144 : decode cL_law 144 = .ok (.iadd, 1) := by decide +kernel
theorem dL_law_145 : decode cL_law 145 = .ok (.iaload, 1) := by decide +kernel
theorem dL_law_146 : decode cL_law 146 = .ok (.invokevirtual 13, 3) := by decide +kernel
theorem dL_law_149 : decode cL_law 149 = .ok (.aload_n 2, 1) := by decide +kernel
theorem dL_law_150 : decode cL_law 150 = .ok (.aload_n 0, 1) := by decide +kernel
theorem dL_law_151 : decode cL_law 151 = .ok (.iload_n 3, 1) := by decide +kernel
theorem dL_law_152 : decode cL_law 152 = .ok (.iconst 1, 1) := by decide +kernel
theorem dL_law_153 : decode cL_law 153 = .ok (.iadd, 1) := by decide +kernel
theorem dL_law_154 : decode cL_law 154 = .ok (.iaload, 1) := by decide +kernel
theorem dL_law_155 : decode cL_law 155 = .ok (.invokevirtual 17, 3) := by decide +kernel
theorem dL_law_158 : decode cL_law 158 = .ok (.if_icmp .eq 634, 3) := by decide +kernel
theorem dL_law_161 : decode cL_law 161 = .ok (.iconst 0, 1) := by decide +kernel
theorem dL_law_162 : decode cL_law 162 = .ok (.ireturn, 1) := by decide +kernel
theorem dL_law_163 : decode cL_law 163 = .ok (.aload_n 1, 1) := by decide +kernel
theorem dL_law_164 : decode cL_law 164 = .ok (.invokevirtual 18, 3) := by decide +kernel
theorem dL_law_167 : decode cL_law 167 = .ok (.aload_n 2, 1) := by decide +kernel
theorem dL_law_168 : decode cL_law 168 = .ok (.invokevirtual 22, 3) := by decide +kernel
theorem dL_law_171 : decode cL_law 171 = .ok (.if_icmp .eq 621, 3) := by decide +kernel
theorem dL_law_174 : decode cL_law 174 = .ok (.iconst 0, 1) := by decide +kernel
theorem dL_law_175 : decode cL_law 175 = .ok (.ireturn, 1) := by decide +kernel
theorem dL_law_176 : decode cL_law 176 = .ok (.aload_n 1, 1) := by decide +kernel
theorem dL_law_177 : decode cL_law 177 = .ok (.invokevirtual 23, 3) := by decide +kernel
theorem dL_law_180 : decode cL_law 180 = .ok (.aload_n 2, 1) := by decide +kernel
theorem dL_law_181 : decode cL_law 181 = .ok (.invokevirtual 26, 3) := by decide +kernel
theorem dL_law_184 : decode cL_law 184 = .ok (.if_icmp .eq 608, 3) := by decide +kernel
theorem dL_law_187 : decode cL_law 187 = .ok (.iconst 0, 1) := by decide +kernel
theorem dL_law_188 : decode cL_law 188 = .ok (.ireturn, 1) := by decide +kernel
theorem dL_law_189 : decode cL_law 189 = .ok (.aload_n 1, 1) := by decide +kernel
theorem dL_law_190 : decode cL_law 190 = .ok (.invokevirtual 27, 3) := by decide +kernel
theorem dL_law_193 : decode cL_law 193 = .ok (.aload_n 2, 1) := by decide +kernel
theorem dL_law_194 : decode cL_law 194 = .ok (.invokevirtual 30, 3) := by decide +kernel
theorem dL_law_197 : decode cL_law 197 = .ok (.if_icmp .eq 595, 3) := by decide +kernel
theorem dL_law_200 : decode cL_law 200 = .ok (.iconst 0, 1) := by decide +kernel
theorem dL_law_201 : decode cL_law 201 = .ok (.ireturn, 1) := by decide +kernel
theorem dL_law_202 : decode cL_law 202 = .ok (.aload_n 1, 1) := by decide +kernel
theorem dL_law_203 : decode cL_law 203 = .ok (.aload_n 0, 1) := by decide +kernel
theorem dL_law_204 : decode cL_law 204 = .ok (.iload_n 3, 1) := by decide +kernel
theorem dL_law_205 : decode cL_law 205 = .ok (.iconst 1, 1) := by decide +kernel
theorem dL_law_206 : decode cL_law 206 = .ok (.iadd, 1) := by decide +kernel
theorem dL_law_207 : decode cL_law 207 = .ok (.iaload, 1) := by decide +kernel
theorem dL_law_208 : decode cL_law 208 = .ok (.invokevirtual 31, 3) := by decide +kernel
theorem dL_law_211 : decode cL_law 211 = .ok (.aload_n 2, 1) := by decide +kernel
theorem dL_law_212 : decode cL_law 212 = .ok (.aload_n 0, 1) := by decide +kernel
theorem dL_law_213 : decode cL_law 213 = .ok (.iload_n 3, 1) := by decide +kernel
theorem dL_law_214 : decode cL_law 214 = .ok (.iconst 1, 1) := by decide +kernel
theorem dL_law_215 : decode cL_law 215 = .ok (.iadd, 1) := by decide +kernel
theorem dL_law_216 : decode cL_law 216 = .ok (.iaload, 1) := by decide +kernel
theorem dL_law_217 : decode cL_law 217 = .ok (.invokevirtual 34, 3) := by decide +kernel
theorem dL_law_220 : decode cL_law 220 = .ok (.if_icmp .eq 572, 3) := by decide +kernel
theorem dL_law_223 : decode cL_law 223 = .ok (.iconst 0, 1) := by decide +kernel
theorem dL_law_224 : decode cL_law 224 = .ok (.ireturn, 1) := by decide +kernel
theorem dL_law_225 : decode cL_law 225 = .ok (.aload_n 1, 1) := by decide +kernel
theorem dL_law_226 : decode cL_law 226 = .ok (.aload_n 0, 1) := by decide +kernel
theorem dL_law_227 : decode cL_law 227 = .ok (.iload_n 3, 1) := by decide +kernel
theorem dL_law_228 : decode cL_law 228 = .ok (.iconst 1, 1) := by decide +kernel
theorem dL_law_229 : decode cL_law 229 = .ok (.iadd, 1) := by decide +kernel
theorem dL_law_230 : decode cL_law 230 = .ok (.iaload, 1) := by decide +kernel
theorem dL_law_231 : decode cL_law 231 = .ok (.aload_n 0, 1) := by decide +kernel
theorem dL_law_232 : decode cL_law 232 = .ok (.iload_n 3, 1) := by decide +kernel
theorem dL_law_233 : decode cL_law 233 = .ok (.iconst 2, 1) := by decide +kernel
theorem dL_law_234 : decode cL_law 234 = .ok (.iadd, 1) := by decide +kernel
theorem dL_law_235 : decode cL_law 235 = .ok (.iaload, 1) := by decide +kernel
theorem dL_law_236 : decode cL_law 236 = .ok (.invokevirtual 35, 3) := by decide +kernel
theorem dL_law_239 : decode cL_law 239 = .ok (.aload_n 2, 1) := by decide +kernel
theorem dL_law_240 : decode cL_law 240 = .ok (.aload_n 0, 1) := by decide +kernel
theorem dL_law_241 : decode cL_law 241 = .ok (.iload_n 3, 1) := by decide +kernel
theorem dL_law_242 : decode cL_law 242 = .ok (.iconst 1, 1) := by decide +kernel
theorem dL_law_243 : decode cL_law 243 = .ok (.iadd, 1) := by decide +kernel
theorem dL_law_244 : decode cL_law 244 = .ok (.iaload, 1) := by decide +kernel
theorem dL_law_245 : decode cL_law 245 = .ok (.aload_n 0, 1) := by decide +kernel
theorem dL_law_246 : decode cL_law 246 = .ok (.iload_n 3, 1) := by decide +kernel
theorem dL_law_247 : decode cL_law 247 = .ok (.iconst 2, 1) := by decide +kernel
theorem dL_law_248 : decode cL_law 248 = .ok (.iadd, 1) := by decide +kernel
theorem dL_law_249 : decode cL_law 249 = .ok (.iaload, 1) := by decide +kernel
theorem dL_law_250 : decode cL_law 250 = .ok (.invokevirtual 39, 3) := by decide +kernel
theorem dL_law_253 : decode cL_law 253 = .ok (.if_icmp .eq 539, 3) := by decide +kernel
theorem dL_law_256 : decode cL_law 256 = .ok (.iconst 0, 1) := by decide +kernel
theorem dL_law_257 : decode cL_law 257 = .ok (.ireturn, 1) := by decide +kernel
theorem dL_law_258 : decode cL_law 258 = .ok (.aload_n 1, 1) := by decide +kernel
theorem dL_law_259 : decode cL_law 259 = .ok (.aload_n 0, 1) := by decide +kernel
theorem dL_law_260 : decode cL_law 260 = .ok (.iload_n 3, 1) := by decide +kernel
theorem dL_law_261 : decode cL_law 261 = .ok (.iconst 1, 1) := by decide +kernel
theorem dL_law_262 : decode cL_law 262 = .ok (.iadd, 1) := by decide +kernel
theorem dL_law_263 : decode cL_law 263 = .ok (.iaload, 1) := by decide +kernel
theorem dL_law_264 : decode cL_law 264 = .ok (.aload_n 0, 1) := by decide +kernel
theorem dL_law_265 : decode cL_law 265 = .ok (.iload_n 3, 1) := by decide +kernel
theorem dL_law_266 : decode cL_law 266 = .ok (.iconst 2, 1) := by decide +kernel
theorem dL_law_267 : decode cL_law 267 = .ok (.iadd, 1) := by decide +kernel
theorem dL_law_268 : decode cL_law 268 = .ok (.iaload, 1) := by decide +kernel
theorem dL_law_269 : decode cL_law 269 = .ok (.invokevirtual 40, 3) := by decide +kernel
theorem dL_law_272 : decode cL_law 272 = .ok (.aload_n 2, 1) := by decide +kernel
theorem dL_law_273 : decode cL_law 273 = .ok (.aload_n 0, 1) := by decide +kernel
theorem dL_law_274 : decode cL_law 274 = .ok (.iload_n 3, 1) := by decide +kernel
theorem dL_law_275 : decode cL_law 275 = .ok (.iconst 1, 1) := by decide +kernel
theorem dL_law_276 : decode cL_law 276 = .ok (.iadd, 1) := by decide +kernel
theorem dL_law_277 : decode cL_law 277 = .ok (.iaload, 1) := by decide +kernel
theorem dL_law_278 : decode cL_law 278 = .ok (.aload_n 0, 1) := by decide +kernel
theorem dL_law_279 : decode cL_law 279 = .ok (.iload_n 3, 1) := by decide +kernel
theorem dL_law_280 : decode cL_law 280 = .ok (.iconst 2, 1) := by decide +kernel
theorem dL_law_281 : decode cL_law 281 = .ok (.iadd, 1) := by decide +kernel
theorem dL_law_282 : decode cL_law 282 = .ok (.iaload, 1) := by decide +kernel
theorem dL_law_283 : decode cL_law 283 = .ok (.invokevirtual 43, 3) := by decide +kernel
theorem dL_law_286 : decode cL_law 286 = .ok (.if_icmp .eq 506, 3) := by decide +kernel
theorem dL_law_289 : decode cL_law 289 = .ok (.iconst 0, 1) := by decide +kernel
theorem dL_law_290 : decode cL_law 290 = .ok (.ireturn, 1) := by decide +kernel
theorem dL_law_291 : decode cL_law 291 = .ok (.aload_n 1, 1) := by decide +kernel
theorem dL_law_292 : decode cL_law 292 = .ok (.aload_n 0, 1) := by decide +kernel
theorem dL_law_293 : decode cL_law 293 = .ok (.iload_n 3, 1) := by decide +kernel
theorem dL_law_294 : decode cL_law 294 = .ok (.iconst 1, 1) := by decide +kernel
theorem dL_law_295 : decode cL_law 295 = .ok (.iadd, 1) := by decide +kernel
theorem dL_law_296 : decode cL_law 296 = .ok (.iaload, 1) := by decide +kernel
theorem dL_law_297 : decode cL_law 297 = .ok (.invokevirtual 44, 3) := by decide +kernel
theorem dL_law_300 : decode cL_law 300 = .ok (.aload_n 2, 1) := by decide +kernel
theorem dL_law_301 : decode cL_law 301 = .ok (.aload_n 0, 1) := by decide +kernel
theorem dL_law_302 : decode cL_law 302 = .ok (.iload_n 3, 1) := by decide +kernel
theorem dL_law_303 : decode cL_law 303 = .ok (.iconst 1, 1) := by decide +kernel
theorem dL_law_304 : decode cL_law 304 = .ok (.iadd, 1) := by decide +kernel
theorem dL_law_305 : decode cL_law 305 = .ok (.iaload, 1) := by decide +kernel
theorem dL_law_306 : decode cL_law 306 = .ok (.invokevirtual 47, 3) := by decide +kernel
theorem dL_law_309 : decode cL_law 309 = .ok (.if_icmp .eq 483, 3) := by decide +kernel
theorem dL_law_312 : decode cL_law 312 = .ok (.iconst 0, 1) := by decide +kernel
theorem dL_law_313 : decode cL_law 313 = .ok (.ireturn, 1) := by decide +kernel
theorem dL_law_314 : decode cL_law 314 = .ok (.aload_n 1, 1) := by decide +kernel
theorem dL_law_315 : decode cL_law 315 = .ok (.aload_n 0, 1) := by decide +kernel
theorem dL_law_316 : decode cL_law 316 = .ok (.iload_n 3, 1) := by decide +kernel
theorem dL_law_317 : decode cL_law 317 = .ok (.iconst 1, 1) := by decide +kernel
theorem dL_law_318 : decode cL_law 318 = .ok (.iadd, 1) := by decide +kernel
theorem dL_law_319 : decode cL_law 319 = .ok (.iaload, 1) := by decide +kernel
theorem dL_law_320 : decode cL_law 320 = .ok (.aload_n 0, 1) := by decide +kernel
theorem dL_law_321 : decode cL_law 321 = .ok (.iload_n 3, 1) := by decide +kernel
theorem dL_law_322 : decode cL_law 322 = .ok (.iconst 2, 1) := by decide +kernel
theorem dL_law_323 : decode cL_law 323 = .ok (.iadd, 1) := by decide +kernel
theorem dL_law_324 : decode cL_law 324 = .ok (.iaload, 1) := by decide +kernel
theorem dL_law_325 : decode cL_law 325 = .ok (.invokevirtual 48, 3) := by decide +kernel
theorem dL_law_328 : decode cL_law 328 = .ok (.aload_n 2, 1) := by decide +kernel
theorem dL_law_329 : decode cL_law 329 = .ok (.aload_n 0, 1) := by decide +kernel
theorem dL_law_330 : decode cL_law 330 = .ok (.iload_n 3, 1) := by decide +kernel
theorem dL_law_331 : decode cL_law 331 = .ok (.iconst 1, 1) := by decide +kernel
theorem dL_law_332 : decode cL_law 332 = .ok (.iadd, 1) := by decide +kernel
theorem dL_law_333 : decode cL_law 333 = .ok (.iaload, 1) := by decide +kernel
theorem dL_law_334 : decode cL_law 334 = .ok (.aload_n 0, 1) := by decide +kernel
theorem dL_law_335 : decode cL_law 335 = .ok (.iload_n 3, 1) := by decide +kernel
theorem dL_law_336 : decode cL_law 336 = .ok (.iconst 2, 1) := by decide +kernel
theorem dL_law_337 : decode cL_law 337 = .ok (.iadd, 1) := by decide +kernel
theorem dL_law_338 : decode cL_law 338 = .ok (.iaload, 1) := by decide +kernel
theorem dL_law_339 : decode cL_law 339 = .ok (.invokevirtual 51, 3) := by decide +kernel
theorem dL_law_342 : decode cL_law 342 = .ok (.if_icmp .eq 450, 3) := by decide +kernel
theorem dL_law_345 : decode cL_law 345 = .ok (.iconst 0, 1) := by decide +kernel
theorem dL_law_346 : decode cL_law 346 = .ok (.ireturn, 1) := by decide +kernel
theorem dL_law_347 : decode cL_law 347 = .ok (.aload_n 1, 1) := by decide +kernel
theorem dL_law_348 : decode cL_law 348 = .ok (.aload_n 0, 1) := by decide +kernel
theorem dL_law_349 : decode cL_law 349 = .ok (.iload_n 3, 1) := by decide +kernel
theorem dL_law_350 : decode cL_law 350 = .ok (.iconst 1, 1) := by decide +kernel
theorem dL_law_351 : decode cL_law 351 = .ok (.iadd, 1) := by decide +kernel
theorem dL_law_352 : decode cL_law 352 = .ok (.iaload, 1) := by decide +kernel
theorem dL_law_353 : decode cL_law 353 = .ok (.invokevirtual 52, 3) := by decide +kernel
theorem dL_law_356 : decode cL_law 356 = .ok (.aload_n 2, 1) := by decide +kernel
theorem dL_law_357 : decode cL_law 357 = .ok (.aload_n 0, 1) := by decide +kernel
theorem dL_law_358 : decode cL_law 358 = .ok (.iload_n 3, 1) := by decide +kernel
theorem dL_law_359 : decode cL_law 359 = .ok (.iconst 1, 1) := by decide +kernel
theorem dL_law_360 : decode cL_law 360 = .ok (.iadd, 1) := by decide +kernel
theorem dL_law_361 : decode cL_law 361 = .ok (.iaload, 1) := by decide +kernel
theorem dL_law_362 : decode cL_law 362 = .ok (.invokevirtual 55, 3) := by decide +kernel
theorem dL_law_365 : decode cL_law 365 = .ok (.if_icmp .eq 427, 3) := by decide +kernel
theorem dL_law_368 : decode cL_law 368 = .ok (.iconst 0, 1) := by decide +kernel
theorem dL_law_369 : decode cL_law 369 = .ok (.ireturn, 1) := by decide +kernel
theorem dL_law_370 : decode cL_law 370 = .ok (.aload_n 1, 1) := by decide +kernel
theorem dL_law_371 : decode cL_law 371 = .ok (.invokevirtual 56, 3) := by decide +kernel
theorem dL_law_374 : decode cL_law 374 = .ok (.aload_n 2, 1) := by decide +kernel
theorem dL_law_375 : decode cL_law 375 = .ok (.invokevirtual 59, 3) := by decide +kernel
theorem dL_law_378 : decode cL_law 378 = .ok (.if_icmp .eq 414, 3) := by decide +kernel
theorem dL_law_381 : decode cL_law 381 = .ok (.iconst 0, 1) := by decide +kernel
theorem dL_law_382 : decode cL_law 382 = .ok (.ireturn, 1) := by decide +kernel
theorem dL_law_383 : decode cL_law 383 = .ok (.aload_n 1, 1) := by decide +kernel
theorem dL_law_384 : decode cL_law 384 = .ok (.aload_n 0, 1) := by decide +kernel
theorem dL_law_385 : decode cL_law 385 = .ok (.iload_n 3, 1) := by decide +kernel
theorem dL_law_386 : decode cL_law 386 = .ok (.iconst 1, 1) := by decide +kernel
theorem dL_law_387 : decode cL_law 387 = .ok (.iadd, 1) := by decide +kernel
theorem dL_law_388 : decode cL_law 388 = .ok (.iaload, 1) := by decide +kernel
theorem dL_law_389 : decode cL_law 389 = .ok (.aload_n 0, 1) := by decide +kernel
theorem dL_law_390 : decode cL_law 390 = .ok (.iload_n 3, 1) := by decide +kernel
theorem dL_law_391 : decode cL_law 391 = .ok (.iconst 2, 1) := by decide +kernel
theorem dL_law_392 : decode cL_law 392 = .ok (.iadd, 1) := by decide +kernel
theorem dL_law_393 : decode cL_law 393 = .ok (.iaload, 1) := by decide +kernel
theorem dL_law_394 : decode cL_law 394 = .ok (.invokevirtual 60, 3) := by decide +kernel
theorem dL_law_397 : decode cL_law 397 = .ok (.aload_n 2, 1) := by decide +kernel
theorem dL_law_398 : decode cL_law 398 = .ok (.aload_n 0, 1) := by decide +kernel
theorem dL_law_399 : decode cL_law 399 = .ok (.iload_n 3, 1) := by decide +kernel
theorem dL_law_400 : decode cL_law 400 = .ok (.iconst 1, 1) := by decide +kernel
theorem dL_law_401 : decode cL_law 401 = .ok (.iadd, 1) := by decide +kernel
theorem dL_law_402 : decode cL_law 402 = .ok (.iaload, 1) := by decide +kernel
theorem dL_law_403 : decode cL_law 403 = .ok (.aload_n 0, 1) := by decide +kernel
theorem dL_law_404 : decode cL_law 404 = .ok (.iload_n 3, 1) := by decide +kernel
theorem dL_law_405 : decode cL_law 405 = .ok (.iconst 2, 1) := by decide +kernel
theorem dL_law_406 : decode cL_law 406 = .ok (.iadd, 1) := by decide +kernel
theorem dL_law_407 : decode cL_law 407 = .ok (.iaload, 1) := by decide +kernel
theorem dL_law_408 : decode cL_law 408 = .ok (.invokevirtual 63, 3) := by decide +kernel
theorem dL_law_411 : decode cL_law 411 = .ok (.if_icmp .eq 381, 3) := by decide +kernel
theorem dL_law_414 : decode cL_law 414 = .ok (.iconst 0, 1) := by decide +kernel
theorem dL_law_415 : decode cL_law 415 = .ok (.ireturn, 1) := by decide +kernel
theorem dL_law_416 : decode cL_law 416 = .ok (.aload_n 1, 1) := by decide +kernel
theorem dL_law_417 : decode cL_law 417 = .ok (.aload_n 0, 1) := by decide +kernel
theorem dL_law_418 : decode cL_law 418 = .ok (.iload_n 3, 1) := by decide +kernel
theorem dL_law_419 : decode cL_law 419 = .ok (.iconst 1, 1) := by decide +kernel
theorem dL_law_420 : decode cL_law 420 = .ok (.iadd, 1) := by decide +kernel
theorem dL_law_421 : decode cL_law 421 = .ok (.iaload, 1) := by decide +kernel
theorem dL_law_422 : decode cL_law 422 = .ok (.invokevirtual 64, 3) := by decide +kernel
theorem dL_law_425 : decode cL_law 425 = .ok (.aload_n 2, 1) := by decide +kernel
theorem dL_law_426 : decode cL_law 426 = .ok (.aload_n 0, 1) := by decide +kernel
theorem dL_law_427 : decode cL_law 427 = .ok (.iload_n 3, 1) := by decide +kernel
theorem dL_law_428 : decode cL_law 428 = .ok (.iconst 1, 1) := by decide +kernel
theorem dL_law_429 : decode cL_law 429 = .ok (.iadd, 1) := by decide +kernel
theorem dL_law_430 : decode cL_law 430 = .ok (.iaload, 1) := by decide +kernel
theorem dL_law_431 : decode cL_law 431 = .ok (.invokevirtual 67, 3) := by decide +kernel
theorem dL_law_434 : decode cL_law 434 = .ok (.if_icmp .eq 358, 3) := by decide +kernel
theorem dL_law_437 : decode cL_law 437 = .ok (.iconst 0, 1) := by decide +kernel
theorem dL_law_438 : decode cL_law 438 = .ok (.ireturn, 1) := by decide +kernel
theorem dL_law_439 : decode cL_law 439 = .ok (.aload_n 1, 1) := by decide +kernel
theorem dL_law_440 : decode cL_law 440 = .ok (.aload_n 0, 1) := by decide +kernel
theorem dL_law_441 : decode cL_law 441 = .ok (.iload_n 3, 1) := by decide +kernel
theorem dL_law_442 : decode cL_law 442 = .ok (.iconst 1, 1) := by decide +kernel
theorem dL_law_443 : decode cL_law 443 = .ok (.iadd, 1) := by decide +kernel
theorem dL_law_444 : decode cL_law 444 = .ok (.iaload, 1) := by decide +kernel
theorem dL_law_445 : decode cL_law 445 = .ok (.aload_n 0, 1) := by decide +kernel
theorem dL_law_446 : decode cL_law 446 = .ok (.iload_n 3, 1) := by decide +kernel
theorem dL_law_447 : decode cL_law 447 = .ok (.iconst 2, 1) := by decide +kernel
theorem dL_law_448 : decode cL_law 448 = .ok (.iadd, 1) := by decide +kernel
theorem dL_law_449 : decode cL_law 449 = .ok (.iaload, 1) := by decide +kernel
theorem dL_law_450 : decode cL_law 450 = .ok (.i2l, 1) := by decide +kernel
theorem dL_law_451 : decode cL_law 451 = .ok (.bipush 32, 2) := by decide +kernel
theorem dL_law_453 : decode cL_law 453 = .ok (.lshl, 1) := by decide +kernel
theorem dL_law_454 : decode cL_law 454 = .ok (.aload_n 0, 1) := by decide +kernel
theorem dL_law_455 : decode cL_law 455 = .ok (.iload_n 3, 1) := by decide +kernel
theorem dL_law_456 : decode cL_law 456 = .ok (.iconst 3, 1) := by decide +kernel
theorem dL_law_457 : decode cL_law 457 = .ok (.iadd, 1) := by decide +kernel
theorem dL_law_458 : decode cL_law 458 = .ok (.iaload, 1) := by decide +kernel
theorem dL_law_459 : decode cL_law 459 = .ok (.i2l, 1) := by decide +kernel
theorem dL_law_460 : decode cL_law 460 = .ok (.ldc2_w 68, 3) := by decide +kernel
theorem dL_law_463 : decode cL_law 463 = .ok (.land, 1) := by decide +kernel
theorem dL_law_464 : decode cL_law 464 = .ok (.lor, 1) := by decide +kernel
theorem dL_law_465 : decode cL_law 465 = .ok (.invokevirtual 70, 3) := by decide +kernel
theorem dL_law_468 : decode cL_law 468 = .ok (.aload_n 2, 1) := by decide +kernel
theorem dL_law_469 : decode cL_law 469 = .ok (.aload_n 0, 1) := by decide +kernel
theorem dL_law_470 : decode cL_law 470 = .ok (.iload_n 3, 1) := by decide +kernel
theorem dL_law_471 : decode cL_law 471 = .ok (.iconst 1, 1) := by decide +kernel
theorem dL_law_472 : decode cL_law 472 = .ok (.iadd, 1) := by decide +kernel
theorem dL_law_473 : decode cL_law 473 = .ok (.iaload, 1) := by decide +kernel
theorem dL_law_474 : decode cL_law 474 = .ok (.aload_n 0, 1) := by decide +kernel
theorem dL_law_475 : decode cL_law 475 = .ok (.iload_n 3, 1) := by decide +kernel
theorem dL_law_476 : decode cL_law 476 = .ok (.iconst 2, 1) := by decide +kernel
theorem dL_law_477 : decode cL_law 477 = .ok (.iadd, 1) := by decide +kernel
theorem dL_law_478 : decode cL_law 478 = .ok (.iaload, 1) := by decide +kernel
theorem dL_law_479 : decode cL_law 479 = .ok (.i2l, 1) := by decide +kernel
theorem dL_law_480 : decode cL_law 480 = .ok (.bipush 32, 2) := by decide +kernel
theorem dL_law_482 : decode cL_law 482 = .ok (.lshl, 1) := by decide +kernel
theorem dL_law_483 : decode cL_law 483 = .ok (.aload_n 0, 1) := by decide +kernel
theorem dL_law_484 : decode cL_law 484 = .ok (.iload_n 3, 1) := by decide +kernel
theorem dL_law_485 : decode cL_law 485 = .ok (.iconst 3, 1) := by decide +kernel
theorem dL_law_486 : decode cL_law 486 = .ok (.iadd, 1) := by decide +kernel
theorem dL_law_487 : decode cL_law 487 = .ok (.iaload, 1) := by decide +kernel
theorem dL_law_488 : decode cL_law 488 = .ok (.i2l, 1) := by decide +kernel
theorem dL_law_489 : decode cL_law 489 = .ok (.ldc2_w 68, 3) := by decide +kernel
theorem dL_law_492 : decode cL_law 492 = .ok (.land, 1) := by decide +kernel
theorem dL_law_493 : decode cL_law 493 = .ok (.lor, 1) := by decide +kernel
theorem dL_law_494 : decode cL_law 494 = .ok (.invokevirtual 74, 3) := by decide +kernel
theorem dL_law_497 : decode cL_law 497 = .ok (.if_icmp .eq 295, 3) := by decide +kernel
theorem dL_law_500 : decode cL_law 500 = .ok (.iconst 0, 1) := by decide +kernel
theorem dL_law_501 : decode cL_law 501 = .ok (.ireturn, 1) := by decide +kernel
theorem dL_law_502 : decode cL_law 502 = .ok (.aload_n 1, 1) := by decide +kernel
theorem dL_law_503 : decode cL_law 503 = .ok (.aload_n 0, 1) := by decide +kernel
theorem dL_law_504 : decode cL_law 504 = .ok (.iload_n 3, 1) := by decide +kernel
theorem dL_law_505 : decode cL_law 505 = .ok (.iconst 1, 1) := by decide +kernel
theorem dL_law_506 : decode cL_law 506 = .ok (.iadd, 1) := by decide +kernel
theorem dL_law_507 : decode cL_law 507 = .ok (.iaload, 1) := by decide +kernel
theorem dL_law_508 : decode cL_law 508 = .ok (.aload_n 0, 1) := by decide +kernel
theorem dL_law_509 : decode cL_law 509 = .ok (.iload_n 3, 1) := by decide +kernel
theorem dL_law_510 : decode cL_law 510 = .ok (.iconst 2, 1) := by decide +kernel
theorem dL_law_511 : decode cL_law 511 = .ok (.iadd, 1) := by decide +kernel
theorem dL_law_512 : decode cL_law 512 = .ok (.iaload, 1) := by decide +kernel
theorem dL_law_513 : decode cL_law 513 = .ok (.ifCond .eq 7, 3) := by decide +kernel
theorem dL_law_516 : decode cL_law 516 = .ok (.iconst 1, 1) := by decide +kernel
theorem dL_law_517 : decode cL_law 517 = .ok (.goto 4, 3) := by decide +kernel
theorem dL_law_520 : decode cL_law 520 = .ok (.iconst 0, 1) := by decide +kernel
theorem dL_law_521 : decode cL_law 521 = .ok (.invokevirtual 75, 3) := by decide +kernel
theorem dL_law_524 : decode cL_law 524 = .ok (.aload_n 2, 1) := by decide +kernel
theorem dL_law_525 : decode cL_law 525 = .ok (.aload_n 0, 1) := by decide +kernel
theorem dL_law_526 : decode cL_law 526 = .ok (.iload_n 3, 1) := by decide +kernel
theorem dL_law_527 : decode cL_law 527 = .ok (.iconst 1, 1) := by decide +kernel
theorem dL_law_528 : decode cL_law 528 = .ok (.iadd, 1) := by decide +kernel
theorem dL_law_529 : decode cL_law 529 = .ok (.iaload, 1) := by decide +kernel
theorem dL_law_530 : decode cL_law 530 = .ok (.aload_n 0, 1) := by decide +kernel
theorem dL_law_531 : decode cL_law 531 = .ok (.iload_n 3, 1) := by decide +kernel
theorem dL_law_532 : decode cL_law 532 = .ok (.iconst 2, 1) := by decide +kernel
theorem dL_law_533 : decode cL_law 533 = .ok (.iadd, 1) := by decide +kernel
theorem dL_law_534 : decode cL_law 534 = .ok (.iaload, 1) := by decide +kernel
theorem dL_law_535 : decode cL_law 535 = .ok (.ifCond .eq 7, 3) := by decide +kernel
theorem dL_law_538 : decode cL_law 538 = .ok (.iconst 1, 1) := by decide +kernel
theorem dL_law_539 : decode cL_law 539 = .ok (.goto 4, 3) := by decide +kernel
theorem dL_law_542 : decode cL_law 542 = .ok (.iconst 0, 1) := by decide +kernel
theorem dL_law_543 : decode cL_law 543 = .ok (.invokevirtual 79, 3) := by decide +kernel
theorem dL_law_546 : decode cL_law 546 = .ok (.if_icmp .eq 246, 3) := by decide +kernel
theorem dL_law_549 : decode cL_law 549 = .ok (.iconst 0, 1) := by decide +kernel
theorem dL_law_550 : decode cL_law 550 = .ok (.ireturn, 1) := by decide +kernel
theorem dL_law_551 : decode cL_law 551 = .ok (.aload_n 1, 1) := by decide +kernel
theorem dL_law_552 : decode cL_law 552 = .ok (.aload_n 0, 1) := by decide +kernel
theorem dL_law_553 : decode cL_law 553 = .ok (.iload_n 3, 1) := by decide +kernel
theorem dL_law_554 : decode cL_law 554 = .ok (.iconst 1, 1) := by decide +kernel
theorem dL_law_555 : decode cL_law 555 = .ok (.iadd, 1) := by decide +kernel
theorem dL_law_556 : decode cL_law 556 = .ok (.iaload, 1) := by decide +kernel
theorem dL_law_557 : decode cL_law 557 = .ok (.aload_n 0, 1) := by decide +kernel
theorem dL_law_558 : decode cL_law 558 = .ok (.iload_n 3, 1) := by decide +kernel
theorem dL_law_559 : decode cL_law 559 = .ok (.iconst 2, 1) := by decide +kernel
theorem dL_law_560 : decode cL_law 560 = .ok (.iadd, 1) := by decide +kernel
theorem dL_law_561 : decode cL_law 561 = .ok (.iaload, 1) := by decide +kernel
theorem dL_law_562 : decode cL_law 562 = .ok (.invokevirtual 80, 3) := by decide +kernel
theorem dL_law_565 : decode cL_law 565 = .ok (.aload_n 2, 1) := by decide +kernel
theorem dL_law_566 : decode cL_law 566 = .ok (.aload_n 0, 1) := by decide +kernel
theorem dL_law_567 : decode cL_law 567 = .ok (.iload_n 3, 1) := by decide +kernel
theorem dL_law_568 : decode cL_law 568 = .ok (.iconst 1, 1) := by decide +kernel
theorem dL_law_569 : decode cL_law 569 = .ok (.iadd, 1) := by decide +kernel
theorem dL_law_570 : decode cL_law 570 = .ok (.iaload, 1) := by decide +kernel
theorem dL_law_571 : decode cL_law 571 = .ok (.aload_n 0, 1) := by decide +kernel
theorem dL_law_572 : decode cL_law 572 = .ok (.iload_n 3, 1) := by decide +kernel
theorem dL_law_573 : decode cL_law 573 = .ok (.iconst 2, 1) := by decide +kernel
theorem dL_law_574 : decode cL_law 574 = .ok (.iadd, 1) := by decide +kernel
theorem dL_law_575 : decode cL_law 575 = .ok (.iaload, 1) := by decide +kernel
theorem dL_law_576 : decode cL_law 576 = .ok (.invokevirtual 83, 3) := by decide +kernel
theorem dL_law_579 : decode cL_law 579 = .ok (.if_icmp .eq 213, 3) := by decide +kernel
theorem dL_law_582 : decode cL_law 582 = .ok (.iconst 0, 1) := by decide +kernel
theorem dL_law_583 : decode cL_law 583 = .ok (.ireturn, 1) := by decide +kernel
theorem dL_law_584 : decode cL_law 584 = .ok (.aload_n 1, 1) := by decide +kernel
theorem dL_law_585 : decode cL_law 585 = .ok (.invokevirtual 84, 3) := by decide +kernel
theorem dL_law_588 : decode cL_law 588 = .ok (.aload_n 2, 1) := by decide +kernel
theorem dL_law_589 : decode cL_law 589 = .ok (.invokevirtual 87, 3) := by decide +kernel
theorem dL_law_592 : decode cL_law 592 = .ok (.if_icmp .eq 200, 3) := by decide +kernel
theorem dL_law_595 : decode cL_law 595 = .ok (.iconst 0, 1) := by decide +kernel
theorem dL_law_596 : decode cL_law 596 = .ok (.ireturn, 1) := by decide +kernel
theorem dL_law_597 : decode cL_law 597 = .ok (.aload_n 1, 1) := by decide +kernel
theorem dL_law_598 : decode cL_law 598 = .ok (.aload_n 0, 1) := by decide +kernel
theorem dL_law_599 : decode cL_law 599 = .ok (.iload_n 3, 1) := by decide +kernel
theorem dL_law_600 : decode cL_law 600 = .ok (.iconst 1, 1) := by decide +kernel
theorem dL_law_601 : decode cL_law 601 = .ok (.iadd, 1) := by decide +kernel
theorem dL_law_602 : decode cL_law 602 = .ok (.iaload, 1) := by decide +kernel
theorem dL_law_603 : decode cL_law 603 = .ok (.invokevirtual 88, 3) := by decide +kernel
theorem dL_law_606 : decode cL_law 606 = .ok (.aload_n 2, 1) := by decide +kernel
theorem dL_law_607 : decode cL_law 607 = .ok (.aload_n 0, 1) := by decide +kernel
theorem dL_law_608 : decode cL_law 608 = .ok (.iload_n 3, 1) := by decide +kernel
theorem dL_law_609 : decode cL_law 609 = .ok (.iconst 1, 1) := by decide +kernel
theorem dL_law_610 : decode cL_law 610 = .ok (.iadd, 1) := by decide +kernel
theorem dL_law_611 : decode cL_law 611 = .ok (.iaload, 1) := by decide +kernel
theorem dL_law_612 : decode cL_law 612 = .ok (.invokevirtual 91, 3) := by decide +kernel
theorem dL_law_615 : decode cL_law 615 = .ok (.if_icmp .eq 177, 3) := by decide +kernel
theorem dL_law_618 : decode cL_law 618 = .ok (.iconst 0, 1) := by decide +kernel
theorem dL_law_619 : decode cL_law 619 = .ok (.ireturn, 1) := by decide +kernel
theorem dL_law_620 : decode cL_law 620 = .ok (.aload_n 1, 1) := by decide +kernel
theorem dL_law_621 : decode cL_law 621 = .ok (.aload_n 0, 1) := by decide +kernel
theorem dL_law_622 : decode cL_law 622 = .ok (.iload_n 3, 1) := by decide +kernel
theorem dL_law_623 : decode cL_law 623 = .ok (.iconst 1, 1) := by decide +kernel
theorem dL_law_624 : decode cL_law 624 = .ok (.iadd, 1) := by decide +kernel
theorem dL_law_625 : decode cL_law 625 = .ok (.iaload, 1) := by decide +kernel
theorem dL_law_626 : decode cL_law 626 = .ok (.aload_n 0, 1) := by decide +kernel
theorem dL_law_627 : decode cL_law 627 = .ok (.iload_n 3, 1) := by decide +kernel
theorem dL_law_628 : decode cL_law 628 = .ok (.iconst 2, 1) := by decide +kernel
theorem dL_law_629 : decode cL_law 629 = .ok (.iadd, 1) := by decide +kernel
theorem dL_law_630 : decode cL_law 630 = .ok (.iaload, 1) := by decide +kernel
theorem dL_law_631 : decode cL_law 631 = .ok (.ifCond .eq 7, 3) := by decide +kernel
theorem dL_law_634 : decode cL_law 634 = .ok (.iconst 1, 1) := by decide +kernel
theorem dL_law_635 : decode cL_law 635 = .ok (.goto 4, 3) := by decide +kernel
theorem dL_law_638 : decode cL_law 638 = .ok (.iconst 0, 1) := by decide +kernel
theorem dL_law_639 : decode cL_law 639 = .ok (.invokevirtual 92, 3) := by decide +kernel
theorem dL_law_642 : decode cL_law 642 = .ok (.aload_n 2, 1) := by decide +kernel
theorem dL_law_643 : decode cL_law 643 = .ok (.aload_n 0, 1) := by decide +kernel
theorem dL_law_644 : decode cL_law 644 = .ok (.iload_n 3, 1) := by decide +kernel
theorem dL_law_645 : decode cL_law 645 = .ok (.iconst 1, 1) := by decide +kernel
theorem dL_law_646 : decode cL_law 646 = .ok (.iadd, 1) := by decide +kernel
theorem dL_law_647 : decode cL_law 647 = .ok (.iaload, 1) := by decide +kernel
theorem dL_law_648 : decode cL_law 648 = .ok (.aload_n 0, 1) := by decide +kernel
theorem dL_law_649 : decode cL_law 649 = .ok (.iload_n 3, 1) := by decide +kernel
theorem dL_law_650 : decode cL_law 650 = .ok (.iconst 2, 1) := by decide +kernel
theorem dL_law_651 : decode cL_law 651 = .ok (.iadd, 1) := by decide +kernel
theorem dL_law_652 : decode cL_law 652 = .ok (.iaload, 1) := by decide +kernel
theorem dL_law_653 : decode cL_law 653 = .ok (.ifCond .eq 7, 3) := by decide +kernel
theorem dL_law_656 : decode cL_law 656 = .ok (.iconst 1, 1) := by decide +kernel
theorem dL_law_657 : decode cL_law 657 = .ok (.goto 4, 3) := by decide +kernel
theorem dL_law_660 : decode cL_law 660 = .ok (.iconst 0, 1) := by decide +kernel
theorem dL_law_661 : decode cL_law 661 = .ok (.invokevirtual 95, 3) := by decide +kernel
theorem dL_law_664 : decode cL_law 664 = .ok (.if_icmp .eq 128, 3) := by decide +kernel
theorem dL_law_667 : decode cL_law 667 = .ok (.iconst 0, 1) := by decide +kernel
theorem dL_law_668 : decode cL_law 668 = .ok (.ireturn, 1) := by decide +kernel
theorem dL_law_669 : decode cL_law 669 = .ok (.aload_n 1, 1) := by decide +kernel
theorem dL_law_670 : decode cL_law 670 = .ok (.aload_n 0, 1) := by decide +kernel
theorem dL_law_671 : decode cL_law 671 = .ok (.iload_n 3, 1) := by decide +kernel
theorem dL_law_672 : decode cL_law 672 = .ok (.iconst 1, 1) := by decide +kernel
theorem dL_law_673 : decode cL_law 673 = .ok (.iadd, 1) := by decide +kernel
theorem dL_law_674 : decode cL_law 674 = .ok (.iaload, 1) := by decide +kernel
theorem dL_law_675 : decode cL_law 675 = .ok (.i2l, 1) := by decide +kernel
theorem dL_law_676 : decode cL_law 676 = .ok (.bipush 32, 2) := by decide +kernel
theorem dL_law_678 : decode cL_law 678 = .ok (.lshl, 1) := by decide +kernel
theorem dL_law_679 : decode cL_law 679 = .ok (.aload_n 0, 1) := by decide +kernel
theorem dL_law_680 : decode cL_law 680 = .ok (.iload_n 3, 1) := by decide +kernel
theorem dL_law_681 : decode cL_law 681 = .ok (.iconst 2, 1) := by decide +kernel
theorem dL_law_682 : decode cL_law 682 = .ok (.iadd, 1) := by decide +kernel
theorem dL_law_683 : decode cL_law 683 = .ok (.iaload, 1) := by decide +kernel
theorem dL_law_684 : decode cL_law 684 = .ok (.i2l, 1) := by decide +kernel
theorem dL_law_685 : decode cL_law 685 = .ok (.ldc2_w 68, 3) := by decide +kernel
theorem dL_law_688 : decode cL_law 688 = .ok (.land, 1) := by decide +kernel
theorem dL_law_689 : decode cL_law 689 = .ok (.lor, 1) := by decide +kernel
theorem dL_law_690 : decode cL_law 690 = .ok (.invokevirtual 96, 3) := by decide +kernel
theorem dL_law_693 : decode cL_law 693 = .ok (.aload_n 2, 1) := by decide +kernel
theorem dL_law_694 : decode cL_law 694 = .ok (.aload_n 0, 1) := by decide +kernel
theorem dL_law_695 : decode cL_law 695 = .ok (.iload_n 3, 1) := by decide +kernel
theorem dL_law_696 : decode cL_law 696 = .ok (.iconst 1, 1) := by decide +kernel
theorem dL_law_697 : decode cL_law 697 = .ok (.iadd, 1) := by decide +kernel
theorem dL_law_698 : decode cL_law 698 = .ok (.iaload, 1) := by decide +kernel
theorem dL_law_699 : decode cL_law 699 = .ok (.i2l, 1) := by decide +kernel
theorem dL_law_700 : decode cL_law 700 = .ok (.bipush 32, 2) := by decide +kernel
theorem dL_law_702 : decode cL_law 702 = .ok (.lshl, 1) := by decide +kernel
theorem dL_law_703 : decode cL_law 703 = .ok (.aload_n 0, 1) := by decide +kernel
theorem dL_law_704 : decode cL_law 704 = .ok (.iload_n 3, 1) := by decide +kernel
theorem dL_law_705 : decode cL_law 705 = .ok (.iconst 2, 1) := by decide +kernel
theorem dL_law_706 : decode cL_law 706 = .ok (.iadd, 1) := by decide +kernel
theorem dL_law_707 : decode cL_law 707 = .ok (.iaload, 1) := by decide +kernel
theorem dL_law_708 : decode cL_law 708 = .ok (.i2l, 1) := by decide +kernel
theorem dL_law_709 : decode cL_law 709 = .ok (.ldc2_w 68, 3) := by decide +kernel
theorem dL_law_712 : decode cL_law 712 = .ok (.land, 1) := by decide +kernel
theorem dL_law_713 : decode cL_law 713 = .ok (.lor, 1) := by decide +kernel
theorem dL_law_714 : decode cL_law 714 = .ok (.invokevirtual 100, 3) := by decide +kernel
theorem dL_law_717 : decode cL_law 717 = .ok (.lcmp, 1) := by decide +kernel
theorem dL_law_718 : decode cL_law 718 = .ok (.ifCond .eq 74, 3) := by decide +kernel
theorem dL_law_721 : decode cL_law 721 = .ok (.iconst 0, 1) := by decide +kernel
theorem dL_law_722 : decode cL_law 722 = .ok (.ireturn, 1) := by decide +kernel
theorem dL_law_723 : decode cL_law 723 = .ok (.aload_n 1, 1) := by decide +kernel
theorem dL_law_724 : decode cL_law 724 = .ok (.aload_n 0, 1) := by decide +kernel
theorem dL_law_725 : decode cL_law 725 = .ok (.iload_n 3, 1) := by decide +kernel
theorem dL_law_726 : decode cL_law 726 = .ok (.iconst 1, 1) := by decide +kernel
theorem dL_law_727 : decode cL_law 727 = .ok (.iadd, 1) := by decide +kernel
theorem dL_law_728 : decode cL_law 728 = .ok (.iaload, 1) := by decide +kernel
theorem dL_law_729 : decode cL_law 729 = .ok (.invokevirtual 101, 3) := by decide +kernel
theorem dL_law_732 : decode cL_law 732 = .ok (.aload_n 2, 1) := by decide +kernel
theorem dL_law_733 : decode cL_law 733 = .ok (.aload_n 0, 1) := by decide +kernel
theorem dL_law_734 : decode cL_law 734 = .ok (.iload_n 3, 1) := by decide +kernel
theorem dL_law_735 : decode cL_law 735 = .ok (.iconst 1, 1) := by decide +kernel
theorem dL_law_736 : decode cL_law 736 = .ok (.iadd, 1) := by decide +kernel
theorem dL_law_737 : decode cL_law 737 = .ok (.iaload, 1) := by decide +kernel
theorem dL_law_738 : decode cL_law 738 = .ok (.invokevirtual 104, 3) := by decide +kernel
theorem dL_law_741 : decode cL_law 741 = .ok (.if_icmp .eq 51, 3) := by decide +kernel
theorem dL_law_744 : decode cL_law 744 = .ok (.iconst 0, 1) := by decide +kernel
theorem dL_law_745 : decode cL_law 745 = .ok (.ireturn, 1) := by decide +kernel
theorem dL_law_746 : decode cL_law 746 = .ok (.aload_n 1, 1) := by decide +kernel
theorem dL_law_747 : decode cL_law 747 = .ok (.aload_n 0, 1) := by decide +kernel
theorem dL_law_748 : decode cL_law 748 = .ok (.iload_n 3, 1) := by decide +kernel
theorem dL_law_749 : decode cL_law 749 = .ok (.iconst 1, 1) := by decide +kernel
theorem dL_law_750 : decode cL_law 750 = .ok (.iadd, 1) := by decide +kernel
theorem dL_law_751 : decode cL_law 751 = .ok (.iaload, 1) := by decide +kernel
theorem dL_law_752 : decode cL_law 752 = .ok (.invokevirtual 105, 3) := by decide +kernel
theorem dL_law_755 : decode cL_law 755 = .ok (.aload_n 2, 1) := by decide +kernel
theorem dL_law_756 : decode cL_law 756 = .ok (.aload_n 0, 1) := by decide +kernel
theorem dL_law_757 : decode cL_law 757 = .ok (.iload_n 3, 1) := by decide +kernel
theorem dL_law_758 : decode cL_law 758 = .ok (.iconst 1, 1) := by decide +kernel
theorem dL_law_759 : decode cL_law 759 = .ok (.iadd, 1) := by decide +kernel
theorem dL_law_760 : decode cL_law 760 = .ok (.iaload, 1) := by decide +kernel
theorem dL_law_761 : decode cL_law 761 = .ok (.invokevirtual 108, 3) := by decide +kernel
theorem dL_law_764 : decode cL_law 764 = .ok (.if_icmp .eq 28, 3) := by decide +kernel
theorem dL_law_767 : decode cL_law 767 = .ok (.iconst 0, 1) := by decide +kernel
theorem dL_law_768 : decode cL_law 768 = .ok (.ireturn, 1) := by decide +kernel
theorem dL_law_769 : decode cL_law 769 = .ok (.aload_n 1, 1) := by decide +kernel
theorem dL_law_770 : decode cL_law 770 = .ok (.aload_n 0, 1) := by decide +kernel
theorem dL_law_771 : decode cL_law 771 = .ok (.iload_n 3, 1) := by decide +kernel
theorem dL_law_772 : decode cL_law 772 = .ok (.iconst 1, 1) := by decide +kernel
theorem dL_law_773 : decode cL_law 773 = .ok (.iadd, 1) := by decide +kernel
theorem dL_law_774 : decode cL_law 774 = .ok (.iaload, 1) := by decide +kernel
theorem dL_law_775 : decode cL_law 775 = .ok (.invokevirtual 109, 3) := by decide +kernel
theorem dL_law_778 : decode cL_law 778 = .ok (.aload_n 2, 1) := by decide +kernel
theorem dL_law_779 : decode cL_law 779 = .ok (.aload_n 0, 1) := by decide +kernel
theorem dL_law_780 : decode cL_law 780 = .ok (.iload_n 3, 1) := by decide +kernel
theorem dL_law_781 : decode cL_law 781 = .ok (.iconst 1, 1) := by decide +kernel
theorem dL_law_782 : decode cL_law 782 = .ok (.iadd, 1) := by decide +kernel
theorem dL_law_783 : decode cL_law 783 = .ok (.iaload, 1) := by decide +kernel
theorem dL_law_784 : decode cL_law 784 = .ok (.invokevirtual 112, 3) := by decide +kernel
theorem dL_law_787 : decode cL_law 787 = .ok (.if_icmp .eq 5, 3) := by decide +kernel
theorem dL_law_790 : decode cL_law 790 = .ok (.iconst 0, 1) := by decide +kernel
theorem dL_law_791 : decode cL_law 791 = .ok (.ireturn, 1) := by decide +kernel
theorem dL_law_792 : decode cL_law 792 = .ok (.iinc 3 4, 3) := by decide +kernel
theorem dL_law_795 : decode cL_law 795 = .ok (.goto (-777), 3) := by decide +kernel
theorem dL_law_798 : decode cL_law 798 = .ok (.iconst 1, 1) := by decide +kernel
theorem dL_law_799 : decode cL_law 799 = .ok (.ireturn, 1) := by decide +kernel
