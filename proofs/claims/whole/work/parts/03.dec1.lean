theorem dX0_init_0 : decode cX0_init 0 = .ok (.aload_n 0, 1) := by decide +kernel
theorem dX0_init_1 : decode cX0_init 1 = .ok (.invokespecial 3, 3) := by decide +kernel
theorem dX0_init_4 : decode cX0_init 4 = .ok (.aload_n 0, 1) := by decide +kernel
theorem dX0_init_5 : decode cX0_init 5 = .ok (.new 9, 3) := by decide +kernel
theorem dX0_init_8 : decode cX0_init 8 = .ok (.dup, 1) := by decide +kernel
theorem dX0_init_9 : decode cX0_init 9 = .ok (.invokespecial 11, 3) := by decide +kernel
theorem dX0_init_12 : decode cX0_init 12 = .ok (.putfield 12, 3) := by decide +kernel
theorem dX0_init_15 : decode cX0_init 15 = .ok (.aload_n 0, 1) := by decide +kernel
theorem dX0_init_16 : decode cX0_init 16 = .ok (.new 18, 3) := by decide +kernel
theorem dX0_init_19 : decode cX0_init 19 = .ok (.dup, 1) := by decide +kernel
theorem dX0_init_20 : decode cX0_init 20 = .ok (.invokespecial 20, 3) := by decide +kernel
theorem dX0_init_23 : decode cX0_init 23 = .ok (.putfield 21, 3) := by decide +kernel
theorem dX0_init_26 : decode cX0_init 26 = .ok (.aload_n 0, 1) := by decide +kernel
theorem dX0_init_27 : decode cX0_init 27 = .ok (.new 25, 3) := by decide +kernel
theorem dX0_init_30 : decode cX0_init 30 = .ok (.dup, 1) := by decide +kernel
theorem dX0_init_31 : decode cX0_init 31 = .ok (.invokespecial 27, 3) := by decide +kernel
theorem dX0_init_34 : decode cX0_init 34 = .ok (.putfield 28, 3) := by decide +kernel
theorem dX0_init_37 : decode cX0_init 37 = .ok (.aload_n 0, 1) := by decide +kernel
theorem dX0_init_38 : decode cX0_init 38 = .ok (.new 25, 3) := by decide +kernel
theorem dX0_init_41 : decode cX0_init 41 = .ok (.dup, 1) := by decide +kernel
theorem dX0_init_42 : decode cX0_init 42 = .ok (.invokespecial 27, 3) := by decide +kernel
theorem dX0_init_45 : decode cX0_init 45 = .ok (.putfield 32, 3) := by decide +kernel
theorem dX0_init_48 : decode cX0_init 48 = .ok (.aload_n 0, 1) := by decide +kernel
theorem dX0_init_49 : decode cX0_init 49 = .ok (.bipush 32, 2) := by decide +kernel
theorem dX0_init_51 : decode cX0_init 51 = .ok (.newarray .int, 2) := by decide +kernel
theorem dX0_init_53 : decode cX0_init 53 = .ok (.putfield 35, 3) := by decide +kernel
theorem dX0_init_56 : decode cX0_init 56 = .ok (.aload_n 0, 1) := by decide +kernel
theorem dX0_init_57 : decode cX0_init 57 = .ok (.new 39, 3) := by decide +kernel
theorem dX0_init_60 : decode cX0_init 60 = .ok (.dup, 1) := by decide +kernel
theorem dX0_init_61 : decode cX0_init 61 = .ok (.invokespecial 41, 3) := by decide +kernel
theorem dX0_init_64 : decode cX0_init 64 = .ok (.putfield 42, 3) := by decide +kernel
theorem dX0_init_67 : decode cX0_init 67 = .ok (.aload_n 0, 1) := by decide +kernel
theorem dX0_init_68 : decode cX0_init 68 = .ok (.iconst 4, 1) := by decide +kernel
theorem dX0_init_69 : decode cX0_init 69 = .ok (.invokestatic 46, 3) := by decide +kernel
theorem dX0_init_72 : decode cX0_init 72 = .ok (.putfield 50, 3) := by decide +kernel
theorem dX0_init_75 : decode cX0_init 75 = .ok (.aload_n 0, 1) := by decide +kernel
theorem dX0_init_76 : decode cX0_init 76 = .ok (.aload_n 1, 1) := by decide +kernel
theorem dX0_init_77 : decode cX0_init 77 = .ok (.invokevirtual 54, 3) := by decide +kernel
theorem dX0_init_80 : decode cX0_init 80 = .ok (.return_, 1) := by decide +kernel
theorem dX0_forget_0 : decode cX0_forget 0 = .ok (.aload_n 0, 1) := by decide +kernel
theorem dX0_forget_1 : decode cX0_forget 1 = .ok (.aload_n 1, 1) := by decide +kernel
theorem dX0_forget_2 : decode cX0_forget 2 = .ok (.putfield 58, 3) := by decide +kernel
theorem dX0_forget_5 : decode cX0_forget 5 = .ok (.aload_n 0, 1) := by decide +kernel
theorem dX0_forget_6 : decode cX0_forget 6 = .ok (.iconst (-1), 1) := by decide +kernel
theorem dX0_forget_7 : decode cX0_forget 7 = .ok (.putfield 62, 3) := by decide +kernel
theorem dX0_forget_10 : decode cX0_forget 10 = .ok (.aload_n 0, 1) := by decide +kernel
theorem dX0_forget_11 : decode cX0_forget 11 = .ok (.iconst 0, 1) := by decide +kernel
theorem dX0_forget_12 : decode cX0_forget 12 = .ok (.putfield 66, 3) := by decide +kernel
theorem dX0_forget_15 : decode cX0_forget 15 = .ok (.return_, 1) := by decide +kernel
theorem dX0_lookAt_0 : decode cX0_lookAt 0 = .ok (.aload_n 1, 1) := by decide +kernel
theorem dX0_lookAt_1 : decode cX0_lookAt 1 = .ok (.invokevirtual 69, 3) := by decide +kernel
theorem dX0_lookAt_4 : decode cX0_lookAt 4 = .ok (.istore_n 2, 1) := by decide +kernel
theorem dX0_lookAt_5 : decode cX0_lookAt 5 = .ok (.aload_n 0, 1) := by decide +kernel
theorem dX0_lookAt_6 : decode cX0_lookAt 6 = .ok (.getfield 62, 3) := by decide +kernel
theorem dX0_lookAt_9 : decode cX0_lookAt 9 = .ok (.iload_n 2, 1) := by decide +kernel
theorem dX0_lookAt_10 : decode cX0_lookAt 10 = .ok (.if_icmp .ne 4, 3) := by decide +kernel
theorem dX0_lookAt_13 : decode cX0_lookAt 13 = .ok (.return_, 1) := by decide +kernel
theorem dX0_lookAt_14 : decode cX0_lookAt 14 = .ok (.aload_n 0, 1) := by decide +kernel
theorem dX0_lookAt_15 : decode cX0_lookAt 15 = .ok (.iload_n 2, 1) := by decide +kernel
theorem dX0_lookAt_16 : decode cX0_lookAt 16 = .ok (.putfield 62, 3) := by decide +kernel
theorem dX0_lookAt_19 : decode cX0_lookAt 19 = .ok (.aload_n 1, 1) := by decide +kernel
theorem dX0_lookAt_20 : decode cX0_lookAt 20 = .ok (.aload_n 0, 1) := by decide +kernel
theorem dX0_lookAt_21 : decode cX0_lookAt 21 = .ok (.getfield 12, 3) := by decide +kernel
theorem dX0_lookAt_24 : decode cX0_lookAt 24 = .ok (.invokevirtual 75, 3) := by decide +kernel
theorem dX0_lookAt_27 : decode cX0_lookAt 27 = .ok (.aload_n 0, 1) := by decide +kernel
theorem dX0_lookAt_28 : decode cX0_lookAt 28 = .ok (.iconst 0, 1) := by decide +kernel
theorem dX0_lookAt_29 : decode cX0_lookAt 29 = .ok (.putfield 79, 3) := by decide +kernel
theorem dX0_lookAt_32 : decode cX0_lookAt 32 = .ok (.aload_n 0, 1) := by decide +kernel
theorem dX0_lookAt_33 : decode cX0_lookAt 33 = .ok (.iconst (-1), 1) := by decide +kernel
theorem dX0_lookAt_34 : decode cX0_lookAt 34 = .ok (.putfield 83, 3) := by decide +kernel
theorem dX0_lookAt_37 : decode cX0_lookAt 37 = .ok (.iconst 0, 1) := by decide +kernel
theorem dX0_lookAt_38 : decode cX0_lookAt 38 = .ok (.istore_n 3, 1) := by decide +kernel
theorem dX0_lookAt_39 : decode cX0_lookAt 39 = .ok (.iload_n 3, 1) := by decide +kernel
theorem dX0_lookAt_40 : decode cX0_lookAt 40 = .ok (.aload_n 0, 1) := by decide +kernel
theorem dX0_lookAt_41 : decode cX0_lookAt 41 = .ok (.getfield 35, 3) := by decide +kernel
theorem dX0_lookAt_44 : decode cX0_lookAt 44 = .ok (.arraylength, 1) := by decide +kernel
theorem dX0_lookAt_45 : decode cX0_lookAt 45 = .ok (.if_icmp .ge 16, 3) := by decide +kernel
theorem dX0_lookAt_48 : decode cX0_lookAt 48 = .ok (.aload_n 0, 1) := by decide +kernel
theorem dX0_lookAt_49 : decode cX0_lookAt 49 = .ok (.getfield 35, 3) := by decide +kernel
theorem dX0_lookAt_52 : decode cX0_lookAt 52 = .ok (.iload_n 3, 1) := by decide +kernel
theorem dX0_lookAt_53 : decode cX0_lookAt 53 = .ok (.iconst (-1), 1) := by decide +kernel
theorem dX0_lookAt_54 : decode cX0_lookAt 54 = .ok (.iastore, 1) := by decide +kernel
theorem dX0_lookAt_55 : decode cX0_lookAt 55 = .ok (.iinc 3 1, 3) := by decide +kernel
theorem dX0_lookAt_58 : decode cX0_lookAt 58 = .ok (.goto (-19), 3) := by decide +kernel
theorem dX0_lookAt_61 : decode cX0_lookAt 61 = .ok (.return_, 1) := by decide +kernel
theorem dX0_reached_0 : decode cX0_reached 0 = .ok (.aload_n 0, 1) := by decide +kernel
theorem dX0_reached_1 : decode cX0_reached 1 = .ok (.getfield 79, 3) := by decide +kernel
theorem dX0_reached_4 : decode cX0_reached 4 = .ok (.ifCond .ne 23, 3) := by decide +kernel
theorem dX0_reached_7 : decode cX0_reached 7 = .ok (.aload_n 0, 1) := by decide +kernel
theorem dX0_reached_8 : decode cX0_reached 8 = .ok (.getfield 21, 3) := by decide +kernel
theorem dX0_reached_11 : decode cX0_reached 11 = .ok (.aload_n 0, 1) := by decide +kernel
theorem dX0_reached_12 : decode cX0_reached 12 = .ok (.getfield 58, 3) := by decide +kernel
theorem dX0_reached_15 : decode cX0_reached 15 = .ok (.aload_n 0, 1) := by decide +kernel
theorem dX0_reached_16 : decode cX0_reached 16 = .ok (.getfield 12, 3) := by decide +kernel
theorem dX0_reached_19 : decode cX0_reached 19 = .ok (.invokevirtual 86, 3) := by decide +kernel
theorem dX0_reached_22 : decode cX0_reached 22 = .ok (.aload_n 0, 1) := by decide +kernel
theorem dX0_reached_23 : decode cX0_reached 23 = .ok (.iconst 1, 1) := by decide +kernel
theorem dX0_reached_24 : decode cX0_reached 24 = .ok (.putfield 79, 3) := by decide +kernel
theorem dX0_reached_27 : decode cX0_reached 27 = .ok (.aload_n 0, 1) := by decide +kernel
theorem dX0_reached_28 : decode cX0_reached 28 = .ok (.getfield 21, 3) := by decide +kernel
theorem dX0_reached_31 : decode cX0_reached 31 = .ok (.areturn, 1) := by decide +kernel
theorem dX0_invariants_0 : decode cX0_invariants 0 = .ok (.aload_n 0, 1) := by decide +kernel
theorem dX0_invariants_1 : decode cX0_invariants 1 = .ok (.getfield 83, 3) := by decide +kernel
theorem dX0_invariants_4 : decode cX0_invariants 4 = .ok (.iload_n 1, 1) := by decide +kernel
theorem dX0_invariants_5 : decode cX0_invariants 5 = .ok (.if_icmp .eq 24, 3) := by decide +kernel
theorem dX0_invariants_8 : decode cX0_invariants 8 = .ok (.aload_n 0, 1) := by decide +kernel
theorem dX0_invariants_9 : decode cX0_invariants 9 = .ok (.getfield 28, 3) := by decide +kernel
theorem dX0_invariants_12 : decode cX0_invariants 12 = .ok (.aload_n 0, 1) := by decide +kernel
theorem dX0_invariants_13 : decode cX0_invariants 13 = .ok (.getfield 58, 3) := by decide +kernel
theorem dX0_invariants_16 : decode cX0_invariants 16 = .ok (.aload_n 0, 1) := by decide +kernel
theorem dX0_invariants_17 : decode cX0_invariants 17 = .ok (.getfield 12, 3) := by decide +kernel
theorem dX0_invariants_20 : decode cX0_invariants 20 = .ok (.iload_n 1, 1) := by decide +kernel
theorem dX0_invariants_21 : decode cX0_invariants 21 = .ok (.invokevirtual 90, 3) := by decide +kernel
theorem dX0_invariants_24 : decode cX0_invariants 24 = .ok (.aload_n 0, 1) := by decide +kernel
theorem dX0_invariants_25 : decode cX0_invariants 25 = .ok (.iload_n 1, 1) := by decide +kernel
theorem dX0_invariants_26 : decode cX0_invariants 26 = .ok (.putfield 83, 3) := by decide +kernel
theorem dX0_invariants_29 : decode cX0_invariants 29 = .ok (.aload_n 0, 1) := by decide +kernel
theorem dX0_invariants_30 : decode cX0_invariants 30 = .ok (.getfield 28, 3) := by decide +kernel
theorem dX0_invariants_33 : decode cX0_invariants 33 = .ok (.areturn, 1) := by decide +kernel
theorem dX0_proved_0 : decode cX0_proved 0 = .ok (.iload_n 1, 1) := by decide +kernel
theorem dX0_proved_1 : decode cX0_proved 1 = .ok (.ifCond .lt 12, 3) := by decide +kernel
theorem dX0_proved_4 : decode cX0_proved 4 = .ok (.iload_n 1, 1) := by decide +kernel
theorem dX0_proved_5 : decode cX0_proved 5 = .ok (.aload_n 0, 1) := by decide +kernel
theorem dX0_proved_6 : decode cX0_proved 6 = .ok (.getfield 35, 3) := by decide +kernel
theorem dX0_proved_9 : decode cX0_proved 9 = .ok (.arraylength, 1) := by decide +kernel
theorem dX0_proved_10 : decode cX0_proved 10 = .ok (.if_icmp .lt 5, 3) := by decide +kernel
theorem dX0_proved_13 : decode cX0_proved 13 = .ok (.iconst 0, 1) := by decide +kernel
theorem dX0_proved_14 : decode cX0_proved 14 = .ok (.ireturn, 1) := by decide +kernel
theorem dX0_proved_15 : decode cX0_proved 15 = .ok (.aload_n 0, 1) := by decide +kernel
theorem dX0_proved_16 : decode cX0_proved 16 = .ok (.getfield 35, 3) := by decide +kernel
theorem dX0_proved_19 : decode cX0_proved 19 = .ok (.iload_n 1, 1) := by decide +kernel
theorem dX0_proved_20 : decode cX0_proved 20 = .ok (.iaload, 1) := by decide +kernel
theorem dX0_proved_21 : decode cX0_proved 21 = .ok (.iconst (-1), 1) := by decide +kernel
theorem dX0_proved_22 : decode cX0_proved 22 = .ok (.if_icmp .ne 39, 3) := by decide +kernel
theorem dX0_proved_25 : decode cX0_proved 25 = .ok (.aload_n 0, 1) := by decide +kernel
theorem dX0_proved_26 : decode cX0_proved 26 = .ok (.getfield 32, 3) := by decide +kernel
theorem dX0_proved_29 : decode cX0_proved 29 = .ok (.aload_n 0, 1) := by decide +kernel
theorem dX0_proved_30 : decode cX0_proved 30 = .ok (.getfield 58, 3) := by decide +kernel
theorem dX0_proved_33 : decode cX0_proved 33 = .ok (.aload_n 0, 1) := by decide +kernel
theorem dX0_proved_34 : decode cX0_proved 34 = .ok (.getfield 12, 3) := by decide +kernel
theorem dX0_proved_37 : decode cX0_proved 37 = .ok (.iload_n 1, 1) := by decide +kernel
theorem dX0_proved_38 : decode cX0_proved 38 = .ok (.invokevirtual 90, 3) := by decide +kernel
theorem dX0_proved_41 : decode cX0_proved 41 = .ok (.aload_n 0, 1) := by decide +kernel
theorem dX0_proved_42 : decode cX0_proved 42 = .ok (.getfield 35, 3) := by decide +kernel
theorem dX0_proved_45 : decode cX0_proved 45 = .ok (.iload_n 1, 1) := by decide +kernel
theorem dX0_proved_46 : decode cX0_proved 46 = .ok (.aload_n 0, 1) := by decide +kernel
theorem dX0_proved_47 : decode cX0_proved 47 = .ok (.getfield 58, 3) := by decide +kernel
theorem dX0_proved_50 : decode cX0_proved 50 = .ok (.aload_n 0, 1) := by decide +kernel
theorem dX0_proved_51 : decode cX0_proved 51 = .ok (.getfield 32, 3) := by decide +kernel
theorem dX0_proved_54 : decode cX0_proved 54 = .ok (.getfield 94, 3) := by decide +kernel
theorem dX0_proved_57 : decode cX0_proved 57 = .ok (.invokevirtual 97, 3) := by decide +kernel
theorem dX0_proved_60 : decode cX0_proved 60 = .ok (.iastore, 1) := by decide +kernel
theorem dX0_proved_61 : decode cX0_proved 61 = .ok (.aload_n 0, 1) := by decide +kernel
theorem dX0_proved_62 : decode cX0_proved 62 = .ok (.getfield 35, 3) := by decide +kernel
theorem dX0_proved_65 : decode cX0_proved 65 = .ok (.iload_n 1, 1) := by decide +kernel
theorem dX0_proved_66 : decode cX0_proved 66 = .ok (.iaload, 1) := by decide +kernel
theorem dX0_proved_67 : decode cX0_proved 67 = .ok (.ireturn, 1) := by decide +kernel
theorem dX0_firstFalse_0 : decode cX0_firstFalse 0 = .ok (.aload_n 0, 1) := by decide +kernel
theorem dX0_firstFalse_1 : decode cX0_firstFalse 1 = .ok (.iload_n 3, 1) := by decide +kernel
theorem dX0_firstFalse_2 : decode cX0_firstFalse 2 = .ok (.invokevirtual 103, 3) := by decide +kernel
theorem dX0_firstFalse_5 : decode cX0_firstFalse 5 = .ok (.getfield 107, 3) := by decide +kernel
theorem dX0_firstFalse_8 : decode cX0_firstFalse 8 = .ok (.astore 4, 2) := by decide +kernel
theorem dX0_firstFalse_10 : decode cX0_firstFalse 10 = .ok (.iconst 0, 1) := by decide +kernel
theorem dX0_firstFalse_11 : decode cX0_firstFalse 11 = .ok (.istore 5, 2) := by decide +kernel
theorem dX0_firstFalse_13 : decode cX0_firstFalse 13 = .ok (.iload 5, 2) := by decide +kernel
theorem dX0_firstFalse_15 : decode cX0_firstFalse 15 = .ok (.aload_n 0, 1) := by decide +kernel
theorem dX0_firstFalse_16 : decode cX0_firstFalse 16 = .ok (.getfield 32, 3) := by decide +kernel
theorem dX0_firstFalse_19 : decode cX0_firstFalse 19 = .ok (.getfield 107, 3) := by decide +kernel
theorem dX0_firstFalse_22 : decode cX0_firstFalse 22 = .ok (.arraylength, 1) := by decide +kernel
theorem dX0_firstFalse_23 : decode cX0_firstFalse 23 = .ok (.if_icmp .ge 42, 3) := by decide +kernel
theorem dX0_firstFalse_26 : decode cX0_firstFalse 26 = .ok (.iload 5, 2) := by decide +kernel
theorem dX0_firstFalse_28 : decode cX0_firstFalse 28 = .ok (.aload 4, 2) := by decide +kernel
theorem dX0_firstFalse_30 : decode cX0_firstFalse 30 = .ok (.arraylength, 1) := by decide +kernel
theorem dX0_firstFalse_31 : decode cX0_firstFalse 31 = .ok (.if_icmp .ge 34, 3) := by decide +kernel
theorem dX0_firstFalse_34 : decode cX0_firstFalse 34 = .ok (.aload_n 0, 1) := by decide +kernel
theorem dX0_firstFalse_35 : decode cX0_firstFalse 35 = .ok (.getfield 32, 3) := by decide +kernel
theorem dX0_firstFalse_38 : decode cX0_firstFalse 38 = .ok (.getfield 107, 3) := by decide +kernel
theorem dX0_firstFalse_41 : decode cX0_firstFalse 41 = .ok (.iload 5, 2) := by decide +kernel
theorem dX0_firstFalse_43 : decode cX0_firstFalse 43 = .ok (.iload 5, 2) := by decide +kernel
theorem dX0_firstFalse_45 : decode cX0_firstFalse 45 = .ok (.iload_n 1, 1) := by decide +kernel
theorem dX0_firstFalse_46 : decode cX0_firstFalse 46 = .ok (.if_icmp .ne 7, 3) := by decide +kernel
theorem dX0_firstFalse_49 : decode cX0_firstFalse 49 = .ok (.iload_n 2, 1) := by decide +kernel
theorem dX0_firstFalse_50 : decode cX0_firstFalse 50 = .ok (.goto 8, 3) := by decide +kernel
theorem dX0_firstFalse_53 : decode cX0_firstFalse 53 = .ok (.aload 4, 2) := by decide +kernel
theorem dX0_firstFalse_55 : decode cX0_firstFalse 55 = .ok (.iload 5, 2) := by decide +kernel
theorem dX0_firstFalse_57 : decode cX0_firstFalse 57 = .ok (.iaload, 1) := by decide +kernel
theorem dX0_firstFalse_58 : decode cX0_firstFalse 58 = .ok (.iastore, 1) := by decide +kernel
theorem dX0_firstFalse_59 : decode cX0_firstFalse 59 = .ok (.iinc 5 1, 3) := by decide +kernel
theorem dX0_firstFalse_62 : decode cX0_firstFalse 62 = .ok (.goto (-49), 3) := by decide +kernel
theorem dX0_firstFalse_65 : decode cX0_firstFalse 65 = .ok (.aload_n 0, 1) := by decide +kernel
theorem dX0_firstFalse_66 : decode cX0_firstFalse 66 = .ok (.getfield 32, 3) := by decide +kernel
theorem dX0_firstFalse_69 : decode cX0_firstFalse 69 = .ok (.getfield 94, 3) := by decide +kernel
theorem dX0_firstFalse_72 : decode cX0_firstFalse 72 = .ok (.aload_n 0, 1) := by decide +kernel
theorem dX0_firstFalse_73 : decode cX0_firstFalse 73 = .ok (.getfield 58, 3) := by decide +kernel
theorem dX0_firstFalse_76 : decode cX0_firstFalse 76 = .ok (.aload_n 0, 1) := by decide +kernel
theorem dX0_firstFalse_77 : decode cX0_firstFalse 77 = .ok (.getfield 32, 3) := by decide +kernel
theorem dX0_firstFalse_80 : decode cX0_firstFalse 80 = .ok (.getfield 107, 3) := by decide +kernel
theorem dX0_firstFalse_83 : decode cX0_firstFalse 83 = .ok (.invokevirtual 110, 3) := by decide +kernel
theorem dX0_firstFalse_86 : decode cX0_firstFalse 86 = .ok (.aload_n 0, 1) := by decide +kernel
theorem dX0_firstFalse_87 : decode cX0_firstFalse 87 = .ok (.getfield 32, 3) := by decide +kernel
theorem dX0_firstFalse_90 : decode cX0_firstFalse 90 = .ok (.getfield 94, 3) := by decide +kernel
theorem dX0_firstFalse_93 : decode cX0_firstFalse 93 = .ok (.aload_n 0, 1) := by decide +kernel
theorem dX0_firstFalse_94 : decode cX0_firstFalse 94 = .ok (.getfield 58, 3) := by decide +kernel
theorem dX0_firstFalse_97 : decode cX0_firstFalse 97 = .ok (.aload_n 0, 1) := by decide +kernel
theorem dX0_firstFalse_98 : decode cX0_firstFalse 98 = .ok (.getfield 12, 3) := by decide +kernel
theorem dX0_firstFalse_101 : decode cX0_firstFalse 101 = .ok (.aload_n 0, 1) := by decide +kernel
theorem dX0_firstFalse_102 : decode cX0_firstFalse 102 = .ok (.getfield 32, 3) := by decide +kernel
theorem dX0_firstFalse_105 : decode cX0_firstFalse 105 = .ok (.getfield 94, 3) := by decide +kernel
theorem dX0_firstFalse_108 : decode cX0_firstFalse 108 = .ok (.getfield 114, 3) := by decide +kernel
theorem dX0_firstFalse_111 : decode cX0_firstFalse 111 = .ok (.invokevirtual 117, 3) := by decide +kernel
theorem dX0_firstFalse_114 : decode cX0_firstFalse 114 = .ok (.pop, 1) := by decide +kernel
theorem dX0_firstFalse_115 : decode cX0_firstFalse 115 = .ok (.aload_n 0, 1) := by decide +kernel
theorem dX0_firstFalse_116 : decode cX0_firstFalse 116 = .ok (.getfield 32, 3) := by decide +kernel
theorem dX0_firstFalse_119 : decode cX0_firstFalse 119 = .ok (.aload_n 0, 1) := by decide +kernel
theorem dX0_firstFalse_120 : decode cX0_firstFalse 120 = .ok (.getfield 58, 3) := by decide +kernel
theorem dX0_firstFalse_123 : decode cX0_firstFalse 123 = .ok (.iload_n 1, 1) := by decide +kernel
theorem dX0_firstFalse_124 : decode cX0_firstFalse 124 = .ok (.invokevirtual 121, 3) := by decide +kernel
theorem dX0_firstFalse_127 : decode cX0_firstFalse 127 = .ok (.istore 5, 2) := by decide +kernel
theorem dX0_firstFalse_129 : decode cX0_firstFalse 129 = .ok (.iload 5, 2) := by decide +kernel
theorem dX0_firstFalse_131 : decode cX0_firstFalse 131 = .ok (.ifCond .ne 8, 3) := by decide +kernel
theorem dX0_firstFalse_134 : decode cX0_firstFalse 134 = .ok (.bipush (-9), 2) := by decide +kernel
theorem dX0_firstFalse_136 : decode cX0_firstFalse 136 = .ok (.goto 8, 3) := by decide +kernel
theorem dX0_firstFalse_139 : decode cX0_firstFalse 139 = .ok (.iload 5, 2) := by decide +kernel
theorem dX0_firstFalse_141 : decode cX0_firstFalse 141 = .ok (.invokestatic 125, 3) := by decide +kernel
theorem dX0_firstFalse_144 : decode cX0_firstFalse 144 = .ok (.ireturn, 1) := by decide +kernel
theorem dX0_failing_0 : decode cX0_failing 0 = .ok (.iload_n 1, 1) := by decide +kernel
theorem dX0_failing_1 : decode cX0_failing 1 = .ok (.ifCond .lt 12, 3) := by decide +kernel
theorem dX0_failing_4 : decode cX0_failing 4 = .ok (.iload_n 1, 1) := by decide +kernel
theorem dX0_failing_5 : decode cX0_failing 5 = .ok (.aload_n 0, 1) := by decide +kernel
theorem dX0_failing_6 : decode cX0_failing 6 = .ok (.getfield 50, 3) := by decide +kernel
theorem dX0_failing_9 : decode cX0_failing 9 = .ok (.arraylength, 1) := by decide +kernel
theorem dX0_failing_10 : decode cX0_failing 10 = .ok (.if_icmp .lt 7, 3) := by decide +kernel
theorem dX0_failing_13 : decode cX0_failing 13 = .ok (.iconst 0, 1) := by decide +kernel
theorem dX0_failing_14 : decode cX0_failing 14 = .ok (.goto 4, 3) := by decide +kernel
theorem dX0_failing_17 : decode cX0_failing 17 = .ok (.iload_n 1, 1) := by decide +kernel
theorem dX0_failing_18 : decode cX0_failing 18 = .ok (.istore_n 2, 1) := by decide +kernel
theorem dX0_failing_19 : decode cX0_failing 19 = .ok (.aload_n 0, 1) := by decide +kernel
theorem dX0_failing_20 : decode cX0_failing 20 = .ok (.getfield 66, 3) := by decide +kernel
theorem dX0_failing_23 : decode cX0_failing 23 = .ok (.iload_n 2, 1) := by decide +kernel
theorem dX0_failing_24 : decode cX0_failing 24 = .ok (.ishr, 1) := by decide +kernel
theorem dX0_failing_25 : decode cX0_failing 25 = .ok (.iconst 1, 1) := by decide +kernel
theorem dX0_failing_26 : decode cX0_failing 26 = .ok (.iand, 1) := by decide +kernel
theorem dX0_failing_27 : decode cX0_failing 27 = .ok (.ifCond .ne 33, 3) := by decide +kernel
theorem dX0_failing_30 : decode cX0_failing 30 = .ok (.aload_n 0, 1) := by decide +kernel
theorem dX0_failing_31 : decode cX0_failing 31 = .ok (.getfield 42, 3) := by decide +kernel
theorem dX0_failing_34 : decode cX0_failing 34 = .ok (.aload_n 0, 1) := by decide +kernel
theorem dX0_failing_35 : decode cX0_failing 35 = .ok (.getfield 58, 3) := by decide +kernel
theorem dX0_failing_38 : decode cX0_failing 38 = .ok (.iload_n 2, 1) := by decide +kernel
theorem dX0_failing_39 : decode cX0_failing 39 = .ok (.aload_n 0, 1) := by decide +kernel
theorem dX0_failing_40 : decode cX0_failing 40 = .ok (.getfield 50, 3) := by decide +kernel
theorem dX0_failing_43 : decode cX0_failing 43 = .ok (.iload_n 2, 1) := by decide +kernel
theorem dX0_failing_44 : decode cX0_failing 44 = .ok (.aaload, 1) := by decide +kernel
theorem dX0_failing_45 : decode cX0_failing 45 = .ok (.invokevirtual 131, 3) := by decide +kernel
theorem dX0_failing_48 : decode cX0_failing 48 = .ok (.aload_n 0, 1) := by decide +kernel
theorem dX0_failing_49 : decode cX0_failing 49 = .ok (.dup, 1) := by decide +kernel
theorem dX0_failing_50 : decode cX0_failing 50 = .ok (.getfield 66, 3) := by decide +kernel
theorem dX0_failing_53 : decode cX0_failing 53 = .ok (.iconst 1, 1) := by decide +kernel
theorem dX0_failing_54 : decode cX0_failing 54 = .ok (.iload_n 2, 1) := by decide +kernel
theorem dX0_failing_55 : decode cX0_failing 55 = .ok (.ishl, 1) := by decide +kernel
theorem dX0_failing_56 : decode cX0_failing 56 = .ok (.ior, 1) := by decide +kernel
theorem dX0_failing_57 : decode cX0_failing 57 = .ok (.putfield 66, 3) := by decide +kernel
theorem dX0_failing_60 : decode cX0_failing 60 = .ok (.aload_n 0, 1) := by decide +kernel
theorem dX0_failing_61 : decode cX0_failing 61 = .ok (.getfield 50, 3) := by decide +kernel
theorem dX0_failing_64 : decode cX0_failing 64 = .ok (.iload_n 2, 1) := by decide +kernel
theorem dX0_failing_65 : decode cX0_failing 65 = .ok (.aaload, 1) := by decide +kernel
theorem dX0_failing_66 : decode cX0_failing 66 = .ok (.areturn, 1) := by decide +kernel
theorem dX1_init_0 : decode cX1_init 0 = .ok (.aload_n 0, 1) := by decide +kernel
theorem dX1_init_1 : decode cX1_init 1 = .ok (.invokespecial 3, 3) := by decide +kernel
theorem dX1_init_4 : decode cX1_init 4 = .ok (.aload_n 0, 1) := by decide +kernel
theorem dX1_init_5 : decode cX1_init 5 = .ok (.new 9, 3) := by decide +kernel
theorem dX1_init_8 : decode cX1_init 8 = .ok (.dup, 1) := by decide +kernel
theorem dX1_init_9 : decode cX1_init 9 = .ok (.invokespecial 11, 3) := by decide +kernel
theorem dX1_init_12 : decode cX1_init 12 = .ok (.putfield 12, 3) := by decide +kernel
theorem dX1_init_15 : decode cX1_init 15 = .ok (.aload_n 0, 1) := by decide +kernel
theorem dX1_init_16 : decode cX1_init 16 = .ok (.iconst 3, 1) := by decide +kernel
theorem dX1_init_17 : decode cX1_init 17 = .ok (.invokestatic 18, 3) := by decide +kernel
theorem dX1_init_20 : decode cX1_init 20 = .ok (.putfield 22, 3) := by decide +kernel
theorem dX1_init_23 : decode cX1_init 23 = .ok (.aload_n 0, 1) := by decide +kernel
theorem dX1_init_24 : decode cX1_init 24 = .ok (.iconst 3, 1) := by decide +kernel
theorem dX1_init_25 : decode cX1_init 25 = .ok (.invokestatic 18, 3) := by decide +kernel
theorem dX1_init_28 : decode cX1_init 28 = .ok (.putfield 26, 3) := by decide +kernel
theorem dX1_init_31 : decode cX1_init 31 = .ok (.aload_n 0, 1) := by decide +kernel
theorem dX1_init_32 : decode cX1_init 32 = .ok (.iconst 3, 1) := by decide +kernel
theorem dX1_init_33 : decode cX1_init 33 = .ok (.invokestatic 18, 3) := by decide +kernel
theorem dX1_init_36 : decode cX1_init 36 = .ok (.putfield 29, 3) := by decide +kernel
theorem dX1_init_39 : decode cX1_init 39 = .ok (.aload_n 0, 1) := by decide +kernel
theorem dX1_init_40 : decode cX1_init 40 = .ok (.iconst 3, 1) := by decide +kernel
theorem dX1_init_41 : decode cX1_init 41 = .ok (.invokestatic 18, 3) := by decide +kernel
theorem dX1_init_44 : decode cX1_init 44 = .ok (.putfield 32, 3) := by decide +kernel
theorem dX1_init_47 : decode cX1_init 47 = .ok (.return_, 1) := by decide +kernel
theorem dX1_find_0 : decode cX1_find 0 = .ok (.iconst 0, 1) := by decide +kernel
theorem dX1_find_1 : decode cX1_find 1 = .ok (.istore 4, 2) := by decide +kernel
theorem dX1_find_3 : decode cX1_find 3 = .ok (.iload 4, 2) := by decide +kernel
theorem dX1_find_5 : decode cX1_find 5 = .ok (.iconst 3, 1) := by decide +kernel
theorem dX1_find_6 : decode cX1_find 6 = .ok (.if_icmp .ge 19, 3) := by decide +kernel
theorem dX1_find_9 : decode cX1_find 9 = .ok (.aload_n 0, 1) := by decide +kernel
theorem dX1_find_10 : decode cX1_find 10 = .ok (.getfield 22, 3) := by decide +kernel
theorem dX1_find_13 : decode cX1_find 13 = .ok (.iload 4, 2) := by decide +kernel
theorem dX1_find_15 : decode cX1_find 15 = .ok (.aaload, 1) := by decide +kernel
theorem dX1_find_16 : decode cX1_find 16 = .ok (.invokevirtual 35, 3) := by decide +kernel
theorem dX1_find_19 : decode cX1_find 19 = .ok (.iinc 4 1, 3) := by decide +kernel
theorem dX1_find_22 : decode cX1_find 22 = .ok (.goto (-19), 3) := by decide +kernel
theorem dX1_find_25 : decode cX1_find 25 = .ok (.iconst 1, 1) := by decide +kernel
theorem dX1_find_26 : decode cX1_find 26 = .ok (.istore 4, 2) := by decide +kernel
theorem dX1_find_28 : decode cX1_find 28 = .ok (.iconst 0, 1) := by decide +kernel
theorem dX1_find_29 : decode cX1_find 29 = .ok (.istore 5, 2) := by decide +kernel
theorem dX1_find_31 : decode cX1_find 31 = .ok (.iload 5, 2) := by decide +kernel
theorem dX1_find_33 : decode cX1_find 33 = .ok (.sipush 650, 3) := by decide +kernel
theorem dX1_find_36 : decode cX1_find 36 = .ok (.if_icmp .ge 22, 3) := by decide +kernel
theorem dX1_find_39 : decode cX1_find 39 = .ok (.iload 4, 2) := by decide +kernel
theorem dX1_find_41 : decode cX1_find 41 = .ok (.ifCond .eq 17, 3) := by decide +kernel
theorem dX1_find_44 : decode cX1_find 44 = .ok (.aload_n 0, 1) := by decide +kernel
theorem dX1_find_45 : decode cX1_find 45 = .ok (.aload_n 1, 1) := by decide +kernel
theorem dX1_find_46 : decode cX1_find 46 = .ok (.iload_n 2, 1) := by decide +kernel
theorem dX1_find_47 : decode cX1_find 47 = .ok (.invokevirtual 38, 3) := by decide +kernel
theorem dX1_find_50 : decode cX1_find 50 = .ok (.istore 4, 2) := by decide +kernel
theorem dX1_find_52 : decode cX1_find 52 = .ok (.iinc 5 1, 3) := by decide +kernel
theorem dX1_find_55 : decode cX1_find 55 = .ok (.goto (-24), 3) := by decide +kernel
theorem dX1_find_58 : decode cX1_find 58 = .ok (.aload_n 3, 1) := by decide +kernel
theorem dX1_find_59 : decode cX1_find 59 = .ok (.aload_n 0, 1) := by decide +kernel
theorem dX1_find_60 : decode cX1_find 60 = .ok (.getfield 12, 3) := by decide +kernel
theorem dX1_find_63 : decode cX1_find 63 = .ok (.invokevirtual 42, 3) := by decide +kernel
theorem dX1_find_66 : decode cX1_find 66 = .ok (.return_, 1) := by decide +kernel
theorem dX1_pass_0 : decode cX1_pass 0 = .ok (.iconst 0, 1) := by decide +kernel
theorem dX1_pass_1 : decode cX1_pass 1 = .ok (.istore_n 3, 1) := by decide +kernel
theorem dX1_pass_2 : decode cX1_pass 2 = .ok (.aload_n 0, 1) := by decide +kernel
theorem dX1_pass_3 : decode cX1_pass 3 = .ok (.getfield 12, 3) := by decide +kernel
theorem dX1_pass_6 : decode cX1_pass 6 = .ok (.invokevirtual 35, 3) := by decide +kernel
theorem dX1_pass_9 : decode cX1_pass 9 = .ok (.aload_n 1, 1) := by decide +kernel
theorem dX1_pass_10 : decode cX1_pass 10 = .ok (.getfield 46, 3) := by decide +kernel
theorem dX1_pass_13 : decode cX1_pass 13 = .ok (.iconst 1, 1) := by decide +kernel
theorem dX1_pass_14 : decode cX1_pass 14 = .ok (.isub, 1) := by decide +kernel
theorem dX1_pass_15 : decode cX1_pass 15 = .ok (.istore 4, 2) := by decide +kernel
theorem dX1_pass_17 : decode cX1_pass 17 = .ok (.iload 4, 2) := by decide +kernel
theorem dX1_pass_19 : decode cX1_pass 19 = .ok (.ifCond .lt 75, 3) := by decide +kernel
theorem dX1_pass_22 : decode cX1_pass 22 = .ok (.aload_n 1, 1) := by decide +kernel
theorem dX1_pass_23 : decode cX1_pass 23 = .ok (.iload 4, 2) := by decide +kernel
theorem dX1_pass_25 : decode cX1_pass 25 = .ok (.invokevirtual 52, 3) := by decide +kernel
theorem dX1_pass_28 : decode cX1_pass 28 = .ok (.astore 5, 2) := by decide +kernel
theorem dX1_pass_30 : decode cX1_pass 30 = .ok (.aload 5, 2) := by decide +kernel
theorem dX1_pass_32 : decode cX1_pass 32 = .ok (.getfield 56, 3) := by decide +kernel
theorem dX1_pass_35 : decode cX1_pass 35 = .ok (.bipush 6, 2) := by decide +kernel
theorem dX1_pass_37 : decode cX1_pass 37 = .ok (.if_icmp .eq 13, 3) := by decide +kernel
theorem dX1_pass_40 : decode cX1_pass 40 = .ok (.aload 5, 2) := by decide +kernel
theorem dX1_pass_42 : decode cX1_pass 42 = .ok (.getfield 56, 3) := by decide +kernel
theorem dX1_pass_45 : decode cX1_pass 45 = .ok (.bipush 7, 2) := by decide +kernel
theorem dX1_pass_47 : decode cX1_pass 47 = .ok (.if_icmp .ne 15, 3) := by decide +kernel
theorem dX1_pass_50 : decode cX1_pass 50 = .ok (.iload_n 3, 1) := by decide +kernel
theorem dX1_pass_51 : decode cX1_pass 51 = .ok (.aload_n 0, 1) := by decide +kernel
theorem dX1_pass_52 : decode cX1_pass 52 = .ok (.aload 5, 2) := by decide +kernel
theorem dX1_pass_54 : decode cX1_pass 54 = .ok (.invokevirtual 61, 3) := by decide +kernel
theorem dX1_pass_57 : decode cX1_pass 57 = .ok (.ior, 1) := by decide +kernel
theorem dX1_pass_58 : decode cX1_pass 58 = .ok (.istore_n 3, 1) := by decide +kernel
theorem dX1_pass_59 : decode cX1_pass 59 = .ok (.goto 29, 3) := by decide +kernel
theorem dX1_pass_62 : decode cX1_pass 62 = .ok (.aload 5, 2) := by decide +kernel
theorem dX1_pass_64 : decode cX1_pass 64 = .ok (.getfield 56, 3) := by decide +kernel
theorem dX1_pass_67 : decode cX1_pass 67 = .ok (.bipush 8, 2) := by decide +kernel
theorem dX1_pass_69 : decode cX1_pass 69 = .ok (.if_icmp .lt 12, 3) := by decide +kernel
theorem dX1_pass_72 : decode cX1_pass 72 = .ok (.aload_n 0, 1) := by decide +kernel
theorem dX1_pass_73 : decode cX1_pass 73 = .ok (.aload 5, 2) := by decide +kernel
theorem dX1_pass_75 : decode cX1_pass 75 = .ok (.invokevirtual 65, 3) := by decide +kernel
theorem dX1_pass_78 : decode cX1_pass 78 = .ok (.goto 10, 3) := by decide +kernel
theorem dX1_pass_81 : decode cX1_pass 81 = .ok (.aload_n 0, 1) := by decide +kernel
theorem dX1_pass_82 : decode cX1_pass 82 = .ok (.aload 5, 2) := by decide +kernel
theorem dX1_pass_84 : decode cX1_pass 84 = .ok (.iload_n 2, 1) := by decide +kernel
theorem dX1_pass_85 : decode cX1_pass 85 = .ok (.invokevirtual 69, 3) := by decide +kernel
theorem dX1_pass_88 : decode cX1_pass 88 = .ok (.iinc 4 (-1), 3) := by decide +kernel
theorem dX1_pass_91 : decode cX1_pass 91 = .ok (.goto (-74), 3) := by decide +kernel
theorem dX1_pass_94 : decode cX1_pass 94 = .ok (.iload_n 3, 1) := by decide +kernel
theorem dX1_pass_95 : decode cX1_pass 95 = .ok (.ireturn, 1) := by decide +kernel
theorem dX1_passSimple_0 : decode cX1_passSimple 0 = .ok (.aload_n 1, 1) := by decide +kernel
theorem dX1_passSimple_1 : decode cX1_passSimple 1 = .ok (.getfield 56, 3) := by decide +kernel
theorem dX1_passSimple_4 : decode cX1_passSimple 4 = .ok (.tableswitch 106 0 3 #[32, 60, 76, 92], 32) := by decide +kernel
theorem dX1_passSimple_36 : decode cX1_passSimple 36 = .ok (.aload_n 0, 1) := by decide +kernel
theorem dX1_passSimple_37 : decode cX1_passSimple 37 = .ok (.getfield 12, 3) := by decide +kernel
theorem dX1_passSimple_40 : decode cX1_passSimple 40 = .ok (.aload_n 1, 1) := by decide +kernel
theorem dX1_passSimple_41 : decode cX1_passSimple 41 = .ok (.getfield 73, 3) := by decide +kernel
theorem dX1_passSimple_44 : decode cX1_passSimple 44 = .ok (.getfield 77, 3) := by decide +kernel
theorem dX1_passSimple_47 : decode cX1_passSimple 47 = .ok (.invokevirtual 82, 3) := by decide +kernel
theorem dX1_passSimple_50 : decode cX1_passSimple 50 = .ok (.aload_n 0, 1) := by decide +kernel
theorem dX1_passSimple_51 : decode cX1_passSimple 51 = .ok (.getfield 12, 3) := by decide +kernel
theorem dX1_passSimple_54 : decode cX1_passSimple 54 = .ok (.aload_n 1, 1) := by decide +kernel
theorem dX1_passSimple_55 : decode cX1_passSimple 55 = .ok (.getfield 85, 3) := by decide +kernel
theorem dX1_passSimple_58 : decode cX1_passSimple 58 = .ok (.invokevirtual 88, 3) := by decide +kernel
theorem dX1_passSimple_61 : decode cX1_passSimple 61 = .ok (.goto 96, 3) := by decide +kernel
theorem dX1_passSimple_64 : decode cX1_passSimple 64 = .ok (.aload_n 0, 1) := by decide +kernel
theorem dX1_passSimple_65 : decode cX1_passSimple 65 = .ok (.getfield 12, 3) := by decide +kernel
theorem dX1_passSimple_68 : decode cX1_passSimple 68 = .ok (.aload_n 1, 1) := by decide +kernel
theorem dX1_passSimple_69 : decode cX1_passSimple 69 = .ok (.getfield 85, 3) := by decide +kernel
theorem dX1_passSimple_72 : decode cX1_passSimple 72 = .ok (.iconst 0, 1) := by decide +kernel
theorem dX1_passSimple_73 : decode cX1_passSimple 73 = .ok (.iconst 1, 1) := by decide +kernel
theorem dX1_passSimple_74 : decode cX1_passSimple 74 = .ok (.invokevirtual 92, 3) := by decide +kernel
theorem dX1_passSimple_77 : decode cX1_passSimple 77 = .ok (.goto 80, 3) := by decide +kernel
theorem dX1_passSimple_80 : decode cX1_passSimple 80 = .ok (.aload_n 0, 1) := by decide +kernel
theorem dX1_passSimple_81 : decode cX1_passSimple 81 = .ok (.getfield 12, 3) := by decide +kernel
theorem dX1_passSimple_84 : decode cX1_passSimple 84 = .ok (.aload_n 1, 1) := by decide +kernel
theorem dX1_passSimple_85 : decode cX1_passSimple 85 = .ok (.getfield 85, 3) := by decide +kernel
theorem dX1_passSimple_88 : decode cX1_passSimple 88 = .ok (.iconst 1, 1) := by decide +kernel
theorem dX1_passSimple_89 : decode cX1_passSimple 89 = .ok (.iconst 0, 1) := by decide +kernel
theorem dX1_passSimple_90 : decode cX1_passSimple 90 = .ok (.invokevirtual 92, 3) := by decide +kernel
theorem dX1_passSimple_93 : decode cX1_passSimple 93 = .ok (.goto 64, 3) := by decide +kernel
theorem dX1_passSimple_96 : decode cX1_passSimple 96 = .ok (.aload_n 0, 1) := by decide +kernel
theorem dX1_passSimple_97 : decode cX1_passSimple 97 = .ok (.getfield 12, 3) := by decide +kernel
theorem dX1_passSimple_100 : decode cX1_passSimple 100 = .ok (.aload_n 1, 1) := by decide +kernel
theorem dX1_passSimple_101 : decode cX1_passSimple 101 = .ok (.getfield 85, 3) := by decide +kernel
theorem dX1_passSimple_104 : decode cX1_passSimple 104 = .ok (.invokevirtual 88, 3) := by decide +kernel
theorem dX1_passSimple_107 : decode cX1_passSimple 107 = .ok (.goto 50, 3) := by decide +kernel
theorem dX1_passSimple_110 : decode cX1_passSimple 110 = .ok (.aload_n 1, 1) := by decide +kernel
theorem dX1_passSimple_111 : decode cX1_passSimple 111 = .ok (.getfield 56, 3) := by decide +kernel
theorem dX1_passSimple_114 : decode cX1_passSimple 114 = .ok (.iconst 5, 1) := by decide +kernel
theorem dX1_passSimple_115 : decode cX1_passSimple 115 = .ok (.if_icmp .ne 28, 3) := by decide +kernel
theorem dX1_passSimple_118 : decode cX1_passSimple 118 = .ok (.aload_n 1, 1) := by decide +kernel
theorem dX1_passSimple_119 : decode cX1_passSimple 119 = .ok (.getfield 96, 3) := by decide +kernel
theorem dX1_passSimple_122 : decode cX1_passSimple 122 = .ok (.iload_n 2, 1) := by decide +kernel
theorem dX1_passSimple_123 : decode cX1_passSimple 123 = .ok (.if_icmp .ne 20, 3) := by decide +kernel
theorem dX1_passSimple_126 : decode cX1_passSimple 126 = .ok (.aload_n 0, 1) := by decide +kernel
theorem dX1_passSimple_127 : decode cX1_passSimple 127 = .ok (.getfield 12, 3) := by decide +kernel
theorem dX1_passSimple_130 : decode cX1_passSimple 130 = .ok (.aload_n 1, 1) := by decide +kernel
theorem dX1_passSimple_131 : decode cX1_passSimple 131 = .ok (.getfield 73, 3) := by decide +kernel
theorem dX1_passSimple_134 : decode cX1_passSimple 134 = .ok (.getfield 77, 3) := by decide +kernel
theorem dX1_passSimple_137 : decode cX1_passSimple 137 = .ok (.invokevirtual 99, 3) := by decide +kernel
theorem dX1_passSimple_140 : decode cX1_passSimple 140 = .ok (.goto 17, 3) := by decide +kernel
theorem dX1_passSimple_143 : decode cX1_passSimple 143 = .ok (.aload_n 0, 1) := by decide +kernel
theorem dX1_passSimple_144 : decode cX1_passSimple 144 = .ok (.getfield 12, 3) := by decide +kernel
theorem dX1_passSimple_147 : decode cX1_passSimple 147 = .ok (.aload_n 1, 1) := by decide +kernel
theorem dX1_passSimple_148 : decode cX1_passSimple 148 = .ok (.getfield 73, 3) := by decide +kernel
theorem dX1_passSimple_151 : decode cX1_passSimple 151 = .ok (.getfield 77, 3) := by decide +kernel
theorem dX1_passSimple_154 : decode cX1_passSimple 154 = .ok (.invokevirtual 82, 3) := by decide +kernel
theorem dX1_passSimple_157 : decode cX1_passSimple 157 = .ok (.return_, 1) := by decide +kernel
theorem dX1_passLoop_0 : decode cX1_passLoop 0 = .ok (.aload_n 1, 1) := by decide +kernel
theorem dX1_passLoop_1 : decode cX1_passLoop 1 = .ok (.getfield 96, 3) := by decide +kernel
theorem dX1_passLoop_4 : decode cX1_passLoop 4 = .ok (.istore_n 2, 1) := by decide +kernel
theorem dX1_passLoop_5 : decode cX1_passLoop 5 = .ok (.iload_n 2, 1) := by decide +kernel
theorem dX1_passLoop_6 : decode cX1_passLoop 6 = .ok (.ifCond .lt 21, 3) := by decide +kernel
theorem dX1_passLoop_9 : decode cX1_passLoop 9 = .ok (.iload_n 2, 1) := by decide +kernel
theorem dX1_passLoop_10 : decode cX1_passLoop 10 = .ok (.aload_n 0, 1) := by decide +kernel
theorem dX1_passLoop_11 : decode cX1_passLoop 11 = .ok (.getfield 22, 3) := by decide +kernel
theorem dX1_passLoop_14 : decode cX1_passLoop 14 = .ok (.arraylength, 1) := by decide +kernel
theorem dX1_passLoop_15 : decode cX1_passLoop 15 = .ok (.if_icmp .ge 12, 3) := by decide +kernel
theorem dX1_passLoop_18 : decode cX1_passLoop 18 = .ok (.iload_n 2, 1) := by decide +kernel
theorem dX1_passLoop_19 : decode cX1_passLoop 19 = .ok (.aload_n 0, 1) := by decide +kernel
theorem dX1_passLoop_20 : decode cX1_passLoop 20 = .ok (.getfield 26, 3) := by decide +kernel
theorem dX1_passLoop_23 : decode cX1_passLoop 23 = .ok (.arraylength, 1) := by decide +kernel
theorem dX1_passLoop_24 : decode cX1_passLoop 24 = .ok (.if_icmp .lt 5, 3) := by decide +kernel
theorem dX1_passLoop_27 : decode cX1_passLoop 27 = .ok (.iconst 0, 1) := by decide +kernel
theorem dX1_passLoop_28 : decode cX1_passLoop 28 = .ok (.ireturn, 1) := by decide +kernel
theorem dX1_passLoop_29 : decode cX1_passLoop 29 = .ok (.aload_n 1, 1) := by decide +kernel
theorem dX1_passLoop_30 : decode cX1_passLoop 30 = .ok (.getfield 56, 3) := by decide +kernel
theorem dX1_passLoop_33 : decode cX1_passLoop 33 = .ok (.bipush 7, 2) := by decide +kernel
theorem dX1_passLoop_35 : decode cX1_passLoop 35 = .ok (.if_icmp .ne 31, 3) := by decide +kernel
theorem dX1_passLoop_38 : decode cX1_passLoop 38 = .ok (.aload_n 0, 1) := by decide +kernel
theorem dX1_passLoop_39 : decode cX1_passLoop 39 = .ok (.getfield 26, 3) := by decide +kernel
theorem dX1_passLoop_42 : decode cX1_passLoop 42 = .ok (.iload_n 2, 1) := by decide +kernel
theorem dX1_passLoop_43 : decode cX1_passLoop 43 = .ok (.aaload, 1) := by decide +kernel
theorem dX1_passLoop_44 : decode cX1_passLoop 44 = .ok (.aload_n 0, 1) := by decide +kernel
theorem dX1_passLoop_45 : decode cX1_passLoop 45 = .ok (.getfield 12, 3) := by decide +kernel
theorem dX1_passLoop_48 : decode cX1_passLoop 48 = .ok (.invokevirtual 42, 3) := by decide +kernel
theorem dX1_passLoop_51 : decode cX1_passLoop 51 = .ok (.aload_n 0, 1) := by decide +kernel
theorem dX1_passLoop_52 : decode cX1_passLoop 52 = .ok (.getfield 12, 3) := by decide +kernel
theorem dX1_passLoop_55 : decode cX1_passLoop 55 = .ok (.aload_n 0, 1) := by decide +kernel
theorem dX1_passLoop_56 : decode cX1_passLoop 56 = .ok (.getfield 22, 3) := by decide +kernel
theorem dX1_passLoop_59 : decode cX1_passLoop 59 = .ok (.iload_n 2, 1) := by decide +kernel
theorem dX1_passLoop_60 : decode cX1_passLoop 60 = .ok (.aaload, 1) := by decide +kernel
theorem dX1_passLoop_61 : decode cX1_passLoop 61 = .ok (.invokevirtual 42, 3) := by decide +kernel
theorem dX1_passLoop_64 : decode cX1_passLoop 64 = .ok (.iconst 0, 1) := by decide +kernel
theorem dX1_passLoop_65 : decode cX1_passLoop 65 = .ok (.ireturn, 1) := by decide +kernel
theorem dX1_passLoop_66 : decode cX1_passLoop 66 = .ok (.aload_n 0, 1) := by decide +kernel
theorem dX1_passLoop_67 : decode cX1_passLoop 67 = .ok (.getfield 12, 3) := by decide +kernel
theorem dX1_passLoop_70 : decode cX1_passLoop 70 = .ok (.aload_n 1, 1) := by decide +kernel
theorem dX1_passLoop_71 : decode cX1_passLoop 71 = .ok (.getfield 73, 3) := by decide +kernel
theorem dX1_passLoop_74 : decode cX1_passLoop 74 = .ok (.getfield 77, 3) := by decide +kernel
theorem dX1_passLoop_77 : decode cX1_passLoop 77 = .ok (.invokevirtual 82, 3) := by decide +kernel
theorem dX1_passLoop_80 : decode cX1_passLoop 80 = .ok (.aload_n 0, 1) := by decide +kernel
theorem dX1_passLoop_81 : decode cX1_passLoop 81 = .ok (.getfield 26, 3) := by decide +kernel
theorem dX1_passLoop_84 : decode cX1_passLoop 84 = .ok (.iload_n 2, 1) := by decide +kernel
theorem dX1_passLoop_85 : decode cX1_passLoop 85 = .ok (.aaload, 1) := by decide +kernel
theorem dX1_passLoop_86 : decode cX1_passLoop 86 = .ok (.aload_n 1, 1) := by decide +kernel
theorem dX1_passLoop_87 : decode cX1_passLoop 87 = .ok (.getfield 73, 3) := by decide +kernel
theorem dX1_passLoop_90 : decode cX1_passLoop 90 = .ok (.getfield 77, 3) := by decide +kernel
theorem dX1_passLoop_93 : decode cX1_passLoop 93 = .ok (.invokevirtual 102, 3) := by decide +kernel
theorem dX1_passLoop_96 : decode cX1_passLoop 96 = .ok (.aload_n 0, 1) := by decide +kernel
theorem dX1_passLoop_97 : decode cX1_passLoop 97 = .ok (.getfield 12, 3) := by decide +kernel
theorem dX1_passLoop_100 : decode cX1_passLoop 100 = .ok (.aload_n 0, 1) := by decide +kernel
theorem dX1_passLoop_101 : decode cX1_passLoop 101 = .ok (.getfield 26, 3) := by decide +kernel
theorem dX1_passLoop_104 : decode cX1_passLoop 104 = .ok (.iload_n 2, 1) := by decide +kernel
theorem dX1_passLoop_105 : decode cX1_passLoop 105 = .ok (.aaload, 1) := by decide +kernel
theorem dX1_passLoop_106 : decode cX1_passLoop 106 = .ok (.invokevirtual 105, 3) := by decide +kernel
theorem dX1_passLoop_109 : decode cX1_passLoop 109 = .ok (.pop, 1) := by decide +kernel
theorem dX1_passLoop_110 : decode cX1_passLoop 110 = .ok (.aload_n 0, 1) := by decide +kernel
theorem dX1_passLoop_111 : decode cX1_passLoop 111 = .ok (.getfield 22, 3) := by decide +kernel
theorem dX1_passLoop_114 : decode cX1_passLoop 114 = .ok (.iload_n 2, 1) := by decide +kernel
theorem dX1_passLoop_115 : decode cX1_passLoop 115 = .ok (.aaload, 1) := by decide +kernel
theorem dX1_passLoop_116 : decode cX1_passLoop 116 = .ok (.aload_n 0, 1) := by decide +kernel
theorem dX1_passLoop_117 : decode cX1_passLoop 117 = .ok (.getfield 12, 3) := by decide +kernel
theorem dX1_passLoop_120 : decode cX1_passLoop 120 = .ok (.invokevirtual 105, 3) := by decide +kernel
theorem dX1_passLoop_123 : decode cX1_passLoop 123 = .ok (.ireturn, 1) := by decide +kernel
theorem dX1_passChoice_0 : decode cX1_passChoice 0 = .ok (.aload_n 1, 1) := by decide +kernel
theorem dX1_passChoice_1 : decode cX1_passChoice 1 = .ok (.getfield 96, 3) := by decide +kernel
theorem dX1_passChoice_4 : decode cX1_passChoice 4 = .ok (.istore_n 2, 1) := by decide +kernel
theorem dX1_passChoice_5 : decode cX1_passChoice 5 = .ok (.iload_n 2, 1) := by decide +kernel
theorem dX1_passChoice_6 : decode cX1_passChoice 6 = .ok (.ifCond .lt 21, 3) := by decide +kernel
theorem dX1_passChoice_9 : decode cX1_passChoice 9 = .ok (.iload_n 2, 1) := by decide +kernel
theorem dX1_passChoice_10 : decode cX1_passChoice 10 = .ok (.aload_n 0, 1) := by decide +kernel
theorem dX1_passChoice_11 : decode cX1_passChoice 11 = .ok (.getfield 29, 3) := by decide +kernel
theorem dX1_passChoice_14 : decode cX1_passChoice 14 = .ok (.arraylength, 1) := by decide +kernel
theorem dX1_passChoice_15 : decode cX1_passChoice 15 = .ok (.if_icmp .ge 12, 3) := by decide +kernel
theorem dX1_passChoice_18 : decode cX1_passChoice 18 = .ok (.iload_n 2, 1) := by decide +kernel
theorem dX1_passChoice_19 : decode cX1_passChoice 19 = .ok (.aload_n 0, 1) := by decide +kernel
theorem dX1_passChoice_20 : decode cX1_passChoice 20 = .ok (.getfield 32, 3) := by decide +kernel
theorem dX1_passChoice_23 : decode cX1_passChoice 23 = .ok (.arraylength, 1) := by decide +kernel
theorem dX1_passChoice_24 : decode cX1_passChoice 24 = .ok (.if_icmp .lt 4, 3) := by decide +kernel
theorem dX1_passChoice_27 : decode cX1_passChoice 27 = .ok (.return_, 1) := by decide +kernel
theorem dX1_passChoice_28 : decode cX1_passChoice 28 = .ok (.aload_n 1, 1) := by decide +kernel
theorem dX1_passChoice_29 : decode cX1_passChoice 29 = .ok (.getfield 56, 3) := by decide +kernel
theorem dX1_passChoice_32 : decode cX1_passChoice 32 = .ok (.bipush 10, 2) := by decide +kernel
theorem dX1_passChoice_34 : decode cX1_passChoice 34 = .ok (.if_icmp .ne 19, 3) := by decide +kernel
theorem dX1_passChoice_37 : decode cX1_passChoice 37 = .ok (.aload_n 0, 1) := by decide +kernel
theorem dX1_passChoice_38 : decode cX1_passChoice 38 = .ok (.getfield 29, 3) := by decide +kernel
theorem dX1_passChoice_41 : decode cX1_passChoice 41 = .ok (.iload_n 2, 1) := by decide +kernel
theorem dX1_passChoice_42 : decode cX1_passChoice 42 = .ok (.aaload, 1) := by decide +kernel
theorem dX1_passChoice_43 : decode cX1_passChoice 43 = .ok (.aload_n 0, 1) := by decide +kernel
theorem dX1_passChoice_44 : decode cX1_passChoice 44 = .ok (.getfield 12, 3) := by decide +kernel
theorem dX1_passChoice_47 : decode cX1_passChoice 47 = .ok (.invokevirtual 42, 3) := by decide +kernel
theorem dX1_passChoice_50 : decode cX1_passChoice 50 = .ok (.goto 55, 3) := by decide +kernel
theorem dX1_passChoice_53 : decode cX1_passChoice 53 = .ok (.aload_n 1, 1) := by decide +kernel
theorem dX1_passChoice_54 : decode cX1_passChoice 54 = .ok (.getfield 56, 3) := by decide +kernel
theorem dX1_passChoice_57 : decode cX1_passChoice 57 = .ok (.bipush 9, 2) := by decide +kernel
theorem dX1_passChoice_59 : decode cX1_passChoice 59 = .ok (.if_icmp .ne 32, 3) := by decide +kernel
theorem dX1_passChoice_62 : decode cX1_passChoice 62 = .ok (.aload_n 0, 1) := by decide +kernel
theorem dX1_passChoice_63 : decode cX1_passChoice 63 = .ok (.getfield 32, 3) := by decide +kernel
theorem dX1_passChoice_66 : decode cX1_passChoice 66 = .ok (.iload_n 2, 1) := by decide +kernel
theorem dX1_passChoice_67 : decode cX1_passChoice 67 = .ok (.aaload, 1) := by decide +kernel
theorem dX1_passChoice_68 : decode cX1_passChoice 68 = .ok (.aload_n 0, 1) := by decide +kernel
theorem dX1_passChoice_69 : decode cX1_passChoice 69 = .ok (.getfield 12, 3) := by decide +kernel
theorem dX1_passChoice_72 : decode cX1_passChoice 72 = .ok (.invokevirtual 42, 3) := by decide +kernel
theorem dX1_passChoice_75 : decode cX1_passChoice 75 = .ok (.aload_n 0, 1) := by decide +kernel
theorem dX1_passChoice_76 : decode cX1_passChoice 76 = .ok (.getfield 12, 3) := by decide +kernel
theorem dX1_passChoice_79 : decode cX1_passChoice 79 = .ok (.aload_n 0, 1) := by decide +kernel
theorem dX1_passChoice_80 : decode cX1_passChoice 80 = .ok (.getfield 29, 3) := by decide +kernel
theorem dX1_passChoice_83 : decode cX1_passChoice 83 = .ok (.iload_n 2, 1) := by decide +kernel
theorem dX1_passChoice_84 : decode cX1_passChoice 84 = .ok (.aaload, 1) := by decide +kernel
theorem dX1_passChoice_85 : decode cX1_passChoice 85 = .ok (.invokevirtual 42, 3) := by decide +kernel
theorem dX1_passChoice_88 : decode cX1_passChoice 88 = .ok (.goto 17, 3) := by decide +kernel
theorem dX1_passChoice_91 : decode cX1_passChoice 91 = .ok (.aload_n 0, 1) := by decide +kernel
theorem dX1_passChoice_92 : decode cX1_passChoice 92 = .ok (.getfield 12, 3) := by decide +kernel
theorem dX1_passChoice_95 : decode cX1_passChoice 95 = .ok (.aload_n 0, 1) := by decide +kernel
theorem dX1_passChoice_96 : decode cX1_passChoice 96 = .ok (.getfield 32, 3) := by decide +kernel
theorem dX1_passChoice_99 : decode cX1_passChoice 99 = .ok (.iload_n 2, 1) := by decide +kernel
theorem dX1_passChoice_100 : decode cX1_passChoice 100 = .ok (.aaload, 1) := by decide +kernel
theorem dX1_passChoice_101 : decode cX1_passChoice 101 = .ok (.invokevirtual 105, 3) := by decide +kernel
theorem dX1_passChoice_104 : decode cX1_passChoice 104 = .ok (.pop, 1) := by decide +kernel
theorem dX1_passChoice_105 : decode cX1_passChoice 105 = .ok (.return_, 1) := by decide +kernel
theorem dX2_init_0 : decode cX2_init 0 = .ok (.aload_n 0, 1) := by decide +kernel
theorem dX2_init_1 : decode cX2_init 1 = .ok (.invokespecial 3, 3) := by decide +kernel
theorem dX2_init_4 : decode cX2_init 4 = .ok (.aload_n 0, 1) := by decide +kernel
theorem dX2_init_5 : decode cX2_init 5 = .ok (.bipush 60, 2) := by decide +kernel
theorem dX2_init_7 : decode cX2_init 7 = .ok (.anewarray 9, 3) := by decide +kernel
theorem dX2_init_10 : decode cX2_init 10 = .ok (.putfield 11, 3) := by decide +kernel
theorem dX2_init_13 : decode cX2_init 13 = .ok (.aload_n 0, 1) := by decide +kernel
theorem dX2_init_14 : decode cX2_init 14 = .ok (.bipush 20, 2) := by decide +kernel
theorem dX2_init_16 : decode cX2_init 16 = .ok (.anewarray 17, 3) := by decide +kernel
theorem dX2_init_19 : decode cX2_init 19 = .ok (.putfield 19, 3) := by decide +kernel
theorem dX2_init_22 : decode cX2_init 22 = .ok (.aload_n 0, 1) := by decide +kernel
theorem dX2_init_23 : decode cX2_init 23 = .ok (.iconst 5, 1) := by decide +kernel
theorem dX2_init_24 : decode cX2_init 24 = .ok (.anewarray 17, 3) := by decide +kernel
theorem dX2_init_27 : decode cX2_init 27 = .ok (.putfield 23, 3) := by decide +kernel
theorem dX2_init_30 : decode cX2_init 30 = .ok (.aload_n 0, 1) := by decide +kernel
theorem dX2_init_31 : decode cX2_init 31 = .ok (.iconst 4, 1) := by decide +kernel
theorem dX2_init_32 : decode cX2_init 32 = .ok (.anewarray 17, 3) := by decide +kernel
theorem dX2_init_35 : decode cX2_init 35 = .ok (.putfield 26, 3) := by decide +kernel
theorem dX2_init_38 : decode cX2_init 38 = .ok (.iconst 0, 1) := by decide +kernel
theorem dX2_init_39 : decode cX2_init 39 = .ok (.istore_n 1, 1) := by decide +kernel
theorem dX2_init_40 : decode cX2_init 40 = .ok (.iload_n 1, 1) := by decide +kernel
theorem dX2_init_41 : decode cX2_init 41 = .ok (.aload_n 0, 1) := by decide +kernel
theorem dX2_init_42 : decode cX2_init 42 = .ok (.getfield 19, 3) := by decide +kernel
theorem dX2_init_45 : decode cX2_init 45 = .ok (.arraylength, 1) := by decide +kernel
theorem dX2_init_46 : decode cX2_init 46 = .ok (.if_icmp .ge 22, 3) := by decide +kernel
theorem dX2_init_49 : decode cX2_init 49 = .ok (.aload_n 0, 1) := by decide +kernel
theorem dX2_init_50 : decode cX2_init 50 = .ok (.getfield 19, 3) := by decide +kernel
theorem dX2_init_53 : decode cX2_init 53 = .ok (.iload_n 1, 1) := by decide +kernel
theorem dX2_init_54 : decode cX2_init 54 = .ok (.new 17, 3) := by decide +kernel
theorem dX2_init_57 : decode cX2_init 57 = .ok (.dup, 1) := by decide +kernel
theorem dX2_init_58 : decode cX2_init 58 = .ok (.invokespecial 29, 3) := by decide +kernel
theorem dX2_init_61 : decode cX2_init 61 = .ok (.aastore, 1) := by decide +kernel
theorem dX2_init_62 : decode cX2_init 62 = .ok (.iinc 1 1, 3) := by decide +kernel
theorem dX2_init_65 : decode cX2_init 65 = .ok (.goto (-25), 3) := by decide +kernel
theorem dX2_init_68 : decode cX2_init 68 = .ok (.iconst 0, 1) := by decide +kernel
theorem dX2_init_69 : decode cX2_init 69 = .ok (.istore_n 1, 1) := by decide +kernel
theorem dX2_init_70 : decode cX2_init 70 = .ok (.iload_n 1, 1) := by decide +kernel
theorem dX2_init_71 : decode cX2_init 71 = .ok (.aload_n 0, 1) := by decide +kernel
theorem dX2_init_72 : decode cX2_init 72 = .ok (.getfield 11, 3) := by decide +kernel
theorem dX2_init_75 : decode cX2_init 75 = .ok (.arraylength, 1) := by decide +kernel
theorem dX2_init_76 : decode cX2_init 76 = .ok (.if_icmp .ge 28, 3) := by decide +kernel
theorem dX2_init_79 : decode cX2_init 79 = .ok (.aload_n 0, 1) := by decide +kernel
theorem dX2_init_80 : decode cX2_init 80 = .ok (.getfield 11, 3) := by decide +kernel
theorem dX2_init_83 : decode cX2_init 83 = .ok (.iload_n 1, 1) := by decide +kernel
theorem dX2_init_84 : decode cX2_init 84 = .ok (.new 9, 3) := by decide +kernel
theorem dX2_init_87 : decode cX2_init 87 = .ok (.dup, 1) := by decide +kernel
theorem dX2_init_88 : decode cX2_init 88 = .ok (.aload_n 0, 1) := by decide +kernel
theorem dX2_init_89 : decode cX2_init 89 = .ok (.getfield 19, 3) := by decide +kernel
theorem dX2_init_92 : decode cX2_init 92 = .ok (.iconst 0, 1) := by decide +kernel
theorem dX2_init_93 : decode cX2_init 93 = .ok (.aaload, 1) := by decide +kernel
theorem dX2_init_94 : decode cX2_init 94 = .ok (.invokespecial 30, 3) := by decide +kernel
theorem dX2_init_97 : decode cX2_init 97 = .ok (.aastore, 1) := by decide +kernel
theorem dX2_init_98 : decode cX2_init 98 = .ok (.iinc 1 1, 3) := by decide +kernel
theorem dX2_init_101 : decode cX2_init 101 = .ok (.goto (-31), 3) := by decide +kernel
theorem dX2_init_104 : decode cX2_init 104 = .ok (.iconst 0, 1) := by decide +kernel
theorem dX2_init_105 : decode cX2_init 105 = .ok (.istore_n 1, 1) := by decide +kernel
theorem dX2_init_106 : decode cX2_init 106 = .ok (.iload_n 1, 1) := by decide +kernel
theorem dX2_init_107 : decode cX2_init 107 = .ok (.aload_n 0, 1) := by decide +kernel
theorem dX2_init_108 : decode cX2_init 108 = .ok (.getfield 23, 3) := by decide +kernel
theorem dX2_init_111 : decode cX2_init 111 = .ok (.arraylength, 1) := by decide +kernel
theorem dX2_init_112 : decode cX2_init 112 = .ok (.if_icmp .ge 21, 3) := by decide +kernel
theorem dX2_init_115 : decode cX2_init 115 = .ok (.aload_n 0, 1) := by decide +kernel
theorem dX2_init_116 : decode cX2_init 116 = .ok (.getfield 23, 3) := by decide +kernel
theorem dX2_init_119 : decode cX2_init 119 = .ok (.iload_n 1, 1) := by decide +kernel
theorem dX2_init_120 : decode cX2_init 120 = .ok (.aload_n 0, 1) := by decide +kernel
theorem dX2_init_121 : decode cX2_init 121 = .ok (.getfield 19, 3) := by decide +kernel
theorem dX2_init_124 : decode cX2_init 124 = .ok (.iconst 0, 1) := by decide +kernel
theorem dX2_init_125 : decode cX2_init 125 = .ok (.aaload, 1) := by decide +kernel
theorem dX2_init_126 : decode cX2_init 126 = .ok (.aastore, 1) := by decide +kernel
theorem dX2_init_127 : decode cX2_init 127 = .ok (.iinc 1 1, 3) := by decide +kernel
theorem dX2_init_130 : decode cX2_init 130 = .ok (.goto (-24), 3) := by decide +kernel
theorem dX2_init_133 : decode cX2_init 133 = .ok (.iconst 0, 1) := by decide +kernel
theorem dX2_init_134 : decode cX2_init 134 = .ok (.istore_n 1, 1) := by decide +kernel
theorem dX2_init_135 : decode cX2_init 135 = .ok (.iload_n 1, 1) := by decide +kernel
theorem dX2_init_136 : decode cX2_init 136 = .ok (.aload_n 0, 1) := by decide +kernel
theorem dX2_init_137 : decode cX2_init 137 = .ok (.getfield 26, 3) := by decide +kernel
theorem dX2_init_140 : decode cX2_init 140 = .ok (.arraylength, 1) := by decide +kernel
theorem dX2_init_141 : decode cX2_init 141 = .ok (.if_icmp .ge 21, 3) := by decide +kernel
theorem dX2_init_144 : decode cX2_init 144 = .ok (.aload_n 0, 1) := by decide +kernel
theorem dX2_init_145 : decode cX2_init 145 = .ok (.getfield 26, 3) := by decide +kernel
theorem dX2_init_148 : decode cX2_init 148 = .ok (.iload_n 1, 1) := by decide +kernel
theorem dX2_init_149 : decode cX2_init 149 = .ok (.aload_n 0, 1) := by decide +kernel
theorem dX2_init_150 : decode cX2_init 150 = .ok (.getfield 19, 3) := by decide +kernel
theorem dX2_init_153 : decode cX2_init 153 = .ok (.iconst 0, 1) := by decide +kernel
theorem dX2_init_154 : decode cX2_init 154 = .ok (.aaload, 1) := by decide +kernel
theorem dX2_init_155 : decode cX2_init 155 = .ok (.aastore, 1) := by decide +kernel
theorem dX2_init_156 : decode cX2_init 156 = .ok (.iinc 1 1, 3) := by decide +kernel
theorem dX2_init_159 : decode cX2_init 159 = .ok (.goto (-24), 3) := by decide +kernel
theorem dX2_init_162 : decode cX2_init 162 = .ok (.return_, 1) := by decide +kernel
theorem dX2_clear_0 : decode cX2_clear 0 = .ok (.aload_n 0, 1) := by decide +kernel
theorem dX2_clear_1 : decode cX2_clear 1 = .ok (.iconst 0, 1) := by decide +kernel
theorem dX2_clear_2 : decode cX2_clear 2 = .ok (.putfield 33, 3) := by decide +kernel
theorem dX2_clear_5 : decode cX2_clear 5 = .ok (.aload_n 0, 1) := by decide +kernel
theorem dX2_clear_6 : decode cX2_clear 6 = .ok (.iconst 0, 1) := by decide +kernel
theorem dX2_clear_7 : decode cX2_clear 7 = .ok (.putfield 37, 3) := by decide +kernel
theorem dX2_clear_10 : decode cX2_clear 10 = .ok (.aload_n 0, 1) := by decide +kernel
theorem dX2_clear_11 : decode cX2_clear 11 = .ok (.iconst 0, 1) := by decide +kernel
theorem dX2_clear_12 : decode cX2_clear 12 = .ok (.putfield 40, 3) := by decide +kernel
theorem dX2_clear_15 : decode cX2_clear 15 = .ok (.aload_n 0, 1) := by decide +kernel
theorem dX2_clear_16 : decode cX2_clear 16 = .ok (.iconst 0, 1) := by decide +kernel
theorem dX2_clear_17 : decode cX2_clear 17 = .ok (.putfield 43, 3) := by decide +kernel
theorem dX2_clear_20 : decode cX2_clear 20 = .ok (.aload_n 0, 1) := by decide +kernel
theorem dX2_clear_21 : decode cX2_clear 21 = .ok (.iconst 0, 1) := by decide +kernel
theorem dX2_clear_22 : decode cX2_clear 22 = .ok (.putfield 46, 3) := by decide +kernel
theorem dX2_clear_25 : decode cX2_clear 25 = .ok (.aload_n 0, 1) := by decide +kernel
theorem dX2_clear_26 : decode cX2_clear 26 = .ok (.iconst 0, 1) := by decide +kernel
theorem dX2_clear_27 : decode cX2_clear 27 = .ok (.putfield 49, 3) := by decide +kernel
theorem dX2_clear_30 : decode cX2_clear 30 = .ok (.aload_n 0, 1) := by decide +kernel
theorem dX2_clear_31 : decode cX2_clear 31 = .ok (.iconst 0, 1) := by decide +kernel
theorem dX2_clear_32 : decode cX2_clear 32 = .ok (.putfield 52, 3) := by decide +kernel
theorem dX2_clear_35 : decode cX2_clear 35 = .ok (.return_, 1) := by decide +kernel
theorem dX2_at_0 : decode cX2_at 0 = .ok (.aload_n 0, 1) := by decide +kernel
theorem dX2_at_1 : decode cX2_at 1 = .ok (.getfield 11, 3) := by decide +kernel
theorem dX2_at_4 : decode cX2_at 4 = .ok (.iload_n 1, 1) := by decide +kernel
theorem dX2_at_5 : decode cX2_at 5 = .ok (.ifCond .lt 12, 3) := by decide +kernel
theorem dX2_at_8 : decode cX2_at 8 = .ok (.iload_n 1, 1) := by decide +kernel
theorem dX2_at_9 : decode cX2_at 9 = .ok (.aload_n 0, 1) := by decide +kernel
theorem dX2_at_10 : decode cX2_at 10 = .ok (.getfield 11, 3) := by decide +kernel
theorem dX2_at_13 : decode cX2_at 13 = .ok (.arraylength, 1) := by decide +kernel
theorem dX2_at_14 : decode cX2_at 14 = .ok (.if_icmp .lt 7, 3) := by decide +kernel
theorem dX2_at_17 : decode cX2_at 17 = .ok (.iconst 0, 1) := by decide +kernel
theorem dX2_at_18 : decode cX2_at 18 = .ok (.goto 4, 3) := by decide +kernel
theorem dX2_at_21 : decode cX2_at 21 = .ok (.iload_n 1, 1) := by decide +kernel
theorem dX2_at_22 : decode cX2_at 22 = .ok (.aaload, 1) := by decide +kernel
theorem dX2_at_23 : decode cX2_at 23 = .ok (.areturn, 1) := by decide +kernel
theorem dX2_append_0 : decode cX2_append 0 = .ok (.aload_n 0, 1) := by decide +kernel
theorem dX2_append_1 : decode cX2_append 1 = .ok (.aload_n 0, 1) := by decide +kernel
theorem dX2_append_2 : decode cX2_append 2 = .ok (.getfield 33, 3) := by decide +kernel
theorem dX2_append_5 : decode cX2_append 5 = .ok (.invokevirtual 55, 3) := by decide +kernel
theorem dX2_append_8 : decode cX2_append 8 = .ok (.astore_n 2, 1) := by decide +kernel
theorem dX2_append_9 : decode cX2_append 9 = .ok (.aload_n 0, 1) := by decide +kernel
theorem dX2_append_10 : decode cX2_append 10 = .ok (.aload_n 0, 1) := by decide +kernel
theorem dX2_append_11 : decode cX2_append 11 = .ok (.getfield 33, 3) := by decide +kernel
theorem dX2_append_14 : decode cX2_append 14 = .ok (.iconst 1, 1) := by decide +kernel
theorem dX2_append_15 : decode cX2_append 15 = .ok (.iadd, 1) := by decide +kernel
theorem dX2_append_16 : decode cX2_append 16 = .ok (.aload_n 0, 1) := by decide +kernel
theorem dX2_append_17 : decode cX2_append 17 = .ok (.getfield 11, 3) := by decide +kernel
theorem dX2_append_20 : decode cX2_append 20 = .ok (.arraylength, 1) := by decide +kernel
theorem dX2_append_21 : decode cX2_append 21 = .ok (.invokestatic 59, 3) := by decide +kernel
theorem dX2_append_24 : decode cX2_append 24 = .ok (.putfield 33, 3) := by decide +kernel
theorem dX2_append_27 : decode cX2_append 27 = .ok (.aload_n 2, 1) := by decide +kernel
theorem dX2_append_28 : decode cX2_append 28 = .ok (.iload_n 1, 1) := by decide +kernel
theorem dX2_append_29 : decode cX2_append 29 = .ok (.putfield 65, 3) := by decide +kernel
theorem dX2_append_32 : decode cX2_append 32 = .ok (.aload_n 2, 1) := by decide +kernel
theorem dX2_append_33 : decode cX2_append 33 = .ok (.aload_n 0, 1) := by decide +kernel
theorem dX2_append_34 : decode cX2_append 34 = .ok (.getfield 19, 3) := by decide +kernel
theorem dX2_append_37 : decode cX2_append 37 = .ok (.iconst 0, 1) := by decide +kernel
theorem dX2_append_38 : decode cX2_append 38 = .ok (.aaload, 1) := by decide +kernel
theorem dX2_append_39 : decode cX2_append 39 = .ok (.putfield 68, 3) := by decide +kernel
theorem dX2_append_42 : decode cX2_append 42 = .ok (.aload_n 2, 1) := by decide +kernel
theorem dX2_append_43 : decode cX2_append 43 = .ok (.invokevirtual 72, 3) := by decide +kernel
theorem dX2_append_46 : decode cX2_append 46 = .ok (.ifCond .eq 13, 3) := by decide +kernel
theorem dX2_append_49 : decode cX2_append 49 = .ok (.aload_n 0, 1) := by decide +kernel
theorem dX2_append_50 : decode cX2_append 50 = .ok (.dup, 1) := by decide +kernel
theorem dX2_append_51 : decode cX2_append 51 = .ok (.getfield 52, 3) := by decide +kernel
theorem dX2_append_54 : decode cX2_append 54 = .ok (.iconst 1, 1) := by decide +kernel
theorem dX2_append_55 : decode cX2_append 55 = .ok (.iadd, 1) := by decide +kernel
theorem dX2_append_56 : decode cX2_append 56 = .ok (.putfield 52, 3) := by decide +kernel
theorem dX2_append_59 : decode cX2_append 59 = .ok (.aload_n 2, 1) := by decide +kernel
theorem dX2_append_60 : decode cX2_append 60 = .ok (.areturn, 1) := by decide +kernel
theorem dX2_newCondition_0 : decode cX2_newCondition 0 = .ok (.aload_n 0, 1) := by decide +kernel
theorem dX2_newCondition_1 : decode cX2_newCondition 1 = .ok (.getfield 19, 3) := by decide +kernel
theorem dX2_newCondition_4 : decode cX2_newCondition 4 = .ok (.aload_n 0, 1) := by decide +kernel
theorem dX2_newCondition_5 : decode cX2_newCondition 5 = .ok (.getfield 37, 3) := by decide +kernel
theorem dX2_newCondition_8 : decode cX2_newCondition 8 = .ok (.ifCond .lt 15, 3) := by decide +kernel
theorem dX2_newCondition_11 : decode cX2_newCondition 11 = .ok (.aload_n 0, 1) := by decide +kernel
theorem dX2_newCondition_12 : decode cX2_newCondition 12 = .ok (.getfield 37, 3) := by decide +kernel
theorem dX2_newCondition_15 : decode cX2_newCondition 15 = .ok (.aload_n 0, 1) := by decide +kernel
theorem dX2_newCondition_16 : decode cX2_newCondition 16 = .ok (.getfield 19, 3) := by decide +kernel
theorem dX2_newCondition_19 : decode cX2_newCondition 19 = .ok (.arraylength, 1) := by decide +kernel
theorem dX2_newCondition_20 : decode cX2_newCondition 20 = .ok (.if_icmp .lt 7, 3) := by decide +kernel
theorem dX2_newCondition_23 : decode cX2_newCondition 23 = .ok (.iconst 0, 1) := by decide +kernel
theorem dX2_newCondition_24 : decode cX2_newCondition 24 = .ok (.goto 7, 3) := by decide +kernel
theorem dX2_newCondition_27 : decode cX2_newCondition 27 = .ok (.aload_n 0, 1) := by decide +kernel
theorem dX2_newCondition_28 : decode cX2_newCondition 28 = .ok (.getfield 37, 3) := by decide +kernel
theorem dX2_newCondition_31 : decode cX2_newCondition 31 = .ok (.aaload, 1) := by decide +kernel
theorem dX2_newCondition_32 : decode cX2_newCondition 32 = .ok (.astore 4, 2) := by decide +kernel
theorem dX2_newCondition_34 : decode cX2_newCondition 34 = .ok (.aload_n 0, 1) := by decide +kernel
theorem dX2_newCondition_35 : decode cX2_newCondition 35 = .ok (.dup, 1) := by decide +kernel
theorem dX2_newCondition_36 : decode cX2_newCondition 36 = .ok (.getfield 37, 3) := by decide +kernel
theorem dX2_newCondition_39 : decode cX2_newCondition 39 = .ok (.iconst 1, 1) := by decide +kernel
theorem dX2_newCondition_40 : decode cX2_newCondition 40 = .ok (.iadd, 1) := by decide +kernel
theorem dX2_newCondition_41 : decode cX2_newCondition 41 = .ok (.putfield 37, 3) := by decide +kernel
theorem dX2_newCondition_44 : decode cX2_newCondition 44 = .ok (.aload 4, 2) := by decide +kernel
theorem dX2_newCondition_46 : decode cX2_newCondition 46 = .ok (.iload_n 1, 1) := by decide +kernel
theorem dX2_newCondition_47 : decode cX2_newCondition 47 = .ok (.iload_n 2, 1) := by decide +kernel
theorem dX2_newCondition_48 : decode cX2_newCondition 48 = .ok (.iload_n 3, 1) := by decide +kernel
theorem dX2_newCondition_49 : decode cX2_newCondition 49 = .ok (.invokevirtual 76, 3) := by decide +kernel
theorem dX2_newCondition_52 : decode cX2_newCondition 52 = .ok (.aload 4, 2) := by decide +kernel
theorem dX2_newCondition_54 : decode cX2_newCondition 54 = .ok (.areturn, 1) := by decide +kernel
theorem dX2_appendCheck_0 : decode cX2_appendCheck 0 = .ok (.aload_n 0, 1) := by decide +kernel
theorem dX2_appendCheck_1 : decode cX2_appendCheck 1 = .ok (.iconst 5, 1) := by decide +kernel
theorem dX2_appendCheck_2 : decode cX2_appendCheck 2 = .ok (.invokevirtual 80, 3) := by decide +kernel
theorem dX2_appendCheck_5 : decode cX2_appendCheck 5 = .ok (.astore_n 2, 1) := by decide +kernel
theorem dX2_appendCheck_6 : decode cX2_appendCheck 6 = .ok (.aload_n 2, 1) := by decide +kernel
theorem dX2_appendCheck_7 : decode cX2_appendCheck 7 = .ok (.aload_n 1, 1) := by decide +kernel
theorem dX2_appendCheck_8 : decode cX2_appendCheck 8 = .ok (.putfield 68, 3) := by decide +kernel
theorem dX2_appendCheck_11 : decode cX2_appendCheck 11 = .ok (.aload_n 2, 1) := by decide +kernel
theorem dX2_appendCheck_12 : decode cX2_appendCheck 12 = .ok (.aload_n 0, 1) := by decide +kernel
theorem dX2_appendCheck_13 : decode cX2_appendCheck 13 = .ok (.getfield 43, 3) := by decide +kernel
theorem dX2_appendCheck_16 : decode cX2_appendCheck 16 = .ok (.putfield 83, 3) := by decide +kernel
theorem dX2_appendCheck_19 : decode cX2_appendCheck 19 = .ok (.aload_n 0, 1) := by decide +kernel
theorem dX2_appendCheck_20 : decode cX2_appendCheck 20 = .ok (.getfield 43, 3) := by decide +kernel
theorem dX2_appendCheck_23 : decode cX2_appendCheck 23 = .ok (.ifCond .lt 25, 3) := by decide +kernel
theorem dX2_appendCheck_26 : decode cX2_appendCheck 26 = .ok (.aload_n 0, 1) := by decide +kernel
theorem dX2_appendCheck_27 : decode cX2_appendCheck 27 = .ok (.getfield 43, 3) := by decide +kernel
theorem dX2_appendCheck_30 : decode cX2_appendCheck 30 = .ok (.aload_n 0, 1) := by decide +kernel
theorem dX2_appendCheck_31 : decode cX2_appendCheck 31 = .ok (.getfield 26, 3) := by decide +kernel
theorem dX2_appendCheck_34 : decode cX2_appendCheck 34 = .ok (.arraylength, 1) := by decide +kernel
theorem dX2_appendCheck_35 : decode cX2_appendCheck 35 = .ok (.if_icmp .ge 13, 3) := by decide +kernel
theorem dX2_appendCheck_38 : decode cX2_appendCheck 38 = .ok (.aload_n 0, 1) := by decide +kernel
theorem dX2_appendCheck_39 : decode cX2_appendCheck 39 = .ok (.getfield 26, 3) := by decide +kernel
theorem dX2_appendCheck_42 : decode cX2_appendCheck 42 = .ok (.aload_n 0, 1) := by decide +kernel
theorem dX2_appendCheck_43 : decode cX2_appendCheck 43 = .ok (.getfield 43, 3) := by decide +kernel
theorem dX2_appendCheck_46 : decode cX2_appendCheck 46 = .ok (.aload_n 1, 1) := by decide +kernel
theorem dX2_appendCheck_47 : decode cX2_appendCheck 47 = .ok (.aastore, 1) := by decide +kernel
theorem dX2_appendCheck_48 : decode cX2_appendCheck 48 = .ok (.aload_n 0, 1) := by decide +kernel
theorem dX2_appendCheck_49 : decode cX2_appendCheck 49 = .ok (.dup, 1) := by decide +kernel
theorem dX2_appendCheck_50 : decode cX2_appendCheck 50 = .ok (.getfield 43, 3) := by decide +kernel
theorem dX2_appendCheck_53 : decode cX2_appendCheck 53 = .ok (.iconst 1, 1) := by decide +kernel
theorem dX2_appendCheck_54 : decode cX2_appendCheck 54 = .ok (.iadd, 1) := by decide +kernel
theorem dX2_appendCheck_55 : decode cX2_appendCheck 55 = .ok (.putfield 43, 3) := by decide +kernel
theorem dX2_appendCheck_58 : decode cX2_appendCheck 58 = .ok (.return_, 1) := by decide +kernel
theorem dX2_appendGuess_0 : decode cX2_appendGuess 0 = .ok (.aload_n 0, 1) := by decide +kernel
theorem dX2_appendGuess_1 : decode cX2_appendGuess 1 = .ok (.getfield 40, 3) := by decide +kernel
theorem dX2_appendGuess_4 : decode cX2_appendGuess 4 = .ok (.ifCond .lt 25, 3) := by decide +kernel
theorem dX2_appendGuess_7 : decode cX2_appendGuess 7 = .ok (.aload_n 0, 1) := by decide +kernel
theorem dX2_appendGuess_8 : decode cX2_appendGuess 8 = .ok (.getfield 40, 3) := by decide +kernel
theorem dX2_appendGuess_11 : decode cX2_appendGuess 11 = .ok (.aload_n 0, 1) := by decide +kernel
theorem dX2_appendGuess_12 : decode cX2_appendGuess 12 = .ok (.getfield 23, 3) := by decide +kernel
theorem dX2_appendGuess_15 : decode cX2_appendGuess 15 = .ok (.arraylength, 1) := by decide +kernel
theorem dX2_appendGuess_16 : decode cX2_appendGuess 16 = .ok (.if_icmp .ge 13, 3) := by decide +kernel
theorem dX2_appendGuess_19 : decode cX2_appendGuess 19 = .ok (.aload_n 0, 1) := by decide +kernel
theorem dX2_appendGuess_20 : decode cX2_appendGuess 20 = .ok (.getfield 23, 3) := by decide +kernel
theorem dX2_appendGuess_23 : decode cX2_appendGuess 23 = .ok (.aload_n 0, 1) := by decide +kernel
theorem dX2_appendGuess_24 : decode cX2_appendGuess 24 = .ok (.getfield 40, 3) := by decide +kernel
theorem dX2_appendGuess_27 : decode cX2_appendGuess 27 = .ok (.aload_n 1, 1) := by decide +kernel
theorem dX2_appendGuess_28 : decode cX2_appendGuess 28 = .ok (.aastore, 1) := by decide +kernel
theorem dX2_appendGuess_29 : decode cX2_appendGuess 29 = .ok (.aload_n 0, 1) := by decide +kernel
theorem dX2_appendGuess_30 : decode cX2_appendGuess 30 = .ok (.dup, 1) := by decide +kernel
theorem dX2_appendGuess_31 : decode cX2_appendGuess 31 = .ok (.getfield 40, 3) := by decide +kernel
theorem dX2_appendGuess_34 : decode cX2_appendGuess 34 = .ok (.iconst 1, 1) := by decide +kernel
theorem dX2_appendGuess_35 : decode cX2_appendGuess 35 = .ok (.iadd, 1) := by decide +kernel
theorem dX2_appendGuess_36 : decode cX2_appendGuess 36 = .ok (.putfield 40, 3) := by decide +kernel
theorem dX2_appendGuess_39 : decode cX2_appendGuess 39 = .ok (.return_, 1) := by decide +kernel
theorem dX2_findTruths_0 : decode cX2_findTruths 0 = .ok (.iconst 0, 1) := by decide +kernel
theorem dX2_findTruths_1 : decode cX2_findTruths 1 = .ok (.istore_n 1, 1) := by decide +kernel
theorem dX2_findTruths_2 : decode cX2_findTruths 2 = .ok (.iload_n 1, 1) := by decide +kernel
theorem dX2_findTruths_3 : decode cX2_findTruths 3 = .ok (.aload_n 0, 1) := by decide +kernel
theorem dX2_findTruths_4 : decode cX2_findTruths 4 = .ok (.getfield 37, 3) := by decide +kernel
theorem dX2_findTruths_7 : decode cX2_findTruths 7 = .ok (.if_icmp .ge 27, 3) := by decide +kernel
theorem dX2_findTruths_10 : decode cX2_findTruths 10 = .ok (.iload_n 1, 1) := by decide +kernel
theorem dX2_findTruths_11 : decode cX2_findTruths 11 = .ok (.aload_n 0, 1) := by decide +kernel
theorem dX2_findTruths_12 : decode cX2_findTruths 12 = .ok (.getfield 19, 3) := by decide +kernel
theorem dX2_findTruths_15 : decode cX2_findTruths 15 = .ok (.arraylength, 1) := by decide +kernel
theorem dX2_findTruths_16 : decode cX2_findTruths 16 = .ok (.if_icmp .ge 18, 3) := by decide +kernel
theorem dX2_findTruths_19 : decode cX2_findTruths 19 = .ok (.aload_n 0, 1) := by decide +kernel
theorem dX2_findTruths_20 : decode cX2_findTruths 20 = .ok (.getfield 19, 3) := by decide +kernel
theorem dX2_findTruths_23 : decode cX2_findTruths 23 = .ok (.iload_n 1, 1) := by decide +kernel
theorem dX2_findTruths_24 : decode cX2_findTruths 24 = .ok (.aaload, 1) := by decide +kernel
theorem dX2_findTruths_25 : decode cX2_findTruths 25 = .ok (.invokevirtual 86, 3) := by decide +kernel
theorem dX2_findTruths_28 : decode cX2_findTruths 28 = .ok (.iinc 1 1, 3) := by decide +kernel
theorem dX2_findTruths_31 : decode cX2_findTruths 31 = .ok (.goto (-29), 3) := by decide +kernel
theorem dX2_findTruths_34 : decode cX2_findTruths 34 = .ok (.return_, 1) := by decide +kernel
theorem dX2_fulfilled_0 : decode cX2_fulfilled 0 = .ok (.iconst 0, 1) := by decide +kernel
theorem dX2_fulfilled_1 : decode cX2_fulfilled 1 = .ok (.istore_n 2, 1) := by decide +kernel
theorem dX2_fulfilled_2 : decode cX2_fulfilled 2 = .ok (.iconst 0, 1) := by decide +kernel
theorem dX2_fulfilled_3 : decode cX2_fulfilled 3 = .ok (.istore_n 3, 1) := by decide +kernel
theorem dX2_fulfilled_4 : decode cX2_fulfilled 4 = .ok (.iload_n 3, 1) := by decide +kernel
theorem dX2_fulfilled_5 : decode cX2_fulfilled 5 = .ok (.aload_n 0, 1) := by decide +kernel
theorem dX2_fulfilled_6 : decode cX2_fulfilled 6 = .ok (.getfield 43, 3) := by decide +kernel
theorem dX2_fulfilled_9 : decode cX2_fulfilled 9 = .ok (.if_icmp .ge 54, 3) := by decide +kernel
theorem dX2_fulfilled_12 : decode cX2_fulfilled 12 = .ok (.iload_n 3, 1) := by decide +kernel
theorem dX2_fulfilled_13 : decode cX2_fulfilled 13 = .ok (.aload_n 0, 1) := by decide +kernel
theorem dX2_fulfilled_14 : decode cX2_fulfilled 14 = .ok (.getfield 26, 3) := by decide +kernel
theorem dX2_fulfilled_17 : decode cX2_fulfilled 17 = .ok (.arraylength, 1) := by decide +kernel
theorem dX2_fulfilled_18 : decode cX2_fulfilled 18 = .ok (.if_icmp .ge 45, 3) := by decide +kernel
theorem dX2_fulfilled_21 : decode cX2_fulfilled 21 = .ok (.iload_n 3, 1) := by decide +kernel
theorem dX2_fulfilled_22 : decode cX2_fulfilled 22 = .ok (.aload_n 1, 1) := by decide +kernel
theorem dX2_fulfilled_23 : decode cX2_fulfilled 23 = .ok (.getfield 89, 3) := by decide +kernel
theorem dX2_fulfilled_26 : decode cX2_fulfilled 26 = .ok (.arraylength, 1) := by decide +kernel
theorem dX2_fulfilled_27 : decode cX2_fulfilled 27 = .ok (.if_icmp .ge 36, 3) := by decide +kernel
theorem dX2_fulfilled_30 : decode cX2_fulfilled 30 = .ok (.aload_n 1, 1) := by decide +kernel
theorem dX2_fulfilled_31 : decode cX2_fulfilled 31 = .ok (.getfield 89, 3) := by decide +kernel
theorem dX2_fulfilled_34 : decode cX2_fulfilled 34 = .ok (.iload_n 3, 1) := by decide +kernel
theorem dX2_fulfilled_35 : decode cX2_fulfilled 35 = .ok (.aaload, 1) := by decide +kernel
theorem dX2_fulfilled_36 : decode cX2_fulfilled 36 = .ok (.aload_n 0, 1) := by decide +kernel
theorem dX2_fulfilled_37 : decode cX2_fulfilled 37 = .ok (.getfield 26, 3) := by decide +kernel
theorem dX2_fulfilled_40 : decode cX2_fulfilled 40 = .ok (.iload_n 3, 1) := by decide +kernel
theorem dX2_fulfilled_41 : decode cX2_fulfilled 41 = .ok (.aaload, 1) := by decide +kernel
theorem dX2_fulfilled_42 : decode cX2_fulfilled 42 = .ok (.getfield 95, 3) := by decide +kernel
theorem dX2_fulfilled_45 : decode cX2_fulfilled 45 = .ok (.invokevirtual 99, 3) := by decide +kernel
theorem dX2_fulfilled_48 : decode cX2_fulfilled 48 = .ok (.ifCond .eq 9, 3) := by decide +kernel
theorem dX2_fulfilled_51 : decode cX2_fulfilled 51 = .ok (.iload_n 2, 1) := by decide +kernel
theorem dX2_fulfilled_52 : decode cX2_fulfilled 52 = .ok (.iconst 1, 1) := by decide +kernel
theorem dX2_fulfilled_53 : decode cX2_fulfilled 53 = .ok (.iload_n 3, 1) := by decide +kernel
theorem dX2_fulfilled_54 : decode cX2_fulfilled 54 = .ok (.ishl, 1) := by decide +kernel
theorem dX2_fulfilled_55 : decode cX2_fulfilled 55 = .ok (.ior, 1) := by decide +kernel
theorem dX2_fulfilled_56 : decode cX2_fulfilled 56 = .ok (.istore_n 2, 1) := by decide +kernel
theorem dX2_fulfilled_57 : decode cX2_fulfilled 57 = .ok (.iinc 3 1, 3) := by decide +kernel
theorem dX2_fulfilled_60 : decode cX2_fulfilled 60 = .ok (.goto (-56), 3) := by decide +kernel
theorem dX2_fulfilled_63 : decode cX2_fulfilled 63 = .ok (.iload_n 2, 1) := by decide +kernel
theorem dX2_fulfilled_64 : decode cX2_fulfilled 64 = .ok (.ireturn, 1) := by decide +kernel
theorem dX3_init_0 : decode cX3_init 0 = .ok (.aload_n 0, 1) := by decide +kernel
theorem dX3_init_1 : decode cX3_init 1 = .ok (.invokespecial 3, 3) := by decide +kernel
theorem dX3_init_4 : decode cX3_init 4 = .ok (.aload_n 0, 1) := by decide +kernel
theorem dX3_init_5 : decode cX3_init 5 = .ok (.new 9, 3) := by decide +kernel
theorem dX3_init_8 : decode cX3_init 8 = .ok (.dup, 1) := by decide +kernel
theorem dX3_init_9 : decode cX3_init 9 = .ok (.invokespecial 11, 3) := by decide +kernel
theorem dX3_init_12 : decode cX3_init 12 = .ok (.putfield 12, 3) := by decide +kernel
theorem dX3_init_15 : decode cX3_init 15 = .ok (.return_, 1) := by decide +kernel
theorem dX3_put_0 : decode cX3_put 0 = .ok (.aload_n 0, 1) := by decide +kernel
theorem dX3_put_1 : decode cX3_put 1 = .ok (.iload_n 1, 1) := by decide +kernel
theorem dX3_put_2 : decode cX3_put 2 = .ok (.putfield 18, 3) := by decide +kernel
theorem dX3_put_5 : decode cX3_put 5 = .ok (.aload_n 0, 1) := by decide +kernel
theorem dX3_put_6 : decode cX3_put 6 = .ok (.iload_n 2, 1) := by decide +kernel
theorem dX3_put_7 : decode cX3_put 7 = .ok (.putfield 22, 3) := by decide +kernel
theorem dX3_put_10 : decode cX3_put 10 = .ok (.aload_n 0, 1) := by decide +kernel
theorem dX3_put_11 : decode cX3_put 11 = .ok (.iload_n 3, 1) := by decide +kernel
theorem dX3_put_12 : decode cX3_put 12 = .ok (.putfield 25, 3) := by decide +kernel
theorem dX3_put_15 : decode cX3_put 15 = .ok (.return_, 1) := by decide +kernel
theorem dX3_isTrue_0 : decode cX3_isTrue 0 = .ok (.aload_n 0, 1) := by decide +kernel
theorem dX3_isTrue_1 : decode cX3_isTrue 1 = .ok (.getfield 18, 3) := by decide +kernel
theorem dX3_isTrue_4 : decode cX3_isTrue 4 = .ok (.iload_n 1, 1) := by decide +kernel
theorem dX3_isTrue_5 : decode cX3_isTrue 5 = .ok (.iload_n 2, 1) := by decide +kernel
theorem dX3_isTrue_6 : decode cX3_isTrue 6 = .ok (.iload_n 3, 1) := by decide +kernel
theorem dX3_isTrue_7 : decode cX3_isTrue 7 = .ok (.invokestatic 28, 3) := by decide +kernel
theorem dX3_isTrue_10 : decode cX3_isTrue 10 = .ok (.istore 4, 2) := by decide +kernel
theorem dX3_isTrue_12 : decode cX3_isTrue 12 = .ok (.aload_n 0, 1) := by decide +kernel
theorem dX3_isTrue_13 : decode cX3_isTrue 13 = .ok (.iload_n 1, 1) := by decide +kernel
theorem dX3_isTrue_14 : decode cX3_isTrue 14 = .ok (.iload_n 2, 1) := by decide +kernel
theorem dX3_isTrue_15 : decode cX3_isTrue 15 = .ok (.iload_n 3, 1) := by decide +kernel
theorem dX3_isTrue_16 : decode cX3_isTrue 16 = .ok (.invokevirtual 32, 3) := by decide +kernel
theorem dX3_isTrue_19 : decode cX3_isTrue 19 = .ok (.istore 5, 2) := by decide +kernel
theorem dX3_isTrue_21 : decode cX3_isTrue 21 = .ok (.aload_n 0, 1) := by decide +kernel
theorem dX3_isTrue_22 : decode cX3_isTrue 22 = .ok (.getfield 22, 3) := by decide +kernel
theorem dX3_isTrue_25 : decode cX3_isTrue 25 = .ok (.tableswitch 66 60 62 #[27, 53, 40], 27) := by decide +kernel
theorem dX3_isTrue_52 : decode cX3_isTrue 52 = .ok (.iload 4, 2) := by decide +kernel
theorem dX3_isTrue_54 : decode cX3_isTrue 54 = .ok (.iload 5, 2) := by decide +kernel
theorem dX3_isTrue_56 : decode cX3_isTrue 56 = .ok (.if_icmp .ge 7, 3) := by decide +kernel
theorem dX3_isTrue_59 : decode cX3_isTrue 59 = .ok (.iconst 1, 1) := by decide +kernel
theorem dX3_isTrue_60 : decode cX3_isTrue 60 = .ok (.goto 4, 3) := by decide +kernel
theorem dX3_isTrue_63 : decode cX3_isTrue 63 = .ok (.iconst 0, 1) := by decide +kernel
theorem dX3_isTrue_64 : decode cX3_isTrue 64 = .ok (.ireturn, 1) := by decide +kernel
theorem dX3_isTrue_65 : decode cX3_isTrue 65 = .ok (.iload 4, 2) := by decide +kernel
theorem dX3_isTrue_67 : decode cX3_isTrue 67 = .ok (.iload 5, 2) := by decide +kernel
theorem dX3_isTrue_69 : decode cX3_isTrue 69 = .ok (.if_icmp .le 7, 3) := by decide +kernel
theorem dX3_isTrue_72 : decode cX3_isTrue 72 = .ok (.iconst 1, 1) := by decide +kernel
theorem dX3_isTrue_73 : decode cX3_isTrue 73 = .ok (.goto 4, 3) := by decide +kernel
theorem dX3_isTrue_76 : decode cX3_isTrue 76 = .ok (.iconst 0, 1) := by decide +kernel
theorem dX3_isTrue_77 : decode cX3_isTrue 77 = .ok (.ireturn, 1) := by decide +kernel
theorem dX3_isTrue_78 : decode cX3_isTrue 78 = .ok (.iload 4, 2) := by decide +kernel
theorem dX3_isTrue_80 : decode cX3_isTrue 80 = .ok (.iload 5, 2) := by decide +kernel
theorem dX3_isTrue_82 : decode cX3_isTrue 82 = .ok (.if_icmp .ne 7, 3) := by decide +kernel
theorem dX3_isTrue_85 : decode cX3_isTrue 85 = .ok (.iconst 1, 1) := by decide +kernel
theorem dX3_isTrue_86 : decode cX3_isTrue 86 = .ok (.goto 4, 3) := by decide +kernel
theorem dX3_isTrue_89 : decode cX3_isTrue 89 = .ok (.iconst 0, 1) := by decide +kernel
theorem dX3_isTrue_90 : decode cX3_isTrue 90 = .ok (.ireturn, 1) := by decide +kernel
theorem dX3_isTrue_91 : decode cX3_isTrue 91 = .ok (.iload 4, 2) := by decide +kernel
theorem dX3_isTrue_93 : decode cX3_isTrue 93 = .ok (.iload 5, 2) := by decide +kernel
theorem dX3_isTrue_95 : decode cX3_isTrue 95 = .ok (.if_icmp .eq 7, 3) := by decide +kernel
theorem dX3_isTrue_98 : decode cX3_isTrue 98 = .ok (.iconst 1, 1) := by decide +kernel
theorem dX3_isTrue_99 : decode cX3_isTrue 99 = .ok (.goto 4, 3) := by decide +kernel
theorem dX3_isTrue_102 : decode cX3_isTrue 102 = .ok (.iconst 0, 1) := by decide +kernel
theorem dX3_isTrue_103 : decode cX3_isTrue 103 = .ok (.ireturn, 1) := by decide +kernel
theorem dX3_value_0 : decode cX3_value 0 = .ok (.aload_n 0, 1) := by decide +kernel
theorem dX3_value_1 : decode cX3_value 1 = .ok (.getfield 25, 3) := by decide +kernel
theorem dX3_value_4 : decode cX3_value 4 = .ok (.bipush 6, 2) := by decide +kernel
theorem dX3_value_6 : decode cX3_value 6 = .ok (.if_icmp .ge 10, 3) := by decide +kernel
theorem dX3_value_9 : decode cX3_value 9 = .ok (.aload_n 0, 1) := by decide +kernel
theorem dX3_value_10 : decode cX3_value 10 = .ok (.getfield 25, 3) := by decide +kernel
theorem dX3_value_13 : decode cX3_value 13 = .ok (.goto 16, 3) := by decide +kernel
theorem dX3_value_16 : decode cX3_value 16 = .ok (.aload_n 0, 1) := by decide +kernel
theorem dX3_value_17 : decode cX3_value 17 = .ok (.getfield 25, 3) := by decide +kernel
theorem dX3_value_20 : decode cX3_value 20 = .ok (.bipush 6, 2) := by decide +kernel
theorem dX3_value_22 : decode cX3_value 22 = .ok (.isub, 1) := by decide +kernel
theorem dX3_value_23 : decode cX3_value 23 = .ok (.iload_n 1, 1) := by decide +kernel
theorem dX3_value_24 : decode cX3_value 24 = .ok (.iload_n 2, 1) := by decide +kernel
theorem dX3_value_25 : decode cX3_value 25 = .ok (.iload_n 3, 1) := by decide +kernel
theorem dX3_value_26 : decode cX3_value 26 = .ok (.invokestatic 28, 3) := by decide +kernel
theorem dX3_value_29 : decode cX3_value 29 = .ok (.ireturn, 1) := by decide +kernel
theorem dX3_pick_0 : decode cX3_pick 0 = .ok (.iload_n 0, 1) := by decide +kernel
theorem dX3_pick_1 : decode cX3_pick 1 = .ok (.ifCond .ne 5, 3) := by decide +kernel
theorem dX3_pick_4 : decode cX3_pick 4 = .ok (.iload_n 1, 1) := by decide +kernel
theorem dX3_pick_5 : decode cX3_pick 5 = .ok (.ireturn, 1) := by decide +kernel
theorem dX3_pick_6 : decode cX3_pick 6 = .ok (.iload_n 0, 1) := by decide +kernel
theorem dX3_pick_7 : decode cX3_pick 7 = .ok (.iconst 1, 1) := by decide +kernel
theorem dX3_pick_8 : decode cX3_pick 8 = .ok (.if_icmp .ne 7, 3) := by decide +kernel
theorem dX3_pick_11 : decode cX3_pick 11 = .ok (.iload_n 2, 1) := by decide +kernel
theorem dX3_pick_12 : decode cX3_pick 12 = .ok (.goto 4, 3) := by decide +kernel
theorem dX3_pick_15 : decode cX3_pick 15 = .ok (.iload_n 3, 1) := by decide +kernel
theorem dX3_pick_16 : decode cX3_pick 16 = .ok (.ireturn, 1) := by decide +kernel
theorem dX3_findTruths_0 : decode cX3_findTruths 0 = .ok (.aload_n 0, 1) := by decide +kernel
theorem dX3_findTruths_1 : decode cX3_findTruths 1 = .ok (.getfield 12, 3) := by decide +kernel
theorem dX3_findTruths_4 : decode cX3_findTruths 4 = .ok (.invokevirtual 36, 3) := by decide +kernel
theorem dX3_findTruths_7 : decode cX3_findTruths 7 = .ok (.iconst 0, 1) := by decide +kernel
theorem dX3_findTruths_8 : decode cX3_findTruths 8 = .ok (.istore_n 1, 1) := by decide +kernel
theorem dX3_findTruths_9 : decode cX3_findTruths 9 = .ok (.iload_n 1, 1) := by decide +kernel
theorem dX3_findTruths_10 : decode cX3_findTruths 10 = .ok (.bipush 6, 2) := by decide +kernel
theorem dX3_findTruths_12 : decode cX3_findTruths 12 = .ok (.if_icmp .ge 57, 3) := by decide +kernel
theorem dX3_findTruths_15 : decode cX3_findTruths 15 = .ok (.iconst 0, 1) := by decide +kernel
theorem dX3_findTruths_16 : decode cX3_findTruths 16 = .ok (.istore_n 2, 1) := by decide +kernel
theorem dX3_findTruths_17 : decode cX3_findTruths 17 = .ok (.iload_n 2, 1) := by decide +kernel
theorem dX3_findTruths_18 : decode cX3_findTruths 18 = .ok (.bipush 6, 2) := by decide +kernel
theorem dX3_findTruths_20 : decode cX3_findTruths 20 = .ok (.if_icmp .ge 43, 3) := by decide +kernel
theorem dX3_findTruths_23 : decode cX3_findTruths 23 = .ok (.iconst 0, 1) := by decide +kernel
theorem dX3_findTruths_24 : decode cX3_findTruths 24 = .ok (.istore_n 3, 1) := by decide +kernel
theorem dX3_findTruths_25 : decode cX3_findTruths 25 = .ok (.iload_n 3, 1) := by decide +kernel
theorem dX3_findTruths_26 : decode cX3_findTruths 26 = .ok (.bipush 6, 2) := by decide +kernel
theorem dX3_findTruths_28 : decode cX3_findTruths 28 = .ok (.if_icmp .ge 29, 3) := by decide +kernel
theorem dX3_findTruths_31 : decode cX3_findTruths 31 = .ok (.aload_n 0, 1) := by decide +kernel
theorem dX3_findTruths_32 : decode cX3_findTruths 32 = .ok (.iload_n 1, 1) := by decide +kernel
theorem dX3_findTruths_33 : decode cX3_findTruths 33 = .ok (.iload_n 2, 1) := by decide +kernel
theorem dX3_findTruths_34 : decode cX3_findTruths 34 = .ok (.iload_n 3, 1) := by decide +kernel
theorem dX3_findTruths_35 : decode cX3_findTruths 35 = .ok (.invokevirtual 39, 3) := by decide +kernel
theorem dX3_findTruths_38 : decode cX3_findTruths 38 = .ok (.ifCond .eq 13, 3) := by decide +kernel
theorem dX3_findTruths_41 : decode cX3_findTruths 41 = .ok (.aload_n 0, 1) := by decide +kernel
theorem dX3_findTruths_42 : decode cX3_findTruths 42 = .ok (.getfield 12, 3) := by decide +kernel
theorem dX3_findTruths_45 : decode cX3_findTruths 45 = .ok (.iload_n 1, 1) := by decide +kernel
theorem dX3_findTruths_46 : decode cX3_findTruths 46 = .ok (.iload_n 2, 1) := by decide +kernel
theorem dX3_findTruths_47 : decode cX3_findTruths 47 = .ok (.iload_n 3, 1) := by decide +kernel
theorem dX3_findTruths_48 : decode cX3_findTruths 48 = .ok (.invokevirtual 43, 3) := by decide +kernel
theorem dX3_findTruths_51 : decode cX3_findTruths 51 = .ok (.iinc 3 1, 3) := by decide +kernel
theorem dX3_findTruths_54 : decode cX3_findTruths 54 = .ok (.goto (-29), 3) := by decide +kernel
theorem dX3_findTruths_57 : decode cX3_findTruths 57 = .ok (.iinc 2 1, 3) := by decide +kernel
theorem dX3_findTruths_60 : decode cX3_findTruths 60 = .ok (.goto (-43), 3) := by decide +kernel
theorem dX3_findTruths_63 : decode cX3_findTruths 63 = .ok (.iinc 1 1, 3) := by decide +kernel
theorem dX3_findTruths_66 : decode cX3_findTruths 66 = .ok (.goto (-57), 3) := by decide +kernel
theorem dX3_findTruths_69 : decode cX3_findTruths 69 = .ok (.return_, 1) := by decide +kernel
theorem dX4_init_0 : decode cX4_init 0 = .ok (.aload_n 0, 1) := by decide +kernel
theorem dX4_init_1 : decode cX4_init 1 = .ok (.invokespecial 3, 3) := by decide +kernel
theorem dX4_init_4 : decode cX4_init 4 = .ok (.aload_n 0, 1) := by decide +kernel
theorem dX4_init_5 : decode cX4_init 5 = .ok (.new 9, 3) := by decide +kernel
theorem dX4_init_8 : decode cX4_init 8 = .ok (.dup, 1) := by decide +kernel
theorem dX4_init_9 : decode cX4_init 9 = .ok (.invokespecial 11, 3) := by decide +kernel
theorem dX4_init_12 : decode cX4_init 12 = .ok (.putfield 12, 3) := by decide +kernel
theorem dX4_init_15 : decode cX4_init 15 = .ok (.aload_n 0, 1) := by decide +kernel
theorem dX4_init_16 : decode cX4_init 16 = .ok (.iconst 3, 1) := by decide +kernel
theorem dX4_init_17 : decode cX4_init 17 = .ok (.invokestatic 18, 3) := by decide +kernel
theorem dX4_init_20 : decode cX4_init 20 = .ok (.putfield 22, 3) := by decide +kernel
theorem dX4_init_23 : decode cX4_init 23 = .ok (.aload_n 0, 1) := by decide +kernel
theorem dX4_init_24 : decode cX4_init 24 = .ok (.iconst 3, 1) := by decide +kernel
theorem dX4_init_25 : decode cX4_init 25 = .ok (.invokestatic 18, 3) := by decide +kernel
theorem dX4_init_28 : decode cX4_init 28 = .ok (.putfield 26, 3) := by decide +kernel
theorem dX4_init_31 : decode cX4_init 31 = .ok (.aload_n 0, 1) := by decide +kernel
theorem dX4_init_32 : decode cX4_init 32 = .ok (.iconst 4, 1) := by decide +kernel
theorem dX4_init_33 : decode cX4_init 33 = .ok (.invokestatic 18, 3) := by decide +kernel
theorem dX4_init_36 : decode cX4_init 36 = .ok (.putfield 29, 3) := by decide +kernel
theorem dX4_init_39 : decode cX4_init 39 = .ok (.aload_n 0, 1) := by decide +kernel
theorem dX4_init_40 : decode cX4_init 40 = .ok (.iconst 3, 1) := by decide +kernel
theorem dX4_init_41 : decode cX4_init 41 = .ok (.invokestatic 18, 3) := by decide +kernel
theorem dX4_init_44 : decode cX4_init 44 = .ok (.putfield 32, 3) := by decide +kernel
theorem dX4_init_47 : decode cX4_init 47 = .ok (.aload_n 0, 1) := by decide +kernel
theorem dX4_init_48 : decode cX4_init 48 = .ok (.iconst 3, 1) := by decide +kernel
theorem dX4_init_49 : decode cX4_init 49 = .ok (.invokestatic 18, 3) := by decide +kernel
theorem dX4_init_52 : decode cX4_init 52 = .ok (.putfield 35, 3) := by decide +kernel
theorem dX4_init_55 : decode cX4_init 55 = .ok (.return_, 1) := by decide +kernel
theorem dX4_assign_0 : decode cX4_assign 0 = .ok (.iconst 0, 1) := by decide +kernel
theorem dX4_assign_1 : decode cX4_assign 1 = .ok (.istore_n 3, 1) := by decide +kernel
theorem dX4_assign_2 : decode cX4_assign 2 = .ok (.iload_n 3, 1) := by decide +kernel
theorem dX4_assign_3 : decode cX4_assign 3 = .ok (.iconst 3, 1) := by decide +kernel
theorem dX4_assign_4 : decode cX4_assign 4 = .ok (.if_icmp .ge 79, 3) := by decide +kernel
theorem dX4_assign_7 : decode cX4_assign 7 = .ok (.iload_n 3, 1) := by decide +kernel
theorem dX4_assign_8 : decode cX4_assign 8 = .ok (.aload_n 2, 1) := by decide +kernel
theorem dX4_assign_9 : decode cX4_assign 9 = .ok (.arraylength, 1) := by decide +kernel
theorem dX4_assign_10 : decode cX4_assign 10 = .ok (.if_icmp .ge 73, 3) := by decide +kernel
theorem dX4_assign_13 : decode cX4_assign 13 = .ok (.aload_n 0, 1) := by decide +kernel
theorem dX4_assign_14 : decode cX4_assign 14 = .ok (.getfield 22, 3) := by decide +kernel
theorem dX4_assign_17 : decode cX4_assign 17 = .ok (.iload_n 3, 1) := by decide +kernel
theorem dX4_assign_18 : decode cX4_assign 18 = .ok (.aaload, 1) := by decide +kernel
theorem dX4_assign_19 : decode cX4_assign 19 = .ok (.invokevirtual 38, 3) := by decide +kernel
theorem dX4_assign_22 : decode cX4_assign 22 = .ok (.aload_n 0, 1) := by decide +kernel
theorem dX4_assign_23 : decode cX4_assign 23 = .ok (.getfield 26, 3) := by decide +kernel
theorem dX4_assign_26 : decode cX4_assign 26 = .ok (.iload_n 3, 1) := by decide +kernel
theorem dX4_assign_27 : decode cX4_assign 27 = .ok (.aaload, 1) := by decide +kernel
theorem dX4_assign_28 : decode cX4_assign 28 = .ok (.invokevirtual 41, 3) := by decide +kernel
theorem dX4_assign_31 : decode cX4_assign 31 = .ok (.iconst 0, 1) := by decide +kernel
theorem dX4_assign_32 : decode cX4_assign 32 = .ok (.istore 4, 2) := by decide +kernel
theorem dX4_assign_34 : decode cX4_assign 34 = .ok (.iload 4, 2) := by decide +kernel
theorem dX4_assign_36 : decode cX4_assign 36 = .ok (.iconst 5, 1) := by decide +kernel
theorem dX4_assign_37 : decode cX4_assign 37 = .ok (.if_icmp .ge 40, 3) := by decide +kernel
theorem dX4_assign_40 : decode cX4_assign 40 = .ok (.aload_n 2, 1) := by decide +kernel
theorem dX4_assign_41 : decode cX4_assign 41 = .ok (.iload_n 3, 1) := by decide +kernel
theorem dX4_assign_42 : decode cX4_assign 42 = .ok (.iaload, 1) := by decide +kernel
theorem dX4_assign_43 : decode cX4_assign 43 = .ok (.iload 4, 2) := by decide +kernel
theorem dX4_assign_45 : decode cX4_assign 45 = .ok (.ishr, 1) := by decide +kernel
theorem dX4_assign_46 : decode cX4_assign 46 = .ok (.iconst 1, 1) := by decide +kernel
theorem dX4_assign_47 : decode cX4_assign 47 = .ok (.iand, 1) := by decide +kernel
theorem dX4_assign_48 : decode cX4_assign 48 = .ok (.iconst 1, 1) := by decide +kernel
theorem dX4_assign_49 : decode cX4_assign 49 = .ok (.if_icmp .ne 22, 3) := by decide +kernel
theorem dX4_assign_52 : decode cX4_assign 52 = .ok (.aload_n 0, 1) := by decide +kernel
theorem dX4_assign_53 : decode cX4_assign 53 = .ok (.getfield 26, 3) := by decide +kernel
theorem dX4_assign_56 : decode cX4_assign 56 = .ok (.iload_n 3, 1) := by decide +kernel
theorem dX4_assign_57 : decode cX4_assign 57 = .ok (.aaload, 1) := by decide +kernel
theorem dX4_assign_58 : decode cX4_assign 58 = .ok (.aload_n 1, 1) := by decide +kernel
theorem dX4_assign_59 : decode cX4_assign 59 = .ok (.getfield 44, 3) := by decide +kernel
theorem dX4_assign_62 : decode cX4_assign 62 = .ok (.iload 4, 2) := by decide +kernel
theorem dX4_assign_64 : decode cX4_assign 64 = .ok (.aaload, 1) := by decide +kernel
theorem dX4_assign_65 : decode cX4_assign 65 = .ok (.getfield 50, 3) := by decide +kernel
theorem dX4_assign_68 : decode cX4_assign 68 = .ok (.invokevirtual 55, 3) := by decide +kernel
theorem dX4_assign_71 : decode cX4_assign 71 = .ok (.iinc 4 1, 3) := by decide +kernel
theorem dX4_assign_74 : decode cX4_assign 74 = .ok (.goto (-40), 3) := by decide +kernel
theorem dX4_assign_77 : decode cX4_assign 77 = .ok (.iinc 3 1, 3) := by decide +kernel
theorem dX4_assign_80 : decode cX4_assign 80 = .ok (.goto (-78), 3) := by decide +kernel
theorem dX4_assign_83 : decode cX4_assign 83 = .ok (.return_, 1) := by decide +kernel
theorem dX4_reach_0 : decode cX4_reach 0 = .ok (.iconst 0, 1) := by decide +kernel
theorem dX4_reach_1 : decode cX4_reach 1 = .ok (.istore_n 3, 1) := by decide +kernel
theorem dX4_reach_2 : decode cX4_reach 2 = .ok (.iload_n 3, 1) := by decide +kernel
theorem dX4_reach_3 : decode cX4_reach 3 = .ok (.iconst 3, 1) := by decide +kernel
theorem dX4_reach_4 : decode cX4_reach 4 = .ok (.if_icmp .ge 18, 3) := by decide +kernel
theorem dX4_reach_7 : decode cX4_reach 7 = .ok (.aload_n 0, 1) := by decide +kernel
theorem dX4_reach_8 : decode cX4_reach 8 = .ok (.getfield 22, 3) := by decide +kernel
theorem dX4_reach_11 : decode cX4_reach 11 = .ok (.iload_n 3, 1) := by decide +kernel
theorem dX4_reach_12 : decode cX4_reach 12 = .ok (.aaload, 1) := by decide +kernel
theorem dX4_reach_13 : decode cX4_reach 13 = .ok (.invokevirtual 38, 3) := by decide +kernel
theorem dX4_reach_16 : decode cX4_reach 16 = .ok (.iinc 3 1, 3) := by decide +kernel
theorem dX4_reach_19 : decode cX4_reach 19 = .ok (.goto (-17), 3) := by decide +kernel
theorem dX4_reach_22 : decode cX4_reach 22 = .ok (.iconst 1, 1) := by decide +kernel
theorem dX4_reach_23 : decode cX4_reach 23 = .ok (.istore_n 3, 1) := by decide +kernel
theorem dX4_reach_24 : decode cX4_reach 24 = .ok (.iconst 0, 1) := by decide +kernel
theorem dX4_reach_25 : decode cX4_reach 25 = .ok (.istore 4, 2) := by decide +kernel
theorem dX4_reach_27 : decode cX4_reach 27 = .ok (.iload 4, 2) := by decide +kernel
theorem dX4_reach_29 : decode cX4_reach 29 = .ok (.sipush 650, 3) := by decide +kernel
theorem dX4_reach_32 : decode cX4_reach 32 = .ok (.if_icmp .ge 24, 3) := by decide +kernel
theorem dX4_reach_35 : decode cX4_reach 35 = .ok (.iload_n 3, 1) := by decide +kernel
theorem dX4_reach_36 : decode cX4_reach 36 = .ok (.ifCond .eq 20, 3) := by decide +kernel
theorem dX4_reach_39 : decode cX4_reach 39 = .ok (.aload_n 0, 1) := by decide +kernel
theorem dX4_reach_40 : decode cX4_reach 40 = .ok (.aload_n 1, 1) := by decide +kernel
theorem dX4_reach_41 : decode cX4_reach 41 = .ok (.aload_n 2, 1) := by decide +kernel
theorem dX4_reach_42 : decode cX4_reach 42 = .ok (.aload_n 0, 1) := by decide +kernel
theorem dX4_reach_43 : decode cX4_reach 43 = .ok (.getfield 22, 3) := by decide +kernel
theorem dX4_reach_46 : decode cX4_reach 46 = .ok (.invokevirtual 59, 3) := by decide +kernel
theorem dX4_reach_49 : decode cX4_reach 49 = .ok (.istore_n 3, 1) := by decide +kernel
theorem dX4_reach_50 : decode cX4_reach 50 = .ok (.iinc 4 1, 3) := by decide +kernel
theorem dX4_reach_53 : decode cX4_reach 53 = .ok (.goto (-26), 3) := by decide +kernel
theorem dX4_reach_56 : decode cX4_reach 56 = .ok (.return_, 1) := by decide +kernel
theorem dX4_pass_0 : decode cX4_pass 0 = .ok (.iconst 0, 1) := by decide +kernel
theorem dX4_pass_1 : decode cX4_pass 1 = .ok (.istore 4, 2) := by decide +kernel
theorem dX4_pass_3 : decode cX4_pass 3 = .ok (.aload_n 0, 1) := by decide +kernel
theorem dX4_pass_4 : decode cX4_pass 4 = .ok (.getfield 12, 3) := by decide +kernel
theorem dX4_pass_7 : decode cX4_pass 7 = .ok (.aload_n 2, 1) := by decide +kernel
theorem dX4_pass_8 : decode cX4_pass 8 = .ok (.invokevirtual 63, 3) := by decide +kernel
theorem dX4_pass_11 : decode cX4_pass 11 = .ok (.iconst 0, 1) := by decide +kernel
theorem dX4_pass_12 : decode cX4_pass 12 = .ok (.istore 5, 2) := by decide +kernel
theorem dX4_pass_14 : decode cX4_pass 14 = .ok (.iload 5, 2) := by decide +kernel
theorem dX4_pass_16 : decode cX4_pass 16 = .ok (.aload_n 1, 1) := by decide +kernel
theorem dX4_pass_17 : decode cX4_pass 17 = .ok (.getfield 66, 3) := by decide +kernel
theorem dX4_pass_20 : decode cX4_pass 20 = .ok (.if_icmp .ge 77, 3) := by decide +kernel
theorem dX4_pass_23 : decode cX4_pass 23 = .ok (.aload_n 1, 1) := by decide +kernel
theorem dX4_pass_24 : decode cX4_pass 24 = .ok (.iload 5, 2) := by decide +kernel
theorem dX4_pass_26 : decode cX4_pass 26 = .ok (.invokevirtual 70, 3) := by decide +kernel
theorem dX4_pass_29 : decode cX4_pass 29 = .ok (.astore 6, 2) := by decide +kernel
theorem dX4_pass_31 : decode cX4_pass 31 = .ok (.aload 6, 2) := by decide +kernel
theorem dX4_pass_33 : decode cX4_pass 33 = .ok (.getfield 74, 3) := by decide +kernel
theorem dX4_pass_36 : decode cX4_pass 36 = .ok (.bipush 6, 2) := by decide +kernel
theorem dX4_pass_38 : decode cX4_pass 38 = .ok (.if_icmp .eq 13, 3) := by decide +kernel
theorem dX4_pass_41 : decode cX4_pass 41 = .ok (.aload 6, 2) := by decide +kernel
theorem dX4_pass_43 : decode cX4_pass 43 = .ok (.getfield 74, 3) := by decide +kernel
theorem dX4_pass_46 : decode cX4_pass 46 = .ok (.bipush 7, 2) := by decide +kernel
theorem dX4_pass_48 : decode cX4_pass 48 = .ok (.if_icmp .ne 18, 3) := by decide +kernel
theorem dX4_pass_51 : decode cX4_pass 51 = .ok (.iload 4, 2) := by decide +kernel
theorem dX4_pass_53 : decode cX4_pass 53 = .ok (.aload_n 0, 1) := by decide +kernel
theorem dX4_pass_54 : decode cX4_pass 54 = .ok (.aload 6, 2) := by decide +kernel
theorem dX4_pass_56 : decode cX4_pass 56 = .ok (.aload_n 3, 1) := by decide +kernel
theorem dX4_pass_57 : decode cX4_pass 57 = .ok (.invokevirtual 79, 3) := by decide +kernel
theorem dX4_pass_60 : decode cX4_pass 60 = .ok (.ior, 1) := by decide +kernel
theorem dX4_pass_61 : decode cX4_pass 61 = .ok (.istore 4, 2) := by decide +kernel
theorem dX4_pass_63 : decode cX4_pass 63 = .ok (.goto 28, 3) := by decide +kernel
theorem dX4_pass_66 : decode cX4_pass 66 = .ok (.aload 6, 2) := by decide +kernel
theorem dX4_pass_68 : decode cX4_pass 68 = .ok (.getfield 74, 3) := by decide +kernel
theorem dX4_pass_71 : decode cX4_pass 71 = .ok (.bipush 8, 2) := by decide +kernel
theorem dX4_pass_73 : decode cX4_pass 73 = .ok (.if_icmp .lt 12, 3) := by decide +kernel
theorem dX4_pass_76 : decode cX4_pass 76 = .ok (.aload_n 0, 1) := by decide +kernel
theorem dX4_pass_77 : decode cX4_pass 77 = .ok (.aload 6, 2) := by decide +kernel
theorem dX4_pass_79 : decode cX4_pass 79 = .ok (.invokevirtual 83, 3) := by decide +kernel
theorem dX4_pass_82 : decode cX4_pass 82 = .ok (.goto 9, 3) := by decide +kernel
theorem dX4_pass_85 : decode cX4_pass 85 = .ok (.aload_n 0, 1) := by decide +kernel
theorem dX4_pass_86 : decode cX4_pass 86 = .ok (.aload 6, 2) := by decide +kernel
theorem dX4_pass_88 : decode cX4_pass 88 = .ok (.invokevirtual 87, 3) := by decide +kernel
theorem dX4_pass_91 : decode cX4_pass 91 = .ok (.iinc 5 1, 3) := by decide +kernel
theorem dX4_pass_94 : decode cX4_pass 94 = .ok (.goto (-80), 3) := by decide +kernel
theorem dX4_pass_97 : decode cX4_pass 97 = .ok (.iload 4, 2) := by decide +kernel
theorem dX4_pass_99 : decode cX4_pass 99 = .ok (.ireturn, 1) := by decide +kernel
theorem dX4_passSimple_0 : decode cX4_passSimple 0 = .ok (.aload_n 1, 1) := by decide +kernel
theorem dX4_passSimple_1 : decode cX4_passSimple 1 = .ok (.getfield 74, 3) := by decide +kernel
theorem dX4_passSimple_4 : decode cX4_passSimple 4 = .ok (.tableswitch 166 0 5 #[40, 68, 84, 100, 166, 114], 40) := by decide +kernel
theorem dX4_passSimple_44 : decode cX4_passSimple 44 = .ok (.aload_n 0, 1) := by decide +kernel
theorem dX4_passSimple_45 : decode cX4_passSimple 45 = .ok (.getfield 12, 3) := by decide +kernel
theorem dX4_passSimple_48 : decode cX4_passSimple 48 = .ok (.aload_n 1, 1) := by decide +kernel
theorem dX4_passSimple_49 : decode cX4_passSimple 49 = .ok (.getfield 90, 3) := by decide +kernel
theorem dX4_passSimple_52 : decode cX4_passSimple 52 = .ok (.invokevirtual 93, 3) := by decide +kernel
theorem dX4_passSimple_55 : decode cX4_passSimple 55 = .ok (.aload_n 0, 1) := by decide +kernel
theorem dX4_passSimple_56 : decode cX4_passSimple 56 = .ok (.getfield 12, 3) := by decide +kernel
theorem dX4_passSimple_59 : decode cX4_passSimple 59 = .ok (.aload_n 1, 1) := by decide +kernel
theorem dX4_passSimple_60 : decode cX4_passSimple 60 = .ok (.getfield 97, 3) := by decide +kernel
theorem dX4_passSimple_63 : decode cX4_passSimple 63 = .ok (.getfield 50, 3) := by decide +kernel
theorem dX4_passSimple_66 : decode cX4_passSimple 66 = .ok (.invokevirtual 55, 3) := by decide +kernel
theorem dX4_passSimple_69 : decode cX4_passSimple 69 = .ok (.goto 115, 3) := by decide +kernel
theorem dX4_passSimple_72 : decode cX4_passSimple 72 = .ok (.aload_n 0, 1) := by decide +kernel
theorem dX4_passSimple_73 : decode cX4_passSimple 73 = .ok (.getfield 12, 3) := by decide +kernel
theorem dX4_passSimple_76 : decode cX4_passSimple 76 = .ok (.aload_n 1, 1) := by decide +kernel
theorem dX4_passSimple_77 : decode cX4_passSimple 77 = .ok (.getfield 90, 3) := by decide +kernel
theorem dX4_passSimple_80 : decode cX4_passSimple 80 = .ok (.iconst 1, 1) := by decide +kernel
theorem dX4_passSimple_81 : decode cX4_passSimple 81 = .ok (.iconst 1, 1) := by decide +kernel
theorem dX4_passSimple_82 : decode cX4_passSimple 82 = .ok (.invokevirtual 101, 3) := by decide +kernel
theorem dX4_passSimple_85 : decode cX4_passSimple 85 = .ok (.goto 99, 3) := by decide +kernel
theorem dX4_passSimple_88 : decode cX4_passSimple 88 = .ok (.aload_n 0, 1) := by decide +kernel
theorem dX4_passSimple_89 : decode cX4_passSimple 89 = .ok (.getfield 12, 3) := by decide +kernel
theorem dX4_passSimple_92 : decode cX4_passSimple 92 = .ok (.aload_n 1, 1) := by decide +kernel
theorem dX4_passSimple_93 : decode cX4_passSimple 93 = .ok (.getfield 90, 3) := by decide +kernel
theorem dX4_passSimple_96 : decode cX4_passSimple 96 = .ok (.iconst 0, 1) := by decide +kernel
theorem dX4_passSimple_97 : decode cX4_passSimple 97 = .ok (.iconst 0, 1) := by decide +kernel
theorem dX4_passSimple_98 : decode cX4_passSimple 98 = .ok (.invokevirtual 101, 3) := by decide +kernel
theorem dX4_passSimple_101 : decode cX4_passSimple 101 = .ok (.goto 83, 3) := by decide +kernel
theorem dX4_passSimple_104 : decode cX4_passSimple 104 = .ok (.aload_n 0, 1) := by decide +kernel
theorem dX4_passSimple_105 : decode cX4_passSimple 105 = .ok (.getfield 12, 3) := by decide +kernel
theorem dX4_passSimple_108 : decode cX4_passSimple 108 = .ok (.aload_n 1, 1) := by decide +kernel
theorem dX4_passSimple_109 : decode cX4_passSimple 109 = .ok (.getfield 90, 3) := by decide +kernel
theorem dX4_passSimple_112 : decode cX4_passSimple 112 = .ok (.invokevirtual 93, 3) := by decide +kernel
theorem dX4_passSimple_115 : decode cX4_passSimple 115 = .ok (.goto 69, 3) := by decide +kernel
theorem dX4_passSimple_118 : decode cX4_passSimple 118 = .ok (.aload_n 1, 1) := by decide +kernel
theorem dX4_passSimple_119 : decode cX4_passSimple 119 = .ok (.getfield 105, 3) := by decide +kernel
theorem dX4_passSimple_122 : decode cX4_passSimple 122 = .ok (.ifCond .lt 31, 3) := by decide +kernel
theorem dX4_passSimple_125 : decode cX4_passSimple 125 = .ok (.aload_n 1, 1) := by decide +kernel
theorem dX4_passSimple_126 : decode cX4_passSimple 126 = .ok (.getfield 105, 3) := by decide +kernel
theorem dX4_passSimple_129 : decode cX4_passSimple 129 = .ok (.aload_n 0, 1) := by decide +kernel
theorem dX4_passSimple_130 : decode cX4_passSimple 130 = .ok (.getfield 29, 3) := by decide +kernel
theorem dX4_passSimple_133 : decode cX4_passSimple 133 = .ok (.arraylength, 1) := by decide +kernel
theorem dX4_passSimple_134 : decode cX4_passSimple 134 = .ok (.if_icmp .ge 19, 3) := by decide +kernel
theorem dX4_passSimple_137 : decode cX4_passSimple 137 = .ok (.aload_n 0, 1) := by decide +kernel
theorem dX4_passSimple_138 : decode cX4_passSimple 138 = .ok (.getfield 29, 3) := by decide +kernel
theorem dX4_passSimple_141 : decode cX4_passSimple 141 = .ok (.aload_n 1, 1) := by decide +kernel
theorem dX4_passSimple_142 : decode cX4_passSimple 142 = .ok (.getfield 105, 3) := by decide +kernel
theorem dX4_passSimple_145 : decode cX4_passSimple 145 = .ok (.aaload, 1) := by decide +kernel
theorem dX4_passSimple_146 : decode cX4_passSimple 146 = .ok (.aload_n 0, 1) := by decide +kernel
theorem dX4_passSimple_147 : decode cX4_passSimple 147 = .ok (.getfield 12, 3) := by decide +kernel
theorem dX4_passSimple_150 : decode cX4_passSimple 150 = .ok (.invokevirtual 63, 3) := by decide +kernel
theorem dX4_passSimple_153 : decode cX4_passSimple 153 = .ok (.aload_n 0, 1) := by decide +kernel
theorem dX4_passSimple_154 : decode cX4_passSimple 154 = .ok (.getfield 12, 3) := by decide +kernel
theorem dX4_passSimple_157 : decode cX4_passSimple 157 = .ok (.aload_n 1, 1) := by decide +kernel
theorem dX4_passSimple_158 : decode cX4_passSimple 158 = .ok (.getfield 97, 3) := by decide +kernel
theorem dX4_passSimple_161 : decode cX4_passSimple 161 = .ok (.getfield 50, 3) := by decide +kernel
theorem dX4_passSimple_164 : decode cX4_passSimple 164 = .ok (.invokevirtual 55, 3) := by decide +kernel
theorem dX4_passSimple_167 : decode cX4_passSimple 167 = .ok (.goto 17, 3) := by decide +kernel
theorem dX4_passSimple_170 : decode cX4_passSimple 170 = .ok (.aload_n 0, 1) := by decide +kernel
theorem dX4_passSimple_171 : decode cX4_passSimple 171 = .ok (.getfield 12, 3) := by decide +kernel
theorem dX4_passSimple_174 : decode cX4_passSimple 174 = .ok (.aload_n 1, 1) := by decide +kernel
theorem dX4_passSimple_175 : decode cX4_passSimple 175 = .ok (.getfield 97, 3) := by decide +kernel
theorem dX4_passSimple_178 : decode cX4_passSimple 178 = .ok (.getfield 50, 3) := by decide +kernel
theorem dX4_passSimple_181 : decode cX4_passSimple 181 = .ok (.invokevirtual 55, 3) := by decide +kernel
theorem dX4_passSimple_184 : decode cX4_passSimple 184 = .ok (.return_, 1) := by decide +kernel
theorem dX4_passLoop_0 : decode cX4_passLoop 0 = .ok (.aload_n 1, 1) := by decide +kernel
theorem dX4_passLoop_1 : decode cX4_passLoop 1 = .ok (.getfield 105, 3) := by decide +kernel
theorem dX4_passLoop_4 : decode cX4_passLoop 4 = .ok (.istore_n 3, 1) := by decide +kernel
theorem dX4_passLoop_5 : decode cX4_passLoop 5 = .ok (.iload_n 3, 1) := by decide +kernel
theorem dX4_passLoop_6 : decode cX4_passLoop 6 = .ok (.ifCond .lt 18, 3) := by decide +kernel
theorem dX4_passLoop_9 : decode cX4_passLoop 9 = .ok (.iload_n 3, 1) := by decide +kernel
theorem dX4_passLoop_10 : decode cX4_passLoop 10 = .ok (.aload_n 0, 1) := by decide +kernel
theorem dX4_passLoop_11 : decode cX4_passLoop 11 = .ok (.getfield 22, 3) := by decide +kernel
theorem dX4_passLoop_14 : decode cX4_passLoop 14 = .ok (.arraylength, 1) := by decide +kernel
theorem dX4_passLoop_15 : decode cX4_passLoop 15 = .ok (.if_icmp .ge 9, 3) := by decide +kernel
theorem dX4_passLoop_18 : decode cX4_passLoop 18 = .ok (.iload_n 3, 1) := by decide +kernel
theorem dX4_passLoop_19 : decode cX4_passLoop 19 = .ok (.aload_n 2, 1) := by decide +kernel
theorem dX4_passLoop_20 : decode cX4_passLoop 20 = .ok (.arraylength, 1) := by decide +kernel
theorem dX4_passLoop_21 : decode cX4_passLoop 21 = .ok (.if_icmp .lt 5, 3) := by decide +kernel
theorem dX4_passLoop_24 : decode cX4_passLoop 24 = .ok (.iconst 0, 1) := by decide +kernel
theorem dX4_passLoop_25 : decode cX4_passLoop 25 = .ok (.ireturn, 1) := by decide +kernel
theorem dX4_passLoop_26 : decode cX4_passLoop 26 = .ok (.aload_n 0, 1) := by decide +kernel
theorem dX4_passLoop_27 : decode cX4_passLoop 27 = .ok (.getfield 22, 3) := by decide +kernel
theorem dX4_passLoop_30 : decode cX4_passLoop 30 = .ok (.iload_n 3, 1) := by decide +kernel
theorem dX4_passLoop_31 : decode cX4_passLoop 31 = .ok (.aaload, 1) := by decide +kernel
theorem dX4_passLoop_32 : decode cX4_passLoop 32 = .ok (.aload_n 0, 1) := by decide +kernel
theorem dX4_passLoop_33 : decode cX4_passLoop 33 = .ok (.getfield 12, 3) := by decide +kernel
theorem dX4_passLoop_36 : decode cX4_passLoop 36 = .ok (.invokevirtual 108, 3) := by decide +kernel
theorem dX4_passLoop_39 : decode cX4_passLoop 39 = .ok (.istore 4, 2) := by decide +kernel
theorem dX4_passLoop_41 : decode cX4_passLoop 41 = .ok (.aload_n 0, 1) := by decide +kernel
theorem dX4_passLoop_42 : decode cX4_passLoop 42 = .ok (.getfield 12, 3) := by decide +kernel
theorem dX4_passLoop_45 : decode cX4_passLoop 45 = .ok (.aload_n 2, 1) := by decide +kernel
theorem dX4_passLoop_46 : decode cX4_passLoop 46 = .ok (.iload_n 3, 1) := by decide +kernel
theorem dX4_passLoop_47 : decode cX4_passLoop 47 = .ok (.aaload, 1) := by decide +kernel
theorem dX4_passLoop_48 : decode cX4_passLoop 48 = .ok (.invokevirtual 63, 3) := by decide +kernel
theorem dX4_passLoop_51 : decode cX4_passLoop 51 = .ok (.aload_n 1, 1) := by decide +kernel
theorem dX4_passLoop_52 : decode cX4_passLoop 52 = .ok (.getfield 74, 3) := by decide +kernel
theorem dX4_passLoop_55 : decode cX4_passLoop 55 = .ok (.bipush 6, 2) := by decide +kernel
theorem dX4_passLoop_57 : decode cX4_passLoop 57 = .ok (.if_icmp .ne 20, 3) := by decide +kernel
theorem dX4_passLoop_60 : decode cX4_passLoop 60 = .ok (.aload_n 0, 1) := by decide +kernel
theorem dX4_passLoop_61 : decode cX4_passLoop 61 = .ok (.getfield 12, 3) := by decide +kernel
theorem dX4_passLoop_64 : decode cX4_passLoop 64 = .ok (.aload_n 1, 1) := by decide +kernel
theorem dX4_passLoop_65 : decode cX4_passLoop 65 = .ok (.getfield 97, 3) := by decide +kernel
theorem dX4_passLoop_68 : decode cX4_passLoop 68 = .ok (.getfield 50, 3) := by decide +kernel
theorem dX4_passLoop_71 : decode cX4_passLoop 71 = .ok (.invokevirtual 55, 3) := by decide +kernel
theorem dX4_passLoop_74 : decode cX4_passLoop 74 = .ok (.goto 17, 3) := by decide +kernel
theorem dX4_passLoop_77 : decode cX4_passLoop 77 = .ok (.aload_n 0, 1) := by decide +kernel
theorem dX4_passLoop_78 : decode cX4_passLoop 78 = .ok (.getfield 12, 3) := by decide +kernel
theorem dX4_passLoop_81 : decode cX4_passLoop 81 = .ok (.aload_n 1, 1) := by decide +kernel
theorem dX4_passLoop_82 : decode cX4_passLoop 82 = .ok (.getfield 97, 3) := by decide +kernel
theorem dX4_passLoop_85 : decode cX4_passLoop 85 = .ok (.getfield 50, 3) := by decide +kernel
theorem dX4_passLoop_88 : decode cX4_passLoop 88 = .ok (.invokevirtual 112, 3) := by decide +kernel
theorem dX4_passLoop_91 : decode cX4_passLoop 91 = .ok (.iload 4, 2) := by decide +kernel
theorem dX4_passLoop_93 : decode cX4_passLoop 93 = .ok (.ireturn, 1) := by decide +kernel
theorem dX4_passChoice_0 : decode cX4_passChoice 0 = .ok (.aload_n 1, 1) := by decide +kernel
theorem dX4_passChoice_1 : decode cX4_passChoice 1 = .ok (.getfield 105, 3) := by decide +kernel
theorem dX4_passChoice_4 : decode cX4_passChoice 4 = .ok (.istore_n 2, 1) := by decide +kernel
theorem dX4_passChoice_5 : decode cX4_passChoice 5 = .ok (.iload_n 2, 1) := by decide +kernel
theorem dX4_passChoice_6 : decode cX4_passChoice 6 = .ok (.ifCond .lt 21, 3) := by decide +kernel
theorem dX4_passChoice_9 : decode cX4_passChoice 9 = .ok (.iload_n 2, 1) := by decide +kernel
theorem dX4_passChoice_10 : decode cX4_passChoice 10 = .ok (.aload_n 0, 1) := by decide +kernel
theorem dX4_passChoice_11 : decode cX4_passChoice 11 = .ok (.getfield 32, 3) := by decide +kernel
theorem dX4_passChoice_14 : decode cX4_passChoice 14 = .ok (.arraylength, 1) := by decide +kernel
theorem dX4_passChoice_15 : decode cX4_passChoice 15 = .ok (.if_icmp .ge 12, 3) := by decide +kernel
theorem dX4_passChoice_18 : decode cX4_passChoice 18 = .ok (.iload_n 2, 1) := by decide +kernel
theorem dX4_passChoice_19 : decode cX4_passChoice 19 = .ok (.aload_n 0, 1) := by decide +kernel
theorem dX4_passChoice_20 : decode cX4_passChoice 20 = .ok (.getfield 35, 3) := by decide +kernel
theorem dX4_passChoice_23 : decode cX4_passChoice 23 = .ok (.arraylength, 1) := by decide +kernel
theorem dX4_passChoice_24 : decode cX4_passChoice 24 = .ok (.if_icmp .lt 4, 3) := by decide +kernel
theorem dX4_passChoice_27 : decode cX4_passChoice 27 = .ok (.return_, 1) := by decide +kernel
theorem dX4_passChoice_28 : decode cX4_passChoice 28 = .ok (.aload_n 1, 1) := by decide +kernel
theorem dX4_passChoice_29 : decode cX4_passChoice 29 = .ok (.getfield 74, 3) := by decide +kernel
theorem dX4_passChoice_32 : decode cX4_passChoice 32 = .ok (.bipush 8, 2) := by decide +kernel
theorem dX4_passChoice_34 : decode cX4_passChoice 34 = .ok (.if_icmp .ne 19, 3) := by decide +kernel
theorem dX4_passChoice_37 : decode cX4_passChoice 37 = .ok (.aload_n 0, 1) := by decide +kernel
theorem dX4_passChoice_38 : decode cX4_passChoice 38 = .ok (.getfield 32, 3) := by decide +kernel
theorem dX4_passChoice_41 : decode cX4_passChoice 41 = .ok (.iload_n 2, 1) := by decide +kernel
theorem dX4_passChoice_42 : decode cX4_passChoice 42 = .ok (.aaload, 1) := by decide +kernel
theorem dX4_passChoice_43 : decode cX4_passChoice 43 = .ok (.aload_n 0, 1) := by decide +kernel
theorem dX4_passChoice_44 : decode cX4_passChoice 44 = .ok (.getfield 12, 3) := by decide +kernel
theorem dX4_passChoice_47 : decode cX4_passChoice 47 = .ok (.invokevirtual 63, 3) := by decide +kernel
theorem dX4_passChoice_50 : decode cX4_passChoice 50 = .ok (.goto 55, 3) := by decide +kernel
theorem dX4_passChoice_53 : decode cX4_passChoice 53 = .ok (.aload_n 1, 1) := by decide +kernel
theorem dX4_passChoice_54 : decode cX4_passChoice 54 = .ok (.getfield 74, 3) := by decide +kernel
theorem dX4_passChoice_57 : decode cX4_passChoice 57 = .ok (.bipush 9, 2) := by decide +kernel
theorem dX4_passChoice_59 : decode cX4_passChoice 59 = .ok (.if_icmp .ne 32, 3) := by decide +kernel
theorem dX4_passChoice_62 : decode cX4_passChoice 62 = .ok (.aload_n 0, 1) := by decide +kernel
theorem dX4_passChoice_63 : decode cX4_passChoice 63 = .ok (.getfield 35, 3) := by decide +kernel
theorem dX4_passChoice_66 : decode cX4_passChoice 66 = .ok (.iload_n 2, 1) := by decide +kernel
theorem dX4_passChoice_67 : decode cX4_passChoice 67 = .ok (.aaload, 1) := by decide +kernel
theorem dX4_passChoice_68 : decode cX4_passChoice 68 = .ok (.aload_n 0, 1) := by decide +kernel
theorem dX4_passChoice_69 : decode cX4_passChoice 69 = .ok (.getfield 12, 3) := by decide +kernel
theorem dX4_passChoice_72 : decode cX4_passChoice 72 = .ok (.invokevirtual 63, 3) := by decide +kernel
theorem dX4_passChoice_75 : decode cX4_passChoice 75 = .ok (.aload_n 0, 1) := by decide +kernel
theorem dX4_passChoice_76 : decode cX4_passChoice 76 = .ok (.getfield 12, 3) := by decide +kernel
theorem dX4_passChoice_79 : decode cX4_passChoice 79 = .ok (.aload_n 0, 1) := by decide +kernel
theorem dX4_passChoice_80 : decode cX4_passChoice 80 = .ok (.getfield 32, 3) := by decide +kernel
theorem dX4_passChoice_83 : decode cX4_passChoice 83 = .ok (.iload_n 2, 1) := by decide +kernel
theorem dX4_passChoice_84 : decode cX4_passChoice 84 = .ok (.aaload, 1) := by decide +kernel
theorem dX4_passChoice_85 : decode cX4_passChoice 85 = .ok (.invokevirtual 63, 3) := by decide +kernel
theorem dX4_passChoice_88 : decode cX4_passChoice 88 = .ok (.goto 17, 3) := by decide +kernel
theorem dX4_passChoice_91 : decode cX4_passChoice 91 = .ok (.aload_n 0, 1) := by decide +kernel
theorem dX4_passChoice_92 : decode cX4_passChoice 92 = .ok (.getfield 12, 3) := by decide +kernel
theorem dX4_passChoice_95 : decode cX4_passChoice 95 = .ok (.aload_n 0, 1) := by decide +kernel
theorem dX4_passChoice_96 : decode cX4_passChoice 96 = .ok (.getfield 35, 3) := by decide +kernel
theorem dX4_passChoice_99 : decode cX4_passChoice 99 = .ok (.iload_n 2, 1) := by decide +kernel
theorem dX4_passChoice_100 : decode cX4_passChoice 100 = .ok (.aaload, 1) := by decide +kernel
theorem dX4_passChoice_101 : decode cX4_passChoice 101 = .ok (.invokevirtual 108, 3) := by decide +kernel
theorem dX4_passChoice_104 : decode cX4_passChoice 104 = .ok (.pop, 1) := by decide +kernel
theorem dX4_passChoice_105 : decode cX4_passChoice 105 = .ok (.return_, 1) := by decide +kernel
theorem dX5_init_0 : decode cX5_init 0 = .ok (.aload_n 0, 1) := by decide +kernel
theorem dX5_init_1 : decode cX5_init 1 = .ok (.invokespecial 3, 3) := by decide +kernel
theorem dX5_init_4 : decode cX5_init 4 = .ok (.aload_n 0, 1) := by decide +kernel
theorem dX5_init_5 : decode cX5_init 5 = .ok (.new 9, 3) := by decide +kernel
theorem dX5_init_8 : decode cX5_init 8 = .ok (.dup, 1) := by decide +kernel
theorem dX5_init_9 : decode cX5_init 9 = .ok (.invokespecial 11, 3) := by decide +kernel
theorem dX5_init_12 : decode cX5_init 12 = .ok (.putfield 12, 3) := by decide +kernel
theorem dX5_init_15 : decode cX5_init 15 = .ok (.aload_n 0, 1) := by decide +kernel
theorem dX5_init_16 : decode cX5_init 16 = .ok (.iconst 3, 1) := by decide +kernel
theorem dX5_init_17 : decode cX5_init 17 = .ok (.newarray .int, 2) := by decide +kernel
theorem dX5_init_19 : decode cX5_init 19 = .ok (.putfield 18, 3) := by decide +kernel
theorem dX5_init_22 : decode cX5_init 22 = .ok (.return_, 1) := by decide +kernel
theorem dX5_find_0 : decode cX5_find 0 = .ok (.iconst 0, 1) := by decide +kernel
theorem dX5_find_1 : decode cX5_find 1 = .ok (.istore 4, 2) := by decide +kernel
theorem dX5_find_3 : decode cX5_find 3 = .ok (.iload 4, 2) := by decide +kernel
theorem dX5_find_5 : decode cX5_find 5 = .ok (.aload_n 0, 1) := by decide +kernel
theorem dX5_find_6 : decode cX5_find 6 = .ok (.getfield 18, 3) := by decide +kernel
theorem dX5_find_9 : decode cX5_find 9 = .ok (.arraylength, 1) := by decide +kernel
theorem dX5_find_10 : decode cX5_find 10 = .ok (.if_icmp .ge 17, 3) := by decide +kernel
theorem dX5_find_13 : decode cX5_find 13 = .ok (.aload_n 0, 1) := by decide +kernel
theorem dX5_find_14 : decode cX5_find 14 = .ok (.getfield 18, 3) := by decide +kernel
theorem dX5_find_17 : decode cX5_find 17 = .ok (.iload 4, 2) := by decide +kernel
theorem dX5_find_19 : decode cX5_find 19 = .ok (.iload_n 3, 1) := by decide +kernel
theorem dX5_find_20 : decode cX5_find 20 = .ok (.iastore, 1) := by decide +kernel
theorem dX5_find_21 : decode cX5_find 21 = .ok (.iinc 4 1, 3) := by decide +kernel
theorem dX5_find_24 : decode cX5_find 24 = .ok (.goto (-21), 3) := by decide +kernel
theorem dX5_find_27 : decode cX5_find 27 = .ok (.iconst 1, 1) := by decide +kernel
theorem dX5_find_28 : decode cX5_find 28 = .ok (.istore 4, 2) := by decide +kernel
theorem dX5_find_30 : decode cX5_find 30 = .ok (.iconst 0, 1) := by decide +kernel
theorem dX5_find_31 : decode cX5_find 31 = .ok (.istore 5, 2) := by decide +kernel
theorem dX5_find_33 : decode cX5_find 33 = .ok (.iload 5, 2) := by decide +kernel
theorem dX5_find_35 : decode cX5_find 35 = .ok (.bipush 16, 2) := by decide +kernel
theorem dX5_find_37 : decode cX5_find 37 = .ok (.if_icmp .ge 112, 3) := by decide +kernel
theorem dX5_find_40 : decode cX5_find 40 = .ok (.iload 4, 2) := by decide +kernel
theorem dX5_find_42 : decode cX5_find 42 = .ok (.ifCond .eq 107, 3) := by decide +kernel
theorem dX5_find_45 : decode cX5_find 45 = .ok (.aload_n 0, 1) := by decide +kernel
theorem dX5_find_46 : decode cX5_find 46 = .ok (.getfield 12, 3) := by decide +kernel
theorem dX5_find_49 : decode cX5_find 49 = .ok (.aload_n 1, 1) := by decide +kernel
theorem dX5_find_50 : decode cX5_find 50 = .ok (.aload_n 0, 1) := by decide +kernel
theorem dX5_find_51 : decode cX5_find 51 = .ok (.getfield 18, 3) := by decide +kernel
theorem dX5_find_54 : decode cX5_find 54 = .ok (.invokevirtual 22, 3) := by decide +kernel
theorem dX5_find_57 : decode cX5_find 57 = .ok (.aload_n 0, 1) := by decide +kernel
theorem dX5_find_58 : decode cX5_find 58 = .ok (.getfield 12, 3) := by decide +kernel
theorem dX5_find_61 : decode cX5_find 61 = .ok (.aload_n 1, 1) := by decide +kernel
theorem dX5_find_62 : decode cX5_find 62 = .ok (.aload_n 2, 1) := by decide +kernel
theorem dX5_find_63 : decode cX5_find 63 = .ok (.aload_n 0, 1) := by decide +kernel
theorem dX5_find_64 : decode cX5_find 64 = .ok (.getfield 12, 3) := by decide +kernel
theorem dX5_find_67 : decode cX5_find 67 = .ok (.getfield 26, 3) := by decide +kernel
theorem dX5_find_70 : decode cX5_find 70 = .ok (.invokevirtual 30, 3) := by decide +kernel
theorem dX5_find_73 : decode cX5_find 73 = .ok (.pop, 1) := by decide +kernel
theorem dX5_find_74 : decode cX5_find 74 = .ok (.iconst 0, 1) := by decide +kernel
theorem dX5_find_75 : decode cX5_find 75 = .ok (.istore 4, 2) := by decide +kernel
theorem dX5_find_77 : decode cX5_find 77 = .ok (.iconst 0, 1) := by decide +kernel
theorem dX5_find_78 : decode cX5_find 78 = .ok (.istore 6, 2) := by decide +kernel
theorem dX5_find_80 : decode cX5_find 80 = .ok (.iload 6, 2) := by decide +kernel
theorem dX5_find_82 : decode cX5_find 82 = .ok (.aload_n 1, 1) := by decide +kernel
theorem dX5_find_83 : decode cX5_find 83 = .ok (.getfield 34, 3) := by decide +kernel
theorem dX5_find_86 : decode cX5_find 86 = .ok (.if_icmp .ge 57, 3) := by decide +kernel
theorem dX5_find_89 : decode cX5_find 89 = .ok (.iload 6, 2) := by decide +kernel
theorem dX5_find_91 : decode cX5_find 91 = .ok (.aload_n 0, 1) := by decide +kernel
theorem dX5_find_92 : decode cX5_find 92 = .ok (.getfield 18, 3) := by decide +kernel
theorem dX5_find_95 : decode cX5_find 95 = .ok (.arraylength, 1) := by decide +kernel
theorem dX5_find_96 : decode cX5_find 96 = .ok (.if_icmp .ge 47, 3) := by decide +kernel
theorem dX5_find_99 : decode cX5_find 99 = .ok (.aload_n 0, 1) := by decide +kernel
theorem dX5_find_100 : decode cX5_find 100 = .ok (.aload_n 1, 1) := by decide +kernel
theorem dX5_find_101 : decode cX5_find 101 = .ok (.iload 6, 2) := by decide +kernel
theorem dX5_find_103 : decode cX5_find 103 = .ok (.invokevirtual 40, 3) := by decide +kernel
theorem dX5_find_106 : decode cX5_find 106 = .ok (.istore 7, 2) := by decide +kernel
theorem dX5_find_108 : decode cX5_find 108 = .ok (.aload_n 0, 1) := by decide +kernel
theorem dX5_find_109 : decode cX5_find 109 = .ok (.getfield 18, 3) := by decide +kernel
theorem dX5_find_112 : decode cX5_find 112 = .ok (.iload 6, 2) := by decide +kernel
theorem dX5_find_114 : decode cX5_find 114 = .ok (.dup2, 1) := by decide +kernel
theorem dX5_find_115 : decode cX5_find 115 = .ok (.iaload, 1) := by decide +kernel
theorem dX5_find_116 : decode cX5_find 116 = .ok (.iload 7, 2) := by decide +kernel
theorem dX5_find_118 : decode cX5_find 118 = .ok (.iconst (-1), 1) := by decide +kernel
theorem dX5_find_119 : decode cX5_find 119 = .ok (.ixor, 1) := by decide +kernel
theorem dX5_find_120 : decode cX5_find 120 = .ok (.iand, 1) := by decide +kernel
theorem dX5_find_121 : decode cX5_find 121 = .ok (.iastore, 1) := by decide +kernel
theorem dX5_find_122 : decode cX5_find 122 = .ok (.iload 4, 2) := by decide +kernel
theorem dX5_find_124 : decode cX5_find 124 = .ok (.iload 7, 2) := by decide +kernel
theorem dX5_find_126 : decode cX5_find 126 = .ok (.ifCond .eq 7, 3) := by decide +kernel
theorem dX5_find_129 : decode cX5_find 129 = .ok (.iconst 1, 1) := by decide +kernel
theorem dX5_find_130 : decode cX5_find 130 = .ok (.goto 4, 3) := by decide +kernel
theorem dX5_find_133 : decode cX5_find 133 = .ok (.iconst 0, 1) := by decide +kernel
theorem dX5_find_134 : decode cX5_find 134 = .ok (.ior, 1) := by decide +kernel
theorem dX5_find_135 : decode cX5_find 135 = .ok (.istore 4, 2) := by decide +kernel
theorem dX5_find_137 : decode cX5_find 137 = .ok (.iinc 6 1, 3) := by decide +kernel
theorem dX5_find_140 : decode cX5_find 140 = .ok (.goto (-60), 3) := by decide +kernel
theorem dX5_find_143 : decode cX5_find 143 = .ok (.iinc 5 1, 3) := by decide +kernel
theorem dX5_find_146 : decode cX5_find 146 = .ok (.goto (-113), 3) := by decide +kernel
theorem dX5_find_149 : decode cX5_find 149 = .ok (.return_, 1) := by decide +kernel
theorem dX5_falseGuesses_0 : decode cX5_falseGuesses 0 = .ok (.iconst 0, 1) := by decide +kernel
theorem dX5_falseGuesses_1 : decode cX5_falseGuesses 1 = .ok (.istore_n 3, 1) := by decide +kernel
theorem dX5_falseGuesses_2 : decode cX5_falseGuesses 2 = .ok (.iload_n 2, 1) := by decide +kernel
theorem dX5_falseGuesses_3 : decode cX5_falseGuesses 3 = .ok (.ifCond .lt 24, 3) := by decide +kernel
theorem dX5_falseGuesses_6 : decode cX5_falseGuesses 6 = .ok (.iload_n 2, 1) := by decide +kernel
theorem dX5_falseGuesses_7 : decode cX5_falseGuesses 7 = .ok (.aload_n 0, 1) := by decide +kernel
theorem dX5_falseGuesses_8 : decode cX5_falseGuesses 8 = .ok (.getfield 18, 3) := by decide +kernel
theorem dX5_falseGuesses_11 : decode cX5_falseGuesses 11 = .ok (.arraylength, 1) := by decide +kernel
theorem dX5_falseGuesses_12 : decode cX5_falseGuesses 12 = .ok (.if_icmp .ge 15, 3) := by decide +kernel
theorem dX5_falseGuesses_15 : decode cX5_falseGuesses 15 = .ok (.iload_n 2, 1) := by decide +kernel
theorem dX5_falseGuesses_16 : decode cX5_falseGuesses 16 = .ok (.aload_n 0, 1) := by decide +kernel
theorem dX5_falseGuesses_17 : decode cX5_falseGuesses 17 = .ok (.getfield 12, 3) := by decide +kernel
theorem dX5_falseGuesses_20 : decode cX5_falseGuesses 20 = .ok (.getfield 44, 3) := by decide +kernel
theorem dX5_falseGuesses_23 : decode cX5_falseGuesses 23 = .ok (.arraylength, 1) := by decide +kernel
theorem dX5_falseGuesses_24 : decode cX5_falseGuesses 24 = .ok (.if_icmp .lt 5, 3) := by decide +kernel
theorem dX5_falseGuesses_27 : decode cX5_falseGuesses 27 = .ok (.iload_n 3, 1) := by decide +kernel
theorem dX5_falseGuesses_28 : decode cX5_falseGuesses 28 = .ok (.ireturn, 1) := by decide +kernel
theorem dX5_falseGuesses_29 : decode cX5_falseGuesses 29 = .ok (.iconst 0, 1) := by decide +kernel
theorem dX5_falseGuesses_30 : decode cX5_falseGuesses 30 = .ok (.istore 4, 2) := by decide +kernel
theorem dX5_falseGuesses_32 : decode cX5_falseGuesses 32 = .ok (.iload 4, 2) := by decide +kernel
theorem dX5_falseGuesses_34 : decode cX5_falseGuesses 34 = .ok (.iconst 5, 1) := by decide +kernel
theorem dX5_falseGuesses_35 : decode cX5_falseGuesses 35 = .ok (.if_icmp .ge 56, 3) := by decide +kernel
theorem dX5_falseGuesses_38 : decode cX5_falseGuesses 38 = .ok (.aload_n 0, 1) := by decide +kernel
theorem dX5_falseGuesses_39 : decode cX5_falseGuesses 39 = .ok (.getfield 18, 3) := by decide +kernel
theorem dX5_falseGuesses_42 : decode cX5_falseGuesses 42 = .ok (.iload_n 2, 1) := by decide +kernel
theorem dX5_falseGuesses_43 : decode cX5_falseGuesses 43 = .ok (.iaload, 1) := by decide +kernel
theorem dX5_falseGuesses_44 : decode cX5_falseGuesses 44 = .ok (.iload 4, 2) := by decide +kernel
theorem dX5_falseGuesses_46 : decode cX5_falseGuesses 46 = .ok (.ishr, 1) := by decide +kernel
theorem dX5_falseGuesses_47 : decode cX5_falseGuesses 47 = .ok (.iconst 1, 1) := by decide +kernel
theorem dX5_falseGuesses_48 : decode cX5_falseGuesses 48 = .ok (.iand, 1) := by decide +kernel
theorem dX5_falseGuesses_49 : decode cX5_falseGuesses 49 = .ok (.iconst 1, 1) := by decide +kernel
theorem dX5_falseGuesses_50 : decode cX5_falseGuesses 50 = .ok (.if_icmp .ne 35, 3) := by decide +kernel
theorem dX5_falseGuesses_53 : decode cX5_falseGuesses 53 = .ok (.aload_n 0, 1) := by decide +kernel
theorem dX5_falseGuesses_54 : decode cX5_falseGuesses 54 = .ok (.getfield 12, 3) := by decide +kernel
theorem dX5_falseGuesses_57 : decode cX5_falseGuesses 57 = .ok (.getfield 44, 3) := by decide +kernel
theorem dX5_falseGuesses_60 : decode cX5_falseGuesses 60 = .ok (.iload_n 2, 1) := by decide +kernel
theorem dX5_falseGuesses_61 : decode cX5_falseGuesses 61 = .ok (.aaload, 1) := by decide +kernel
theorem dX5_falseGuesses_62 : decode cX5_falseGuesses 62 = .ok (.aload_n 1, 1) := by decide +kernel
theorem dX5_falseGuesses_63 : decode cX5_falseGuesses 63 = .ok (.getfield 47, 3) := by decide +kernel
theorem dX5_falseGuesses_66 : decode cX5_falseGuesses 66 = .ok (.iload 4, 2) := by decide +kernel
theorem dX5_falseGuesses_68 : decode cX5_falseGuesses 68 = .ok (.aaload, 1) := by decide +kernel
theorem dX5_falseGuesses_69 : decode cX5_falseGuesses 69 = .ok (.getfield 51, 3) := by decide +kernel
theorem dX5_falseGuesses_72 : decode cX5_falseGuesses 72 = .ok (.invokevirtual 57, 3) := by decide +kernel
theorem dX5_falseGuesses_75 : decode cX5_falseGuesses 75 = .ok (.ifCond .ne 10, 3) := by decide +kernel
theorem dX5_falseGuesses_78 : decode cX5_falseGuesses 78 = .ok (.iload_n 3, 1) := by decide +kernel
theorem dX5_falseGuesses_79 : decode cX5_falseGuesses 79 = .ok (.iconst 1, 1) := by decide +kernel
theorem dX5_falseGuesses_80 : decode cX5_falseGuesses 80 = .ok (.iload 4, 2) := by decide +kernel
theorem dX5_falseGuesses_82 : decode cX5_falseGuesses 82 = .ok (.ishl, 1) := by decide +kernel
theorem dX5_falseGuesses_83 : decode cX5_falseGuesses 83 = .ok (.ior, 1) := by decide +kernel
theorem dX5_falseGuesses_84 : decode cX5_falseGuesses 84 = .ok (.istore_n 3, 1) := by decide +kernel
theorem dX5_falseGuesses_85 : decode cX5_falseGuesses 85 = .ok (.iinc 4 1, 3) := by decide +kernel
theorem dX5_falseGuesses_88 : decode cX5_falseGuesses 88 = .ok (.goto (-56), 3) := by decide +kernel
theorem dX5_falseGuesses_91 : decode cX5_falseGuesses 91 = .ok (.iload_n 3, 1) := by decide +kernel
theorem dX5_falseGuesses_92 : decode cX5_falseGuesses 92 = .ok (.ireturn, 1) := by decide +kernel
theorem dX6_init_0 : decode cX6_init 0 = .ok (.aload_n 0, 1) := by decide +kernel
theorem dX6_init_1 : decode cX6_init 1 = .ok (.invokespecial 3, 3) := by decide +kernel
theorem dX6_init_4 : decode cX6_init 4 = .ok (.aload_n 0, 1) := by decide +kernel
theorem dX6_init_5 : decode cX6_init 5 = .ok (.bipush 6, 2) := by decide +kernel
theorem dX6_init_7 : decode cX6_init 7 = .ok (.newarray .int, 2) := by decide +kernel
theorem dX6_init_9 : decode cX6_init 9 = .ok (.putfield 9, 3) := by decide +kernel
theorem dX6_init_12 : decode cX6_init 12 = .ok (.return_, 1) := by decide +kernel
theorem dX6_read_0 : decode cX6_read 0 = .ok (.aload_n 3, 1) := by decide +kernel
theorem dX6_read_1 : decode cX6_read 1 = .ok (.invokevirtual 15, 3) := by decide +kernel
theorem dX6_read_4 : decode cX6_read 4 = .ok (.aload_n 0, 1) := by decide +kernel
theorem dX6_read_5 : decode cX6_read 5 = .ok (.iconst 0, 1) := by decide +kernel
theorem dX6_read_6 : decode cX6_read 6 = .ok (.putfield 20, 3) := by decide +kernel
theorem dX6_read_9 : decode cX6_read 9 = .ok (.aload_n 0, 1) := by decide +kernel
theorem dX6_read_10 : decode cX6_read 10 = .ok (.iconst 0, 1) := by decide +kernel
theorem dX6_read_11 : decode cX6_read 11 = .ok (.putfield 24, 3) := by decide +kernel
theorem dX6_read_14 : decode cX6_read 14 = .ok (.iconst 0, 1) := by decide +kernel
theorem dX6_read_15 : decode cX6_read 15 = .ok (.istore 4, 2) := by decide +kernel
theorem dX6_read_17 : decode cX6_read 17 = .ok (.iload 4, 2) := by decide +kernel
theorem dX6_read_19 : decode cX6_read 19 = .ok (.iload_n 2, 1) := by decide +kernel
theorem dX6_read_20 : decode cX6_read 20 = .ok (.if_icmp .ge 31, 3) := by decide +kernel
theorem dX6_read_23 : decode cX6_read 23 = .ok (.iload 4, 2) := by decide +kernel
theorem dX6_read_25 : decode cX6_read 25 = .ok (.aload_n 1, 1) := by decide +kernel
theorem dX6_read_26 : decode cX6_read 26 = .ok (.arraylength, 1) := by decide +kernel
theorem dX6_read_27 : decode cX6_read 27 = .ok (.if_icmp .ge 24, 3) := by decide +kernel
theorem dX6_read_30 : decode cX6_read 30 = .ok (.aload_n 0, 1) := by decide +kernel
theorem dX6_read_31 : decode cX6_read 31 = .ok (.aload_n 1, 1) := by decide +kernel
theorem dX6_read_32 : decode cX6_read 32 = .ok (.iload 4, 2) := by decide +kernel
theorem dX6_read_34 : decode cX6_read 34 = .ok (.caload, 1) := by decide +kernel
theorem dX6_read_35 : decode cX6_read 35 = .ok (.aload_n 3, 1) := by decide +kernel
theorem dX6_read_36 : decode cX6_read 36 = .ok (.invokevirtual 27, 3) := by decide +kernel
theorem dX6_read_39 : decode cX6_read 39 = .ok (.ifCond .ne 6, 3) := by decide +kernel
theorem dX6_read_42 : decode cX6_read 42 = .ok (.iload 4, 2) := by decide +kernel
theorem dX6_read_44 : decode cX6_read 44 = .ok (.ireturn, 1) := by decide +kernel
theorem dX6_read_45 : decode cX6_read 45 = .ok (.iinc 4 1, 3) := by decide +kernel
theorem dX6_read_48 : decode cX6_read 48 = .ok (.goto (-31), 3) := by decide +kernel
theorem dX6_read_51 : decode cX6_read 51 = .ok (.aload_n 0, 1) := by decide +kernel
theorem dX6_read_52 : decode cX6_read 52 = .ok (.getfield 24, 3) := by decide +kernel
theorem dX6_read_55 : decode cX6_read 55 = .ok (.ifCond .ne 23, 3) := by decide +kernel
theorem dX6_read_58 : decode cX6_read 58 = .ok (.aload_n 0, 1) := by decide +kernel
theorem dX6_read_59 : decode cX6_read 59 = .ok (.getfield 20, 3) := by decide +kernel
theorem dX6_read_62 : decode cX6_read 62 = .ok (.ifCond .eq 12, 3) := by decide +kernel
theorem dX6_read_65 : decode cX6_read 65 = .ok (.aload_n 0, 1) := by decide +kernel
theorem dX6_read_66 : decode cX6_read 66 = .ok (.getfield 20, 3) := by decide +kernel
theorem dX6_read_69 : decode cX6_read 69 = .ok (.bipush 6, 2) := by decide +kernel
theorem dX6_read_71 : decode cX6_read 71 = .ok (.if_icmp .ne 7, 3) := by decide +kernel
theorem dX6_read_74 : decode cX6_read 74 = .ok (.iconst 1, 1) := by decide +kernel
theorem dX6_read_75 : decode cX6_read 75 = .ok (.goto 4, 3) := by decide +kernel
theorem dX6_read_78 : decode cX6_read 78 = .ok (.iconst 0, 1) := by decide +kernel
theorem dX6_read_79 : decode cX6_read 79 = .ok (.istore 4, 2) := by decide +kernel
theorem dX6_read_81 : decode cX6_read 81 = .ok (.iload 4, 2) := by decide +kernel
theorem dX6_read_83 : decode cX6_read 83 = .ok (.ifCond .eq 8, 3) := by decide +kernel
theorem dX6_read_86 : decode cX6_read 86 = .ok (.bipush (-9), 2) := by decide +kernel
theorem dX6_read_88 : decode cX6_read 88 = .ok (.goto 4, 3) := by decide +kernel
theorem dX6_read_91 : decode cX6_read 91 = .ok (.iload_n 2, 1) := by decide +kernel
theorem dX6_read_92 : decode cX6_read 92 = .ok (.ireturn, 1) := by decide +kernel
theorem dX6_take_0 : decode cX6_take 0 = .ok (.aload_n 0, 1) := by decide +kernel
theorem dX6_take_1 : decode cX6_take 1 = .ok (.getfield 20, 3) := by decide +kernel
theorem dX6_take_4 : decode cX6_take 4 = .ok (.tableswitch 86 0 5 #[40, 47, 66, 54, 60, 76], 40) := by decide +kernel
theorem dX6_take_44 : decode cX6_take 44 = .ok (.aload_n 0, 1) := by decide +kernel
theorem dX6_take_45 : decode cX6_take 45 = .ok (.iload_n 1, 1) := by decide +kernel
theorem dX6_take_46 : decode cX6_take 46 = .ok (.aload_n 2, 1) := by decide +kernel
theorem dX6_take_47 : decode cX6_take 47 = .ok (.invokevirtual 31, 3) := by decide +kernel
theorem dX6_take_50 : decode cX6_take 50 = .ok (.ireturn, 1) := by decide +kernel
theorem dX6_take_51 : decode cX6_take 51 = .ok (.aload_n 0, 1) := by decide +kernel
theorem dX6_take_52 : decode cX6_take 52 = .ok (.iload_n 1, 1) := by decide +kernel
theorem dX6_take_53 : decode cX6_take 53 = .ok (.aload_n 2, 1) := by decide +kernel
theorem dX6_take_54 : decode cX6_take 54 = .ok (.invokevirtual 34, 3) := by decide +kernel
theorem dX6_take_57 : decode cX6_take 57 = .ok (.ireturn, 1) := by decide +kernel
theorem dX6_take_58 : decode cX6_take 58 = .ok (.aload_n 0, 1) := by decide +kernel
theorem dX6_take_59 : decode cX6_take 59 = .ok (.iload_n 1, 1) := by decide +kernel
theorem dX6_take_60 : decode cX6_take 60 = .ok (.invokevirtual 37, 3) := by decide +kernel
theorem dX6_take_63 : decode cX6_take 63 = .ok (.ireturn, 1) := by decide +kernel
theorem dX6_take_64 : decode cX6_take 64 = .ok (.aload_n 0, 1) := by decide +kernel
theorem dX6_take_65 : decode cX6_take 65 = .ok (.iload_n 1, 1) := by decide +kernel
theorem dX6_take_66 : decode cX6_take 66 = .ok (.invokevirtual 41, 3) := by decide +kernel
theorem dX6_take_69 : decode cX6_take 69 = .ok (.ireturn, 1) := by decide +kernel
theorem dX6_take_70 : decode cX6_take 70 = .ok (.aload_n 0, 1) := by decide +kernel
theorem dX6_take_71 : decode cX6_take 71 = .ok (.iload_n 1, 1) := by decide +kernel
theorem dX6_take_72 : decode cX6_take 72 = .ok (.invokestatic 44, 3) := by decide +kernel
theorem dX6_take_75 : decode cX6_take 75 = .ok (.aload_n 2, 1) := by decide +kernel
theorem dX6_take_76 : decode cX6_take 76 = .ok (.invokevirtual 48, 3) := by decide +kernel
theorem dX6_take_79 : decode cX6_take 79 = .ok (.ireturn, 1) := by decide +kernel
theorem dX6_take_80 : decode cX6_take 80 = .ok (.aload_n 0, 1) := by decide +kernel
theorem dX6_take_81 : decode cX6_take 81 = .ok (.iload_n 1, 1) := by decide +kernel
theorem dX6_take_82 : decode cX6_take 82 = .ok (.invokestatic 44, 3) := by decide +kernel
theorem dX6_take_85 : decode cX6_take 85 = .ok (.aload_n 2, 1) := by decide +kernel
theorem dX6_take_86 : decode cX6_take 86 = .ok (.invokevirtual 52, 3) := by decide +kernel
theorem dX6_take_89 : decode cX6_take 89 = .ok (.ireturn, 1) := by decide +kernel
theorem dX6_take_90 : decode cX6_take 90 = .ok (.iload_n 1, 1) := by decide +kernel
theorem dX6_take_91 : decode cX6_take 91 = .ok (.bipush 59, 2) := by decide +kernel
theorem dX6_take_93 : decode cX6_take 93 = .ok (.if_icmp .ne 15, 3) := by decide +kernel
theorem dX6_take_96 : decode cX6_take 96 = .ok (.aload_n 0, 1) := by decide +kernel
theorem dX6_take_97 : decode cX6_take 97 = .ok (.aload_n 2, 1) := by decide +kernel
theorem dX6_take_98 : decode cX6_take 98 = .ok (.invokevirtual 55, 3) := by decide +kernel
theorem dX6_take_101 : decode cX6_take 101 = .ok (.ifCond .eq 7, 3) := by decide +kernel
theorem dX6_take_104 : decode cX6_take 104 = .ok (.iconst 1, 1) := by decide +kernel
theorem dX6_take_105 : decode cX6_take 105 = .ok (.goto 4, 3) := by decide +kernel
theorem dX6_take_108 : decode cX6_take 108 = .ok (.iconst 0, 1) := by decide +kernel
theorem dX6_take_109 : decode cX6_take 109 = .ok (.ireturn, 1) := by decide +kernel
theorem dX6_isName_0 : decode cX6_isName 0 = .ok (.iload_n 0, 1) := by decide +kernel
theorem dX6_isName_1 : decode cX6_isName 1 = .ok (.bipush 97, 2) := by decide +kernel
theorem dX6_isName_3 : decode cX6_isName 3 = .ok (.if_icmp .lt 13, 3) := by decide +kernel
theorem dX6_isName_6 : decode cX6_isName 6 = .ok (.iload_n 0, 1) := by decide +kernel
theorem dX6_isName_7 : decode cX6_isName 7 = .ok (.bipush 99, 2) := by decide +kernel
theorem dX6_isName_9 : decode cX6_isName 9 = .ok (.if_icmp .gt 7, 3) := by decide +kernel
theorem dX6_isName_12 : decode cX6_isName 12 = .ok (.iconst 1, 1) := by decide +kernel
theorem dX6_isName_13 : decode cX6_isName 13 = .ok (.goto 4, 3) := by decide +kernel
theorem dX6_isName_16 : decode cX6_isName 16 = .ok (.iconst 0, 1) := by decide +kernel
theorem dX6_isName_17 : decode cX6_isName 17 = .ok (.ireturn, 1) := by decide +kernel
theorem dX6_term_0 : decode cX6_term 0 = .ok (.iload_n 0, 1) := by decide +kernel
theorem dX6_term_1 : decode cX6_term 1 = .ok (.invokestatic 59, 3) := by decide +kernel
theorem dX6_term_4 : decode cX6_term 4 = .ok (.ifCond .eq 11, 3) := by decide +kernel
theorem dX6_term_7 : decode cX6_term 7 = .ok (.bipush 6, 2) := by decide +kernel
theorem dX6_term_9 : decode cX6_term 9 = .ok (.iload_n 0, 1) := by decide +kernel
theorem dX6_term_10 : decode cX6_term 10 = .ok (.iadd, 1) := by decide +kernel
theorem dX6_term_11 : decode cX6_term 11 = .ok (.bipush 97, 2) := by decide +kernel
theorem dX6_term_13 : decode cX6_term 13 = .ok (.isub, 1) := by decide +kernel
theorem dX6_term_14 : decode cX6_term 14 = .ok (.ireturn, 1) := by decide +kernel
theorem dX6_term_15 : decode cX6_term 15 = .ok (.iload_n 0, 1) := by decide +kernel
theorem dX6_term_16 : decode cX6_term 16 = .ok (.bipush 48, 2) := by decide +kernel
theorem dX6_term_18 : decode cX6_term 18 = .ok (.if_icmp .lt 16, 3) := by decide +kernel
theorem dX6_term_21 : decode cX6_term 21 = .ok (.iload_n 0, 1) := by decide +kernel
theorem dX6_term_22 : decode cX6_term 22 = .ok (.bipush 53, 2) := by decide +kernel
theorem dX6_term_24 : decode cX6_term 24 = .ok (.if_icmp .gt 10, 3) := by decide +kernel
theorem dX6_term_27 : decode cX6_term 27 = .ok (.iload_n 0, 1) := by decide +kernel
theorem dX6_term_28 : decode cX6_term 28 = .ok (.bipush 48, 2) := by decide +kernel
theorem dX6_term_30 : decode cX6_term 30 = .ok (.isub, 1) := by decide +kernel
theorem dX6_term_31 : decode cX6_term 31 = .ok (.goto 4, 3) := by decide +kernel
theorem dX6_term_34 : decode cX6_term 34 = .ok (.iconst (-1), 1) := by decide +kernel
theorem dX6_term_35 : decode cX6_term 35 = .ok (.ireturn, 1) := by decide +kernel
theorem dX6_takeStatement_0 : decode cX6_takeStatement 0 = .ok (.iload_n 1, 1) := by decide +kernel
theorem dX6_takeStatement_1 : decode cX6_takeStatement 1 = .ok (.invokestatic 59, 3) := by decide +kernel
theorem dX6_takeStatement_4 : decode cX6_takeStatement 4 = .ok (.ifCond .eq 18, 3) := by decide +kernel
theorem dX6_takeStatement_7 : decode cX6_takeStatement 7 = .ok (.aload_n 0, 1) := by decide +kernel
theorem dX6_takeStatement_8 : decode cX6_takeStatement 8 = .ok (.iload_n 1, 1) := by decide +kernel
theorem dX6_takeStatement_9 : decode cX6_takeStatement 9 = .ok (.bipush 97, 2) := by decide +kernel
theorem dX6_takeStatement_11 : decode cX6_takeStatement 11 = .ok (.isub, 1) := by decide +kernel
theorem dX6_takeStatement_12 : decode cX6_takeStatement 12 = .ok (.putfield 62, 3) := by decide +kernel
theorem dX6_takeStatement_15 : decode cX6_takeStatement 15 = .ok (.aload_n 0, 1) := by decide +kernel
theorem dX6_takeStatement_16 : decode cX6_takeStatement 16 = .ok (.iconst 1, 1) := by decide +kernel
theorem dX6_takeStatement_17 : decode cX6_takeStatement 17 = .ok (.putfield 20, 3) := by decide +kernel
theorem dX6_takeStatement_20 : decode cX6_takeStatement 20 = .ok (.iconst 1, 1) := by decide +kernel
theorem dX6_takeStatement_21 : decode cX6_takeStatement 21 = .ok (.ireturn, 1) := by decide +kernel
theorem dX6_takeStatement_22 : decode cX6_takeStatement 22 = .ok (.iload_n 1, 1) := by decide +kernel
theorem dX6_takeStatement_23 : decode cX6_takeStatement 23 = .ok (.lookupswitch 193 #[(33, 79), (40, 101), (41, 124), (59, 172), (64, 73), (123, 130), (124, 152), (125, 162)], 73) := by decide +kernel
theorem dX6_takeStatement_96 : decode cX6_takeStatement 96 = .ok (.aload_n 0, 1) := by decide +kernel
theorem dX6_takeStatement_97 : decode cX6_takeStatement 97 = .ok (.iconst 4, 1) := by decide +kernel
theorem dX6_takeStatement_98 : decode cX6_takeStatement 98 = .ok (.invokevirtual 67, 3) := by decide +kernel
theorem dX6_takeStatement_101 : decode cX6_takeStatement 101 = .ok (.ireturn, 1) := by decide +kernel
theorem dX6_takeStatement_102 : decode cX6_takeStatement 102 = .ok (.aload_n 2, 1) := by decide +kernel
theorem dX6_takeStatement_103 : decode cX6_takeStatement 103 = .ok (.getfield 71, 3) := by decide +kernel
theorem dX6_takeStatement_106 : decode cX6_takeStatement 106 = .ok (.iconst 4, 1) := by decide +kernel
theorem dX6_takeStatement_107 : decode cX6_takeStatement 107 = .ok (.if_icmp .ge 15, 3) := by decide +kernel
theorem dX6_takeStatement_110 : decode cX6_takeStatement 110 = .ok (.aload_n 0, 1) := by decide +kernel
theorem dX6_takeStatement_111 : decode cX6_takeStatement 111 = .ok (.iconst 5, 1) := by decide +kernel
theorem dX6_takeStatement_112 : decode cX6_takeStatement 112 = .ok (.invokevirtual 67, 3) := by decide +kernel
theorem dX6_takeStatement_115 : decode cX6_takeStatement 115 = .ok (.ifCond .eq 7, 3) := by decide +kernel
theorem dX6_takeStatement_118 : decode cX6_takeStatement 118 = .ok (.iconst 1, 1) := by decide +kernel
theorem dX6_takeStatement_119 : decode cX6_takeStatement 119 = .ok (.goto 4, 3) := by decide +kernel
theorem dX6_takeStatement_122 : decode cX6_takeStatement 122 = .ok (.iconst 0, 1) := by decide +kernel
theorem dX6_takeStatement_123 : decode cX6_takeStatement 123 = .ok (.ireturn, 1) := by decide +kernel
theorem dX6_takeStatement_124 : decode cX6_takeStatement 124 = .ok (.aload_n 2, 1) := by decide +kernel
theorem dX6_takeStatement_125 : decode cX6_takeStatement 125 = .ok (.getfield 74, 3) := by decide +kernel
theorem dX6_takeStatement_128 : decode cX6_takeStatement 128 = .ok (.iconst 3, 1) := by decide +kernel
theorem dX6_takeStatement_129 : decode cX6_takeStatement 129 = .ok (.if_icmp .ge 16, 3) := by decide +kernel
theorem dX6_takeStatement_132 : decode cX6_takeStatement 132 = .ok (.aload_n 0, 1) := by decide +kernel
theorem dX6_takeStatement_133 : decode cX6_takeStatement 133 = .ok (.bipush 6, 2) := by decide +kernel
theorem dX6_takeStatement_135 : decode cX6_takeStatement 135 = .ok (.invokevirtual 67, 3) := by decide +kernel
theorem dX6_takeStatement_138 : decode cX6_takeStatement 138 = .ok (.ifCond .eq 7, 3) := by decide +kernel
theorem dX6_takeStatement_141 : decode cX6_takeStatement 141 = .ok (.iconst 1, 1) := by decide +kernel
theorem dX6_takeStatement_142 : decode cX6_takeStatement 142 = .ok (.goto 4, 3) := by decide +kernel
theorem dX6_takeStatement_145 : decode cX6_takeStatement 145 = .ok (.iconst 0, 1) := by decide +kernel
theorem dX6_takeStatement_146 : decode cX6_takeStatement 146 = .ok (.ireturn, 1) := by decide +kernel
theorem dX6_takeStatement_147 : decode cX6_takeStatement 147 = .ok (.aload_n 0, 1) := by decide +kernel
theorem dX6_takeStatement_148 : decode cX6_takeStatement 148 = .ok (.aload_n 2, 1) := by decide +kernel
theorem dX6_takeStatement_149 : decode cX6_takeStatement 149 = .ok (.invokevirtual 77, 3) := by decide +kernel
theorem dX6_takeStatement_152 : decode cX6_takeStatement 152 = .ok (.ireturn, 1) := by decide +kernel
theorem dX6_takeStatement_153 : decode cX6_takeStatement 153 = .ok (.aload_n 2, 1) := by decide +kernel
theorem dX6_takeStatement_154 : decode cX6_takeStatement 154 = .ok (.getfield 80, 3) := by decide +kernel
theorem dX6_takeStatement_157 : decode cX6_takeStatement 157 = .ok (.iconst 3, 1) := by decide +kernel
theorem dX6_takeStatement_158 : decode cX6_takeStatement 158 = .ok (.if_icmp .ge 15, 3) := by decide +kernel
theorem dX6_takeStatement_161 : decode cX6_takeStatement 161 = .ok (.aload_n 0, 1) := by decide +kernel
theorem dX6_takeStatement_162 : decode cX6_takeStatement 162 = .ok (.aload_n 2, 1) := by decide +kernel
theorem dX6_takeStatement_163 : decode cX6_takeStatement 163 = .ok (.invokevirtual 83, 3) := by decide +kernel
theorem dX6_takeStatement_166 : decode cX6_takeStatement 166 = .ok (.ifCond .eq 7, 3) := by decide +kernel
theorem dX6_takeStatement_169 : decode cX6_takeStatement 169 = .ok (.iconst 1, 1) := by decide +kernel
theorem dX6_takeStatement_170 : decode cX6_takeStatement 170 = .ok (.goto 4, 3) := by decide +kernel
theorem dX6_takeStatement_173 : decode cX6_takeStatement 173 = .ok (.iconst 0, 1) := by decide +kernel
theorem dX6_takeStatement_174 : decode cX6_takeStatement 174 = .ok (.ireturn, 1) := by decide +kernel
theorem dX6_takeStatement_175 : decode cX6_takeStatement 175 = .ok (.aload_n 0, 1) := by decide +kernel
theorem dX6_takeStatement_176 : decode cX6_takeStatement 176 = .ok (.bipush 8, 2) := by decide +kernel
theorem dX6_takeStatement_178 : decode cX6_takeStatement 178 = .ok (.bipush 9, 2) := by decide +kernel
theorem dX6_takeStatement_180 : decode cX6_takeStatement 180 = .ok (.aload_n 2, 1) := by decide +kernel
theorem dX6_takeStatement_181 : decode cX6_takeStatement 181 = .ok (.invokevirtual 86, 3) := by decide +kernel
theorem dX6_takeStatement_184 : decode cX6_takeStatement 184 = .ok (.ireturn, 1) := by decide +kernel
theorem dX6_takeStatement_185 : decode cX6_takeStatement 185 = .ok (.aload_n 0, 1) := by decide +kernel
theorem dX6_takeStatement_186 : decode cX6_takeStatement 186 = .ok (.bipush 9, 2) := by decide +kernel
theorem dX6_takeStatement_188 : decode cX6_takeStatement 188 = .ok (.bipush 10, 2) := by decide +kernel
theorem dX6_takeStatement_190 : decode cX6_takeStatement 190 = .ok (.aload_n 2, 1) := by decide +kernel
theorem dX6_takeStatement_191 : decode cX6_takeStatement 191 = .ok (.invokevirtual 86, 3) := by decide +kernel
theorem dX6_takeStatement_194 : decode cX6_takeStatement 194 = .ok (.ireturn, 1) := by decide +kernel
theorem dX6_takeStatement_195 : decode cX6_takeStatement 195 = .ok (.aload_n 0, 1) := by decide +kernel
theorem dX6_takeStatement_196 : decode cX6_takeStatement 196 = .ok (.getfield 24, 3) := by decide +kernel
theorem dX6_takeStatement_199 : decode cX6_takeStatement 199 = .ok (.ifCond .ne 15, 3) := by decide +kernel
theorem dX6_takeStatement_202 : decode cX6_takeStatement 202 = .ok (.aload_n 0, 1) := by decide +kernel
theorem dX6_takeStatement_203 : decode cX6_takeStatement 203 = .ok (.aload_n 2, 1) := by decide +kernel
theorem dX6_takeStatement_204 : decode cX6_takeStatement 204 = .ok (.invokevirtual 55, 3) := by decide +kernel
theorem dX6_takeStatement_207 : decode cX6_takeStatement 207 = .ok (.ifCond .eq 7, 3) := by decide +kernel
theorem dX6_takeStatement_210 : decode cX6_takeStatement 210 = .ok (.iconst 1, 1) := by decide +kernel
theorem dX6_takeStatement_211 : decode cX6_takeStatement 211 = .ok (.goto 4, 3) := by decide +kernel
theorem dX6_takeStatement_214 : decode cX6_takeStatement 214 = .ok (.iconst 0, 1) := by decide +kernel
theorem dX6_takeStatement_215 : decode cX6_takeStatement 215 = .ok (.ireturn, 1) := by decide +kernel
theorem dX6_takeStatement_216 : decode cX6_takeStatement 216 = .ok (.iconst 0, 1) := by decide +kernel
theorem dX6_takeStatement_217 : decode cX6_takeStatement 217 = .ok (.ireturn, 1) := by decide +kernel
theorem dX6_beginGuess_0 : decode cX6_beginGuess 0 = .ok (.aload_n 1, 1) := by decide +kernel
theorem dX6_beginGuess_1 : decode cX6_beginGuess 1 = .ok (.getfield 90, 3) := by decide +kernel
theorem dX6_beginGuess_4 : decode cX6_beginGuess 4 = .ok (.iconst 5, 1) := by decide +kernel
theorem dX6_beginGuess_5 : decode cX6_beginGuess 5 = .ok (.if_icmp .ge 15, 3) := by decide +kernel
theorem dX6_beginGuess_8 : decode cX6_beginGuess 8 = .ok (.aload_n 0, 1) := by decide +kernel
theorem dX6_beginGuess_9 : decode cX6_beginGuess 9 = .ok (.iconst (-1), 1) := by decide +kernel
theorem dX6_beginGuess_10 : decode cX6_beginGuess 10 = .ok (.invokevirtual 67, 3) := by decide +kernel
theorem dX6_beginGuess_13 : decode cX6_beginGuess 13 = .ok (.ifCond .eq 7, 3) := by decide +kernel
theorem dX6_beginGuess_16 : decode cX6_beginGuess 16 = .ok (.iconst 1, 1) := by decide +kernel
theorem dX6_beginGuess_17 : decode cX6_beginGuess 17 = .ok (.goto 4, 3) := by decide +kernel
theorem dX6_beginGuess_20 : decode cX6_beginGuess 20 = .ok (.iconst 0, 1) := by decide +kernel
theorem dX6_beginGuess_21 : decode cX6_beginGuess 21 = .ok (.ireturn, 1) := by decide +kernel
theorem dX6_expectCondition_0 : decode cX6_expectCondition 0 = .ok (.aload_n 0, 1) := by decide +kernel
theorem dX6_expectCondition_1 : decode cX6_expectCondition 1 = .ok (.iload_n 1, 1) := by decide +kernel
theorem dX6_expectCondition_2 : decode cX6_expectCondition 2 = .ok (.putfield 93, 3) := by decide +kernel
theorem dX6_expectCondition_5 : decode cX6_expectCondition 5 = .ok (.aload_n 0, 1) := by decide +kernel
theorem dX6_expectCondition_6 : decode cX6_expectCondition 6 = .ok (.iconst 3, 1) := by decide +kernel
theorem dX6_expectCondition_7 : decode cX6_expectCondition 7 = .ok (.putfield 20, 3) := by decide +kernel
theorem dX6_expectCondition_10 : decode cX6_expectCondition 10 = .ok (.iconst 1, 1) := by decide +kernel
theorem dX6_expectCondition_11 : decode cX6_expectCondition 11 = .ok (.ireturn, 1) := by decide +kernel
theorem dX6_takeOperation_0 : decode cX6_takeOperation 0 = .ok (.iload_n 1, 1) := by decide +kernel
theorem dX6_takeOperation_1 : decode cX6_takeOperation 1 = .ok (.lookupswitch 71 #[(43, 50), (45, 57), (61, 43), (63, 64)], 43) := by decide +kernel
theorem dX6_takeOperation_44 : decode cX6_takeOperation 44 = .ok (.aload_n 0, 1) := by decide +kernel
theorem dX6_takeOperation_45 : decode cX6_takeOperation 45 = .ok (.iconst 2, 1) := by decide +kernel
theorem dX6_takeOperation_46 : decode cX6_takeOperation 46 = .ok (.putfield 20, 3) := by decide +kernel
theorem dX6_takeOperation_49 : decode cX6_takeOperation 49 = .ok (.iconst 1, 1) := by decide +kernel
theorem dX6_takeOperation_50 : decode cX6_takeOperation 50 = .ok (.ireturn, 1) := by decide +kernel
theorem dX6_takeOperation_51 : decode cX6_takeOperation 51 = .ok (.aload_n 0, 1) := by decide +kernel
theorem dX6_takeOperation_52 : decode cX6_takeOperation 52 = .ok (.iconst 1, 1) := by decide +kernel
theorem dX6_takeOperation_53 : decode cX6_takeOperation 53 = .ok (.aload_n 2, 1) := by decide +kernel
theorem dX6_takeOperation_54 : decode cX6_takeOperation 54 = .ok (.invokevirtual 96, 3) := by decide +kernel
theorem dX6_takeOperation_57 : decode cX6_takeOperation 57 = .ok (.ireturn, 1) := by decide +kernel
theorem dX6_takeOperation_58 : decode cX6_takeOperation 58 = .ok (.aload_n 0, 1) := by decide +kernel
theorem dX6_takeOperation_59 : decode cX6_takeOperation 59 = .ok (.iconst 2, 1) := by decide +kernel
theorem dX6_takeOperation_60 : decode cX6_takeOperation 60 = .ok (.aload_n 2, 1) := by decide +kernel
theorem dX6_takeOperation_61 : decode cX6_takeOperation 61 = .ok (.invokevirtual 96, 3) := by decide +kernel
theorem dX6_takeOperation_64 : decode cX6_takeOperation 64 = .ok (.ireturn, 1) := by decide +kernel
theorem dX6_takeOperation_65 : decode cX6_takeOperation 65 = .ok (.aload_n 0, 1) := by decide +kernel
theorem dX6_takeOperation_66 : decode cX6_takeOperation 66 = .ok (.iconst 3, 1) := by decide +kernel
theorem dX6_takeOperation_67 : decode cX6_takeOperation 67 = .ok (.aload_n 2, 1) := by decide +kernel
theorem dX6_takeOperation_68 : decode cX6_takeOperation 68 = .ok (.invokevirtual 96, 3) := by decide +kernel
theorem dX6_takeOperation_71 : decode cX6_takeOperation 71 = .ok (.ireturn, 1) := by decide +kernel
theorem dX6_takeOperation_72 : decode cX6_takeOperation 72 = .ok (.iconst 0, 1) := by decide +kernel
theorem dX6_takeOperation_73 : decode cX6_takeOperation 73 = .ok (.ireturn, 1) := by decide +kernel
theorem dX6_appendChange_0 : decode cX6_appendChange 0 = .ok (.aload_n 2, 1) := by decide +kernel
theorem dX6_appendChange_1 : decode cX6_appendChange 1 = .ok (.iload_n 1, 1) := by decide +kernel
theorem dX6_appendChange_2 : decode cX6_appendChange 2 = .ok (.invokevirtual 99, 3) := by decide +kernel
theorem dX6_appendChange_5 : decode cX6_appendChange 5 = .ok (.aload_n 0, 1) := by decide +kernel
theorem dX6_appendChange_6 : decode cX6_appendChange 6 = .ok (.getfield 62, 3) := by decide +kernel
theorem dX6_appendChange_9 : decode cX6_appendChange 9 = .ok (.putfield 103, 3) := by decide +kernel
theorem dX6_appendChange_12 : decode cX6_appendChange 12 = .ok (.aload_n 0, 1) := by decide +kernel
theorem dX6_appendChange_13 : decode cX6_appendChange 13 = .ok (.iconst 0, 1) := by decide +kernel
theorem dX6_appendChange_14 : decode cX6_appendChange 14 = .ok (.putfield 20, 3) := by decide +kernel
theorem dX6_appendChange_17 : decode cX6_appendChange 17 = .ok (.iconst 1, 1) := by decide +kernel
theorem dX6_appendChange_18 : decode cX6_appendChange 18 = .ok (.ireturn, 1) := by decide +kernel
theorem dX6_takeNewValue_0 : decode cX6_takeNewValue 0 = .ok (.iload_n 1, 1) := by decide +kernel
theorem dX6_takeNewValue_1 : decode cX6_takeNewValue 1 = .ok (.ifCond .ge 5, 3) := by decide +kernel
theorem dX6_takeNewValue_4 : decode cX6_takeNewValue 4 = .ok (.iconst 0, 1) := by decide +kernel
theorem dX6_takeNewValue_5 : decode cX6_takeNewValue 5 = .ok (.ireturn, 1) := by decide +kernel
theorem dX6_takeNewValue_6 : decode cX6_takeNewValue 6 = .ok (.iload_n 1, 1) := by decide +kernel
theorem dX6_takeNewValue_7 : decode cX6_takeNewValue 7 = .ok (.bipush 6, 2) := by decide +kernel
theorem dX6_takeNewValue_9 : decode cX6_takeNewValue 9 = .ok (.aload_n 0, 1) := by decide +kernel
theorem dX6_takeNewValue_10 : decode cX6_takeNewValue 10 = .ok (.getfield 62, 3) := by decide +kernel
theorem dX6_takeNewValue_13 : decode cX6_takeNewValue 13 = .ok (.iadd, 1) := by decide +kernel
theorem dX6_takeNewValue_14 : decode cX6_takeNewValue 14 = .ok (.if_icmp .ne 7, 3) := by decide +kernel
theorem dX6_takeNewValue_17 : decode cX6_takeNewValue 17 = .ok (.iconst 1, 1) := by decide +kernel
theorem dX6_takeNewValue_18 : decode cX6_takeNewValue 18 = .ok (.goto 4, 3) := by decide +kernel
theorem dX6_takeNewValue_21 : decode cX6_takeNewValue 21 = .ok (.iconst 0, 1) := by decide +kernel
theorem dX6_takeNewValue_22 : decode cX6_takeNewValue 22 = .ok (.istore_n 3, 1) := by decide +kernel
theorem dX6_takeNewValue_23 : decode cX6_takeNewValue 23 = .ok (.aload_n 2, 1) := by decide +kernel
theorem dX6_takeNewValue_24 : decode cX6_takeNewValue 24 = .ok (.iload_n 3, 1) := by decide +kernel
theorem dX6_takeNewValue_25 : decode cX6_takeNewValue 25 = .ok (.ifCond .eq 7, 3) := by decide +kernel
theorem dX6_takeNewValue_28 : decode cX6_takeNewValue 28 = .ok (.iconst 4, 1) := by decide +kernel
theorem dX6_takeNewValue_29 : decode cX6_takeNewValue 29 = .ok (.goto 4, 3) := by decide +kernel
theorem dX6_takeNewValue_32 : decode cX6_takeNewValue 32 = .ok (.iconst 0, 1) := by decide +kernel
theorem dX6_takeNewValue_33 : decode cX6_takeNewValue 33 = .ok (.invokevirtual 99, 3) := by decide +kernel
theorem dX6_takeNewValue_36 : decode cX6_takeNewValue 36 = .ok (.astore 4, 2) := by decide +kernel
theorem dX6_takeNewValue_38 : decode cX6_takeNewValue 38 = .ok (.aload 4, 2) := by decide +kernel
theorem dX6_takeNewValue_40 : decode cX6_takeNewValue 40 = .ok (.aload_n 0, 1) := by decide +kernel
theorem dX6_takeNewValue_41 : decode cX6_takeNewValue 41 = .ok (.getfield 62, 3) := by decide +kernel
theorem dX6_takeNewValue_44 : decode cX6_takeNewValue 44 = .ok (.putfield 103, 3) := by decide +kernel
theorem dX6_takeNewValue_47 : decode cX6_takeNewValue 47 = .ok (.aload 4, 2) := by decide +kernel
theorem dX6_takeNewValue_49 : decode cX6_takeNewValue 49 = .ok (.aload_n 2, 1) := by decide +kernel
theorem dX6_takeNewValue_50 : decode cX6_takeNewValue 50 = .ok (.aload_n 0, 1) := by decide +kernel
theorem dX6_takeNewValue_51 : decode cX6_takeNewValue 51 = .ok (.getfield 62, 3) := by decide +kernel
theorem dX6_takeNewValue_54 : decode cX6_takeNewValue 54 = .ok (.bipush 61, 2) := by decide +kernel
theorem dX6_takeNewValue_56 : decode cX6_takeNewValue 56 = .ok (.iload_n 1, 1) := by decide +kernel
theorem dX6_takeNewValue_57 : decode cX6_takeNewValue 57 = .ok (.invokevirtual 104, 3) := by decide +kernel
theorem dX6_takeNewValue_60 : decode cX6_takeNewValue 60 = .ok (.putfield 108, 3) := by decide +kernel
theorem dX6_takeNewValue_63 : decode cX6_takeNewValue 63 = .ok (.aload_n 0, 1) := by decide +kernel
theorem dX6_takeNewValue_64 : decode cX6_takeNewValue 64 = .ok (.iconst 0, 1) := by decide +kernel
theorem dX6_takeNewValue_65 : decode cX6_takeNewValue 65 = .ok (.putfield 20, 3) := by decide +kernel
theorem dX6_takeNewValue_68 : decode cX6_takeNewValue 68 = .ok (.iconst 1, 1) := by decide +kernel
theorem dX6_takeNewValue_69 : decode cX6_takeNewValue 69 = .ok (.ireturn, 1) := by decide +kernel
theorem dX6_takeLeft_0 : decode cX6_takeLeft 0 = .ok (.iload_n 1, 1) := by decide +kernel
theorem dX6_takeLeft_1 : decode cX6_takeLeft 1 = .ok (.invokestatic 59, 3) := by decide +kernel
theorem dX6_takeLeft_4 : decode cX6_takeLeft 4 = .ok (.ifCond .ne 5, 3) := by decide +kernel
theorem dX6_takeLeft_7 : decode cX6_takeLeft 7 = .ok (.iconst 0, 1) := by decide +kernel
theorem dX6_takeLeft_8 : decode cX6_takeLeft 8 = .ok (.ireturn, 1) := by decide +kernel
theorem dX6_takeLeft_9 : decode cX6_takeLeft 9 = .ok (.aload_n 0, 1) := by decide +kernel
theorem dX6_takeLeft_10 : decode cX6_takeLeft 10 = .ok (.iload_n 1, 1) := by decide +kernel
theorem dX6_takeLeft_11 : decode cX6_takeLeft 11 = .ok (.bipush 97, 2) := by decide +kernel
theorem dX6_takeLeft_13 : decode cX6_takeLeft 13 = .ok (.isub, 1) := by decide +kernel
theorem dX6_takeLeft_14 : decode cX6_takeLeft 14 = .ok (.putfield 62, 3) := by decide +kernel
theorem dX6_takeLeft_17 : decode cX6_takeLeft 17 = .ok (.aload_n 0, 1) := by decide +kernel
theorem dX6_takeLeft_18 : decode cX6_takeLeft 18 = .ok (.iconst 4, 1) := by decide +kernel
theorem dX6_takeLeft_19 : decode cX6_takeLeft 19 = .ok (.putfield 20, 3) := by decide +kernel
theorem dX6_takeLeft_22 : decode cX6_takeLeft 22 = .ok (.iconst 1, 1) := by decide +kernel
theorem dX6_takeLeft_23 : decode cX6_takeLeft 23 = .ok (.ireturn, 1) := by decide +kernel
theorem dX6_takeSign_0 : decode cX6_takeSign 0 = .ok (.iload_n 1, 1) := by decide +kernel
theorem dX6_takeSign_1 : decode cX6_takeSign 1 = .ok (.bipush 60, 2) := by decide +kernel
theorem dX6_takeSign_3 : decode cX6_takeSign 3 = .ok (.if_icmp .eq 23, 3) := by decide +kernel
theorem dX6_takeSign_6 : decode cX6_takeSign 6 = .ok (.iload_n 1, 1) := by decide +kernel
theorem dX6_takeSign_7 : decode cX6_takeSign 7 = .ok (.bipush 61, 2) := by decide +kernel
theorem dX6_takeSign_9 : decode cX6_takeSign 9 = .ok (.if_icmp .eq 17, 3) := by decide +kernel
theorem dX6_takeSign_12 : decode cX6_takeSign 12 = .ok (.iload_n 1, 1) := by decide +kernel
theorem dX6_takeSign_13 : decode cX6_takeSign 13 = .ok (.bipush 62, 2) := by decide +kernel
theorem dX6_takeSign_15 : decode cX6_takeSign 15 = .ok (.if_icmp .eq 11, 3) := by decide +kernel
theorem dX6_takeSign_18 : decode cX6_takeSign 18 = .ok (.iload_n 1, 1) := by decide +kernel
theorem dX6_takeSign_19 : decode cX6_takeSign 19 = .ok (.bipush 35, 2) := by decide +kernel
theorem dX6_takeSign_21 : decode cX6_takeSign 21 = .ok (.if_icmp .eq 5, 3) := by decide +kernel
theorem dX6_takeSign_24 : decode cX6_takeSign 24 = .ok (.iconst 0, 1) := by decide +kernel
theorem dX6_takeSign_25 : decode cX6_takeSign 25 = .ok (.ireturn, 1) := by decide +kernel
theorem dX6_takeSign_26 : decode cX6_takeSign 26 = .ok (.aload_n 0, 1) := by decide +kernel
theorem dX6_takeSign_27 : decode cX6_takeSign 27 = .ok (.iload_n 1, 1) := by decide +kernel
theorem dX6_takeSign_28 : decode cX6_takeSign 28 = .ok (.putfield 112, 3) := by decide +kernel
theorem dX6_takeSign_31 : decode cX6_takeSign 31 = .ok (.aload_n 0, 1) := by decide +kernel
theorem dX6_takeSign_32 : decode cX6_takeSign 32 = .ok (.iconst 5, 1) := by decide +kernel
theorem dX6_takeSign_33 : decode cX6_takeSign 33 = .ok (.putfield 20, 3) := by decide +kernel
theorem dX6_takeSign_36 : decode cX6_takeSign 36 = .ok (.iconst 1, 1) := by decide +kernel
theorem dX6_takeSign_37 : decode cX6_takeSign 37 = .ok (.ireturn, 1) := by decide +kernel
theorem dX6_takeRight_0 : decode cX6_takeRight 0 = .ok (.iload_n 1, 1) := by decide +kernel
theorem dX6_takeRight_1 : decode cX6_takeRight 1 = .ok (.ifCond .ge 5, 3) := by decide +kernel
theorem dX6_takeRight_4 : decode cX6_takeRight 4 = .ok (.iconst 0, 1) := by decide +kernel
theorem dX6_takeRight_5 : decode cX6_takeRight 5 = .ok (.ireturn, 1) := by decide +kernel
theorem dX6_takeRight_6 : decode cX6_takeRight 6 = .ok (.aload_n 2, 1) := by decide +kernel
theorem dX6_takeRight_7 : decode cX6_takeRight 7 = .ok (.aload_n 0, 1) := by decide +kernel
theorem dX6_takeRight_8 : decode cX6_takeRight 8 = .ok (.getfield 62, 3) := by decide +kernel
theorem dX6_takeRight_11 : decode cX6_takeRight 11 = .ok (.aload_n 0, 1) := by decide +kernel
theorem dX6_takeRight_12 : decode cX6_takeRight 12 = .ok (.getfield 112, 3) := by decide +kernel
theorem dX6_takeRight_15 : decode cX6_takeRight 15 = .ok (.iload_n 1, 1) := by decide +kernel
theorem dX6_takeRight_16 : decode cX6_takeRight 16 = .ok (.invokevirtual 104, 3) := by decide +kernel
theorem dX6_takeRight_19 : decode cX6_takeRight 19 = .ok (.astore_n 3, 1) := by decide +kernel
theorem dX6_takeRight_20 : decode cX6_takeRight 20 = .ok (.aload_n 0, 1) := by decide +kernel
theorem dX6_takeRight_21 : decode cX6_takeRight 21 = .ok (.iconst 0, 1) := by decide +kernel
theorem dX6_takeRight_22 : decode cX6_takeRight 22 = .ok (.putfield 20, 3) := by decide +kernel
theorem dX6_takeRight_25 : decode cX6_takeRight 25 = .ok (.aload_n 0, 1) := by decide +kernel
theorem dX6_takeRight_26 : decode cX6_takeRight 26 = .ok (.getfield 93, 3) := by decide +kernel
theorem dX6_takeRight_29 : decode cX6_takeRight 29 = .ok (.tableswitch 56 4 6 #[27, 39, 47], 27) := by decide +kernel
theorem dX6_takeRight_56 : decode cX6_takeRight 56 = .ok (.aload_n 2, 1) := by decide +kernel
theorem dX6_takeRight_57 : decode cX6_takeRight 57 = .ok (.iconst 4, 1) := by decide +kernel
theorem dX6_takeRight_58 : decode cX6_takeRight 58 = .ok (.invokevirtual 99, 3) := by decide +kernel
theorem dX6_takeRight_61 : decode cX6_takeRight 61 = .ok (.aload_n 3, 1) := by decide +kernel
theorem dX6_takeRight_62 : decode cX6_takeRight 62 = .ok (.putfield 108, 3) := by decide +kernel
theorem dX6_takeRight_65 : decode cX6_takeRight 65 = .ok (.goto 31, 3) := by decide +kernel
theorem dX6_takeRight_68 : decode cX6_takeRight 68 = .ok (.aload_n 2, 1) := by decide +kernel
theorem dX6_takeRight_69 : decode cX6_takeRight 69 = .ok (.aload_n 3, 1) := by decide +kernel
theorem dX6_takeRight_70 : decode cX6_takeRight 70 = .ok (.invokevirtual 115, 3) := by decide +kernel
theorem dX6_takeRight_73 : decode cX6_takeRight 73 = .ok (.goto 23, 3) := by decide +kernel
theorem dX6_takeRight_76 : decode cX6_takeRight 76 = .ok (.aload_n 0, 1) := by decide +kernel
theorem dX6_takeRight_77 : decode cX6_takeRight 77 = .ok (.aload_n 3, 1) := by decide +kernel
theorem dX6_takeRight_78 : decode cX6_takeRight 78 = .ok (.aload_n 2, 1) := by decide +kernel
theorem dX6_takeRight_79 : decode cX6_takeRight 79 = .ok (.invokevirtual 119, 3) := by decide +kernel
theorem dX6_takeRight_82 : decode cX6_takeRight 82 = .ok (.goto 14, 3) := by decide +kernel
theorem dX6_takeRight_85 : decode cX6_takeRight 85 = .ok (.aload_n 2, 1) := by decide +kernel
theorem dX6_takeRight_86 : decode cX6_takeRight 86 = .ok (.aload_n 3, 1) := by decide +kernel
theorem dX6_takeRight_87 : decode cX6_takeRight 87 = .ok (.invokevirtual 123, 3) := by decide +kernel
theorem dX6_takeRight_90 : decode cX6_takeRight 90 = .ok (.aload_n 0, 1) := by decide +kernel
theorem dX6_takeRight_91 : decode cX6_takeRight 91 = .ok (.bipush 6, 2) := by decide +kernel
theorem dX6_takeRight_93 : decode cX6_takeRight 93 = .ok (.putfield 20, 3) := by decide +kernel
theorem dX6_takeRight_96 : decode cX6_takeRight 96 = .ok (.iconst 1, 1) := by decide +kernel
theorem dX6_takeRight_97 : decode cX6_takeRight 97 = .ok (.ireturn, 1) := by decide +kernel
theorem dX6_openLoop_0 : decode cX6_openLoop 0 = .ok (.aload_n 0, 1) := by decide +kernel
theorem dX6_openLoop_1 : decode cX6_openLoop 1 = .ok (.aload_n 2, 1) := by decide +kernel
theorem dX6_openLoop_2 : decode cX6_openLoop 2 = .ok (.getfield 126, 3) := by decide +kernel
theorem dX6_openLoop_5 : decode cX6_openLoop 5 = .ok (.invokevirtual 129, 3) := by decide +kernel
theorem dX6_openLoop_8 : decode cX6_openLoop 8 = .ok (.aload_n 2, 1) := by decide +kernel
theorem dX6_openLoop_9 : decode cX6_openLoop 9 = .ok (.bipush 6, 2) := by decide +kernel
theorem dX6_openLoop_11 : decode cX6_openLoop 11 = .ok (.invokevirtual 99, 3) := by decide +kernel
theorem dX6_openLoop_14 : decode cX6_openLoop 14 = .ok (.astore_n 3, 1) := by decide +kernel
theorem dX6_openLoop_15 : decode cX6_openLoop 15 = .ok (.aload_n 3, 1) := by decide +kernel
theorem dX6_openLoop_16 : decode cX6_openLoop 16 = .ok (.aload_n 1, 1) := by decide +kernel
theorem dX6_openLoop_17 : decode cX6_openLoop 17 = .ok (.putfield 108, 3) := by decide +kernel
theorem dX6_openLoop_20 : decode cX6_openLoop 20 = .ok (.aload_n 3, 1) := by decide +kernel
theorem dX6_openLoop_21 : decode cX6_openLoop 21 = .ok (.aload_n 2, 1) := by decide +kernel
theorem dX6_openLoop_22 : decode cX6_openLoop 22 = .ok (.getfield 74, 3) := by decide +kernel
theorem dX6_openLoop_25 : decode cX6_openLoop 25 = .ok (.putfield 133, 3) := by decide +kernel
theorem dX6_openLoop_28 : decode cX6_openLoop 28 = .ok (.aload_n 2, 1) := by decide +kernel
theorem dX6_openLoop_29 : decode cX6_openLoop 29 = .ok (.dup, 1) := by decide +kernel
theorem dX6_openLoop_30 : decode cX6_openLoop 30 = .ok (.getfield 74, 3) := by decide +kernel
theorem dX6_openLoop_33 : decode cX6_openLoop 33 = .ok (.iconst 1, 1) := by decide +kernel
theorem dX6_openLoop_34 : decode cX6_openLoop 34 = .ok (.iadd, 1) := by decide +kernel
theorem dX6_openLoop_35 : decode cX6_openLoop 35 = .ok (.putfield 74, 3) := by decide +kernel
theorem dX6_openLoop_38 : decode cX6_openLoop 38 = .ok (.return_, 1) := by decide +kernel
theorem dX6_openChoice_0 : decode cX6_openChoice 0 = .ok (.aload_n 0, 1) := by decide +kernel
theorem dX6_openChoice_1 : decode cX6_openChoice 1 = .ok (.aload_n 1, 1) := by decide +kernel
theorem dX6_openChoice_2 : decode cX6_openChoice 2 = .ok (.getfield 126, 3) := by decide +kernel
theorem dX6_openChoice_5 : decode cX6_openChoice 5 = .ok (.invokevirtual 129, 3) := by decide +kernel
theorem dX6_openChoice_8 : decode cX6_openChoice 8 = .ok (.aload_n 1, 1) := by decide +kernel
theorem dX6_openChoice_9 : decode cX6_openChoice 9 = .ok (.bipush 8, 2) := by decide +kernel
theorem dX6_openChoice_11 : decode cX6_openChoice 11 = .ok (.invokevirtual 99, 3) := by decide +kernel
theorem dX6_openChoice_14 : decode cX6_openChoice 14 = .ok (.aload_n 1, 1) := by decide +kernel
theorem dX6_openChoice_15 : decode cX6_openChoice 15 = .ok (.getfield 80, 3) := by decide +kernel
theorem dX6_openChoice_18 : decode cX6_openChoice 18 = .ok (.putfield 133, 3) := by decide +kernel
theorem dX6_openChoice_21 : decode cX6_openChoice 21 = .ok (.aload_n 1, 1) := by decide +kernel
theorem dX6_openChoice_22 : decode cX6_openChoice 22 = .ok (.dup, 1) := by decide +kernel
theorem dX6_openChoice_23 : decode cX6_openChoice 23 = .ok (.getfield 80, 3) := by decide +kernel
theorem dX6_openChoice_26 : decode cX6_openChoice 26 = .ok (.iconst 1, 1) := by decide +kernel
theorem dX6_openChoice_27 : decode cX6_openChoice 27 = .ok (.iadd, 1) := by decide +kernel
theorem dX6_openChoice_28 : decode cX6_openChoice 28 = .ok (.putfield 80, 3) := by decide +kernel
theorem dX6_openChoice_31 : decode cX6_openChoice 31 = .ok (.iconst 1, 1) := by decide +kernel
theorem dX6_openChoice_32 : decode cX6_openChoice 32 = .ok (.ireturn, 1) := by decide +kernel
theorem dX6_push_0 : decode cX6_push 0 = .ok (.aload_n 0, 1) := by decide +kernel
theorem dX6_push_1 : decode cX6_push 1 = .ok (.getfield 24, 3) := by decide +kernel
theorem dX6_push_4 : decode cX6_push 4 = .ok (.ifCond .lt 35, 3) := by decide +kernel
theorem dX6_push_7 : decode cX6_push 7 = .ok (.aload_n 0, 1) := by decide +kernel
theorem dX6_push_8 : decode cX6_push 8 = .ok (.getfield 24, 3) := by decide +kernel
theorem dX6_push_11 : decode cX6_push 11 = .ok (.aload_n 0, 1) := by decide +kernel
theorem dX6_push_12 : decode cX6_push 12 = .ok (.getfield 9, 3) := by decide +kernel
theorem dX6_push_15 : decode cX6_push 15 = .ok (.arraylength, 1) := by decide +kernel
theorem dX6_push_16 : decode cX6_push 16 = .ok (.if_icmp .ge 23, 3) := by decide +kernel
theorem dX6_push_19 : decode cX6_push 19 = .ok (.aload_n 0, 1) := by decide +kernel
theorem dX6_push_20 : decode cX6_push 20 = .ok (.getfield 9, 3) := by decide +kernel
theorem dX6_push_23 : decode cX6_push 23 = .ok (.aload_n 0, 1) := by decide +kernel
theorem dX6_push_24 : decode cX6_push 24 = .ok (.getfield 24, 3) := by decide +kernel
theorem dX6_push_27 : decode cX6_push 27 = .ok (.iload_n 1, 1) := by decide +kernel
theorem dX6_push_28 : decode cX6_push 28 = .ok (.iastore, 1) := by decide +kernel
theorem dX6_push_29 : decode cX6_push 29 = .ok (.aload_n 0, 1) := by decide +kernel
theorem dX6_push_30 : decode cX6_push 30 = .ok (.dup, 1) := by decide +kernel
theorem dX6_push_31 : decode cX6_push 31 = .ok (.getfield 24, 3) := by decide +kernel
theorem dX6_push_34 : decode cX6_push 34 = .ok (.iconst 1, 1) := by decide +kernel
theorem dX6_push_35 : decode cX6_push 35 = .ok (.iadd, 1) := by decide +kernel
theorem dX6_push_36 : decode cX6_push 36 = .ok (.putfield 24, 3) := by decide +kernel
theorem dX6_push_39 : decode cX6_push 39 = .ok (.return_, 1) := by decide +kernel
theorem dX6_innermost_0 : decode cX6_innermost 0 = .ok (.aload_n 0, 1) := by decide +kernel
theorem dX6_innermost_1 : decode cX6_innermost 1 = .ok (.getfield 24, 3) := by decide +kernel
theorem dX6_innermost_4 : decode cX6_innermost 4 = .ok (.iconst 1, 1) := by decide +kernel
theorem dX6_innermost_5 : decode cX6_innermost 5 = .ok (.if_icmp .lt 15, 3) := by decide +kernel
theorem dX6_innermost_8 : decode cX6_innermost 8 = .ok (.aload_n 0, 1) := by decide +kernel
theorem dX6_innermost_9 : decode cX6_innermost 9 = .ok (.getfield 24, 3) := by decide +kernel
theorem dX6_innermost_12 : decode cX6_innermost 12 = .ok (.aload_n 0, 1) := by decide +kernel
theorem dX6_innermost_13 : decode cX6_innermost 13 = .ok (.getfield 9, 3) := by decide +kernel
theorem dX6_innermost_16 : decode cX6_innermost 16 = .ok (.arraylength, 1) := by decide +kernel
theorem dX6_innermost_17 : decode cX6_innermost 17 = .ok (.if_icmp .le 5, 3) := by decide +kernel
theorem dX6_innermost_20 : decode cX6_innermost 20 = .ok (.iconst (-1), 1) := by decide +kernel
theorem dX6_innermost_21 : decode cX6_innermost 21 = .ok (.ireturn, 1) := by decide +kernel
theorem dX6_innermost_22 : decode cX6_innermost 22 = .ok (.aload_n 0, 1) := by decide +kernel
theorem dX6_innermost_23 : decode cX6_innermost 23 = .ok (.getfield 9, 3) := by decide +kernel
theorem dX6_innermost_26 : decode cX6_innermost 26 = .ok (.aload_n 0, 1) := by decide +kernel
theorem dX6_innermost_27 : decode cX6_innermost 27 = .ok (.getfield 24, 3) := by decide +kernel
theorem dX6_innermost_30 : decode cX6_innermost 30 = .ok (.iconst 1, 1) := by decide +kernel
theorem dX6_innermost_31 : decode cX6_innermost 31 = .ok (.isub, 1) := by decide +kernel
theorem dX6_innermost_32 : decode cX6_innermost 32 = .ok (.iaload, 1) := by decide +kernel
theorem dX6_innermost_33 : decode cX6_innermost 33 = .ok (.istore_n 3, 1) := by decide +kernel
theorem dX6_innermost_34 : decode cX6_innermost 34 = .ok (.aload_n 2, 1) := by decide +kernel
theorem dX6_innermost_35 : decode cX6_innermost 35 = .ok (.iload_n 3, 1) := by decide +kernel
theorem dX6_innermost_36 : decode cX6_innermost 36 = .ok (.invokevirtual 136, 3) := by decide +kernel
theorem dX6_innermost_39 : decode cX6_innermost 39 = .ok (.getfield 139, 3) := by decide +kernel
theorem dX6_innermost_42 : decode cX6_innermost 42 = .ok (.iload_n 1, 1) := by decide +kernel
theorem dX6_innermost_43 : decode cX6_innermost 43 = .ok (.if_icmp .ne 7, 3) := by decide +kernel
theorem dX6_innermost_46 : decode cX6_innermost 46 = .ok (.iload_n 3, 1) := by decide +kernel
theorem dX6_innermost_47 : decode cX6_innermost 47 = .ok (.goto 4, 3) := by decide +kernel
theorem dX6_innermost_50 : decode cX6_innermost 50 = .ok (.iconst (-1), 1) := by decide +kernel
theorem dX6_innermost_51 : decode cX6_innermost 51 = .ok (.ireturn, 1) := by decide +kernel
theorem dX6_closeLoop_0 : decode cX6_closeLoop 0 = .ok (.aload_n 0, 1) := by decide +kernel
theorem dX6_closeLoop_1 : decode cX6_closeLoop 1 = .ok (.bipush 6, 2) := by decide +kernel
theorem dX6_closeLoop_3 : decode cX6_closeLoop 3 = .ok (.aload_n 1, 1) := by decide +kernel
theorem dX6_closeLoop_4 : decode cX6_closeLoop 4 = .ok (.invokevirtual 142, 3) := by decide +kernel
theorem dX6_closeLoop_7 : decode cX6_closeLoop 7 = .ok (.istore_n 2, 1) := by decide +kernel
theorem dX6_closeLoop_8 : decode cX6_closeLoop 8 = .ok (.iload_n 2, 1) := by decide +kernel
theorem dX6_closeLoop_9 : decode cX6_closeLoop 9 = .ok (.ifCond .ge 5, 3) := by decide +kernel
theorem dX6_closeLoop_12 : decode cX6_closeLoop 12 = .ok (.iconst 0, 1) := by decide +kernel
theorem dX6_closeLoop_13 : decode cX6_closeLoop 13 = .ok (.ireturn, 1) := by decide +kernel
theorem dX6_closeLoop_14 : decode cX6_closeLoop 14 = .ok (.aload_n 0, 1) := by decide +kernel
theorem dX6_closeLoop_15 : decode cX6_closeLoop 15 = .ok (.dup, 1) := by decide +kernel
theorem dX6_closeLoop_16 : decode cX6_closeLoop 16 = .ok (.getfield 24, 3) := by decide +kernel
theorem dX6_closeLoop_19 : decode cX6_closeLoop 19 = .ok (.iconst 1, 1) := by decide +kernel
theorem dX6_closeLoop_20 : decode cX6_closeLoop 20 = .ok (.isub, 1) := by decide +kernel
theorem dX6_closeLoop_21 : decode cX6_closeLoop 21 = .ok (.putfield 24, 3) := by decide +kernel
theorem dX6_closeLoop_24 : decode cX6_closeLoop 24 = .ok (.aload_n 1, 1) := by decide +kernel
theorem dX6_closeLoop_25 : decode cX6_closeLoop 25 = .ok (.iload_n 2, 1) := by decide +kernel
theorem dX6_closeLoop_26 : decode cX6_closeLoop 26 = .ok (.invokevirtual 136, 3) := by decide +kernel
theorem dX6_closeLoop_29 : decode cX6_closeLoop 29 = .ok (.astore_n 3, 1) := by decide +kernel
theorem dX6_closeLoop_30 : decode cX6_closeLoop 30 = .ok (.aload_n 3, 1) := by decide +kernel
theorem dX6_closeLoop_31 : decode cX6_closeLoop 31 = .ok (.aload_n 1, 1) := by decide +kernel
theorem dX6_closeLoop_32 : decode cX6_closeLoop 32 = .ok (.getfield 126, 3) := by decide +kernel
theorem dX6_closeLoop_35 : decode cX6_closeLoop 35 = .ok (.putfield 146, 3) := by decide +kernel
theorem dX6_closeLoop_38 : decode cX6_closeLoop 38 = .ok (.aload_n 1, 1) := by decide +kernel
theorem dX6_closeLoop_39 : decode cX6_closeLoop 39 = .ok (.bipush 7, 2) := by decide +kernel
theorem dX6_closeLoop_41 : decode cX6_closeLoop 41 = .ok (.invokevirtual 99, 3) := by decide +kernel
theorem dX6_closeLoop_44 : decode cX6_closeLoop 44 = .ok (.astore 4, 2) := by decide +kernel
theorem dX6_closeLoop_46 : decode cX6_closeLoop 46 = .ok (.aload 4, 2) := by decide +kernel
theorem dX6_closeLoop_48 : decode cX6_closeLoop 48 = .ok (.aload_n 3, 1) := by decide +kernel
theorem dX6_closeLoop_49 : decode cX6_closeLoop 49 = .ok (.getfield 108, 3) := by decide +kernel
theorem dX6_closeLoop_52 : decode cX6_closeLoop 52 = .ok (.putfield 108, 3) := by decide +kernel
theorem dX6_closeLoop_55 : decode cX6_closeLoop 55 = .ok (.aload 4, 2) := by decide +kernel
theorem dX6_closeLoop_57 : decode cX6_closeLoop 57 = .ok (.aload_n 3, 1) := by decide +kernel
theorem dX6_closeLoop_58 : decode cX6_closeLoop 58 = .ok (.getfield 133, 3) := by decide +kernel
theorem dX6_closeLoop_61 : decode cX6_closeLoop 61 = .ok (.putfield 133, 3) := by decide +kernel
theorem dX6_closeLoop_64 : decode cX6_closeLoop 64 = .ok (.aload 4, 2) := by decide +kernel
theorem dX6_closeLoop_66 : decode cX6_closeLoop 66 = .ok (.iload_n 2, 1) := by decide +kernel
theorem dX6_closeLoop_67 : decode cX6_closeLoop 67 = .ok (.putfield 146, 3) := by decide +kernel
theorem dX6_closeLoop_70 : decode cX6_closeLoop 70 = .ok (.iconst 1, 1) := by decide +kernel
theorem dX6_closeLoop_71 : decode cX6_closeLoop 71 = .ok (.ireturn, 1) := by decide +kernel
theorem dX6_passBar_0 : decode cX6_passBar 0 = .ok (.aload_n 0, 1) := by decide +kernel
theorem dX6_passBar_1 : decode cX6_passBar 1 = .ok (.iload_n 1, 1) := by decide +kernel
theorem dX6_passBar_2 : decode cX6_passBar 2 = .ok (.aload_n 3, 1) := by decide +kernel
theorem dX6_passBar_3 : decode cX6_passBar 3 = .ok (.invokevirtual 142, 3) := by decide +kernel
theorem dX6_passBar_6 : decode cX6_passBar 6 = .ok (.istore 4, 2) := by decide +kernel
theorem dX6_passBar_8 : decode cX6_passBar 8 = .ok (.iload 4, 2) := by decide +kernel
theorem dX6_passBar_10 : decode cX6_passBar 10 = .ok (.ifCond .ge 5, 3) := by decide +kernel
theorem dX6_passBar_13 : decode cX6_passBar 13 = .ok (.iconst 0, 1) := by decide +kernel
theorem dX6_passBar_14 : decode cX6_passBar 14 = .ok (.ireturn, 1) := by decide +kernel
theorem dX6_passBar_15 : decode cX6_passBar 15 = .ok (.aload_n 0, 1) := by decide +kernel
theorem dX6_passBar_16 : decode cX6_passBar 16 = .ok (.dup, 1) := by decide +kernel
theorem dX6_passBar_17 : decode cX6_passBar 17 = .ok (.getfield 24, 3) := by decide +kernel
theorem dX6_passBar_20 : decode cX6_passBar 20 = .ok (.iconst 1, 1) := by decide +kernel
theorem dX6_passBar_21 : decode cX6_passBar 21 = .ok (.isub, 1) := by decide +kernel
theorem dX6_passBar_22 : decode cX6_passBar 22 = .ok (.putfield 24, 3) := by decide +kernel
theorem dX6_passBar_25 : decode cX6_passBar 25 = .ok (.iload_n 2, 1) := by decide +kernel
theorem dX6_passBar_26 : decode cX6_passBar 26 = .ok (.bipush 9, 2) := by decide +kernel
theorem dX6_passBar_28 : decode cX6_passBar 28 = .ok (.if_icmp .ne 11, 3) := by decide +kernel
theorem dX6_passBar_31 : decode cX6_passBar 31 = .ok (.aload_n 0, 1) := by decide +kernel
theorem dX6_passBar_32 : decode cX6_passBar 32 = .ok (.aload_n 3, 1) := by decide +kernel
theorem dX6_passBar_33 : decode cX6_passBar 33 = .ok (.getfield 126, 3) := by decide +kernel
theorem dX6_passBar_36 : decode cX6_passBar 36 = .ok (.invokevirtual 129, 3) := by decide +kernel
theorem dX6_passBar_39 : decode cX6_passBar 39 = .ok (.aload_n 3, 1) := by decide +kernel
theorem dX6_passBar_40 : decode cX6_passBar 40 = .ok (.iload 4, 2) := by decide +kernel
theorem dX6_passBar_42 : decode cX6_passBar 42 = .ok (.invokevirtual 136, 3) := by decide +kernel
theorem dX6_passBar_45 : decode cX6_passBar 45 = .ok (.astore 5, 2) := by decide +kernel
theorem dX6_passBar_47 : decode cX6_passBar 47 = .ok (.aload 5, 2) := by decide +kernel
theorem dX6_passBar_49 : decode cX6_passBar 49 = .ok (.aload_n 3, 1) := by decide +kernel
theorem dX6_passBar_50 : decode cX6_passBar 50 = .ok (.getfield 126, 3) := by decide +kernel
theorem dX6_passBar_53 : decode cX6_passBar 53 = .ok (.putfield 146, 3) := by decide +kernel
theorem dX6_passBar_56 : decode cX6_passBar 56 = .ok (.aload_n 3, 1) := by decide +kernel
theorem dX6_passBar_57 : decode cX6_passBar 57 = .ok (.iload_n 2, 1) := by decide +kernel
theorem dX6_passBar_58 : decode cX6_passBar 58 = .ok (.invokevirtual 99, 3) := by decide +kernel
theorem dX6_passBar_61 : decode cX6_passBar 61 = .ok (.aload 5, 2) := by decide +kernel
theorem dX6_passBar_63 : decode cX6_passBar 63 = .ok (.getfield 133, 3) := by decide +kernel
theorem dX6_passBar_66 : decode cX6_passBar 66 = .ok (.putfield 133, 3) := by decide +kernel
theorem dX6_passBar_69 : decode cX6_passBar 69 = .ok (.iconst 1, 1) := by decide +kernel
theorem dX6_passBar_70 : decode cX6_passBar 70 = .ok (.ireturn, 1) := by decide +kernel
theorem dX7_init_0 : decode cX7_init 0 = .ok (.aload_n 0, 1) := by decide +kernel
theorem dX7_init_1 : decode cX7_init 1 = .ok (.invokespecial 5, 3) := by decide +kernel
theorem dX7_init_4 : decode cX7_init 4 = .ok (.aload_n 0, 1) := by decide +kernel
theorem dX7_init_5 : decode cX7_init 5 = .ok (.iconst 3, 1) := by decide +kernel
theorem dX7_init_6 : decode cX7_init 6 = .ok (.newarray .int, 2) := by decide +kernel
theorem dX7_init_8 : decode cX7_init 8 = .ok (.putfield 11, 3) := by decide +kernel
theorem dX7_init_11 : decode cX7_init 11 = .ok (.return_, 1) := by decide +kernel
theorem dX7_draw_0 : decode cX7_draw 0 = .ok (.aload_n 0, 1) := by decide +kernel
theorem dX7_draw_1 : decode cX7_draw 1 = .ok (.aload_n 0, 1) := by decide +kernel
theorem dX7_draw_2 : decode cX7_draw 2 = .ok (.getfield 15, 3) := by decide +kernel
theorem dX7_draw_5 : decode cX7_draw 5 = .ok (.ldc2_w 19, 3) := by decide +kernel
theorem dX7_draw_8 : decode cX7_draw 8 = .ok (.lmul, 1) := by decide +kernel
theorem dX7_draw_9 : decode cX7_draw 9 = .ok (.ldc2_w 21, 3) := by decide +kernel
theorem dX7_draw_12 : decode cX7_draw 12 = .ok (.ladd, 1) := by decide +kernel
theorem dX7_draw_13 : decode cX7_draw 13 = .ok (.putfield 15, 3) := by decide +kernel
theorem dX7_draw_16 : decode cX7_draw 16 = .ok (.iload_n 1, 1) := by decide +kernel
theorem dX7_draw_17 : decode cX7_draw 17 = .ok (.iconst 1, 1) := by decide +kernel
theorem dX7_draw_18 : decode cX7_draw 18 = .ok (.if_icmp .ge 7, 3) := by decide +kernel
theorem dX7_draw_21 : decode cX7_draw 21 = .ok (.iconst 0, 1) := by decide +kernel
theorem dX7_draw_22 : decode cX7_draw 22 = .ok (.goto 14, 3) := by decide +kernel
theorem dX7_draw_25 : decode cX7_draw 25 = .ok (.aload_n 0, 1) := by decide +kernel
theorem dX7_draw_26 : decode cX7_draw 26 = .ok (.getfield 15, 3) := by decide +kernel
theorem dX7_draw_29 : decode cX7_draw 29 = .ok (.bipush 33, 2) := by decide +kernel
theorem dX7_draw_31 : decode cX7_draw 31 = .ok (.lushr, 1) := by decide +kernel
theorem dX7_draw_32 : decode cX7_draw 32 = .ok (.iload_n 1, 1) := by decide +kernel
theorem dX7_draw_33 : decode cX7_draw 33 = .ok (.i2l, 1) := by decide +kernel
theorem dX7_draw_34 : decode cX7_draw 34 = .ok (.lrem, 1) := by decide +kernel
theorem dX7_draw_35 : decode cX7_draw 35 = .ok (.l2i, 1) := by decide +kernel
theorem dX7_draw_36 : decode cX7_draw 36 = .ok (.ireturn, 1) := by decide +kernel
theorem dX7_run_0 : decode cX7_run 0 = .ok (.iconst 0, 1) := by decide +kernel
theorem dX7_run_1 : decode cX7_run 1 = .ok (.istore_n 3, 1) := by decide +kernel
theorem dX7_run_2 : decode cX7_run 2 = .ok (.iload_n 3, 1) := by decide +kernel
theorem dX7_run_3 : decode cX7_run 3 = .ok (.aload_n 0, 1) := by decide +kernel
theorem dX7_run_4 : decode cX7_run 4 = .ok (.getfield 11, 3) := by decide +kernel
theorem dX7_run_7 : decode cX7_run 7 = .ok (.arraylength, 1) := by decide +kernel
theorem dX7_run_8 : decode cX7_run 8 = .ok (.if_icmp .ge 50, 3) := by decide +kernel
theorem dX7_run_11 : decode cX7_run 11 = .ok (.iload_n 3, 1) := by decide +kernel
theorem dX7_run_12 : decode cX7_run 12 = .ok (.aload_n 2, 1) := by decide +kernel
theorem dX7_run_13 : decode cX7_run 13 = .ok (.getfield 23, 3) := by decide +kernel
theorem dX7_run_16 : decode cX7_run 16 = .ok (.arraylength, 1) := by decide +kernel
theorem dX7_run_17 : decode cX7_run 17 = .ok (.if_icmp .ge 41, 3) := by decide +kernel
theorem dX7_run_20 : decode cX7_run 20 = .ok (.aload_n 0, 1) := by decide +kernel
theorem dX7_run_21 : decode cX7_run 21 = .ok (.getfield 11, 3) := by decide +kernel
theorem dX7_run_24 : decode cX7_run 24 = .ok (.iload_n 3, 1) := by decide +kernel
theorem dX7_run_25 : decode cX7_run 25 = .ok (.aload_n 2, 1) := by decide +kernel
theorem dX7_run_26 : decode cX7_run 26 = .ok (.getfield 23, 3) := by decide +kernel
theorem dX7_run_29 : decode cX7_run 29 = .ok (.iload_n 3, 1) := by decide +kernel
theorem dX7_run_30 : decode cX7_run 30 = .ok (.iaload, 1) := by decide +kernel
theorem dX7_run_31 : decode cX7_run 31 = .ok (.bipush 6, 2) := by decide +kernel
theorem dX7_run_33 : decode cX7_run 33 = .ok (.if_icmp .ne 12, 3) := by decide +kernel
theorem dX7_run_36 : decode cX7_run 36 = .ok (.aload_n 0, 1) := by decide +kernel
theorem dX7_run_37 : decode cX7_run 37 = .ok (.bipush 6, 2) := by decide +kernel
theorem dX7_run_39 : decode cX7_run 39 = .ok (.invokevirtual 28, 3) := by decide +kernel
theorem dX7_run_42 : decode cX7_run 42 = .ok (.goto 9, 3) := by decide +kernel
theorem dX7_run_45 : decode cX7_run 45 = .ok (.aload_n 2, 1) := by decide +kernel
theorem dX7_run_46 : decode cX7_run 46 = .ok (.getfield 23, 3) := by decide +kernel
theorem dX7_run_49 : decode cX7_run 49 = .ok (.iload_n 3, 1) := by decide +kernel
theorem dX7_run_50 : decode cX7_run 50 = .ok (.iaload, 1) := by decide +kernel
theorem dX7_run_51 : decode cX7_run 51 = .ok (.iastore, 1) := by decide +kernel
theorem dX7_run_52 : decode cX7_run 52 = .ok (.iinc 3 1, 3) := by decide +kernel
theorem dX7_run_55 : decode cX7_run 55 = .ok (.goto (-53), 3) := by decide +kernel
theorem dX7_run_58 : decode cX7_run 58 = .ok (.iconst 0, 1) := by decide +kernel
theorem dX7_run_59 : decode cX7_run 59 = .ok (.istore_n 3, 1) := by decide +kernel
theorem dX7_run_60 : decode cX7_run 60 = .ok (.iconst 0, 1) := by decide +kernel
theorem dX7_run_61 : decode cX7_run 61 = .ok (.istore 4, 2) := by decide +kernel
theorem dX7_run_63 : decode cX7_run 63 = .ok (.iconst 0, 1) := by decide +kernel
theorem dX7_run_64 : decode cX7_run 64 = .ok (.istore 5, 2) := by decide +kernel
theorem dX7_run_66 : decode cX7_run 66 = .ok (.iload 5, 2) := by decide +kernel
theorem dX7_run_68 : decode cX7_run 68 = .ok (.sipush 3721, 3) := by decide +kernel
theorem dX7_run_71 : decode cX7_run 71 = .ok (.if_icmp .ge 98, 3) := by decide +kernel
theorem dX7_run_74 : decode cX7_run 74 = .ok (.iload_n 3, 1) := by decide +kernel
theorem dX7_run_75 : decode cX7_run 75 = .ok (.aload_n 1, 1) := by decide +kernel
theorem dX7_run_76 : decode cX7_run 76 = .ok (.getfield 32, 3) := by decide +kernel
theorem dX7_run_79 : decode cX7_run 79 = .ok (.if_icmp .ge 90, 3) := by decide +kernel
theorem dX7_run_82 : decode cX7_run 82 = .ok (.aload_n 1, 1) := by decide +kernel
theorem dX7_run_83 : decode cX7_run 83 = .ok (.iload_n 3, 1) := by decide +kernel
theorem dX7_run_84 : decode cX7_run 84 = .ok (.invokevirtual 38, 3) := by decide +kernel
theorem dX7_run_87 : decode cX7_run 87 = .ok (.astore 6, 2) := by decide +kernel
theorem dX7_run_89 : decode cX7_run 89 = .ok (.aload 6, 2) := by decide +kernel
theorem dX7_run_91 : decode cX7_run 91 = .ok (.invokevirtual 42, 3) := by decide +kernel
theorem dX7_run_94 : decode cX7_run 94 = .ok (.ifCond .eq 15, 3) := by decide +kernel
theorem dX7_run_97 : decode cX7_run 97 = .ok (.iload 4, 2) := by decide +kernel
theorem dX7_run_99 : decode cX7_run 99 = .ok (.bipush 60, 2) := by decide +kernel
theorem dX7_run_101 : decode cX7_run 101 = .ok (.if_icmp .lt 5, 3) := by decide +kernel
theorem dX7_run_104 : decode cX7_run 104 = .ok (.iconst 3, 1) := by decide +kernel
theorem dX7_run_105 : decode cX7_run 105 = .ok (.ireturn, 1) := by decide +kernel
theorem dX7_run_106 : decode cX7_run 106 = .ok (.iinc 4 1, 3) := by decide +kernel
theorem dX7_run_109 : decode cX7_run 109 = .ok (.aload 6, 2) := by decide +kernel
theorem dX7_run_111 : decode cX7_run 111 = .ok (.getfield 48, 3) := by decide +kernel
theorem dX7_run_114 : decode cX7_run 114 = .ok (.iconst 5, 1) := by decide +kernel
theorem dX7_run_115 : decode cX7_run 115 = .ok (.if_icmp .ne 14, 3) := by decide +kernel
theorem dX7_run_118 : decode cX7_run 118 = .ok (.aload_n 0, 1) := by decide +kernel
theorem dX7_run_119 : decode cX7_run 119 = .ok (.aload 6, 2) := by decide +kernel
theorem dX7_run_121 : decode cX7_run 121 = .ok (.invokevirtual 51, 3) := by decide +kernel
theorem dX7_run_124 : decode cX7_run 124 = .ok (.ifCond .ne 5, 3) := by decide +kernel
theorem dX7_run_127 : decode cX7_run 127 = .ok (.iconst 1, 1) := by decide +kernel
theorem dX7_run_128 : decode cX7_run 128 = .ok (.ireturn, 1) := by decide +kernel
theorem dX7_run_129 : decode cX7_run 129 = .ok (.aload 6, 2) := by decide +kernel
theorem dX7_run_131 : decode cX7_run 131 = .ok (.getfield 48, 3) := by decide +kernel
theorem dX7_run_134 : decode cX7_run 134 = .ok (.iconst 4, 1) := by decide +kernel
theorem dX7_run_135 : decode cX7_run 135 = .ok (.if_icmp .ne 14, 3) := by decide +kernel
theorem dX7_run_138 : decode cX7_run 138 = .ok (.aload_n 0, 1) := by decide +kernel
theorem dX7_run_139 : decode cX7_run 139 = .ok (.aload 6, 2) := by decide +kernel
theorem dX7_run_141 : decode cX7_run 141 = .ok (.invokevirtual 51, 3) := by decide +kernel
theorem dX7_run_144 : decode cX7_run 144 = .ok (.ifCond .ne 5, 3) := by decide +kernel
theorem dX7_run_147 : decode cX7_run 147 = .ok (.iconst 2, 1) := by decide +kernel
theorem dX7_run_148 : decode cX7_run 148 = .ok (.ireturn, 1) := by decide +kernel
theorem dX7_run_149 : decode cX7_run 149 = .ok (.aload_n 0, 1) := by decide +kernel
theorem dX7_run_150 : decode cX7_run 150 = .ok (.aload 6, 2) := by decide +kernel
theorem dX7_run_152 : decode cX7_run 152 = .ok (.invokevirtual 55, 3) := by decide +kernel
theorem dX7_run_155 : decode cX7_run 155 = .ok (.aload_n 0, 1) := by decide +kernel
theorem dX7_run_156 : decode cX7_run 156 = .ok (.aload 6, 2) := by decide +kernel
theorem dX7_run_158 : decode cX7_run 158 = .ok (.iload_n 3, 1) := by decide +kernel
theorem dX7_run_159 : decode cX7_run 159 = .ok (.invokevirtual 59, 3) := by decide +kernel
theorem dX7_run_162 : decode cX7_run 162 = .ok (.istore_n 3, 1) := by decide +kernel
theorem dX7_run_163 : decode cX7_run 163 = .ok (.iinc 5 1, 3) := by decide +kernel
theorem dX7_run_166 : decode cX7_run 166 = .ok (.goto (-100), 3) := by decide +kernel
theorem dX7_run_169 : decode cX7_run 169 = .ok (.iconst 0, 1) := by decide +kernel
theorem dX7_run_170 : decode cX7_run 170 = .ok (.ireturn, 1) := by decide +kernel
theorem dX7_isTrue_0 : decode cX7_isTrue 0 = .ok (.aload_n 1, 1) := by decide +kernel
theorem dX7_isTrue_1 : decode cX7_isTrue 1 = .ok (.getfield 63, 3) := by decide +kernel
theorem dX7_isTrue_4 : decode cX7_isTrue 4 = .ok (.aload_n 0, 1) := by decide +kernel
theorem dX7_isTrue_5 : decode cX7_isTrue 5 = .ok (.getfield 11, 3) := by decide +kernel
theorem dX7_isTrue_8 : decode cX7_isTrue 8 = .ok (.iconst 0, 1) := by decide +kernel
theorem dX7_isTrue_9 : decode cX7_isTrue 9 = .ok (.iaload, 1) := by decide +kernel
theorem dX7_isTrue_10 : decode cX7_isTrue 10 = .ok (.aload_n 0, 1) := by decide +kernel
theorem dX7_isTrue_11 : decode cX7_isTrue 11 = .ok (.getfield 11, 3) := by decide +kernel
theorem dX7_isTrue_14 : decode cX7_isTrue 14 = .ok (.iconst 1, 1) := by decide +kernel
theorem dX7_isTrue_15 : decode cX7_isTrue 15 = .ok (.iaload, 1) := by decide +kernel
theorem dX7_isTrue_16 : decode cX7_isTrue 16 = .ok (.aload_n 0, 1) := by decide +kernel
theorem dX7_isTrue_17 : decode cX7_isTrue 17 = .ok (.getfield 11, 3) := by decide +kernel
theorem dX7_isTrue_20 : decode cX7_isTrue 20 = .ok (.iconst 2, 1) := by decide +kernel
theorem dX7_isTrue_21 : decode cX7_isTrue 21 = .ok (.iaload, 1) := by decide +kernel
theorem dX7_isTrue_22 : decode cX7_isTrue 22 = .ok (.invokevirtual 67, 3) := by decide +kernel
theorem dX7_isTrue_25 : decode cX7_isTrue 25 = .ok (.ireturn, 1) := by decide +kernel
theorem dX7_change_0 : decode cX7_change 0 = .ok (.aload_n 1, 1) := by decide +kernel
theorem dX7_change_1 : decode cX7_change 1 = .ok (.getfield 72, 3) := by decide +kernel
theorem dX7_change_4 : decode cX7_change 4 = .ok (.istore_n 2, 1) := by decide +kernel
theorem dX7_change_5 : decode cX7_change 5 = .ok (.iload_n 2, 1) := by decide +kernel
theorem dX7_change_6 : decode cX7_change 6 = .ok (.ifCond .lt 12, 3) := by decide +kernel
theorem dX7_change_9 : decode cX7_change 9 = .ok (.iload_n 2, 1) := by decide +kernel
theorem dX7_change_10 : decode cX7_change 10 = .ok (.aload_n 0, 1) := by decide +kernel
theorem dX7_change_11 : decode cX7_change 11 = .ok (.getfield 11, 3) := by decide +kernel
theorem dX7_change_14 : decode cX7_change 14 = .ok (.arraylength, 1) := by decide +kernel
theorem dX7_change_15 : decode cX7_change 15 = .ok (.if_icmp .lt 4, 3) := by decide +kernel
theorem dX7_change_18 : decode cX7_change 18 = .ok (.return_, 1) := by decide +kernel
theorem dX7_change_19 : decode cX7_change 19 = .ok (.aload_n 1, 1) := by decide +kernel
theorem dX7_change_20 : decode cX7_change 20 = .ok (.getfield 48, 3) := by decide +kernel
theorem dX7_change_23 : decode cX7_change 23 = .ok (.tableswitch 120 0 3 #[29, 63, 84, 105], 29) := by decide +kernel
theorem dX7_change_52 : decode cX7_change 52 = .ok (.aload_n 0, 1) := by decide +kernel
theorem dX7_change_53 : decode cX7_change 53 = .ok (.getfield 11, 3) := by decide +kernel
theorem dX7_change_56 : decode cX7_change 56 = .ok (.iload_n 2, 1) := by decide +kernel
theorem dX7_change_57 : decode cX7_change 57 = .ok (.aload_n 1, 1) := by decide +kernel
theorem dX7_change_58 : decode cX7_change 58 = .ok (.getfield 63, 3) := by decide +kernel
theorem dX7_change_61 : decode cX7_change 61 = .ok (.aload_n 0, 1) := by decide +kernel
theorem dX7_change_62 : decode cX7_change 62 = .ok (.getfield 11, 3) := by decide +kernel
theorem dX7_change_65 : decode cX7_change 65 = .ok (.iconst 0, 1) := by decide +kernel
theorem dX7_change_66 : decode cX7_change 66 = .ok (.iaload, 1) := by decide +kernel
theorem dX7_change_67 : decode cX7_change 67 = .ok (.aload_n 0, 1) := by decide +kernel
theorem dX7_change_68 : decode cX7_change 68 = .ok (.getfield 11, 3) := by decide +kernel
theorem dX7_change_71 : decode cX7_change 71 = .ok (.iconst 1, 1) := by decide +kernel
theorem dX7_change_72 : decode cX7_change 72 = .ok (.iaload, 1) := by decide +kernel
theorem dX7_change_73 : decode cX7_change 73 = .ok (.aload_n 0, 1) := by decide +kernel
theorem dX7_change_74 : decode cX7_change 74 = .ok (.getfield 11, 3) := by decide +kernel
theorem dX7_change_77 : decode cX7_change 77 = .ok (.iconst 2, 1) := by decide +kernel
theorem dX7_change_78 : decode cX7_change 78 = .ok (.iaload, 1) := by decide +kernel
theorem dX7_change_79 : decode cX7_change 79 = .ok (.invokevirtual 75, 3) := by decide +kernel
theorem dX7_change_82 : decode cX7_change 82 = .ok (.iastore, 1) := by decide +kernel
theorem dX7_change_83 : decode cX7_change 83 = .ok (.goto 60, 3) := by decide +kernel
theorem dX7_change_86 : decode cX7_change 86 = .ok (.aload_n 0, 1) := by decide +kernel
theorem dX7_change_87 : decode cX7_change 87 = .ok (.getfield 11, 3) := by decide +kernel
theorem dX7_change_90 : decode cX7_change 90 = .ok (.iload_n 2, 1) := by decide +kernel
theorem dX7_change_91 : decode cX7_change 91 = .ok (.aload_n 0, 1) := by decide +kernel
theorem dX7_change_92 : decode cX7_change 92 = .ok (.getfield 11, 3) := by decide +kernel
theorem dX7_change_95 : decode cX7_change 95 = .ok (.iload_n 2, 1) := by decide +kernel
theorem dX7_change_96 : decode cX7_change 96 = .ok (.iaload, 1) := by decide +kernel
theorem dX7_change_97 : decode cX7_change 97 = .ok (.iconst 1, 1) := by decide +kernel
theorem dX7_change_98 : decode cX7_change 98 = .ok (.iadd, 1) := by decide +kernel
theorem dX7_change_99 : decode cX7_change 99 = .ok (.iconst 5, 1) := by decide +kernel
theorem dX7_change_100 : decode cX7_change 100 = .ok (.invokestatic 79, 3) := by decide +kernel
theorem dX7_change_103 : decode cX7_change 103 = .ok (.iastore, 1) := by decide +kernel
theorem dX7_change_104 : decode cX7_change 104 = .ok (.goto 39, 3) := by decide +kernel
theorem dX7_change_107 : decode cX7_change 107 = .ok (.aload_n 0, 1) := by decide +kernel
theorem dX7_change_108 : decode cX7_change 108 = .ok (.getfield 11, 3) := by decide +kernel
theorem dX7_change_111 : decode cX7_change 111 = .ok (.iload_n 2, 1) := by decide +kernel
theorem dX7_change_112 : decode cX7_change 112 = .ok (.aload_n 0, 1) := by decide +kernel
theorem dX7_change_113 : decode cX7_change 113 = .ok (.getfield 11, 3) := by decide +kernel
theorem dX7_change_116 : decode cX7_change 116 = .ok (.iload_n 2, 1) := by decide +kernel
theorem dX7_change_117 : decode cX7_change 117 = .ok (.iaload, 1) := by decide +kernel
theorem dX7_change_118 : decode cX7_change 118 = .ok (.iconst 1, 1) := by decide +kernel
theorem dX7_change_119 : decode cX7_change 119 = .ok (.isub, 1) := by decide +kernel
theorem dX7_change_120 : decode cX7_change 120 = .ok (.iconst 0, 1) := by decide +kernel
theorem dX7_change_121 : decode cX7_change 121 = .ok (.invokestatic 85, 3) := by decide +kernel
theorem dX7_change_124 : decode cX7_change 124 = .ok (.iastore, 1) := by decide +kernel
theorem dX7_change_125 : decode cX7_change 125 = .ok (.goto 18, 3) := by decide +kernel
theorem dX7_change_128 : decode cX7_change 128 = .ok (.aload_n 0, 1) := by decide +kernel
theorem dX7_change_129 : decode cX7_change 129 = .ok (.getfield 11, 3) := by decide +kernel
theorem dX7_change_132 : decode cX7_change 132 = .ok (.iload_n 2, 1) := by decide +kernel
theorem dX7_change_133 : decode cX7_change 133 = .ok (.aload_n 0, 1) := by decide +kernel
theorem dX7_change_134 : decode cX7_change 134 = .ok (.bipush 6, 2) := by decide +kernel
theorem dX7_change_136 : decode cX7_change 136 = .ok (.invokevirtual 28, 3) := by decide +kernel
theorem dX7_change_139 : decode cX7_change 139 = .ok (.iastore, 1) := by decide +kernel
theorem dX7_change_140 : decode cX7_change 140 = .ok (.goto 3, 3) := by decide +kernel
theorem dX7_change_143 : decode cX7_change 143 = .ok (.return_, 1) := by decide +kernel
theorem dX7_next_0 : decode cX7_next 0 = .ok (.aload_n 1, 1) := by decide +kernel
theorem dX7_next_1 : decode cX7_next 1 = .ok (.getfield 48, 3) := by decide +kernel
theorem dX7_next_4 : decode cX7_next 4 = .ok (.tableswitch 79 6 9 #[32, 53, 58, 53], 32) := by decide +kernel
theorem dX7_next_36 : decode cX7_next 36 = .ok (.aload_n 0, 1) := by decide +kernel
theorem dX7_next_37 : decode cX7_next 37 = .ok (.aload_n 1, 1) := by decide +kernel
theorem dX7_next_38 : decode cX7_next 38 = .ok (.invokevirtual 51, 3) := by decide +kernel
theorem dX7_next_41 : decode cX7_next 41 = .ok (.ifCond .eq 9, 3) := by decide +kernel
theorem dX7_next_44 : decode cX7_next 44 = .ok (.iload_n 2, 1) := by decide +kernel
theorem dX7_next_45 : decode cX7_next 45 = .ok (.iconst 1, 1) := by decide +kernel
theorem dX7_next_46 : decode cX7_next 46 = .ok (.iadd, 1) := by decide +kernel
theorem dX7_next_47 : decode cX7_next 47 = .ok (.goto 9, 3) := by decide +kernel
theorem dX7_next_50 : decode cX7_next 50 = .ok (.aload_n 1, 1) := by decide +kernel
theorem dX7_next_51 : decode cX7_next 51 = .ok (.getfield 88, 3) := by decide +kernel
theorem dX7_next_54 : decode cX7_next 54 = .ok (.iconst 1, 1) := by decide +kernel
theorem dX7_next_55 : decode cX7_next 55 = .ok (.iadd, 1) := by decide +kernel
theorem dX7_next_56 : decode cX7_next 56 = .ok (.ireturn, 1) := by decide +kernel
theorem dX7_next_57 : decode cX7_next 57 = .ok (.aload_n 1, 1) := by decide +kernel
theorem dX7_next_58 : decode cX7_next 58 = .ok (.getfield 88, 3) := by decide +kernel
theorem dX7_next_61 : decode cX7_next 61 = .ok (.ireturn, 1) := by decide +kernel
theorem dX7_next_62 : decode cX7_next 62 = .ok (.aload_n 0, 1) := by decide +kernel
theorem dX7_next_63 : decode cX7_next 63 = .ok (.iconst 2, 1) := by decide +kernel
theorem dX7_next_64 : decode cX7_next 64 = .ok (.invokevirtual 28, 3) := by decide +kernel
theorem dX7_next_67 : decode cX7_next 67 = .ok (.ifCond .ne 9, 3) := by decide +kernel
theorem dX7_next_70 : decode cX7_next 70 = .ok (.iload_n 2, 1) := by decide +kernel
theorem dX7_next_71 : decode cX7_next 71 = .ok (.iconst 1, 1) := by decide +kernel
theorem dX7_next_72 : decode cX7_next 72 = .ok (.iadd, 1) := by decide +kernel
theorem dX7_next_73 : decode cX7_next 73 = .ok (.goto 9, 3) := by decide +kernel
theorem dX7_next_76 : decode cX7_next 76 = .ok (.aload_n 1, 1) := by decide +kernel
theorem dX7_next_77 : decode cX7_next 77 = .ok (.getfield 88, 3) := by decide +kernel
theorem dX7_next_80 : decode cX7_next 80 = .ok (.iconst 1, 1) := by decide +kernel
theorem dX7_next_81 : decode cX7_next 81 = .ok (.iadd, 1) := by decide +kernel
theorem dX7_next_82 : decode cX7_next 82 = .ok (.ireturn, 1) := by decide +kernel
theorem dX7_next_83 : decode cX7_next 83 = .ok (.iload_n 2, 1) := by decide +kernel
theorem dX7_next_84 : decode cX7_next 84 = .ok (.iconst 1, 1) := by decide +kernel
theorem dX7_next_85 : decode cX7_next 85 = .ok (.iadd, 1) := by decide +kernel
theorem dX7_next_86 : decode cX7_next 86 = .ok (.ireturn, 1) := by decide +kernel
theorem dX8_init_0 : decode cX8_init 0 = .ok (.aload_n 0, 1) := by decide +kernel
theorem dX8_init_1 : decode cX8_init 1 = .ok (.invokespecial 3, 3) := by decide +kernel
theorem dX8_init_4 : decode cX8_init 4 = .ok (.aload_n 0, 1) := by decide +kernel
theorem dX8_init_5 : decode cX8_init 5 = .ok (.iconst 3, 1) := by decide +kernel
theorem dX8_init_6 : decode cX8_init 6 = .ok (.newarray .int, 2) := by decide +kernel
theorem dX8_init_8 : decode cX8_init 8 = .ok (.putfield 9, 3) := by decide +kernel
theorem dX8_init_11 : decode cX8_init 11 = .ok (.aload_n 0, 1) := by decide +kernel
theorem dX8_init_12 : decode cX8_init 12 = .ok (.invokevirtual 15, 3) := by decide +kernel
theorem dX8_init_15 : decode cX8_init 15 = .ok (.return_, 1) := by decide +kernel
theorem dX8_reset_0 : decode cX8_reset 0 = .ok (.iconst 0, 1) := by decide +kernel
theorem dX8_reset_1 : decode cX8_reset 1 = .ok (.istore_n 1, 1) := by decide +kernel
theorem dX8_reset_2 : decode cX8_reset 2 = .ok (.iload_n 1, 1) := by decide +kernel
theorem dX8_reset_3 : decode cX8_reset 3 = .ok (.aload_n 0, 1) := by decide +kernel
theorem dX8_reset_4 : decode cX8_reset 4 = .ok (.getfield 9, 3) := by decide +kernel
theorem dX8_reset_7 : decode cX8_reset 7 = .ok (.arraylength, 1) := by decide +kernel
theorem dX8_reset_8 : decode cX8_reset 8 = .ok (.if_icmp .ge 17, 3) := by decide +kernel
theorem dX8_reset_11 : decode cX8_reset 11 = .ok (.aload_n 0, 1) := by decide +kernel
theorem dX8_reset_12 : decode cX8_reset 12 = .ok (.getfield 9, 3) := by decide +kernel
theorem dX8_reset_15 : decode cX8_reset 15 = .ok (.iload_n 1, 1) := by decide +kernel
theorem dX8_reset_16 : decode cX8_reset 16 = .ok (.bipush 6, 2) := by decide +kernel
theorem dX8_reset_18 : decode cX8_reset 18 = .ok (.iastore, 1) := by decide +kernel
theorem dX8_reset_19 : decode cX8_reset 19 = .ok (.iinc 1 1, 3) := by decide +kernel
theorem dX8_reset_22 : decode cX8_reset 22 = .ok (.goto (-20), 3) := by decide +kernel
theorem dX8_reset_25 : decode cX8_reset 25 = .ok (.aload_n 0, 1) := by decide +kernel
theorem dX8_reset_26 : decode cX8_reset 26 = .ok (.iconst 0, 1) := by decide +kernel
theorem dX8_reset_27 : decode cX8_reset 27 = .ok (.putfield 18, 3) := by decide +kernel
theorem dX8_reset_30 : decode cX8_reset 30 = .ok (.return_, 1) := by decide +kernel
theorem dX8_packedStart_0 : decode cX8_packedStart 0 = .ok (.iconst 0, 1) := by decide +kernel
theorem dX8_packedStart_1 : decode cX8_packedStart 1 = .ok (.istore_n 1, 1) := by decide +kernel
theorem dX8_packedStart_2 : decode cX8_packedStart 2 = .ok (.iconst 0, 1) := by decide +kernel
theorem dX8_packedStart_3 : decode cX8_packedStart 3 = .ok (.istore_n 2, 1) := by decide +kernel
theorem dX8_packedStart_4 : decode cX8_packedStart 4 = .ok (.iload_n 2, 1) := by decide +kernel
theorem dX8_packedStart_5 : decode cX8_packedStart 5 = .ok (.aload_n 0, 1) := by decide +kernel
theorem dX8_packedStart_6 : decode cX8_packedStart 6 = .ok (.getfield 9, 3) := by decide +kernel
theorem dX8_packedStart_9 : decode cX8_packedStart 9 = .ok (.arraylength, 1) := by decide +kernel
theorem dX8_packedStart_10 : decode cX8_packedStart 10 = .ok (.if_icmp .ge 21, 3) := by decide +kernel
theorem dX8_packedStart_13 : decode cX8_packedStart 13 = .ok (.iload_n 1, 1) := by decide +kernel
theorem dX8_packedStart_14 : decode cX8_packedStart 14 = .ok (.bipush 7, 2) := by decide +kernel
theorem dX8_packedStart_16 : decode cX8_packedStart 16 = .ok (.imul, 1) := by decide +kernel
theorem dX8_packedStart_17 : decode cX8_packedStart 17 = .ok (.aload_n 0, 1) := by decide +kernel
theorem dX8_packedStart_18 : decode cX8_packedStart 18 = .ok (.getfield 9, 3) := by decide +kernel
theorem dX8_packedStart_21 : decode cX8_packedStart 21 = .ok (.iload_n 2, 1) := by decide +kernel
theorem dX8_packedStart_22 : decode cX8_packedStart 22 = .ok (.iaload, 1) := by decide +kernel
theorem dX8_packedStart_23 : decode cX8_packedStart 23 = .ok (.iadd, 1) := by decide +kernel
theorem dX8_packedStart_24 : decode cX8_packedStart 24 = .ok (.istore_n 1, 1) := by decide +kernel
theorem dX8_packedStart_25 : decode cX8_packedStart 25 = .ok (.iinc 2 1, 3) := by decide +kernel
theorem dX8_packedStart_28 : decode cX8_packedStart 28 = .ok (.goto (-24), 3) := by decide +kernel
theorem dX8_packedStart_31 : decode cX8_packedStart 31 = .ok (.iload_n 1, 1) := by decide +kernel
theorem dX8_packedStart_32 : decode cX8_packedStart 32 = .ok (.ireturn, 1) := by decide +kernel
theorem dX8_packed_0 : decode cX8_packed 0 = .ok (.aload_n 0, 1) := by decide +kernel
theorem dX8_packed_1 : decode cX8_packed 1 = .ok (.invokevirtual 22, 3) := by decide +kernel
theorem dX8_packed_4 : decode cX8_packed 4 = .ok (.bipush 32, 2) := by decide +kernel
theorem dX8_packed_6 : decode cX8_packed 6 = .ok (.imul, 1) := by decide +kernel
theorem dX8_packed_7 : decode cX8_packed 7 = .ok (.aload_n 0, 1) := by decide +kernel
theorem dX8_packed_8 : decode cX8_packed 8 = .ok (.getfield 18, 3) := by decide +kernel
theorem dX8_packed_11 : decode cX8_packed 11 = .ok (.iadd, 1) := by decide +kernel
theorem dX8_packed_12 : decode cX8_packed 12 = .ok (.ireturn, 1) := by decide +kernel
theorem dX8_unpack_0 : decode cX8_unpack 0 = .ok (.aload_n 0, 1) := by decide +kernel
theorem dX8_unpack_1 : decode cX8_unpack 1 = .ok (.iload_n 1, 1) := by decide +kernel
theorem dX8_unpack_2 : decode cX8_unpack 2 = .ok (.bipush 32, 2) := by decide +kernel
theorem dX8_unpack_4 : decode cX8_unpack 4 = .ok (.irem, 1) := by decide +kernel
theorem dX8_unpack_5 : decode cX8_unpack 5 = .ok (.putfield 18, 3) := by decide +kernel
theorem dX8_unpack_8 : decode cX8_unpack 8 = .ok (.iload_n 1, 1) := by decide +kernel
theorem dX8_unpack_9 : decode cX8_unpack 9 = .ok (.bipush 32, 2) := by decide +kernel
theorem dX8_unpack_11 : decode cX8_unpack 11 = .ok (.idiv, 1) := by decide +kernel
theorem dX8_unpack_12 : decode cX8_unpack 12 = .ok (.istore_n 2, 1) := by decide +kernel
theorem dX8_unpack_13 : decode cX8_unpack 13 = .ok (.aload_n 0, 1) := by decide +kernel
theorem dX8_unpack_14 : decode cX8_unpack 14 = .ok (.getfield 9, 3) := by decide +kernel
theorem dX8_unpack_17 : decode cX8_unpack 17 = .ok (.arraylength, 1) := by decide +kernel
theorem dX8_unpack_18 : decode cX8_unpack 18 = .ok (.iconst 1, 1) := by decide +kernel
theorem dX8_unpack_19 : decode cX8_unpack 19 = .ok (.isub, 1) := by decide +kernel
theorem dX8_unpack_20 : decode cX8_unpack 20 = .ok (.istore_n 3, 1) := by decide +kernel
theorem dX8_unpack_21 : decode cX8_unpack 21 = .ok (.iload_n 3, 1) := by decide +kernel
theorem dX8_unpack_22 : decode cX8_unpack 22 = .ok (.ifCond .lt 24, 3) := by decide +kernel
theorem dX8_unpack_25 : decode cX8_unpack 25 = .ok (.aload_n 0, 1) := by decide +kernel
theorem dX8_unpack_26 : decode cX8_unpack 26 = .ok (.getfield 9, 3) := by decide +kernel
theorem dX8_unpack_29 : decode cX8_unpack 29 = .ok (.iload_n 3, 1) := by decide +kernel
theorem dX8_unpack_30 : decode cX8_unpack 30 = .ok (.iload_n 2, 1) := by decide +kernel
theorem dX8_unpack_31 : decode cX8_unpack 31 = .ok (.bipush 7, 2) := by decide +kernel
theorem dX8_unpack_33 : decode cX8_unpack 33 = .ok (.irem, 1) := by decide +kernel
theorem dX8_unpack_34 : decode cX8_unpack 34 = .ok (.iastore, 1) := by decide +kernel
theorem dX8_unpack_35 : decode cX8_unpack 35 = .ok (.iload_n 2, 1) := by decide +kernel
theorem dX8_unpack_36 : decode cX8_unpack 36 = .ok (.bipush 7, 2) := by decide +kernel
theorem dX8_unpack_38 : decode cX8_unpack 38 = .ok (.idiv, 1) := by decide +kernel
theorem dX8_unpack_39 : decode cX8_unpack 39 = .ok (.istore_n 2, 1) := by decide +kernel
theorem dX8_unpack_40 : decode cX8_unpack 40 = .ok (.iinc 3 (-1), 3) := by decide +kernel
theorem dX8_unpack_43 : decode cX8_unpack 43 = .ok (.goto (-22), 3) := by decide +kernel
theorem dX8_unpack_46 : decode cX8_unpack 46 = .ok (.return_, 1) := by decide +kernel
theorem dX8_putStart_0 : decode cX8_putStart 0 = .ok (.iload_n 1, 1) := by decide +kernel
theorem dX8_putStart_1 : decode cX8_putStart 1 = .ok (.ifCond .lt 22, 3) := by decide +kernel
theorem dX8_putStart_4 : decode cX8_putStart 4 = .ok (.iload_n 1, 1) := by decide +kernel
theorem dX8_putStart_5 : decode cX8_putStart 5 = .ok (.aload_n 0, 1) := by decide +kernel
theorem dX8_putStart_6 : decode cX8_putStart 6 = .ok (.getfield 9, 3) := by decide +kernel
theorem dX8_putStart_9 : decode cX8_putStart 9 = .ok (.arraylength, 1) := by decide +kernel
theorem dX8_putStart_10 : decode cX8_putStart 10 = .ok (.if_icmp .ge 13, 3) := by decide +kernel
theorem dX8_putStart_13 : decode cX8_putStart 13 = .ok (.iload_n 2, 1) := by decide +kernel
theorem dX8_putStart_14 : decode cX8_putStart 14 = .ok (.ifCond .lt 9, 3) := by decide +kernel
theorem dX8_putStart_17 : decode cX8_putStart 17 = .ok (.iload_n 2, 1) := by decide +kernel
theorem dX8_putStart_18 : decode cX8_putStart 18 = .ok (.bipush 6, 2) := by decide +kernel
theorem dX8_putStart_20 : decode cX8_putStart 20 = .ok (.if_icmp .le 5, 3) := by decide +kernel
theorem dX8_putStart_23 : decode cX8_putStart 23 = .ok (.iconst 0, 1) := by decide +kernel
theorem dX8_putStart_24 : decode cX8_putStart 24 = .ok (.ireturn, 1) := by decide +kernel
theorem dX8_putStart_25 : decode cX8_putStart 25 = .ok (.aload_n 0, 1) := by decide +kernel
theorem dX8_putStart_26 : decode cX8_putStart 26 = .ok (.getfield 9, 3) := by decide +kernel
theorem dX8_putStart_29 : decode cX8_putStart 29 = .ok (.iload_n 1, 1) := by decide +kernel
theorem dX8_putStart_30 : decode cX8_putStart 30 = .ok (.iload_n 2, 1) := by decide +kernel
theorem dX8_putStart_31 : decode cX8_putStart 31 = .ok (.iastore, 1) := by decide +kernel
theorem dX8_putStart_32 : decode cX8_putStart 32 = .ok (.iconst 1, 1) := by decide +kernel
theorem dX8_putStart_33 : decode cX8_putStart 33 = .ok (.ireturn, 1) := by decide +kernel
theorem dX8_putOff_0 : decode cX8_putOff 0 = .ok (.iload_n 2, 1) := by decide +kernel
theorem dX8_putOff_1 : decode cX8_putOff 1 = .ok (.ifCond .lt 8, 3) := by decide +kernel
theorem dX8_putOff_4 : decode cX8_putOff 4 = .ok (.iload_n 2, 1) := by decide +kernel
theorem dX8_putOff_5 : decode cX8_putOff 5 = .ok (.iconst 1, 1) := by decide +kernel
theorem dX8_putOff_6 : decode cX8_putOff 6 = .ok (.if_icmp .le 5, 3) := by decide +kernel
theorem dX8_putOff_9 : decode cX8_putOff 9 = .ok (.iconst 0, 1) := by decide +kernel
theorem dX8_putOff_10 : decode cX8_putOff 10 = .ok (.ireturn, 1) := by decide +kernel
theorem dX8_putOff_11 : decode cX8_putOff 11 = .ok (.aload_n 0, 1) := by decide +kernel
theorem dX8_putOff_12 : decode cX8_putOff 12 = .ok (.aload_n 0, 1) := by decide +kernel
theorem dX8_putOff_13 : decode cX8_putOff 13 = .ok (.getfield 18, 3) := by decide +kernel
theorem dX8_putOff_16 : decode cX8_putOff 16 = .ok (.iconst 1, 1) := by decide +kernel
theorem dX8_putOff_17 : decode cX8_putOff 17 = .ok (.iload_n 1, 1) := by decide +kernel
theorem dX8_putOff_18 : decode cX8_putOff 18 = .ok (.ishl, 1) := by decide +kernel
theorem dX8_putOff_19 : decode cX8_putOff 19 = .ok (.iconst (-1), 1) := by decide +kernel
theorem dX8_putOff_20 : decode cX8_putOff 20 = .ok (.ixor, 1) := by decide +kernel
theorem dX8_putOff_21 : decode cX8_putOff 21 = .ok (.iand, 1) := by decide +kernel
theorem dX8_putOff_22 : decode cX8_putOff 22 = .ok (.iload_n 2, 1) := by decide +kernel
theorem dX8_putOff_23 : decode cX8_putOff 23 = .ok (.iload_n 1, 1) := by decide +kernel
theorem dX8_putOff_24 : decode cX8_putOff 24 = .ok (.ishl, 1) := by decide +kernel
theorem dX8_putOff_25 : decode cX8_putOff 25 = .ok (.ior, 1) := by decide +kernel
theorem dX8_putOff_26 : decode cX8_putOff 26 = .ok (.putfield 18, 3) := by decide +kernel
theorem dX8_putOff_29 : decode cX8_putOff 29 = .ok (.iconst 1, 1) := by decide +kernel
theorem dX8_putOff_30 : decode cX8_putOff 30 = .ok (.ireturn, 1) := by decide +kernel
theorem dX8_fillIn_0 : decode cX8_fillIn 0 = .ok (.aload_n 1, 1) := by decide +kernel
theorem dX8_fillIn_1 : decode cX8_fillIn 1 = .ok (.invokevirtual 26, 3) := by decide +kernel
theorem dX8_fillIn_4 : decode cX8_fillIn 4 = .ok (.iconst 0, 1) := by decide +kernel
theorem dX8_fillIn_5 : decode cX8_fillIn 5 = .ok (.istore_n 2, 1) := by decide +kernel
theorem dX8_fillIn_6 : decode cX8_fillIn 6 = .ok (.iload_n 2, 1) := by decide +kernel
theorem dX8_fillIn_7 : decode cX8_fillIn 7 = .ok (.aload_n 0, 1) := by decide +kernel
theorem dX8_fillIn_8 : decode cX8_fillIn 8 = .ok (.getfield 9, 3) := by decide +kernel
theorem dX8_fillIn_11 : decode cX8_fillIn 11 = .ok (.arraylength, 1) := by decide +kernel
theorem dX8_fillIn_12 : decode cX8_fillIn 12 = .ok (.if_icmp .ge 31, 3) := by decide +kernel
theorem dX8_fillIn_15 : decode cX8_fillIn 15 = .ok (.aload_n 0, 1) := by decide +kernel
theorem dX8_fillIn_16 : decode cX8_fillIn 16 = .ok (.getfield 9, 3) := by decide +kernel
theorem dX8_fillIn_19 : decode cX8_fillIn 19 = .ok (.iload_n 2, 1) := by decide +kernel
theorem dX8_fillIn_20 : decode cX8_fillIn 20 = .ok (.iaload, 1) := by decide +kernel
theorem dX8_fillIn_21 : decode cX8_fillIn 21 = .ok (.bipush 6, 2) := by decide +kernel
theorem dX8_fillIn_23 : decode cX8_fillIn 23 = .ok (.if_icmp .ge 14, 3) := by decide +kernel
theorem dX8_fillIn_26 : decode cX8_fillIn 26 = .ok (.aload_n 1, 1) := by decide +kernel
theorem dX8_fillIn_27 : decode cX8_fillIn 27 = .ok (.iload_n 2, 1) := by decide +kernel
theorem dX8_fillIn_28 : decode cX8_fillIn 28 = .ok (.aload_n 0, 1) := by decide +kernel
theorem dX8_fillIn_29 : decode cX8_fillIn 29 = .ok (.getfield 9, 3) := by decide +kernel
theorem dX8_fillIn_32 : decode cX8_fillIn 32 = .ok (.iload_n 2, 1) := by decide +kernel
theorem dX8_fillIn_33 : decode cX8_fillIn 33 = .ok (.iaload, 1) := by decide +kernel
theorem dX8_fillIn_34 : decode cX8_fillIn 34 = .ok (.invokevirtual 31, 3) := by decide +kernel
theorem dX8_fillIn_37 : decode cX8_fillIn 37 = .ok (.iinc 2 1, 3) := by decide +kernel
theorem dX8_fillIn_40 : decode cX8_fillIn 40 = .ok (.goto (-34), 3) := by decide +kernel
theorem dX8_fillIn_43 : decode cX8_fillIn 43 = .ok (.return_, 1) := by decide +kernel
theorem dX9_init_0 : decode cX9_init 0 = .ok (.aload_n 0, 1) := by decide +kernel
theorem dX9_init_1 : decode cX9_init 1 = .ok (.invokespecial 3, 3) := by decide +kernel
theorem dX9_init_4 : decode cX9_init 4 = .ok (.aload_n 0, 1) := by decide +kernel
theorem dX9_init_5 : decode cX9_init 5 = .ok (.bipush 6, 2) := by decide +kernel
theorem dX9_init_7 : decode cX9_init 7 = .ok (.newarray .long, 2) := by decide +kernel
theorem dX9_init_9 : decode cX9_init 9 = .ok (.putfield 9, 3) := by decide +kernel
theorem dX9_init_12 : decode cX9_init 12 = .ok (.return_, 1) := by decide +kernel
theorem dX9_row_0 : decode cX9_row 0 = .ok (.iload_n 0, 1) := by decide +kernel
theorem dX9_row_1 : decode cX9_row 1 = .ok (.iconst 0, 1) := by decide +kernel
theorem dX9_row_2 : decode cX9_row 2 = .ok (.invokestatic 15, 3) := by decide +kernel
theorem dX9_row_5 : decode cX9_row 5 = .ok (.anewarray 10, 3) := by decide +kernel
theorem dX9_row_8 : decode cX9_row 8 = .ok (.astore_n 1, 1) := by decide +kernel
theorem dX9_row_9 : decode cX9_row 9 = .ok (.iconst 0, 1) := by decide +kernel
theorem dX9_row_10 : decode cX9_row 10 = .ok (.istore_n 2, 1) := by decide +kernel
theorem dX9_row_11 : decode cX9_row 11 = .ok (.iload_n 2, 1) := by decide +kernel
theorem dX9_row_12 : decode cX9_row 12 = .ok (.aload_n 1, 1) := by decide +kernel
theorem dX9_row_13 : decode cX9_row 13 = .ok (.arraylength, 1) := by decide +kernel
theorem dX9_row_14 : decode cX9_row 14 = .ok (.if_icmp .ge 19, 3) := by decide +kernel
theorem dX9_row_17 : decode cX9_row 17 = .ok (.aload_n 1, 1) := by decide +kernel
theorem dX9_row_18 : decode cX9_row 18 = .ok (.iload_n 2, 1) := by decide +kernel
theorem dX9_row_19 : decode cX9_row 19 = .ok (.new 10, 3) := by decide +kernel
theorem dX9_row_22 : decode cX9_row 22 = .ok (.dup, 1) := by decide +kernel
theorem dX9_row_23 : decode cX9_row 23 = .ok (.invokespecial 21, 3) := by decide +kernel
theorem dX9_row_26 : decode cX9_row 26 = .ok (.aastore, 1) := by decide +kernel
theorem dX9_row_27 : decode cX9_row 27 = .ok (.iinc 2 1, 3) := by decide +kernel
theorem dX9_row_30 : decode cX9_row 30 = .ok (.goto (-19), 3) := by decide +kernel
theorem dX9_row_33 : decode cX9_row 33 = .ok (.aload_n 1, 1) := by decide +kernel
theorem dX9_row_34 : decode cX9_row 34 = .ok (.areturn, 1) := by decide +kernel
theorem dX9_clear_0 : decode cX9_clear 0 = .ok (.iconst 0, 1) := by decide +kernel
theorem dX9_clear_1 : decode cX9_clear 1 = .ok (.istore_n 1, 1) := by decide +kernel
theorem dX9_clear_2 : decode cX9_clear 2 = .ok (.iload_n 1, 1) := by decide +kernel
theorem dX9_clear_3 : decode cX9_clear 3 = .ok (.bipush 6, 2) := by decide +kernel
theorem dX9_clear_5 : decode cX9_clear 5 = .ok (.if_icmp .ge 16, 3) := by decide +kernel
theorem dX9_clear_8 : decode cX9_clear 8 = .ok (.aload_n 0, 1) := by decide +kernel
theorem dX9_clear_9 : decode cX9_clear 9 = .ok (.getfield 9, 3) := by decide +kernel
theorem dX9_clear_12 : decode cX9_clear 12 = .ok (.iload_n 1, 1) := by decide +kernel
theorem dX9_clear_13 : decode cX9_clear 13 = .ok (.lconst 0, 1) := by decide +kernel
theorem dX9_clear_14 : decode cX9_clear 14 = .ok (.lastore, 1) := by decide +kernel
theorem dX9_clear_15 : decode cX9_clear 15 = .ok (.iinc 1 1, 3) := by decide +kernel
theorem dX9_clear_18 : decode cX9_clear 18 = .ok (.goto (-16), 3) := by decide +kernel
theorem dX9_clear_21 : decode cX9_clear 21 = .ok (.return_, 1) := by decide +kernel
theorem dX9_fill_0 : decode cX9_fill 0 = .ok (.iconst 0, 1) := by decide +kernel
theorem dX9_fill_1 : decode cX9_fill 1 = .ok (.istore_n 1, 1) := by decide +kernel
theorem dX9_fill_2 : decode cX9_fill 2 = .ok (.iload_n 1, 1) := by decide +kernel
theorem dX9_fill_3 : decode cX9_fill 3 = .ok (.bipush 6, 2) := by decide +kernel
theorem dX9_fill_5 : decode cX9_fill 5 = .ok (.if_icmp .ge 18, 3) := by decide +kernel
theorem dX9_fill_8 : decode cX9_fill 8 = .ok (.aload_n 0, 1) := by decide +kernel
theorem dX9_fill_9 : decode cX9_fill 9 = .ok (.getfield 9, 3) := by decide +kernel
theorem dX9_fill_12 : decode cX9_fill 12 = .ok (.iload_n 1, 1) := by decide +kernel
theorem dX9_fill_13 : decode cX9_fill 13 = .ok (.ldc2_w 22, 3) := by decide +kernel
theorem dX9_fill_16 : decode cX9_fill 16 = .ok (.lastore, 1) := by decide +kernel
theorem dX9_fill_17 : decode cX9_fill 17 = .ok (.iinc 1 1, 3) := by decide +kernel
theorem dX9_fill_20 : decode cX9_fill 20 = .ok (.goto (-18), 3) := by decide +kernel
theorem dX9_fill_23 : decode cX9_fill 23 = .ok (.return_, 1) := by decide +kernel
theorem dX9_copy_0 : decode cX9_copy 0 = .ok (.iconst 0, 1) := by decide +kernel
theorem dX9_copy_1 : decode cX9_copy 1 = .ok (.istore_n 2, 1) := by decide +kernel
theorem dX9_copy_2 : decode cX9_copy 2 = .ok (.iload_n 2, 1) := by decide +kernel
theorem dX9_copy_3 : decode cX9_copy 3 = .ok (.bipush 6, 2) := by decide +kernel
theorem dX9_copy_5 : decode cX9_copy 5 = .ok (.if_icmp .ge 21, 3) := by decide +kernel
theorem dX9_copy_8 : decode cX9_copy 8 = .ok (.aload_n 0, 1) := by decide +kernel
theorem dX9_copy_9 : decode cX9_copy 9 = .ok (.getfield 9, 3) := by decide +kernel
theorem dX9_copy_12 : decode cX9_copy 12 = .ok (.iload_n 2, 1) := by decide +kernel
theorem dX9_copy_13 : decode cX9_copy 13 = .ok (.aload_n 1, 1) := by decide +kernel
theorem dX9_copy_14 : decode cX9_copy 14 = .ok (.getfield 9, 3) := by decide +kernel
theorem dX9_copy_17 : decode cX9_copy 17 = .ok (.iload_n 2, 1) := by decide +kernel
theorem dX9_copy_18 : decode cX9_copy 18 = .ok (.laload, 1) := by decide +kernel
theorem dX9_copy_19 : decode cX9_copy 19 = .ok (.lastore, 1) := by decide +kernel
theorem dX9_copy_20 : decode cX9_copy 20 = .ok (.iinc 2 1, 3) := by decide +kernel
theorem dX9_copy_23 : decode cX9_copy 23 = .ok (.goto (-21), 3) := by decide +kernel
theorem dX9_copy_26 : decode cX9_copy 26 = .ok (.return_, 1) := by decide +kernel
theorem dX9_unite_0 : decode cX9_unite 0 = .ok (.lconst 0, 1) := by decide +kernel
theorem dX9_unite_1 : decode cX9_unite 1 = .ok (.lstore_n 2, 1) := by decide +kernel
theorem dX9_unite_2 : decode cX9_unite 2 = .ok (.iconst 0, 1) := by decide +kernel
theorem dX9_unite_3 : decode cX9_unite 3 = .ok (.istore 4, 2) := by decide +kernel
theorem dX9_unite_5 : decode cX9_unite 5 = .ok (.iload 4, 2) := by decide +kernel
theorem dX9_unite_7 : decode cX9_unite 7 = .ok (.bipush 6, 2) := by decide +kernel
theorem dX9_unite_9 : decode cX9_unite 9 = .ok (.if_icmp .ge 48, 3) := by decide +kernel
theorem dX9_unite_12 : decode cX9_unite 12 = .ok (.lload_n 2, 1) := by decide +kernel
theorem dX9_unite_13 : decode cX9_unite 13 = .ok (.aload_n 1, 1) := by decide +kernel
theorem dX9_unite_14 : decode cX9_unite 14 = .ok (.getfield 9, 3) := by decide +kernel
theorem dX9_unite_17 : decode cX9_unite 17 = .ok (.iload 4, 2) := by decide +kernel
theorem dX9_unite_19 : decode cX9_unite 19 = .ok (.laload, 1) := by decide +kernel
theorem dX9_unite_20 : decode cX9_unite 20 = .ok (.aload_n 0, 1) := by decide +kernel
theorem dX9_unite_21 : decode cX9_unite 21 = .ok (.getfield 9, 3) := by decide +kernel
theorem dX9_unite_24 : decode cX9_unite 24 = .ok (.iload 4, 2) := by decide +kernel
theorem dX9_unite_26 : decode cX9_unite 26 = .ok (.laload, 1) := by decide +kernel
theorem dX9_unite_27 : decode cX9_unite 27 = .ok (.ldc2_w 24, 3) := by decide +kernel
theorem dX9_unite_30 : decode cX9_unite 30 = .ok (.lxor, 1) := by decide +kernel
theorem dX9_unite_31 : decode cX9_unite 31 = .ok (.land, 1) := by decide +kernel
theorem dX9_unite_32 : decode cX9_unite 32 = .ok (.lor, 1) := by decide +kernel
theorem dX9_unite_33 : decode cX9_unite 33 = .ok (.lstore_n 2, 1) := by decide +kernel
theorem dX9_unite_34 : decode cX9_unite 34 = .ok (.aload_n 0, 1) := by decide +kernel
theorem dX9_unite_35 : decode cX9_unite 35 = .ok (.getfield 9, 3) := by decide +kernel
theorem dX9_unite_38 : decode cX9_unite 38 = .ok (.iload 4, 2) := by decide +kernel
theorem dX9_unite_40 : decode cX9_unite 40 = .ok (.dup2, 1) := by decide +kernel
theorem dX9_unite_41 : decode cX9_unite 41 = .ok (.laload, 1) := by decide +kernel
theorem dX9_unite_42 : decode cX9_unite 42 = .ok (.aload_n 1, 1) := by decide +kernel
theorem dX9_unite_43 : decode cX9_unite 43 = .ok (.getfield 9, 3) := by decide +kernel
theorem dX9_unite_46 : decode cX9_unite 46 = .ok (.iload 4, 2) := by decide +kernel
theorem dX9_unite_48 : decode cX9_unite 48 = .ok (.laload, 1) := by decide +kernel
theorem dX9_unite_49 : decode cX9_unite 49 = .ok (.lor, 1) := by decide +kernel
theorem dX9_unite_50 : decode cX9_unite 50 = .ok (.lastore, 1) := by decide +kernel
theorem dX9_unite_51 : decode cX9_unite 51 = .ok (.iinc 4 1, 3) := by decide +kernel
theorem dX9_unite_54 : decode cX9_unite 54 = .ok (.goto (-49), 3) := by decide +kernel
theorem dX9_unite_57 : decode cX9_unite 57 = .ok (.lload_n 2, 1) := by decide +kernel
theorem dX9_unite_58 : decode cX9_unite 58 = .ok (.lconst 0, 1) := by decide +kernel
theorem dX9_unite_59 : decode cX9_unite 59 = .ok (.lcmp, 1) := by decide +kernel
theorem dX9_unite_60 : decode cX9_unite 60 = .ok (.ifCond .eq 7, 3) := by decide +kernel
theorem dX9_unite_63 : decode cX9_unite 63 = .ok (.iconst 1, 1) := by decide +kernel
theorem dX9_unite_64 : decode cX9_unite 64 = .ok (.goto 4, 3) := by decide +kernel
theorem dX9_unite_67 : decode cX9_unite 67 = .ok (.iconst 0, 1) := by decide +kernel
theorem dX9_unite_68 : decode cX9_unite 68 = .ok (.ireturn, 1) := by decide +kernel
theorem dX9_meet_0 : decode cX9_meet 0 = .ok (.iconst 0, 1) := by decide +kernel
theorem dX9_meet_1 : decode cX9_meet 1 = .ok (.istore_n 2, 1) := by decide +kernel
theorem dX9_meet_2 : decode cX9_meet 2 = .ok (.iload_n 2, 1) := by decide +kernel
theorem dX9_meet_3 : decode cX9_meet 3 = .ok (.bipush 6, 2) := by decide +kernel
theorem dX9_meet_5 : decode cX9_meet 5 = .ok (.if_icmp .ge 24, 3) := by decide +kernel
theorem dX9_meet_8 : decode cX9_meet 8 = .ok (.aload_n 0, 1) := by decide +kernel
theorem dX9_meet_9 : decode cX9_meet 9 = .ok (.getfield 9, 3) := by decide +kernel
theorem dX9_meet_12 : decode cX9_meet 12 = .ok (.iload_n 2, 1) := by decide +kernel
theorem dX9_meet_13 : decode cX9_meet 13 = .ok (.dup2, 1) := by decide +kernel
theorem dX9_meet_14 : decode cX9_meet 14 = .ok (.laload, 1) := by decide +kernel
theorem dX9_meet_15 : decode cX9_meet 15 = .ok (.aload_n 1, 1) := by decide +kernel
theorem dX9_meet_16 : decode cX9_meet 16 = .ok (.getfield 9, 3) := by decide +kernel
theorem dX9_meet_19 : decode cX9_meet 19 = .ok (.iload_n 2, 1) := by decide +kernel
theorem dX9_meet_20 : decode cX9_meet 20 = .ok (.laload, 1) := by decide +kernel
theorem dX9_meet_21 : decode cX9_meet 21 = .ok (.land, 1) := by decide +kernel
theorem dX9_meet_22 : decode cX9_meet 22 = .ok (.lastore, 1) := by decide +kernel
theorem dX9_meet_23 : decode cX9_meet 23 = .ok (.iinc 2 1, 3) := by decide +kernel
theorem dX9_meet_26 : decode cX9_meet 26 = .ok (.goto (-24), 3) := by decide +kernel
theorem dX9_meet_29 : decode cX9_meet 29 = .ok (.return_, 1) := by decide +kernel
theorem dX9_remove_0 : decode cX9_remove 0 = .ok (.iconst 0, 1) := by decide +kernel
theorem dX9_remove_1 : decode cX9_remove 1 = .ok (.istore_n 2, 1) := by decide +kernel
theorem dX9_remove_2 : decode cX9_remove 2 = .ok (.iload_n 2, 1) := by decide +kernel
theorem dX9_remove_3 : decode cX9_remove 3 = .ok (.bipush 6, 2) := by decide +kernel
theorem dX9_remove_5 : decode cX9_remove 5 = .ok (.if_icmp .ge 28, 3) := by decide +kernel
theorem dX9_remove_8 : decode cX9_remove 8 = .ok (.aload_n 0, 1) := by decide +kernel
theorem dX9_remove_9 : decode cX9_remove 9 = .ok (.getfield 9, 3) := by decide +kernel
theorem dX9_remove_12 : decode cX9_remove 12 = .ok (.iload_n 2, 1) := by decide +kernel
theorem dX9_remove_13 : decode cX9_remove 13 = .ok (.dup2, 1) := by decide +kernel
theorem dX9_remove_14 : decode cX9_remove 14 = .ok (.laload, 1) := by decide +kernel
theorem dX9_remove_15 : decode cX9_remove 15 = .ok (.aload_n 1, 1) := by decide +kernel
theorem dX9_remove_16 : decode cX9_remove 16 = .ok (.getfield 9, 3) := by decide +kernel
theorem dX9_remove_19 : decode cX9_remove 19 = .ok (.iload_n 2, 1) := by decide +kernel
theorem dX9_remove_20 : decode cX9_remove 20 = .ok (.laload, 1) := by decide +kernel
theorem dX9_remove_21 : decode cX9_remove 21 = .ok (.ldc2_w 24, 3) := by decide +kernel
theorem dX9_remove_24 : decode cX9_remove 24 = .ok (.lxor, 1) := by decide +kernel
theorem dX9_remove_25 : decode cX9_remove 25 = .ok (.land, 1) := by decide +kernel
theorem dX9_remove_26 : decode cX9_remove 26 = .ok (.lastore, 1) := by decide +kernel
theorem dX9_remove_27 : decode cX9_remove 27 = .ok (.iinc 2 1, 3) := by decide +kernel
theorem dX9_remove_30 : decode cX9_remove 30 = .ok (.goto (-28), 3) := by decide +kernel
theorem dX9_remove_33 : decode cX9_remove 33 = .ok (.return_, 1) := by decide +kernel
theorem dX9_addMissing_0 : decode cX9_addMissing 0 = .ok (.iconst 0, 1) := by decide +kernel
theorem dX9_addMissing_1 : decode cX9_addMissing 1 = .ok (.istore_n 2, 1) := by decide +kernel
theorem dX9_addMissing_2 : decode cX9_addMissing 2 = .ok (.iload_n 2, 1) := by decide +kernel
theorem dX9_addMissing_3 : decode cX9_addMissing 3 = .ok (.bipush 6, 2) := by decide +kernel
theorem dX9_addMissing_5 : decode cX9_addMissing 5 = .ok (.if_icmp .ge 32, 3) := by decide +kernel
theorem dX9_addMissing_8 : decode cX9_addMissing 8 = .ok (.aload_n 0, 1) := by decide +kernel
theorem dX9_addMissing_9 : decode cX9_addMissing 9 = .ok (.getfield 9, 3) := by decide +kernel
theorem dX9_addMissing_12 : decode cX9_addMissing 12 = .ok (.iload_n 2, 1) := by decide +kernel
theorem dX9_addMissing_13 : decode cX9_addMissing 13 = .ok (.dup2, 1) := by decide +kernel
theorem dX9_addMissing_14 : decode cX9_addMissing 14 = .ok (.laload, 1) := by decide +kernel
theorem dX9_addMissing_15 : decode cX9_addMissing 15 = .ok (.ldc2_w 22, 3) := by decide +kernel
theorem dX9_addMissing_18 : decode cX9_addMissing 18 = .ok (.aload_n 1, 1) := by decide +kernel
theorem dX9_addMissing_19 : decode cX9_addMissing 19 = .ok (.getfield 9, 3) := by decide +kernel
theorem dX9_addMissing_22 : decode cX9_addMissing 22 = .ok (.iload_n 2, 1) := by decide +kernel
theorem dX9_addMissing_23 : decode cX9_addMissing 23 = .ok (.laload, 1) := by decide +kernel
theorem dX9_addMissing_24 : decode cX9_addMissing 24 = .ok (.ldc2_w 24, 3) := by decide +kernel
theorem dX9_addMissing_27 : decode cX9_addMissing 27 = .ok (.lxor, 1) := by decide +kernel
theorem dX9_addMissing_28 : decode cX9_addMissing 28 = .ok (.land, 1) := by decide +kernel
theorem dX9_addMissing_29 : decode cX9_addMissing 29 = .ok (.lor, 1) := by decide +kernel
theorem dX9_addMissing_30 : decode cX9_addMissing 30 = .ok (.lastore, 1) := by decide +kernel
theorem dX9_addMissing_31 : decode cX9_addMissing 31 = .ok (.iinc 2 1, 3) := by decide +kernel
theorem dX9_addMissing_34 : decode cX9_addMissing 34 = .ok (.goto (-32), 3) := by decide +kernel
theorem dX9_addMissing_37 : decode cX9_addMissing 37 = .ok (.return_, 1) := by decide +kernel
theorem dX9_count_0 : decode cX9_count 0 = .ok (.iconst 0, 1) := by decide +kernel
theorem dX9_count_1 : decode cX9_count 1 = .ok (.istore_n 1, 1) := by decide +kernel
theorem dX9_count_2 : decode cX9_count 2 = .ok (.iconst 0, 1) := by decide +kernel
theorem dX9_count_3 : decode cX9_count 3 = .ok (.istore_n 2, 1) := by decide +kernel
theorem dX9_count_4 : decode cX9_count 4 = .ok (.iload_n 2, 1) := by decide +kernel
theorem dX9_count_5 : decode cX9_count 5 = .ok (.bipush 6, 2) := by decide +kernel
theorem dX9_count_7 : decode cX9_count 7 = .ok (.if_icmp .ge 21, 3) := by decide +kernel
theorem dX9_count_10 : decode cX9_count 10 = .ok (.iload_n 1, 1) := by decide +kernel
theorem dX9_count_11 : decode cX9_count 11 = .ok (.aload_n 0, 1) := by decide +kernel
theorem dX9_count_12 : decode cX9_count 12 = .ok (.getfield 9, 3) := by decide +kernel
theorem dX9_count_15 : decode cX9_count 15 = .ok (.iload_n 2, 1) := by decide +kernel
theorem dX9_count_16 : decode cX9_count 16 = .ok (.laload, 1) := by decide +kernel
theorem dX9_count_17 : decode cX9_count 17 = .ok (.invokestatic 26, 3) := by decide +kernel
theorem dX9_count_20 : decode cX9_count 20 = .ok (.iadd, 1) := by decide +kernel
theorem dX9_count_21 : decode cX9_count 21 = .ok (.istore_n 1, 1) := by decide +kernel
theorem dX9_count_22 : decode cX9_count 22 = .ok (.iinc 2 1, 3) := by decide +kernel
theorem dX9_count_25 : decode cX9_count 25 = .ok (.goto (-21), 3) := by decide +kernel
theorem dX9_count_28 : decode cX9_count 28 = .ok (.iload_n 1, 1) := by decide +kernel
theorem dX9_count_29 : decode cX9_count 29 = .ok (.ireturn, 1) := by decide +kernel
theorem dX9_smallest_0 : decode cX9_smallest 0 = .ok (.iconst 0, 1) := by decide +kernel
theorem dX9_smallest_1 : decode cX9_smallest 1 = .ok (.istore_n 1, 1) := by decide +kernel
theorem dX9_smallest_2 : decode cX9_smallest 2 = .ok (.iload_n 1, 1) := by decide +kernel
theorem dX9_smallest_3 : decode cX9_smallest 3 = .ok (.bipush 6, 2) := by decide +kernel
theorem dX9_smallest_5 : decode cX9_smallest 5 = .ok (.if_icmp .ge 31, 3) := by decide +kernel
theorem dX9_smallest_8 : decode cX9_smallest 8 = .ok (.aload_n 0, 1) := by decide +kernel
theorem dX9_smallest_9 : decode cX9_smallest 9 = .ok (.getfield 9, 3) := by decide +kernel
theorem dX9_smallest_12 : decode cX9_smallest 12 = .ok (.iload_n 1, 1) := by decide +kernel
theorem dX9_smallest_13 : decode cX9_smallest 13 = .ok (.laload, 1) := by decide +kernel
theorem dX9_smallest_14 : decode cX9_smallest 14 = .ok (.lconst 0, 1) := by decide +kernel
theorem dX9_smallest_15 : decode cX9_smallest 15 = .ok (.lcmp, 1) := by decide +kernel
theorem dX9_smallest_16 : decode cX9_smallest 16 = .ok (.ifCond .eq 14, 3) := by decide +kernel
theorem dX9_smallest_19 : decode cX9_smallest 19 = .ok (.iload_n 1, 1) := by decide +kernel
theorem dX9_smallest_20 : decode cX9_smallest 20 = .ok (.aload_n 0, 1) := by decide +kernel
theorem dX9_smallest_21 : decode cX9_smallest 21 = .ok (.getfield 9, 3) := by decide +kernel
theorem dX9_smallest_24 : decode cX9_smallest 24 = .ok (.iload_n 1, 1) := by decide +kernel
theorem dX9_smallest_25 : decode cX9_smallest 25 = .ok (.laload, 1) := by decide +kernel
theorem dX9_smallest_26 : decode cX9_smallest 26 = .ok (.invokestatic 32, 3) := by decide +kernel
theorem dX9_smallest_29 : decode cX9_smallest 29 = .ok (.ireturn, 1) := by decide +kernel
theorem dX9_smallest_30 : decode cX9_smallest 30 = .ok (.iinc 1 1, 3) := by decide +kernel
theorem dX9_smallest_33 : decode cX9_smallest 33 = .ok (.goto (-31), 3) := by decide +kernel
theorem dX9_smallest_36 : decode cX9_smallest 36 = .ok (.bipush (-9), 2) := by decide +kernel
theorem dX9_smallest_38 : decode cX9_smallest 38 = .ok (.ireturn, 1) := by decide +kernel
theorem dX9_smallestOutside_0 : decode cX9_smallestOutside 0 = .ok (.iconst 0, 1) := by decide +kernel
theorem dX9_smallestOutside_1 : decode cX9_smallestOutside 1 = .ok (.istore_n 2, 1) := by decide +kernel
theorem dX9_smallestOutside_2 : decode cX9_smallestOutside 2 = .ok (.iload_n 2, 1) := by decide +kernel
theorem dX9_smallestOutside_3 : decode cX9_smallestOutside 3 = .ok (.bipush 6, 2) := by decide +kernel
theorem dX9_smallestOutside_5 : decode cX9_smallestOutside 5 = .ok (.if_icmp .ge 39, 3) := by decide +kernel
theorem dX9_smallestOutside_8 : decode cX9_smallestOutside 8 = .ok (.aload_n 0, 1) := by decide +kernel
theorem dX9_smallestOutside_9 : decode cX9_smallestOutside 9 = .ok (.getfield 9, 3) := by decide +kernel
theorem dX9_smallestOutside_12 : decode cX9_smallestOutside 12 = .ok (.iload_n 2, 1) := by decide +kernel
theorem dX9_smallestOutside_13 : decode cX9_smallestOutside 13 = .ok (.laload, 1) := by decide +kernel
theorem dX9_smallestOutside_14 : decode cX9_smallestOutside 14 = .ok (.aload_n 1, 1) := by decide +kernel
theorem dX9_smallestOutside_15 : decode cX9_smallestOutside 15 = .ok (.getfield 9, 3) := by decide +kernel
theorem dX9_smallestOutside_18 : decode cX9_smallestOutside 18 = .ok (.iload_n 2, 1) := by decide +kernel
theorem dX9_smallestOutside_19 : decode cX9_smallestOutside 19 = .ok (.laload, 1) := by decide +kernel
theorem dX9_smallestOutside_20 : decode cX9_smallestOutside 20 = .ok (.ldc2_w 24, 3) := by decide +kernel
theorem dX9_smallestOutside_23 : decode cX9_smallestOutside 23 = .ok (.lxor, 1) := by decide +kernel
theorem dX9_smallestOutside_24 : decode cX9_smallestOutside 24 = .ok (.land, 1) := by decide +kernel
theorem dX9_smallestOutside_25 : decode cX9_smallestOutside 25 = .ok (.lstore_n 3, 1) := by decide +kernel
theorem dX9_smallestOutside_26 : decode cX9_smallestOutside 26 = .ok (.lload_n 3, 1) := by decide +kernel
theorem dX9_smallestOutside_27 : decode cX9_smallestOutside 27 = .ok (.lconst 0, 1) := by decide +kernel
theorem dX9_smallestOutside_28 : decode cX9_smallestOutside 28 = .ok (.lcmp, 1) := by decide +kernel
theorem dX9_smallestOutside_29 : decode cX9_smallestOutside 29 = .ok (.ifCond .eq 9, 3) := by decide +kernel
theorem dX9_smallestOutside_32 : decode cX9_smallestOutside 32 = .ok (.iload_n 2, 1) := by decide +kernel
theorem dX9_smallestOutside_33 : decode cX9_smallestOutside 33 = .ok (.lload_n 3, 1) := by decide +kernel
theorem dX9_smallestOutside_34 : decode cX9_smallestOutside 34 = .ok (.invokestatic 32, 3) := by decide +kernel
theorem dX9_smallestOutside_37 : decode cX9_smallestOutside 37 = .ok (.ireturn, 1) := by decide +kernel
theorem dX9_smallestOutside_38 : decode cX9_smallestOutside 38 = .ok (.iinc 2 1, 3) := by decide +kernel
theorem dX9_smallestOutside_41 : decode cX9_smallestOutside 41 = .ok (.goto (-39), 3) := by decide +kernel
theorem dX9_smallestOutside_44 : decode cX9_smallestOutside 44 = .ok (.bipush (-9), 2) := by decide +kernel
theorem dX9_smallestOutside_46 : decode cX9_smallestOutside 46 = .ok (.ireturn, 1) := by decide +kernel
theorem dX9_number_0 : decode cX9_number 0 = .ok (.lload_n 1, 1) := by decide +kernel
theorem dX9_number_1 : decode cX9_number 1 = .ok (.invokestatic 36, 3) := by decide +kernel
theorem dX9_number_4 : decode cX9_number 4 = .ok (.istore_n 3, 1) := by decide +kernel
theorem dX9_number_5 : decode cX9_number 5 = .ok (.bipush 100, 2) := by decide +kernel
theorem dX9_number_7 : decode cX9_number 7 = .ok (.iload_n 0, 1) := by decide +kernel
theorem dX9_number_8 : decode cX9_number 8 = .ok (.imul, 1) := by decide +kernel
theorem dX9_number_9 : decode cX9_number 9 = .ok (.bipush 10, 2) := by decide +kernel
theorem dX9_number_11 : decode cX9_number 11 = .ok (.iload_n 3, 1) := by decide +kernel
theorem dX9_number_12 : decode cX9_number 12 = .ok (.bipush 6, 2) := by decide +kernel
theorem dX9_number_14 : decode cX9_number 14 = .ok (.idiv, 1) := by decide +kernel
theorem dX9_number_15 : decode cX9_number 15 = .ok (.imul, 1) := by decide +kernel
theorem dX9_number_16 : decode cX9_number 16 = .ok (.iadd, 1) := by decide +kernel
theorem dX9_number_17 : decode cX9_number 17 = .ok (.iload_n 3, 1) := by decide +kernel
theorem dX9_number_18 : decode cX9_number 18 = .ok (.bipush 6, 2) := by decide +kernel
theorem dX9_number_20 : decode cX9_number 20 = .ok (.irem, 1) := by decide +kernel
theorem dX9_number_21 : decode cX9_number 21 = .ok (.iadd, 1) := by decide +kernel
theorem dX9_number_22 : decode cX9_number 22 = .ok (.ireturn, 1) := by decide +kernel
theorem dX9_isWithin_0 : decode cX9_isWithin 0 = .ok (.lconst 0, 1) := by decide +kernel
theorem dX9_isWithin_1 : decode cX9_isWithin 1 = .ok (.lstore_n 2, 1) := by decide +kernel
theorem dX9_isWithin_2 : decode cX9_isWithin 2 = .ok (.iconst 0, 1) := by decide +kernel
theorem dX9_isWithin_3 : decode cX9_isWithin 3 = .ok (.istore 4, 2) := by decide +kernel
theorem dX9_isWithin_5 : decode cX9_isWithin 5 = .ok (.iload 4, 2) := by decide +kernel
theorem dX9_isWithin_7 : decode cX9_isWithin 7 = .ok (.bipush 6, 2) := by decide +kernel
theorem dX9_isWithin_9 : decode cX9_isWithin 9 = .ok (.if_icmp .ge 31, 3) := by decide +kernel
theorem dX9_isWithin_12 : decode cX9_isWithin 12 = .ok (.lload_n 2, 1) := by decide +kernel
theorem dX9_isWithin_13 : decode cX9_isWithin 13 = .ok (.aload_n 0, 1) := by decide +kernel
theorem dX9_isWithin_14 : decode cX9_isWithin 14 = .ok (.getfield 9, 3) := by decide +kernel
theorem dX9_isWithin_17 : decode cX9_isWithin 17 = .ok (.iload 4, 2) := by decide +kernel
theorem dX9_isWithin_19 : decode cX9_isWithin 19 = .ok (.laload, 1) := by decide +kernel
theorem dX9_isWithin_20 : decode cX9_isWithin 20 = .ok (.aload_n 1, 1) := by decide +kernel
theorem dX9_isWithin_21 : decode cX9_isWithin 21 = .ok (.getfield 9, 3) := by decide +kernel
theorem dX9_isWithin_24 : decode cX9_isWithin 24 = .ok (.iload 4, 2) := by decide +kernel
theorem dX9_isWithin_26 : decode cX9_isWithin 26 = .ok (.laload, 1) := by decide +kernel
theorem dX9_isWithin_27 : decode cX9_isWithin 27 = .ok (.ldc2_w 24, 3) := by decide +kernel
theorem dX9_isWithin_30 : decode cX9_isWithin 30 = .ok (.lxor, 1) := by decide +kernel
theorem dX9_isWithin_31 : decode cX9_isWithin 31 = .ok (.land, 1) := by decide +kernel
theorem dX9_isWithin_32 : decode cX9_isWithin 32 = .ok (.lor, 1) := by decide +kernel
theorem dX9_isWithin_33 : decode cX9_isWithin 33 = .ok (.lstore_n 2, 1) := by decide +kernel
theorem dX9_isWithin_34 : decode cX9_isWithin 34 = .ok (.iinc 4 1, 3) := by decide +kernel
theorem dX9_isWithin_37 : decode cX9_isWithin 37 = .ok (.goto (-32), 3) := by decide +kernel
theorem dX9_isWithin_40 : decode cX9_isWithin 40 = .ok (.lload_n 2, 1) := by decide +kernel
theorem dX9_isWithin_41 : decode cX9_isWithin 41 = .ok (.lconst 0, 1) := by decide +kernel
theorem dX9_isWithin_42 : decode cX9_isWithin 42 = .ok (.lcmp, 1) := by decide +kernel
theorem dX9_isWithin_43 : decode cX9_isWithin 43 = .ok (.ifCond .ne 7, 3) := by decide +kernel
theorem dX9_isWithin_46 : decode cX9_isWithin 46 = .ok (.iconst 1, 1) := by decide +kernel
theorem dX9_isWithin_47 : decode cX9_isWithin 47 = .ok (.goto 4, 3) := by decide +kernel
theorem dX9_isWithin_50 : decode cX9_isWithin 50 = .ok (.iconst 0, 1) := by decide +kernel
theorem dX9_isWithin_51 : decode cX9_isWithin 51 = .ok (.ireturn, 1) := by decide +kernel
theorem dX9_isState_0 : decode cX9_isState 0 = .ok (.iload_n 0, 1) := by decide +kernel
theorem dX9_isState_1 : decode cX9_isState 1 = .ok (.ifCond .lt 33, 3) := by decide +kernel
theorem dX9_isState_4 : decode cX9_isState 4 = .ok (.iload_n 0, 1) := by decide +kernel
theorem dX9_isState_5 : decode cX9_isState 5 = .ok (.bipush 6, 2) := by decide +kernel
theorem dX9_isState_7 : decode cX9_isState 7 = .ok (.if_icmp .ge 27, 3) := by decide +kernel
theorem dX9_isState_10 : decode cX9_isState 10 = .ok (.iload_n 1, 1) := by decide +kernel
theorem dX9_isState_11 : decode cX9_isState 11 = .ok (.ifCond .lt 23, 3) := by decide +kernel
theorem dX9_isState_14 : decode cX9_isState 14 = .ok (.iload_n 1, 1) := by decide +kernel
theorem dX9_isState_15 : decode cX9_isState 15 = .ok (.bipush 6, 2) := by decide +kernel
theorem dX9_isState_17 : decode cX9_isState 17 = .ok (.if_icmp .ge 17, 3) := by decide +kernel
theorem dX9_isState_20 : decode cX9_isState 20 = .ok (.iload_n 2, 1) := by decide +kernel
theorem dX9_isState_21 : decode cX9_isState 21 = .ok (.ifCond .lt 13, 3) := by decide +kernel
theorem dX9_isState_24 : decode cX9_isState 24 = .ok (.iload_n 2, 1) := by decide +kernel
theorem dX9_isState_25 : decode cX9_isState 25 = .ok (.bipush 6, 2) := by decide +kernel
theorem dX9_isState_27 : decode cX9_isState 27 = .ok (.if_icmp .ge 7, 3) := by decide +kernel
theorem dX9_isState_30 : decode cX9_isState 30 = .ok (.iconst 1, 1) := by decide +kernel
theorem dX9_isState_31 : decode cX9_isState 31 = .ok (.goto 4, 3) := by decide +kernel
theorem dX9_isState_34 : decode cX9_isState 34 = .ok (.iconst 0, 1) := by decide +kernel
theorem dX9_isState_35 : decode cX9_isState 35 = .ok (.ireturn, 1) := by decide +kernel
theorem dX9_has_0 : decode cX9_has 0 = .ok (.iload_n 1, 1) := by decide +kernel
theorem dX9_has_1 : decode cX9_has 1 = .ok (.iload_n 2, 1) := by decide +kernel
theorem dX9_has_2 : decode cX9_has 2 = .ok (.iload_n 3, 1) := by decide +kernel
theorem dX9_has_3 : decode cX9_has 3 = .ok (.invokestatic 39, 3) := by decide +kernel
theorem dX9_has_6 : decode cX9_has 6 = .ok (.ifCond .eq 27, 3) := by decide +kernel
theorem dX9_has_9 : decode cX9_has 9 = .ok (.aload_n 0, 1) := by decide +kernel
theorem dX9_has_10 : decode cX9_has 10 = .ok (.getfield 9, 3) := by decide +kernel
theorem dX9_has_13 : decode cX9_has 13 = .ok (.iload_n 1, 1) := by decide +kernel
theorem dX9_has_14 : decode cX9_has 14 = .ok (.laload, 1) := by decide +kernel
theorem dX9_has_15 : decode cX9_has 15 = .ok (.bipush 6, 2) := by decide +kernel
theorem dX9_has_17 : decode cX9_has 17 = .ok (.iload_n 2, 1) := by decide +kernel
theorem dX9_has_18 : decode cX9_has 18 = .ok (.imul, 1) := by decide +kernel
theorem dX9_has_19 : decode cX9_has 19 = .ok (.iload_n 3, 1) := by decide +kernel
theorem dX9_has_20 : decode cX9_has 20 = .ok (.iadd, 1) := by decide +kernel
theorem dX9_has_21 : decode cX9_has 21 = .ok (.lushr, 1) := by decide +kernel
theorem dX9_has_22 : decode cX9_has 22 = .ok (.lconst 1, 1) := by decide +kernel
theorem dX9_has_23 : decode cX9_has 23 = .ok (.land, 1) := by decide +kernel
theorem dX9_has_24 : decode cX9_has 24 = .ok (.lconst 1, 1) := by decide +kernel
theorem dX9_has_25 : decode cX9_has 25 = .ok (.lcmp, 1) := by decide +kernel
theorem dX9_has_26 : decode cX9_has 26 = .ok (.ifCond .ne 7, 3) := by decide +kernel
theorem dX9_has_29 : decode cX9_has 29 = .ok (.iconst 1, 1) := by decide +kernel
theorem dX9_has_30 : decode cX9_has 30 = .ok (.goto 4, 3) := by decide +kernel
theorem dX9_has_33 : decode cX9_has 33 = .ok (.iconst 0, 1) := by decide +kernel
theorem dX9_has_34 : decode cX9_has 34 = .ok (.ireturn, 1) := by decide +kernel
theorem dX9_add_0 : decode cX9_add 0 = .ok (.iload_n 1, 1) := by decide +kernel
theorem dX9_add_1 : decode cX9_add 1 = .ok (.iload_n 2, 1) := by decide +kernel
theorem dX9_add_2 : decode cX9_add 2 = .ok (.iload_n 3, 1) := by decide +kernel
theorem dX9_add_3 : decode cX9_add 3 = .ok (.invokestatic 39, 3) := by decide +kernel
theorem dX9_add_6 : decode cX9_add 6 = .ok (.ifCond .eq 20, 3) := by decide +kernel
theorem dX9_add_9 : decode cX9_add 9 = .ok (.aload_n 0, 1) := by decide +kernel
theorem dX9_add_10 : decode cX9_add 10 = .ok (.getfield 9, 3) := by decide +kernel
theorem dX9_add_13 : decode cX9_add 13 = .ok (.iload_n 1, 1) := by decide +kernel
theorem dX9_add_14 : decode cX9_add 14 = .ok (.dup2, 1) := by decide +kernel
theorem dX9_add_15 : decode cX9_add 15 = .ok (.laload, 1) := by decide +kernel
theorem dX9_add_16 : decode cX9_add 16 = .ok (.lconst 1, 1) := by decide +kernel
theorem dX9_add_17 : decode cX9_add 17 = .ok (.bipush 6, 2) := by decide +kernel
theorem dX9_add_19 : decode cX9_add 19 = .ok (.iload_n 2, 1) := by decide +kernel
theorem dX9_add_20 : decode cX9_add 20 = .ok (.imul, 1) := by decide +kernel
theorem dX9_add_21 : decode cX9_add 21 = .ok (.iload_n 3, 1) := by decide +kernel
theorem dX9_add_22 : decode cX9_add 22 = .ok (.iadd, 1) := by decide +kernel
theorem dX9_add_23 : decode cX9_add 23 = .ok (.lshl, 1) := by decide +kernel
theorem dX9_add_24 : decode cX9_add 24 = .ok (.lor, 1) := by decide +kernel
theorem dX9_add_25 : decode cX9_add 25 = .ok (.lastore, 1) := by decide +kernel
theorem dX9_add_26 : decode cX9_add 26 = .ok (.return_, 1) := by decide +kernel
theorem dX9_meetValue_0 : decode cX9_meetValue 0 = .ok (.iload_n 1, 1) := by decide +kernel
theorem dX9_meetValue_1 : decode cX9_meetValue 1 = .ok (.iconst 1, 1) := by decide +kernel
theorem dX9_meetValue_2 : decode cX9_meetValue 2 = .ok (.if_icmp .ne 14, 3) := by decide +kernel
theorem dX9_meetValue_5 : decode cX9_meetValue 5 = .ok (.ldc2_w 43, 3) := by decide +kernel
theorem dX9_meetValue_8 : decode cX9_meetValue 8 = .ok (.bipush 6, 2) := by decide +kernel
theorem dX9_meetValue_10 : decode cX9_meetValue 10 = .ok (.iload_n 2, 1) := by decide +kernel
theorem dX9_meetValue_11 : decode cX9_meetValue 11 = .ok (.imul, 1) := by decide +kernel
theorem dX9_meetValue_12 : decode cX9_meetValue 12 = .ok (.lshl, 1) := by decide +kernel
theorem dX9_meetValue_13 : decode cX9_meetValue 13 = .ok (.goto 8, 3) := by decide +kernel
theorem dX9_meetValue_16 : decode cX9_meetValue 16 = .ok (.ldc2_w 45, 3) := by decide +kernel
theorem dX9_meetValue_19 : decode cX9_meetValue 19 = .ok (.iload_n 2, 1) := by decide +kernel
theorem dX9_meetValue_20 : decode cX9_meetValue 20 = .ok (.lshl, 1) := by decide +kernel
theorem dX9_meetValue_21 : decode cX9_meetValue 21 = .ok (.lstore_n 3, 1) := by decide +kernel
theorem dX9_meetValue_22 : decode cX9_meetValue 22 = .ok (.iconst 0, 1) := by decide +kernel
theorem dX9_meetValue_23 : decode cX9_meetValue 23 = .ok (.istore 5, 2) := by decide +kernel
theorem dX9_meetValue_25 : decode cX9_meetValue 25 = .ok (.iload 5, 2) := by decide +kernel
theorem dX9_meetValue_27 : decode cX9_meetValue 27 = .ok (.bipush 6, 2) := by decide +kernel
theorem dX9_meetValue_29 : decode cX9_meetValue 29 = .ok (.if_icmp .ge 41, 3) := by decide +kernel
theorem dX9_meetValue_32 : decode cX9_meetValue 32 = .ok (.iload_n 1, 1) := by decide +kernel
theorem dX9_meetValue_33 : decode cX9_meetValue 33 = .ok (.ifCond .eq 17, 3) := by decide +kernel
theorem dX9_meetValue_36 : decode cX9_meetValue 36 = .ok (.aload_n 0, 1) := by decide +kernel
theorem dX9_meetValue_37 : decode cX9_meetValue 37 = .ok (.getfield 9, 3) := by decide +kernel
theorem dX9_meetValue_40 : decode cX9_meetValue 40 = .ok (.iload 5, 2) := by decide +kernel
theorem dX9_meetValue_42 : decode cX9_meetValue 42 = .ok (.dup2, 1) := by decide +kernel
theorem dX9_meetValue_43 : decode cX9_meetValue 43 = .ok (.laload, 1) := by decide +kernel
theorem dX9_meetValue_44 : decode cX9_meetValue 44 = .ok (.lload_n 3, 1) := by decide +kernel
theorem dX9_meetValue_45 : decode cX9_meetValue 45 = .ok (.land, 1) := by decide +kernel
theorem dX9_meetValue_46 : decode cX9_meetValue 46 = .ok (.lastore, 1) := by decide +kernel
theorem dX9_meetValue_47 : decode cX9_meetValue 47 = .ok (.goto 17, 3) := by decide +kernel
theorem dX9_meetValue_50 : decode cX9_meetValue 50 = .ok (.iload 5, 2) := by decide +kernel
theorem dX9_meetValue_52 : decode cX9_meetValue 52 = .ok (.iload_n 2, 1) := by decide +kernel
theorem dX9_meetValue_53 : decode cX9_meetValue 53 = .ok (.if_icmp .eq 11, 3) := by decide +kernel
theorem dX9_meetValue_56 : decode cX9_meetValue 56 = .ok (.aload_n 0, 1) := by decide +kernel
theorem dX9_meetValue_57 : decode cX9_meetValue 57 = .ok (.getfield 9, 3) := by decide +kernel
theorem dX9_meetValue_60 : decode cX9_meetValue 60 = .ok (.iload 5, 2) := by decide +kernel
theorem dX9_meetValue_62 : decode cX9_meetValue 62 = .ok (.lconst 0, 1) := by decide +kernel
theorem dX9_meetValue_63 : decode cX9_meetValue 63 = .ok (.lastore, 1) := by decide +kernel
theorem dX9_meetValue_64 : decode cX9_meetValue 64 = .ok (.iinc 5 1, 3) := by decide +kernel
theorem dX9_meetValue_67 : decode cX9_meetValue 67 = .ok (.goto (-42), 3) := by decide +kernel
theorem dX9_meetValue_70 : decode cX9_meetValue 70 = .ok (.return_, 1) := by decide +kernel
theorem dX9_free_0 : decode cX9_free 0 = .ok (.iload_n 1, 1) := by decide +kernel
theorem dX9_free_1 : decode cX9_free 1 = .ok (.ifCond .ne 56, 3) := by decide +kernel
theorem dX9_free_4 : decode cX9_free 4 = .ok (.lconst 0, 1) := by decide +kernel
theorem dX9_free_5 : decode cX9_free 5 = .ok (.lstore_n 2, 1) := by decide +kernel
theorem dX9_free_6 : decode cX9_free 6 = .ok (.iconst 0, 1) := by decide +kernel
theorem dX9_free_7 : decode cX9_free 7 = .ok (.istore 4, 2) := by decide +kernel
theorem dX9_free_9 : decode cX9_free 9 = .ok (.iload 4, 2) := by decide +kernel
theorem dX9_free_11 : decode cX9_free 11 = .ok (.bipush 6, 2) := by decide +kernel
theorem dX9_free_13 : decode cX9_free 13 = .ok (.if_icmp .ge 19, 3) := by decide +kernel
theorem dX9_free_16 : decode cX9_free 16 = .ok (.lload_n 2, 1) := by decide +kernel
theorem dX9_free_17 : decode cX9_free 17 = .ok (.aload_n 0, 1) := by decide +kernel
theorem dX9_free_18 : decode cX9_free 18 = .ok (.getfield 9, 3) := by decide +kernel
theorem dX9_free_21 : decode cX9_free 21 = .ok (.iload 4, 2) := by decide +kernel
theorem dX9_free_23 : decode cX9_free 23 = .ok (.laload, 1) := by decide +kernel
theorem dX9_free_24 : decode cX9_free 24 = .ok (.lor, 1) := by decide +kernel
theorem dX9_free_25 : decode cX9_free 25 = .ok (.lstore_n 2, 1) := by decide +kernel
theorem dX9_free_26 : decode cX9_free 26 = .ok (.iinc 4 1, 3) := by decide +kernel
theorem dX9_free_29 : decode cX9_free 29 = .ok (.goto (-20), 3) := by decide +kernel
theorem dX9_free_32 : decode cX9_free 32 = .ok (.iconst 0, 1) := by decide +kernel
theorem dX9_free_33 : decode cX9_free 33 = .ok (.istore 4, 2) := by decide +kernel
theorem dX9_free_35 : decode cX9_free 35 = .ok (.iload 4, 2) := by decide +kernel
theorem dX9_free_37 : decode cX9_free 37 = .ok (.bipush 6, 2) := by decide +kernel
theorem dX9_free_39 : decode cX9_free 39 = .ok (.if_icmp .ge 17, 3) := by decide +kernel
theorem dX9_free_42 : decode cX9_free 42 = .ok (.aload_n 0, 1) := by decide +kernel
theorem dX9_free_43 : decode cX9_free 43 = .ok (.getfield 9, 3) := by decide +kernel
theorem dX9_free_46 : decode cX9_free 46 = .ok (.iload 4, 2) := by decide +kernel
theorem dX9_free_48 : decode cX9_free 48 = .ok (.lload_n 2, 1) := by decide +kernel
theorem dX9_free_49 : decode cX9_free 49 = .ok (.lastore, 1) := by decide +kernel
theorem dX9_free_50 : decode cX9_free 50 = .ok (.iinc 4 1, 3) := by decide +kernel
theorem dX9_free_53 : decode cX9_free 53 = .ok (.goto (-18), 3) := by decide +kernel
theorem dX9_free_56 : decode cX9_free 56 = .ok (.return_, 1) := by decide +kernel
theorem dX9_free_57 : decode cX9_free 57 = .ok (.iload_n 1, 1) := by decide +kernel
theorem dX9_free_58 : decode cX9_free 58 = .ok (.iconst 1, 1) := by decide +kernel
theorem dX9_free_59 : decode cX9_free 59 = .ok (.if_icmp .ne 8, 3) := by decide +kernel
theorem dX9_free_62 : decode cX9_free 62 = .ok (.bipush 6, 2) := by decide +kernel
theorem dX9_free_64 : decode cX9_free 64 = .ok (.goto 4, 3) := by decide +kernel
theorem dX9_free_67 : decode cX9_free 67 = .ok (.iconst 1, 1) := by decide +kernel
theorem dX9_free_68 : decode cX9_free 68 = .ok (.istore_n 2, 1) := by decide +kernel
theorem dX9_free_69 : decode cX9_free 69 = .ok (.iload_n 1, 1) := by decide +kernel
theorem dX9_free_70 : decode cX9_free 70 = .ok (.iconst 1, 1) := by decide +kernel
theorem dX9_free_71 : decode cX9_free 71 = .ok (.if_icmp .ne 9, 3) := by decide +kernel
theorem dX9_free_74 : decode cX9_free 74 = .ok (.ldc2_w 43, 3) := by decide +kernel
theorem dX9_free_77 : decode cX9_free 77 = .ok (.goto 6, 3) := by decide +kernel
theorem dX9_free_80 : decode cX9_free 80 = .ok (.ldc2_w 45, 3) := by decide +kernel
theorem dX9_free_83 : decode cX9_free 83 = .ok (.lstore_n 3, 1) := by decide +kernel
theorem dX9_free_84 : decode cX9_free 84 = .ok (.iload_n 1, 1) := by decide +kernel
theorem dX9_free_85 : decode cX9_free 85 = .ok (.iconst 1, 1) := by decide +kernel
theorem dX9_free_86 : decode cX9_free 86 = .ok (.if_icmp .ne 9, 3) := by decide +kernel
theorem dX9_free_89 : decode cX9_free 89 = .ok (.ldc2_w 45, 3) := by decide +kernel
theorem dX9_free_92 : decode cX9_free 92 = .ok (.goto 6, 3) := by decide +kernel
theorem dX9_free_95 : decode cX9_free 95 = .ok (.ldc2_w 43, 3) := by decide +kernel
theorem dX9_free_98 : decode cX9_free 98 = .ok (.lstore 5, 2) := by decide +kernel
theorem dX9_free_100 : decode cX9_free 100 = .ok (.iconst 0, 1) := by decide +kernel
theorem dX9_free_101 : decode cX9_free 101 = .ok (.istore 7, 2) := by decide +kernel
theorem dX9_free_103 : decode cX9_free 103 = .ok (.iload 7, 2) := by decide +kernel
theorem dX9_free_105 : decode cX9_free 105 = .ok (.bipush 6, 2) := by decide +kernel
theorem dX9_free_107 : decode cX9_free 107 = .ok (.if_icmp .ge 59, 3) := by decide +kernel
theorem dX9_free_110 : decode cX9_free 110 = .ok (.lconst 0, 1) := by decide +kernel
theorem dX9_free_111 : decode cX9_free 111 = .ok (.lstore 8, 2) := by decide +kernel
theorem dX9_free_113 : decode cX9_free 113 = .ok (.iconst 0, 1) := by decide +kernel
theorem dX9_free_114 : decode cX9_free 114 = .ok (.istore 10, 2) := by decide +kernel
theorem dX9_free_116 : decode cX9_free 116 = .ok (.iload 10, 2) := by decide +kernel
theorem dX9_free_118 : decode cX9_free 118 = .ok (.bipush 6, 2) := by decide +kernel
theorem dX9_free_120 : decode cX9_free 120 = .ok (.if_icmp .ge 28, 3) := by decide +kernel
theorem dX9_free_123 : decode cX9_free 123 = .ok (.lload 8, 2) := by decide +kernel
theorem dX9_free_125 : decode cX9_free 125 = .ok (.aload_n 0, 1) := by decide +kernel
theorem dX9_free_126 : decode cX9_free 126 = .ok (.getfield 9, 3) := by decide +kernel
theorem dX9_free_129 : decode cX9_free 129 = .ok (.iload 7, 2) := by decide +kernel
theorem dX9_free_131 : decode cX9_free 131 = .ok (.laload, 1) := by decide +kernel
theorem dX9_free_132 : decode cX9_free 132 = .ok (.iload 10, 2) := by decide +kernel
theorem dX9_free_134 : decode cX9_free 134 = .ok (.iload_n 2, 1) := by decide +kernel
theorem dX9_free_135 : decode cX9_free 135 = .ok (.imul, 1) := by decide +kernel
theorem dX9_free_136 : decode cX9_free 136 = .ok (.lushr, 1) := by decide +kernel
theorem dX9_free_137 : decode cX9_free 137 = .ok (.lload_n 3, 1) := by decide +kernel
theorem dX9_free_138 : decode cX9_free 138 = .ok (.land, 1) := by decide +kernel
theorem dX9_free_139 : decode cX9_free 139 = .ok (.lor, 1) := by decide +kernel
theorem dX9_free_140 : decode cX9_free 140 = .ok (.lstore 8, 2) := by decide +kernel
theorem dX9_free_142 : decode cX9_free 142 = .ok (.iinc 10 1, 3) := by decide +kernel
theorem dX9_free_145 : decode cX9_free 145 = .ok (.goto (-29), 3) := by decide +kernel
theorem dX9_free_148 : decode cX9_free 148 = .ok (.aload_n 0, 1) := by decide +kernel
theorem dX9_free_149 : decode cX9_free 149 = .ok (.getfield 9, 3) := by decide +kernel
theorem dX9_free_152 : decode cX9_free 152 = .ok (.iload 7, 2) := by decide +kernel
theorem dX9_free_154 : decode cX9_free 154 = .ok (.lload 8, 2) := by decide +kernel
theorem dX9_free_156 : decode cX9_free 156 = .ok (.lload 5, 2) := by decide +kernel
theorem dX9_free_158 : decode cX9_free 158 = .ok (.lmul, 1) := by decide +kernel
theorem dX9_free_159 : decode cX9_free 159 = .ok (.lastore, 1) := by decide +kernel
theorem dX9_free_160 : decode cX9_free 160 = .ok (.iinc 7 1, 3) := by decide +kernel
theorem dX9_free_163 : decode cX9_free 163 = .ok (.goto (-60), 3) := by decide +kernel
theorem dX9_free_166 : decode cX9_free 166 = .ok (.return_, 1) := by decide +kernel
theorem dX9_shift_0 : decode cX9_shift 0 = .ok (.iload_n 1, 1) := by decide +kernel
theorem dX9_shift_1 : decode cX9_shift 1 = .ok (.ifCond .ne 112, 3) := by decide +kernel
theorem dX9_shift_4 : decode cX9_shift 4 = .ok (.iload_n 3, 1) := by decide +kernel
theorem dX9_shift_5 : decode cX9_shift 5 = .ok (.ifCond .eq 7, 3) := by decide +kernel
theorem dX9_shift_8 : decode cX9_shift 8 = .ok (.iconst 5, 1) := by decide +kernel
theorem dX9_shift_9 : decode cX9_shift 9 = .ok (.goto 4, 3) := by decide +kernel
theorem dX9_shift_12 : decode cX9_shift 12 = .ok (.iconst 0, 1) := by decide +kernel
theorem dX9_shift_13 : decode cX9_shift 13 = .ok (.istore 4, 2) := by decide +kernel
theorem dX9_shift_15 : decode cX9_shift 15 = .ok (.aload_n 0, 1) := by decide +kernel
theorem dX9_shift_16 : decode cX9_shift 16 = .ok (.getfield 9, 3) := by decide +kernel
theorem dX9_shift_19 : decode cX9_shift 19 = .ok (.iload 4, 2) := by decide +kernel
theorem dX9_shift_21 : decode cX9_shift 21 = .ok (.laload, 1) := by decide +kernel
theorem dX9_shift_22 : decode cX9_shift 22 = .ok (.lstore 5, 2) := by decide +kernel
theorem dX9_shift_24 : decode cX9_shift 24 = .ok (.iconst 1, 1) := by decide +kernel
theorem dX9_shift_25 : decode cX9_shift 25 = .ok (.istore 7, 2) := by decide +kernel
theorem dX9_shift_27 : decode cX9_shift 27 = .ok (.iload 7, 2) := by decide +kernel
theorem dX9_shift_29 : decode cX9_shift 29 = .ok (.bipush 6, 2) := by decide +kernel
theorem dX9_shift_31 : decode cX9_shift 31 = .ok (.if_icmp .ge 54, 3) := by decide +kernel
theorem dX9_shift_34 : decode cX9_shift 34 = .ok (.iload_n 2, 1) := by decide +kernel
theorem dX9_shift_35 : decode cX9_shift 35 = .ok (.ifCond .eq 11, 3) := by decide +kernel
theorem dX9_shift_38 : decode cX9_shift 38 = .ok (.bipush 6, 2) := by decide +kernel
theorem dX9_shift_40 : decode cX9_shift 40 = .ok (.iload 7, 2) := by decide +kernel
theorem dX9_shift_42 : decode cX9_shift 42 = .ok (.isub, 1) := by decide +kernel
theorem dX9_shift_43 : decode cX9_shift 43 = .ok (.goto 7, 3) := by decide +kernel
theorem dX9_shift_46 : decode cX9_shift 46 = .ok (.iload 7, 2) := by decide +kernel
theorem dX9_shift_48 : decode cX9_shift 48 = .ok (.iconst 1, 1) := by decide +kernel
theorem dX9_shift_49 : decode cX9_shift 49 = .ok (.isub, 1) := by decide +kernel
theorem dX9_shift_50 : decode cX9_shift 50 = .ok (.istore 8, 2) := by decide +kernel
theorem dX9_shift_52 : decode cX9_shift 52 = .ok (.aload_n 0, 1) := by decide +kernel
theorem dX9_shift_53 : decode cX9_shift 53 = .ok (.getfield 9, 3) := by decide +kernel
theorem dX9_shift_56 : decode cX9_shift 56 = .ok (.iload 8, 2) := by decide +kernel
theorem dX9_shift_58 : decode cX9_shift 58 = .ok (.aload_n 0, 1) := by decide +kernel
theorem dX9_shift_59 : decode cX9_shift 59 = .ok (.getfield 9, 3) := by decide +kernel
theorem dX9_shift_62 : decode cX9_shift 62 = .ok (.iload_n 2, 1) := by decide +kernel
theorem dX9_shift_63 : decode cX9_shift 63 = .ok (.ifCond .eq 10, 3) := by decide +kernel
theorem dX9_shift_66 : decode cX9_shift 66 = .ok (.iload 8, 2) := by decide +kernel
theorem dX9_shift_68 : decode cX9_shift 68 = .ok (.iconst 1, 1) := by decide +kernel
theorem dX9_shift_69 : decode cX9_shift 69 = .ok (.isub, 1) := by decide +kernel
theorem dX9_shift_70 : decode cX9_shift 70 = .ok (.goto 7, 3) := by decide +kernel
theorem dX9_shift_73 : decode cX9_shift 73 = .ok (.iload 8, 2) := by decide +kernel
theorem dX9_shift_75 : decode cX9_shift 75 = .ok (.iconst 1, 1) := by decide +kernel
theorem dX9_shift_76 : decode cX9_shift 76 = .ok (.iadd, 1) := by decide +kernel
theorem dX9_shift_77 : decode cX9_shift 77 = .ok (.laload, 1) := by decide +kernel
theorem dX9_shift_78 : decode cX9_shift 78 = .ok (.lastore, 1) := by decide +kernel
theorem dX9_shift_79 : decode cX9_shift 79 = .ok (.iinc 7 1, 3) := by decide +kernel
theorem dX9_shift_82 : decode cX9_shift 82 = .ok (.goto (-55), 3) := by decide +kernel
theorem dX9_shift_85 : decode cX9_shift 85 = .ok (.aload_n 0, 1) := by decide +kernel
theorem dX9_shift_86 : decode cX9_shift 86 = .ok (.getfield 9, 3) := by decide +kernel
theorem dX9_shift_89 : decode cX9_shift 89 = .ok (.iload_n 2, 1) := by decide +kernel
theorem dX9_shift_90 : decode cX9_shift 90 = .ok (.ifCond .eq 7, 3) := by decide +kernel
theorem dX9_shift_93 : decode cX9_shift 93 = .ok (.iconst 0, 1) := by decide +kernel
theorem dX9_shift_94 : decode cX9_shift 94 = .ok (.goto 4, 3) := by decide +kernel
theorem dX9_shift_97 : decode cX9_shift 97 = .ok (.iconst 5, 1) := by decide +kernel
theorem dX9_shift_98 : decode cX9_shift 98 = .ok (.lconst 0, 1) := by decide +kernel
theorem dX9_shift_99 : decode cX9_shift 99 = .ok (.lastore, 1) := by decide +kernel
theorem dX9_shift_100 : decode cX9_shift 100 = .ok (.aload_n 0, 1) := by decide +kernel
theorem dX9_shift_101 : decode cX9_shift 101 = .ok (.getfield 9, 3) := by decide +kernel
theorem dX9_shift_104 : decode cX9_shift 104 = .ok (.iload 4, 2) := by decide +kernel
theorem dX9_shift_106 : decode cX9_shift 106 = .ok (.dup2, 1) := by decide +kernel
theorem dX9_shift_107 : decode cX9_shift 107 = .ok (.laload, 1) := by decide +kernel
theorem dX9_shift_108 : decode cX9_shift 108 = .ok (.lload 5, 2) := by decide +kernel
theorem dX9_shift_110 : decode cX9_shift 110 = .ok (.lor, 1) := by decide +kernel
theorem dX9_shift_111 : decode cX9_shift 111 = .ok (.lastore, 1) := by decide +kernel
theorem dX9_shift_112 : decode cX9_shift 112 = .ok (.return_, 1) := by decide +kernel
theorem dX9_shift_113 : decode cX9_shift 113 = .ok (.iload_n 1, 1) := by decide +kernel
theorem dX9_shift_114 : decode cX9_shift 114 = .ok (.iconst 1, 1) := by decide +kernel
theorem dX9_shift_115 : decode cX9_shift 115 = .ok (.if_icmp .ne 8, 3) := by decide +kernel
theorem dX9_shift_118 : decode cX9_shift 118 = .ok (.bipush 6, 2) := by decide +kernel
theorem dX9_shift_120 : decode cX9_shift 120 = .ok (.goto 4, 3) := by decide +kernel
theorem dX9_shift_123 : decode cX9_shift 123 = .ok (.iconst 1, 1) := by decide +kernel
theorem dX9_shift_124 : decode cX9_shift 124 = .ok (.istore 4, 2) := by decide +kernel
theorem dX9_shift_126 : decode cX9_shift 126 = .ok (.iload_n 1, 1) := by decide +kernel
theorem dX9_shift_127 : decode cX9_shift 127 = .ok (.iconst 1, 1) := by decide +kernel
theorem dX9_shift_128 : decode cX9_shift 128 = .ok (.if_icmp .ne 9, 3) := by decide +kernel
theorem dX9_shift_131 : decode cX9_shift 131 = .ok (.ldc2_w 43, 3) := by decide +kernel
theorem dX9_shift_134 : decode cX9_shift 134 = .ok (.goto 6, 3) := by decide +kernel
theorem dX9_shift_137 : decode cX9_shift 137 = .ok (.ldc2_w 45, 3) := by decide +kernel
theorem dX9_shift_140 : decode cX9_shift 140 = .ok (.lstore 5, 2) := by decide +kernel
theorem dX9_shift_142 : decode cX9_shift 142 = .ok (.lload 5, 2) := by decide +kernel
theorem dX9_shift_144 : decode cX9_shift 144 = .ok (.iconst 5, 1) := by decide +kernel
theorem dX9_shift_145 : decode cX9_shift 145 = .ok (.iload 4, 2) := by decide +kernel
theorem dX9_shift_147 : decode cX9_shift 147 = .ok (.imul, 1) := by decide +kernel
theorem dX9_shift_148 : decode cX9_shift 148 = .ok (.lshl, 1) := by decide +kernel
theorem dX9_shift_149 : decode cX9_shift 149 = .ok (.lstore 7, 2) := by decide +kernel
theorem dX9_shift_151 : decode cX9_shift 151 = .ok (.iconst 0, 1) := by decide +kernel
theorem dX9_shift_152 : decode cX9_shift 152 = .ok (.istore 9, 2) := by decide +kernel
theorem dX9_shift_154 : decode cX9_shift 154 = .ok (.iload 9, 2) := by decide +kernel
theorem dX9_shift_156 : decode cX9_shift 156 = .ok (.bipush 6, 2) := by decide +kernel
theorem dX9_shift_158 : decode cX9_shift 158 = .ok (.if_icmp .ge 81, 3) := by decide +kernel
theorem dX9_shift_161 : decode cX9_shift 161 = .ok (.iload_n 2, 1) := by decide +kernel
theorem dX9_shift_162 : decode cX9_shift 162 = .ok (.ifCond .eq 23, 3) := by decide +kernel
theorem dX9_shift_165 : decode cX9_shift 165 = .ok (.aload_n 0, 1) := by decide +kernel
theorem dX9_shift_166 : decode cX9_shift 166 = .ok (.getfield 9, 3) := by decide +kernel
theorem dX9_shift_169 : decode cX9_shift 169 = .ok (.iload 9, 2) := by decide +kernel
theorem dX9_shift_171 : decode cX9_shift 171 = .ok (.laload, 1) := by decide +kernel
theorem dX9_shift_172 : decode cX9_shift 172 = .ok (.lload 7, 2) := by decide +kernel
theorem dX9_shift_174 : decode cX9_shift 174 = .ok (.ldc2_w 24, 3) := by decide +kernel
theorem dX9_shift_177 : decode cX9_shift 177 = .ok (.lxor, 1) := by decide +kernel
theorem dX9_shift_178 : decode cX9_shift 178 = .ok (.land, 1) := by decide +kernel
theorem dX9_shift_179 : decode cX9_shift 179 = .ok (.iload 4, 2) := by decide +kernel
theorem dX9_shift_181 : decode cX9_shift 181 = .ok (.lshl, 1) := by decide +kernel
theorem dX9_shift_182 : decode cX9_shift 182 = .ok (.goto 20, 3) := by decide +kernel
theorem dX9_shift_185 : decode cX9_shift 185 = .ok (.aload_n 0, 1) := by decide +kernel
theorem dX9_shift_186 : decode cX9_shift 186 = .ok (.getfield 9, 3) := by decide +kernel
theorem dX9_shift_189 : decode cX9_shift 189 = .ok (.iload 9, 2) := by decide +kernel
theorem dX9_shift_191 : decode cX9_shift 191 = .ok (.laload, 1) := by decide +kernel
theorem dX9_shift_192 : decode cX9_shift 192 = .ok (.lload 5, 2) := by decide +kernel
theorem dX9_shift_194 : decode cX9_shift 194 = .ok (.ldc2_w 24, 3) := by decide +kernel
