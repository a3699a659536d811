theorem dX9_shift_197 : decode cX9_shift 197 = .ok (.lxor, 1) := by decide +kernel
theorem dX9_shift_198 : decode cX9_shift 198 = .ok (.land, 1) := by decide +kernel
theorem dX9_shift_199 : decode cX9_shift 199 = .ok (.iload 4, 2) := by decide +kernel
theorem dX9_shift_201 : decode cX9_shift 201 = .ok (.lushr, 1) := by decide +kernel
theorem dX9_shift_202 : decode cX9_shift 202 = .ok (.lstore 10, 2) := by decide +kernel
theorem dX9_shift_204 : decode cX9_shift 204 = .ok (.aload_n 0, 1) := by decide +kernel
theorem dX9_shift_205 : decode cX9_shift 205 = .ok (.getfield 9, 3) := by decide +kernel
theorem dX9_shift_208 : decode cX9_shift 208 = .ok (.iload 9, 2) := by decide +kernel
theorem dX9_shift_210 : decode cX9_shift 210 = .ok (.lload 10, 2) := by decide +kernel
theorem dX9_shift_212 : decode cX9_shift 212 = .ok (.aload_n 0, 1) := by decide +kernel
theorem dX9_shift_213 : decode cX9_shift 213 = .ok (.getfield 9, 3) := by decide +kernel
theorem dX9_shift_216 : decode cX9_shift 216 = .ok (.iload 9, 2) := by decide +kernel
theorem dX9_shift_218 : decode cX9_shift 218 = .ok (.laload, 1) := by decide +kernel
theorem dX9_shift_219 : decode cX9_shift 219 = .ok (.iload_n 3, 1) := by decide +kernel
theorem dX9_shift_220 : decode cX9_shift 220 = .ok (.ifCond .eq 8, 3) := by decide +kernel
theorem dX9_shift_223 : decode cX9_shift 223 = .ok (.lload 7, 2) := by decide +kernel
theorem dX9_shift_225 : decode cX9_shift 225 = .ok (.goto 5, 3) := by decide +kernel
theorem dX9_shift_228 : decode cX9_shift 228 = .ok (.lload 5, 2) := by decide +kernel
theorem dX9_shift_230 : decode cX9_shift 230 = .ok (.land, 1) := by decide +kernel
theorem dX9_shift_231 : decode cX9_shift 231 = .ok (.lor, 1) := by decide +kernel
theorem dX9_shift_232 : decode cX9_shift 232 = .ok (.lastore, 1) := by decide +kernel
theorem dX9_shift_233 : decode cX9_shift 233 = .ok (.iinc 9 1, 3) := by decide +kernel
theorem dX9_shift_236 : decode cX9_shift 236 = .ok (.goto (-82), 3) := by decide +kernel
theorem dX9_shift_239 : decode cX9_shift 239 = .ok (.return_, 1) := by decide +kernel
theorem dX10_init_0 : decode cX10_init 0 = .ok (.aload_n 0, 1) := by decide +kernel
theorem dX10_init_1 : decode cX10_init 1 = .ok (.invokespecial 1, 3) := by decide +kernel
theorem dX10_init_4 : decode cX10_init 4 = .ok (.aload_n 0, 1) := by decide +kernel
theorem dX10_init_5 : decode cX10_init 5 = .ok (.aload_n 1, 1) := by decide +kernel
theorem dX10_init_6 : decode cX10_init 6 = .ok (.putfield 7, 3) := by decide +kernel
theorem dX10_init_9 : decode cX10_init 9 = .ok (.return_, 1) := by decide +kernel
theorem dX10_isStatement_0 : decode cX10_isStatement 0 = .ok (.aload_n 0, 1) := by decide +kernel
theorem dX10_isStatement_1 : decode cX10_isStatement 1 = .ok (.getfield 13, 3) := by decide +kernel
theorem dX10_isStatement_4 : decode cX10_isStatement 4 = .ok (.bipush 7, 2) := by decide +kernel
theorem dX10_isStatement_6 : decode cX10_isStatement 6 = .ok (.if_icmp .eq 25, 3) := by decide +kernel
theorem dX10_isStatement_9 : decode cX10_isStatement 9 = .ok (.aload_n 0, 1) := by decide +kernel
theorem dX10_isStatement_10 : decode cX10_isStatement 10 = .ok (.getfield 13, 3) := by decide +kernel
theorem dX10_isStatement_13 : decode cX10_isStatement 13 = .ok (.bipush 9, 2) := by decide +kernel
theorem dX10_isStatement_15 : decode cX10_isStatement 15 = .ok (.if_icmp .eq 16, 3) := by decide +kernel
theorem dX10_isStatement_18 : decode cX10_isStatement 18 = .ok (.aload_n 0, 1) := by decide +kernel
theorem dX10_isStatement_19 : decode cX10_isStatement 19 = .ok (.getfield 13, 3) := by decide +kernel
theorem dX10_isStatement_22 : decode cX10_isStatement 22 = .ok (.bipush 10, 2) := by decide +kernel
theorem dX10_isStatement_24 : decode cX10_isStatement 24 = .ok (.if_icmp .eq 7, 3) := by decide +kernel
theorem dX10_isStatement_27 : decode cX10_isStatement 27 = .ok (.iconst 1, 1) := by decide +kernel
theorem dX10_isStatement_28 : decode cX10_isStatement 28 = .ok (.goto 4, 3) := by decide +kernel
theorem dX10_isStatement_31 : decode cX10_isStatement 31 = .ok (.iconst 0, 1) := by decide +kernel
theorem dX10_isStatement_32 : decode cX10_isStatement 32 = .ok (.ireturn, 1) := by decide +kernel
theorem dX11_init_0 : decode cX11_init 0 = .ok (.aload_n 0, 1) := by decide +kernel
theorem dX11_init_1 : decode cX11_init 1 = .ok (.invokespecial 3, 3) := by decide +kernel
theorem dX11_init_4 : decode cX11_init 4 = .ok (.aload_n 0, 1) := by decide +kernel
theorem dX11_init_5 : decode cX11_init 5 = .ok (.bipush 60, 2) := by decide +kernel
theorem dX11_init_7 : decode cX11_init 7 = .ok (.newarray .char, 2) := by decide +kernel
theorem dX11_init_9 : decode cX11_init 9 = .ok (.putfield 9, 3) := by decide +kernel
theorem dX11_init_12 : decode cX11_init 12 = .ok (.aload_n 0, 1) := by decide +kernel
theorem dX11_init_13 : decode cX11_init 13 = .ok (.new 13, 3) := by decide +kernel
theorem dX11_init_16 : decode cX11_init 16 = .ok (.dup, 1) := by decide +kernel
theorem dX11_init_17 : decode cX11_init 17 = .ok (.invokespecial 15, 3) := by decide +kernel
theorem dX11_init_20 : decode cX11_init 20 = .ok (.putfield 16, 3) := by decide +kernel
theorem dX11_init_23 : decode cX11_init 23 = .ok (.aload_n 0, 1) := by decide +kernel
theorem dX11_init_24 : decode cX11_init 24 = .ok (.new 20, 3) := by decide +kernel
theorem dX11_init_27 : decode cX11_init 27 = .ok (.dup, 1) := by decide +kernel
theorem dX11_init_28 : decode cX11_init 28 = .ok (.invokespecial 22, 3) := by decide +kernel
theorem dX11_init_31 : decode cX11_init 31 = .ok (.putfield 23, 3) := by decide +kernel
theorem dX11_init_34 : decode cX11_init 34 = .ok (.aload_n 0, 1) := by decide +kernel
theorem dX11_init_35 : decode cX11_init 35 = .ok (.new 20, 3) := by decide +kernel
theorem dX11_init_38 : decode cX11_init 38 = .ok (.dup, 1) := by decide +kernel
theorem dX11_init_39 : decode cX11_init 39 = .ok (.invokespecial 22, 3) := by decide +kernel
theorem dX11_init_42 : decode cX11_init 42 = .ok (.putfield 27, 3) := by decide +kernel
theorem dX11_init_45 : decode cX11_init 45 = .ok (.aload_n 0, 1) := by decide +kernel
theorem dX11_init_46 : decode cX11_init 46 = .ok (.new 30, 3) := by decide +kernel
theorem dX11_init_49 : decode cX11_init 49 = .ok (.dup, 1) := by decide +kernel
theorem dX11_init_50 : decode cX11_init 50 = .ok (.invokespecial 32, 3) := by decide +kernel
theorem dX11_init_53 : decode cX11_init 53 = .ok (.putfield 33, 3) := by decide +kernel
theorem dX11_init_56 : decode cX11_init 56 = .ok (.aload_n 0, 1) := by decide +kernel
theorem dX11_init_57 : decode cX11_init 57 = .ok (.new 30, 3) := by decide +kernel
theorem dX11_init_60 : decode cX11_init 60 = .ok (.dup, 1) := by decide +kernel
theorem dX11_init_61 : decode cX11_init 61 = .ok (.invokespecial 32, 3) := by decide +kernel
theorem dX11_init_64 : decode cX11_init 64 = .ok (.putfield 37, 3) := by decide +kernel
theorem dX11_init_67 : decode cX11_init 67 = .ok (.aload_n 0, 1) := by decide +kernel
theorem dX11_init_68 : decode cX11_init 68 = .ok (.bipush 14, 2) := by decide +kernel
theorem dX11_init_70 : decode cX11_init 70 = .ok (.newarray .int, 2) := by decide +kernel
theorem dX11_init_72 : decode cX11_init 72 = .ok (.putfield 40, 3) := by decide +kernel
theorem dX11_init_75 : decode cX11_init 75 = .ok (.aload_n 0, 1) := by decide +kernel
theorem dX11_init_76 : decode cX11_init 76 = .ok (.iconst 2, 1) := by decide +kernel
theorem dX11_init_77 : decode cX11_init 77 = .ok (.newarray .int, 2) := by decide +kernel
theorem dX11_init_79 : decode cX11_init 79 = .ok (.putfield 44, 3) := by decide +kernel
theorem dX11_init_82 : decode cX11_init 82 = .ok (.aload_n 0, 1) := by decide +kernel
theorem dX11_init_83 : decode cX11_init 83 = .ok (.bipush 6, 2) := by decide +kernel
theorem dX11_init_85 : decode cX11_init 85 = .ok (.newarray .int, 2) := by decide +kernel
theorem dX11_init_87 : decode cX11_init 87 = .ok (.putfield 47, 3) := by decide +kernel
theorem dX11_init_90 : decode cX11_init 90 = .ok (.aload_n 0, 1) := by decide +kernel
theorem dX11_init_91 : decode cX11_init 91 = .ok (.bipush 6, 2) := by decide +kernel
theorem dX11_init_93 : decode cX11_init 93 = .ok (.newarray .int, 2) := by decide +kernel
theorem dX11_init_95 : decode cX11_init 95 = .ok (.putfield 50, 3) := by decide +kernel
theorem dX11_init_98 : decode cX11_init 98 = .ok (.aload_n 0, 1) := by decide +kernel
theorem dX11_init_99 : decode cX11_init 99 = .ok (.iconst 4, 1) := by decide +kernel
theorem dX11_init_100 : decode cX11_init 100 = .ok (.newarray .int, 2) := by decide +kernel
theorem dX11_init_102 : decode cX11_init 102 = .ok (.putfield 53, 3) := by decide +kernel
theorem dX11_init_105 : decode cX11_init 105 = .ok (.aload_n 0, 1) := by decide +kernel
theorem dX11_init_106 : decode cX11_init 106 = .ok (.new 56, 3) := by decide +kernel
theorem dX11_init_109 : decode cX11_init 109 = .ok (.dup, 1) := by decide +kernel
theorem dX11_init_110 : decode cX11_init 110 = .ok (.invokespecial 58, 3) := by decide +kernel
theorem dX11_init_113 : decode cX11_init 113 = .ok (.putfield 59, 3) := by decide +kernel
theorem dX11_init_116 : decode cX11_init 116 = .ok (.aload_n 0, 1) := by decide +kernel
theorem dX11_init_117 : decode cX11_init 117 = .ok (.new 63, 3) := by decide +kernel
theorem dX11_init_120 : decode cX11_init 120 = .ok (.dup, 1) := by decide +kernel
theorem dX11_init_121 : decode cX11_init 121 = .ok (.aload_n 0, 1) := by decide +kernel
theorem dX11_init_122 : decode cX11_init 122 = .ok (.getfield 23, 3) := by decide +kernel
theorem dX11_init_125 : decode cX11_init 125 = .ok (.invokespecial 65, 3) := by decide +kernel
theorem dX11_init_128 : decode cX11_init 128 = .ok (.putfield 68, 3) := by decide +kernel
theorem dX11_init_131 : decode cX11_init 131 = .ok (.aload_n 0, 1) := by decide +kernel
theorem dX11_init_132 : decode cX11_init 132 = .ok (.new 72, 3) := by decide +kernel
theorem dX11_init_135 : decode cX11_init 135 = .ok (.dup, 1) := by decide +kernel
theorem dX11_init_136 : decode cX11_init 136 = .ok (.invokespecial 74, 3) := by decide +kernel
theorem dX11_init_139 : decode cX11_init 139 = .ok (.putfield 75, 3) := by decide +kernel
theorem dX11_init_142 : decode cX11_init 142 = .ok (.aload_n 0, 1) := by decide +kernel
theorem dX11_init_143 : decode cX11_init 143 = .ok (.invokevirtual 79, 3) := by decide +kernel
theorem dX11_init_146 : decode cX11_init 146 = .ok (.return_, 1) := by decide +kernel
theorem dX11_write_0 : decode cX11_write 0 = .ok (.iload_n 1, 1) := by decide +kernel
theorem dX11_write_1 : decode cX11_write 1 = .ok (.ifCond .lt 10, 3) := by decide +kernel
theorem dX11_write_4 : decode cX11_write 4 = .ok (.iload_n 1, 1) := by decide +kernel
theorem dX11_write_5 : decode cX11_write 5 = .ok (.sipush 255, 3) := by decide +kernel
theorem dX11_write_8 : decode cX11_write 8 = .ok (.if_icmp .le 6, 3) := by decide +kernel
theorem dX11_write_11 : decode cX11_write 11 = .ok (.bipush (-2), 2) := by decide +kernel
theorem dX11_write_13 : decode cX11_write 13 = .ok (.ireturn, 1) := by decide +kernel
theorem dX11_write_14 : decode cX11_write 14 = .ok (.aload_n 0, 1) := by decide +kernel
theorem dX11_write_15 : decode cX11_write 15 = .ok (.getfield 82, 3) := by decide +kernel
theorem dX11_write_18 : decode cX11_write 18 = .ok (.ifCond .lt 15, 3) := by decide +kernel
theorem dX11_write_21 : decode cX11_write 21 = .ok (.aload_n 0, 1) := by decide +kernel
theorem dX11_write_22 : decode cX11_write 22 = .ok (.getfield 82, 3) := by decide +kernel
theorem dX11_write_25 : decode cX11_write 25 = .ok (.aload_n 0, 1) := by decide +kernel
theorem dX11_write_26 : decode cX11_write 26 = .ok (.getfield 9, 3) := by decide +kernel
theorem dX11_write_29 : decode cX11_write 29 = .ok (.arraylength, 1) := by decide +kernel
theorem dX11_write_30 : decode cX11_write 30 = .ok (.if_icmp .lt 6, 3) := by decide +kernel
theorem dX11_write_33 : decode cX11_write 33 = .ok (.bipush (-4), 2) := by decide +kernel
theorem dX11_write_35 : decode cX11_write 35 = .ok (.ireturn, 1) := by decide +kernel
theorem dX11_write_36 : decode cX11_write 36 = .ok (.aload_n 0, 1) := by decide +kernel
theorem dX11_write_37 : decode cX11_write 37 = .ok (.getfield 9, 3) := by decide +kernel
theorem dX11_write_40 : decode cX11_write 40 = .ok (.aload_n 0, 1) := by decide +kernel
theorem dX11_write_41 : decode cX11_write 41 = .ok (.getfield 82, 3) := by decide +kernel
theorem dX11_write_44 : decode cX11_write 44 = .ok (.iload_n 1, 1) := by decide +kernel
theorem dX11_write_45 : decode cX11_write 45 = .ok (.i2c, 1) := by decide +kernel
theorem dX11_write_46 : decode cX11_write 46 = .ok (.castore, 1) := by decide +kernel
theorem dX11_write_47 : decode cX11_write 47 = .ok (.aload_n 0, 1) := by decide +kernel
theorem dX11_write_48 : decode cX11_write 48 = .ok (.dup, 1) := by decide +kernel
theorem dX11_write_49 : decode cX11_write 49 = .ok (.getfield 82, 3) := by decide +kernel
theorem dX11_write_52 : decode cX11_write 52 = .ok (.iconst 1, 1) := by decide +kernel
theorem dX11_write_53 : decode cX11_write 53 = .ok (.iadd, 1) := by decide +kernel
theorem dX11_write_54 : decode cX11_write 54 = .ok (.putfield 82, 3) := by decide +kernel
theorem dX11_write_57 : decode cX11_write 57 = .ok (.aload_n 0, 1) := by decide +kernel
theorem dX11_write_58 : decode cX11_write 58 = .ok (.getfield 82, 3) := by decide +kernel
theorem dX11_write_61 : decode cX11_write 61 = .ok (.ireturn, 1) := by decide +kernel
theorem dX11_wipe_0 : decode cX11_wipe 0 = .ok (.aload_n 0, 1) := by decide +kernel
theorem dX11_wipe_1 : decode cX11_wipe 1 = .ok (.getfield 82, 3) := by decide +kernel
theorem dX11_wipe_4 : decode cX11_wipe 4 = .ok (.istore_n 1, 1) := by decide +kernel
theorem dX11_wipe_5 : decode cX11_wipe 5 = .ok (.aload_n 0, 1) := by decide +kernel
theorem dX11_wipe_6 : decode cX11_wipe 6 = .ok (.iconst 0, 1) := by decide +kernel
theorem dX11_wipe_7 : decode cX11_wipe 7 = .ok (.putfield 82, 3) := by decide +kernel
theorem dX11_wipe_10 : decode cX11_wipe 10 = .ok (.iload_n 1, 1) := by decide +kernel
theorem dX11_wipe_11 : decode cX11_wipe 11 = .ok (.ireturn, 1) := by decide +kernel
theorem dX11_fault_0 : decode cX11_fault 0 = .ok (.aload_n 0, 1) := by decide +kernel
theorem dX11_fault_1 : decode cX11_fault 1 = .ok (.getfield 16, 3) := by decide +kernel
theorem dX11_fault_4 : decode cX11_fault 4 = .ok (.aload_n 0, 1) := by decide +kernel
theorem dX11_fault_5 : decode cX11_fault 5 = .ok (.getfield 9, 3) := by decide +kernel
theorem dX11_fault_8 : decode cX11_fault 8 = .ok (.aload_n 0, 1) := by decide +kernel
theorem dX11_fault_9 : decode cX11_fault 9 = .ok (.getfield 82, 3) := by decide +kernel
theorem dX11_fault_12 : decode cX11_fault 12 = .ok (.aload_n 0, 1) := by decide +kernel
theorem dX11_fault_13 : decode cX11_fault 13 = .ok (.getfield 27, 3) := by decide +kernel
theorem dX11_fault_16 : decode cX11_fault 16 = .ok (.invokevirtual 86, 3) := by decide +kernel
theorem dX11_fault_19 : decode cX11_fault 19 = .ok (.ireturn, 1) := by decide +kernel
theorem dX11_program_0 : decode cX11_program 0 = .ok (.aload_n 0, 1) := by decide +kernel
theorem dX11_program_1 : decode cX11_program 1 = .ok (.getfield 16, 3) := by decide +kernel
theorem dX11_program_4 : decode cX11_program 4 = .ok (.aload_n 0, 1) := by decide +kernel
theorem dX11_program_5 : decode cX11_program 5 = .ok (.getfield 9, 3) := by decide +kernel
theorem dX11_program_8 : decode cX11_program 8 = .ok (.aload_n 0, 1) := by decide +kernel
theorem dX11_program_9 : decode cX11_program 9 = .ok (.getfield 82, 3) := by decide +kernel
theorem dX11_program_12 : decode cX11_program 12 = .ok (.aload_n 0, 1) := by decide +kernel
theorem dX11_program_13 : decode cX11_program 13 = .ok (.getfield 27, 3) := by decide +kernel
theorem dX11_program_16 : decode cX11_program 16 = .ok (.invokevirtual 86, 3) := by decide +kernel
theorem dX11_program_19 : decode cX11_program 19 = .ok (.bipush (-9), 2) := by decide +kernel
theorem dX11_program_21 : decode cX11_program 21 = .ok (.if_icmp .eq 6, 3) := by decide +kernel
theorem dX11_program_24 : decode cX11_program 24 = .ok (.bipush (-3), 2) := by decide +kernel
theorem dX11_program_26 : decode cX11_program 26 = .ok (.ireturn, 1) := by decide +kernel
theorem dX11_program_27 : decode cX11_program 27 = .ok (.aload_n 0, 1) := by decide +kernel
theorem dX11_program_28 : decode cX11_program 28 = .ok (.getfield 23, 3) := by decide +kernel
theorem dX11_program_31 : decode cX11_program 31 = .ok (.astore_n 1, 1) := by decide +kernel
theorem dX11_program_32 : decode cX11_program 32 = .ok (.aload_n 0, 1) := by decide +kernel
theorem dX11_program_33 : decode cX11_program 33 = .ok (.aload_n 0, 1) := by decide +kernel
theorem dX11_program_34 : decode cX11_program 34 = .ok (.getfield 27, 3) := by decide +kernel
theorem dX11_program_37 : decode cX11_program 37 = .ok (.putfield 23, 3) := by decide +kernel
theorem dX11_program_40 : decode cX11_program 40 = .ok (.aload_n 0, 1) := by decide +kernel
theorem dX11_program_41 : decode cX11_program 41 = .ok (.aload_n 1, 1) := by decide +kernel
theorem dX11_program_42 : decode cX11_program 42 = .ok (.putfield 27, 3) := by decide +kernel
theorem dX11_program_45 : decode cX11_program 45 = .ok (.aload_n 0, 1) := by decide +kernel
theorem dX11_program_46 : decode cX11_program 46 = .ok (.getfield 23, 3) := by decide +kernel
theorem dX11_program_49 : decode cX11_program 49 = .ok (.invokevirtual 90, 3) := by decide +kernel
theorem dX11_program_52 : decode cX11_program 52 = .ok (.aload_n 0, 1) := by decide +kernel
theorem dX11_program_53 : decode cX11_program 53 = .ok (.getfield 33, 3) := by decide +kernel
theorem dX11_program_56 : decode cX11_program 56 = .ok (.invokevirtual 93, 3) := by decide +kernel
theorem dX11_program_59 : decode cX11_program 59 = .ok (.aload_n 0, 1) := by decide +kernel
theorem dX11_program_60 : decode cX11_program 60 = .ok (.iconst 0, 1) := by decide +kernel
theorem dX11_program_61 : decode cX11_program 61 = .ok (.putfield 96, 3) := by decide +kernel
theorem dX11_program_64 : decode cX11_program 64 = .ok (.aload_n 0, 1) := by decide +kernel
theorem dX11_program_65 : decode cX11_program 65 = .ok (.invokevirtual 79, 3) := by decide +kernel
theorem dX11_program_68 : decode cX11_program 68 = .ok (.aload_n 0, 1) := by decide +kernel
theorem dX11_program_69 : decode cX11_program 69 = .ok (.getfield 68, 3) := by decide +kernel
theorem dX11_program_72 : decode cX11_program 72 = .ok (.aload_n 0, 1) := by decide +kernel
theorem dX11_program_73 : decode cX11_program 73 = .ok (.getfield 23, 3) := by decide +kernel
theorem dX11_program_76 : decode cX11_program 76 = .ok (.invokevirtual 99, 3) := by decide +kernel
theorem dX11_program_79 : decode cX11_program 79 = .ok (.aload_n 0, 1) := by decide +kernel
theorem dX11_program_80 : decode cX11_program 80 = .ok (.getfield 23, 3) := by decide +kernel
theorem dX11_program_83 : decode cX11_program 83 = .ok (.getfield 102, 3) := by decide +kernel
theorem dX11_program_86 : decode cX11_program 86 = .ok (.ireturn, 1) := by decide +kernel
theorem dX11_emptySlots_0 : decode cX11_emptySlots 0 = .ok (.iconst 0, 1) := by decide +kernel
theorem dX11_emptySlots_1 : decode cX11_emptySlots 1 = .ok (.istore_n 1, 1) := by decide +kernel
theorem dX11_emptySlots_2 : decode cX11_emptySlots 2 = .ok (.iload_n 1, 1) := by decide +kernel
theorem dX11_emptySlots_3 : decode cX11_emptySlots 3 = .ok (.aload_n 0, 1) := by decide +kernel
theorem dX11_emptySlots_4 : decode cX11_emptySlots 4 = .ok (.getfield 44, 3) := by decide +kernel
theorem dX11_emptySlots_7 : decode cX11_emptySlots 7 = .ok (.arraylength, 1) := by decide +kernel
theorem dX11_emptySlots_8 : decode cX11_emptySlots 8 = .ok (.if_icmp .ge 16, 3) := by decide +kernel
theorem dX11_emptySlots_11 : decode cX11_emptySlots 11 = .ok (.aload_n 0, 1) := by decide +kernel
theorem dX11_emptySlots_12 : decode cX11_emptySlots 12 = .ok (.getfield 44, 3) := by decide +kernel
theorem dX11_emptySlots_15 : decode cX11_emptySlots 15 = .ok (.iload_n 1, 1) := by decide +kernel
theorem dX11_emptySlots_16 : decode cX11_emptySlots 16 = .ok (.iconst (-1), 1) := by decide +kernel
theorem dX11_emptySlots_17 : decode cX11_emptySlots 17 = .ok (.iastore, 1) := by decide +kernel
theorem dX11_emptySlots_18 : decode cX11_emptySlots 18 = .ok (.iinc 1 1, 3) := by decide +kernel
theorem dX11_emptySlots_21 : decode cX11_emptySlots 21 = .ok (.goto (-19), 3) := by decide +kernel
theorem dX11_emptySlots_24 : decode cX11_emptySlots 24 = .ok (.return_, 1) := by decide +kernel
theorem dX11_about_0 : decode cX11_about 0 = .ok (.iload_n 1, 1) := by decide +kernel
theorem dX11_about_1 : decode cX11_about 1 = .ok (.tableswitch 204 0 11 #[63, 71, 79, 87, 95, 103, 123, 142, 171, 189, 194, 199], 63) := by decide +kernel
theorem dX11_about_64 : decode cX11_about 64 = .ok (.aload_n 0, 1) := by decide +kernel
theorem dX11_about_65 : decode cX11_about 65 = .ok (.getfield 23, 3) := by decide +kernel
theorem dX11_about_68 : decode cX11_about 68 = .ok (.getfield 105, 3) := by decide +kernel
theorem dX11_about_71 : decode cX11_about 71 = .ok (.ireturn, 1) := by decide +kernel
theorem dX11_about_72 : decode cX11_about 72 = .ok (.aload_n 0, 1) := by decide +kernel
theorem dX11_about_73 : decode cX11_about 73 = .ok (.getfield 23, 3) := by decide +kernel
theorem dX11_about_76 : decode cX11_about 76 = .ok (.getfield 108, 3) := by decide +kernel
theorem dX11_about_79 : decode cX11_about 79 = .ok (.ireturn, 1) := by decide +kernel
theorem dX11_about_80 : decode cX11_about 80 = .ok (.aload_n 0, 1) := by decide +kernel
theorem dX11_about_81 : decode cX11_about 81 = .ok (.getfield 23, 3) := by decide +kernel
theorem dX11_about_84 : decode cX11_about 84 = .ok (.getfield 111, 3) := by decide +kernel
theorem dX11_about_87 : decode cX11_about 87 = .ok (.ireturn, 1) := by decide +kernel
theorem dX11_about_88 : decode cX11_about 88 = .ok (.aload_n 0, 1) := by decide +kernel
theorem dX11_about_89 : decode cX11_about 89 = .ok (.getfield 23, 3) := by decide +kernel
theorem dX11_about_92 : decode cX11_about 92 = .ok (.getfield 114, 3) := by decide +kernel
theorem dX11_about_95 : decode cX11_about 95 = .ok (.ireturn, 1) := by decide +kernel
theorem dX11_about_96 : decode cX11_about 96 = .ok (.aload_n 0, 1) := by decide +kernel
theorem dX11_about_97 : decode cX11_about 97 = .ok (.getfield 33, 3) := by decide +kernel
theorem dX11_about_100 : decode cX11_about 100 = .ok (.getfield 117, 3) := by decide +kernel
theorem dX11_about_103 : decode cX11_about 103 = .ok (.ireturn, 1) := by decide +kernel
theorem dX11_about_104 : decode cX11_about 104 = .ok (.aload_n 0, 1) := by decide +kernel
theorem dX11_about_105 : decode cX11_about 105 = .ok (.aload_n 0, 1) := by decide +kernel
theorem dX11_about_106 : decode cX11_about 106 = .ok (.getfield 33, 3) := by decide +kernel
theorem dX11_about_109 : decode cX11_about 109 = .ok (.invokevirtual 120, 3) := by decide +kernel
theorem dX11_about_112 : decode cX11_about 112 = .ok (.aload_n 0, 1) := by decide +kernel
theorem dX11_about_113 : decode cX11_about 113 = .ok (.aload_n 0, 1) := by decide +kernel
theorem dX11_about_114 : decode cX11_about 114 = .ok (.getfield 33, 3) := by decide +kernel
theorem dX11_about_117 : decode cX11_about 117 = .ok (.invokevirtual 124, 3) := by decide +kernel
theorem dX11_about_120 : decode cX11_about 120 = .ok (.invokevirtual 128, 3) := by decide +kernel
theorem dX11_about_123 : decode cX11_about 123 = .ok (.ireturn, 1) := by decide +kernel
theorem dX11_about_124 : decode cX11_about 124 = .ok (.aload_n 0, 1) := by decide +kernel
theorem dX11_about_125 : decode cX11_about 125 = .ok (.getfield 23, 3) := by decide +kernel
theorem dX11_about_128 : decode cX11_about 128 = .ok (.aload_n 0, 1) := by decide +kernel
theorem dX11_about_129 : decode cX11_about 129 = .ok (.aload_n 0, 1) := by decide +kernel
theorem dX11_about_130 : decode cX11_about 130 = .ok (.getfield 33, 3) := by decide +kernel
theorem dX11_about_133 : decode cX11_about 133 = .ok (.invokevirtual 120, 3) := by decide +kernel
theorem dX11_about_136 : decode cX11_about 136 = .ok (.invokevirtual 132, 3) := by decide +kernel
theorem dX11_about_139 : decode cX11_about 139 = .ok (.invokevirtual 136, 3) := by decide +kernel
theorem dX11_about_142 : decode cX11_about 142 = .ok (.ireturn, 1) := by decide +kernel
theorem dX11_about_143 : decode cX11_about 143 = .ok (.aload_n 0, 1) := by decide +kernel
theorem dX11_about_144 : decode cX11_about 144 = .ok (.aload_n 0, 1) := by decide +kernel
theorem dX11_about_145 : decode cX11_about 145 = .ok (.getfield 33, 3) := by decide +kernel
theorem dX11_about_148 : decode cX11_about 148 = .ok (.invokevirtual 120, 3) := by decide +kernel
theorem dX11_about_151 : decode cX11_about 151 = .ok (.aload_n 0, 1) := by decide +kernel
theorem dX11_about_152 : decode cX11_about 152 = .ok (.aload_n 0, 1) := by decide +kernel
theorem dX11_about_153 : decode cX11_about 153 = .ok (.getfield 33, 3) := by decide +kernel
theorem dX11_about_156 : decode cX11_about 156 = .ok (.invokevirtual 124, 3) := by decide +kernel
theorem dX11_about_159 : decode cX11_about 159 = .ok (.invokevirtual 140, 3) := by decide +kernel
theorem dX11_about_162 : decode cX11_about 162 = .ok (.getfield 144, 3) := by decide +kernel
theorem dX11_about_165 : decode cX11_about 165 = .ok (.getfield 150, 3) := by decide +kernel
theorem dX11_about_168 : decode cX11_about 168 = .ok (.invokevirtual 155, 3) := by decide +kernel
theorem dX11_about_171 : decode cX11_about 171 = .ok (.ireturn, 1) := by decide +kernel
theorem dX11_about_172 : decode cX11_about 172 = .ok (.aload_n 0, 1) := by decide +kernel
theorem dX11_about_173 : decode cX11_about 173 = .ok (.aload_n 0, 1) := by decide +kernel
theorem dX11_about_174 : decode cX11_about 174 = .ok (.getfield 33, 3) := by decide +kernel
theorem dX11_about_177 : decode cX11_about 177 = .ok (.invokevirtual 120, 3) := by decide +kernel
theorem dX11_about_180 : decode cX11_about 180 = .ok (.invokevirtual 132, 3) := by decide +kernel
theorem dX11_about_183 : decode cX11_about 183 = .ok (.getfield 150, 3) := by decide +kernel
theorem dX11_about_186 : decode cX11_about 186 = .ok (.invokevirtual 155, 3) := by decide +kernel
theorem dX11_about_189 : decode cX11_about 189 = .ok (.ireturn, 1) := by decide +kernel
theorem dX11_about_190 : decode cX11_about 190 = .ok (.aload_n 0, 1) := by decide +kernel
theorem dX11_about_191 : decode cX11_about 191 = .ok (.getfield 96, 3) := by decide +kernel
theorem dX11_about_194 : decode cX11_about 194 = .ok (.ireturn, 1) := by decide +kernel
theorem dX11_about_195 : decode cX11_about 195 = .ok (.aload_n 0, 1) := by decide +kernel
theorem dX11_about_196 : decode cX11_about 196 = .ok (.getfield 159, 3) := by decide +kernel
theorem dX11_about_199 : decode cX11_about 199 = .ok (.ireturn, 1) := by decide +kernel
theorem dX11_about_200 : decode cX11_about 200 = .ok (.aload_n 0, 1) := by decide +kernel
theorem dX11_about_201 : decode cX11_about 201 = .ok (.getfield 82, 3) := by decide +kernel
theorem dX11_about_204 : decode cX11_about 204 = .ok (.ireturn, 1) := by decide +kernel
theorem dX11_about_205 : decode cX11_about 205 = .ok (.bipush (-2), 2) := by decide +kernel
theorem dX11_about_207 : decode cX11_about 207 = .ok (.ireturn, 1) := by decide +kernel
theorem dX11_loop_0 : decode cX11_loop 0 = .ok (.iload_n 1, 1) := by decide +kernel
theorem dX11_loop_1 : decode cX11_loop 1 = .ok (.ifCond .lt 19, 3) := by decide +kernel
theorem dX11_loop_4 : decode cX11_loop 4 = .ok (.iload_n 1, 1) := by decide +kernel
theorem dX11_loop_5 : decode cX11_loop 5 = .ok (.aload_n 0, 1) := by decide +kernel
theorem dX11_loop_6 : decode cX11_loop 6 = .ok (.getfield 23, 3) := by decide +kernel
theorem dX11_loop_9 : decode cX11_loop 9 = .ok (.getfield 108, 3) := by decide +kernel
theorem dX11_loop_12 : decode cX11_loop 12 = .ok (.if_icmp .ge 8, 3) := by decide +kernel
theorem dX11_loop_15 : decode cX11_loop 15 = .ok (.iload_n 1, 1) := by decide +kernel
theorem dX11_loop_16 : decode cX11_loop 16 = .ok (.iconst 3, 1) := by decide +kernel
theorem dX11_loop_17 : decode cX11_loop 17 = .ok (.if_icmp .lt 5, 3) := by decide +kernel
theorem dX11_loop_20 : decode cX11_loop 20 = .ok (.iconst (-1), 1) := by decide +kernel
theorem dX11_loop_21 : decode cX11_loop 21 = .ok (.ireturn, 1) := by decide +kernel
theorem dX11_loop_22 : decode cX11_loop 22 = .ok (.iload_n 2, 1) := by decide +kernel
theorem dX11_loop_23 : decode cX11_loop 23 = .ok (.ifCond .lt 8, 3) := by decide +kernel
theorem dX11_loop_26 : decode cX11_loop 26 = .ok (.iload_n 2, 1) := by decide +kernel
theorem dX11_loop_27 : decode cX11_loop 27 = .ok (.iconst 3, 1) := by decide +kernel
theorem dX11_loop_28 : decode cX11_loop 28 = .ok (.if_icmp .le 6, 3) := by decide +kernel
theorem dX11_loop_31 : decode cX11_loop 31 = .ok (.bipush (-2), 2) := by decide +kernel
theorem dX11_loop_33 : decode cX11_loop 33 = .ok (.ireturn, 1) := by decide +kernel
theorem dX11_loop_34 : decode cX11_loop 34 = .ok (.iload_n 2, 1) := by decide +kernel
theorem dX11_loop_35 : decode cX11_loop 35 = .ok (.iconst 2, 1) := by decide +kernel
theorem dX11_loop_36 : decode cX11_loop 36 = .ok (.if_icmp .ne 23, 3) := by decide +kernel
theorem dX11_loop_39 : decode cX11_loop 39 = .ok (.aload_n 0, 1) := by decide +kernel
theorem dX11_loop_40 : decode cX11_loop 40 = .ok (.aload_n 0, 1) := by decide +kernel
theorem dX11_loop_41 : decode cX11_loop 41 = .ok (.getfield 33, 3) := by decide +kernel
theorem dX11_loop_44 : decode cX11_loop 44 = .ok (.invokevirtual 120, 3) := by decide +kernel
theorem dX11_loop_47 : decode cX11_loop 47 = .ok (.invokevirtual 132, 3) := by decide +kernel
theorem dX11_loop_50 : decode cX11_loop 50 = .ok (.getfield 162, 3) := by decide +kernel
theorem dX11_loop_53 : decode cX11_loop 53 = .ok (.iload_n 1, 1) := by decide +kernel
theorem dX11_loop_54 : decode cX11_loop 54 = .ok (.aaload, 1) := by decide +kernel
theorem dX11_loop_55 : decode cX11_loop 55 = .ok (.invokevirtual 155, 3) := by decide +kernel
theorem dX11_loop_58 : decode cX11_loop 58 = .ok (.ireturn, 1) := by decide +kernel
theorem dX11_loop_59 : decode cX11_loop 59 = .ok (.aload_n 0, 1) := by decide +kernel
theorem dX11_loop_60 : decode cX11_loop 60 = .ok (.aload_n 0, 1) := by decide +kernel
theorem dX11_loop_61 : decode cX11_loop 61 = .ok (.getfield 33, 3) := by decide +kernel
theorem dX11_loop_64 : decode cX11_loop 64 = .ok (.invokevirtual 120, 3) := by decide +kernel
theorem dX11_loop_67 : decode cX11_loop 67 = .ok (.aload_n 0, 1) := by decide +kernel
theorem dX11_loop_68 : decode cX11_loop 68 = .ok (.aload_n 0, 1) := by decide +kernel
theorem dX11_loop_69 : decode cX11_loop 69 = .ok (.getfield 33, 3) := by decide +kernel
theorem dX11_loop_72 : decode cX11_loop 72 = .ok (.invokevirtual 124, 3) := by decide +kernel
theorem dX11_loop_75 : decode cX11_loop 75 = .ok (.invokevirtual 140, 3) := by decide +kernel
theorem dX11_loop_78 : decode cX11_loop 78 = .ok (.astore_n 3, 1) := by decide +kernel
theorem dX11_loop_79 : decode cX11_loop 79 = .ok (.iload_n 2, 1) := by decide +kernel
theorem dX11_loop_80 : decode cX11_loop 80 = .ok (.ifCond .ne 10, 3) := by decide +kernel
theorem dX11_loop_83 : decode cX11_loop 83 = .ok (.aload_n 3, 1) := by decide +kernel
theorem dX11_loop_84 : decode cX11_loop 84 = .ok (.getfield 166, 3) := by decide +kernel
theorem dX11_loop_87 : decode cX11_loop 87 = .ok (.iload_n 1, 1) := by decide +kernel
theorem dX11_loop_88 : decode cX11_loop 88 = .ok (.iaload, 1) := by decide +kernel
theorem dX11_loop_89 : decode cX11_loop 89 = .ok (.ireturn, 1) := by decide +kernel
theorem dX11_loop_90 : decode cX11_loop 90 = .ok (.iload_n 2, 1) := by decide +kernel
theorem dX11_loop_91 : decode cX11_loop 91 = .ok (.iconst 1, 1) := by decide +kernel
theorem dX11_loop_92 : decode cX11_loop 92 = .ok (.if_icmp .ne 18, 3) := by decide +kernel
theorem dX11_loop_95 : decode cX11_loop 95 = .ok (.aload_n 3, 1) := by decide +kernel
theorem dX11_loop_96 : decode cX11_loop 96 = .ok (.getfield 144, 3) := by decide +kernel
theorem dX11_loop_99 : decode cX11_loop 99 = .ok (.getfield 169, 3) := by decide +kernel
theorem dX11_loop_102 : decode cX11_loop 102 = .ok (.iload_n 1, 1) := by decide +kernel
theorem dX11_loop_103 : decode cX11_loop 103 = .ok (.aaload, 1) := by decide +kernel
theorem dX11_loop_104 : decode cX11_loop 104 = .ok (.invokevirtual 155, 3) := by decide +kernel
theorem dX11_loop_107 : decode cX11_loop 107 = .ok (.goto 15, 3) := by decide +kernel
theorem dX11_loop_110 : decode cX11_loop 110 = .ok (.aload_n 3, 1) := by decide +kernel
theorem dX11_loop_111 : decode cX11_loop 111 = .ok (.getfield 144, 3) := by decide +kernel
theorem dX11_loop_114 : decode cX11_loop 114 = .ok (.getfield 162, 3) := by decide +kernel
theorem dX11_loop_117 : decode cX11_loop 117 = .ok (.iload_n 1, 1) := by decide +kernel
theorem dX11_loop_118 : decode cX11_loop 118 = .ok (.aaload, 1) := by decide +kernel
theorem dX11_loop_119 : decode cX11_loop 119 = .ok (.invokevirtual 155, 3) := by decide +kernel
theorem dX11_loop_122 : decode cX11_loop 122 = .ok (.ireturn, 1) := by decide +kernel
theorem dX11_check_0 : decode cX11_check 0 = .ok (.iload_n 1, 1) := by decide +kernel
theorem dX11_check_1 : decode cX11_check 1 = .ok (.ifCond .lt 19, 3) := by decide +kernel
theorem dX11_check_4 : decode cX11_check 4 = .ok (.iload_n 1, 1) := by decide +kernel
theorem dX11_check_5 : decode cX11_check 5 = .ok (.aload_n 0, 1) := by decide +kernel
theorem dX11_check_6 : decode cX11_check 6 = .ok (.getfield 23, 3) := by decide +kernel
theorem dX11_check_9 : decode cX11_check 9 = .ok (.getfield 105, 3) := by decide +kernel
theorem dX11_check_12 : decode cX11_check 12 = .ok (.if_icmp .ge 8, 3) := by decide +kernel
theorem dX11_check_15 : decode cX11_check 15 = .ok (.iload_n 1, 1) := by decide +kernel
theorem dX11_check_16 : decode cX11_check 16 = .ok (.iconst 4, 1) := by decide +kernel
theorem dX11_check_17 : decode cX11_check 17 = .ok (.if_icmp .lt 5, 3) := by decide +kernel
theorem dX11_check_20 : decode cX11_check 20 = .ok (.iconst (-1), 1) := by decide +kernel
theorem dX11_check_21 : decode cX11_check 21 = .ok (.ireturn, 1) := by decide +kernel
theorem dX11_check_22 : decode cX11_check 22 = .ok (.iload_n 2, 1) := by decide +kernel
theorem dX11_check_23 : decode cX11_check 23 = .ok (.ifCond .lt 8, 3) := by decide +kernel
theorem dX11_check_26 : decode cX11_check 26 = .ok (.iload_n 2, 1) := by decide +kernel
theorem dX11_check_27 : decode cX11_check 27 = .ok (.iconst 3, 1) := by decide +kernel
theorem dX11_check_28 : decode cX11_check 28 = .ok (.if_icmp .le 6, 3) := by decide +kernel
theorem dX11_check_31 : decode cX11_check 31 = .ok (.bipush (-2), 2) := by decide +kernel
theorem dX11_check_33 : decode cX11_check 33 = .ok (.ireturn, 1) := by decide +kernel
theorem dX11_check_34 : decode cX11_check 34 = .ok (.iload_n 2, 1) := by decide +kernel
theorem dX11_check_35 : decode cX11_check 35 = .ok (.iconst 1, 1) := by decide +kernel
theorem dX11_check_36 : decode cX11_check 36 = .ok (.if_icmp .eq 8, 3) := by decide +kernel
theorem dX11_check_39 : decode cX11_check 39 = .ok (.iload_n 2, 1) := by decide +kernel
theorem dX11_check_40 : decode cX11_check 40 = .ok (.iconst 3, 1) := by decide +kernel
theorem dX11_check_41 : decode cX11_check 41 = .ok (.if_icmp .ne 7, 3) := by decide +kernel
theorem dX11_check_44 : decode cX11_check 44 = .ok (.iconst 1, 1) := by decide +kernel
theorem dX11_check_45 : decode cX11_check 45 = .ok (.goto 4, 3) := by decide +kernel
theorem dX11_check_48 : decode cX11_check 48 = .ok (.iconst 0, 1) := by decide +kernel
theorem dX11_check_49 : decode cX11_check 49 = .ok (.istore_n 3, 1) := by decide +kernel
theorem dX11_check_50 : decode cX11_check 50 = .ok (.iload_n 3, 1) := by decide +kernel
theorem dX11_check_51 : decode cX11_check 51 = .ok (.ifCond .eq 17, 3) := by decide +kernel
theorem dX11_check_54 : decode cX11_check 54 = .ok (.aload_n 0, 1) := by decide +kernel
theorem dX11_check_55 : decode cX11_check 55 = .ok (.aload_n 0, 1) := by decide +kernel
theorem dX11_check_56 : decode cX11_check 56 = .ok (.getfield 33, 3) := by decide +kernel
theorem dX11_check_59 : decode cX11_check 59 = .ok (.invokevirtual 120, 3) := by decide +kernel
theorem dX11_check_62 : decode cX11_check 62 = .ok (.invokevirtual 132, 3) := by decide +kernel
theorem dX11_check_65 : decode cX11_check 65 = .ok (.goto 25, 3) := by decide +kernel
theorem dX11_check_68 : decode cX11_check 68 = .ok (.aload_n 0, 1) := by decide +kernel
theorem dX11_check_69 : decode cX11_check 69 = .ok (.aload_n 0, 1) := by decide +kernel
theorem dX11_check_70 : decode cX11_check 70 = .ok (.getfield 33, 3) := by decide +kernel
theorem dX11_check_73 : decode cX11_check 73 = .ok (.invokevirtual 120, 3) := by decide +kernel
theorem dX11_check_76 : decode cX11_check 76 = .ok (.aload_n 0, 1) := by decide +kernel
theorem dX11_check_77 : decode cX11_check 77 = .ok (.aload_n 0, 1) := by decide +kernel
theorem dX11_check_78 : decode cX11_check 78 = .ok (.getfield 33, 3) := by decide +kernel
theorem dX11_check_81 : decode cX11_check 81 = .ok (.invokevirtual 124, 3) := by decide +kernel
theorem dX11_check_84 : decode cX11_check 84 = .ok (.invokevirtual 140, 3) := by decide +kernel
theorem dX11_check_87 : decode cX11_check 87 = .ok (.getfield 144, 3) := by decide +kernel
theorem dX11_check_90 : decode cX11_check 90 = .ok (.astore 4, 2) := by decide +kernel
theorem dX11_check_92 : decode cX11_check 92 = .ok (.aload 4, 2) := by decide +kernel
theorem dX11_check_94 : decode cX11_check 94 = .ok (.getfield 172, 3) := by decide +kernel
theorem dX11_check_97 : decode cX11_check 97 = .ok (.iload_n 1, 1) := by decide +kernel
theorem dX11_check_98 : decode cX11_check 98 = .ok (.aaload, 1) := by decide +kernel
theorem dX11_check_99 : decode cX11_check 99 = .ok (.astore 5, 2) := by decide +kernel
theorem dX11_check_101 : decode cX11_check 101 = .ok (.iload_n 2, 1) := by decide +kernel
theorem dX11_check_102 : decode cX11_check 102 = .ok (.iconst 2, 1) := by decide +kernel
theorem dX11_check_103 : decode cX11_check 103 = .ok (.if_icmp .ge 11, 3) := by decide +kernel
theorem dX11_check_106 : decode cX11_check 106 = .ok (.aload 5, 2) := by decide +kernel
theorem dX11_check_108 : decode cX11_check 108 = .ok (.invokevirtual 155, 3) := by decide +kernel
theorem dX11_check_111 : decode cX11_check 111 = .ok (.goto 20, 3) := by decide +kernel
theorem dX11_check_114 : decode cX11_check 114 = .ok (.aload 5, 2) := by decide +kernel
theorem dX11_check_116 : decode cX11_check 116 = .ok (.aload_n 0, 1) := by decide +kernel
theorem dX11_check_117 : decode cX11_check 117 = .ok (.getfield 23, 3) := by decide +kernel
theorem dX11_check_120 : decode cX11_check 120 = .ok (.getfield 175, 3) := by decide +kernel
theorem dX11_check_123 : decode cX11_check 123 = .ok (.iload_n 1, 1) := by decide +kernel
theorem dX11_check_124 : decode cX11_check 124 = .ok (.aaload, 1) := by decide +kernel
theorem dX11_check_125 : decode cX11_check 125 = .ok (.getfield 179, 3) := by decide +kernel
theorem dX11_check_128 : decode cX11_check 128 = .ok (.invokevirtual 184, 3) := by decide +kernel
theorem dX11_check_131 : decode cX11_check 131 = .ok (.ireturn, 1) := by decide +kernel
theorem dX11_start_0 : decode cX11_start 0 = .ok (.iload_n 1, 1) := by decide +kernel
theorem dX11_start_1 : decode cX11_start 1 = .ok (.ifCond .lt 15, 3) := by decide +kernel
theorem dX11_start_4 : decode cX11_start 4 = .ok (.iload_n 1, 1) := by decide +kernel
theorem dX11_start_5 : decode cX11_start 5 = .ok (.aload_n 0, 1) := by decide +kernel
theorem dX11_start_6 : decode cX11_start 6 = .ok (.getfield 33, 3) := by decide +kernel
theorem dX11_start_9 : decode cX11_start 9 = .ok (.getfield 188, 3) := by decide +kernel
theorem dX11_start_12 : decode cX11_start 12 = .ok (.arraylength, 1) := by decide +kernel
theorem dX11_start_13 : decode cX11_start 13 = .ok (.if_icmp .lt 5, 3) := by decide +kernel
theorem dX11_start_16 : decode cX11_start 16 = .ok (.iconst (-1), 1) := by decide +kernel
theorem dX11_start_17 : decode cX11_start 17 = .ok (.ireturn, 1) := by decide +kernel
theorem dX11_start_18 : decode cX11_start 18 = .ok (.aload_n 0, 1) := by decide +kernel
theorem dX11_start_19 : decode cX11_start 19 = .ok (.getfield 33, 3) := by decide +kernel
theorem dX11_start_22 : decode cX11_start 22 = .ok (.getfield 188, 3) := by decide +kernel
theorem dX11_start_25 : decode cX11_start 25 = .ok (.iload_n 1, 1) := by decide +kernel
theorem dX11_start_26 : decode cX11_start 26 = .ok (.iaload, 1) := by decide +kernel
theorem dX11_start_27 : decode cX11_start 27 = .ok (.ireturn, 1) := by decide +kernel
theorem dX11_begin_0 : decode cX11_begin 0 = .ok (.iload_n 1, 1) := by decide +kernel
theorem dX11_begin_1 : decode cX11_begin 1 = .ok (.ifCond .lt 15, 3) := by decide +kernel
theorem dX11_begin_4 : decode cX11_begin 4 = .ok (.iload_n 1, 1) := by decide +kernel
theorem dX11_begin_5 : decode cX11_begin 5 = .ok (.aload_n 0, 1) := by decide +kernel
theorem dX11_begin_6 : decode cX11_begin 6 = .ok (.getfield 33, 3) := by decide +kernel
theorem dX11_begin_9 : decode cX11_begin 9 = .ok (.getfield 188, 3) := by decide +kernel
theorem dX11_begin_12 : decode cX11_begin 12 = .ok (.arraylength, 1) := by decide +kernel
theorem dX11_begin_13 : decode cX11_begin 13 = .ok (.if_icmp .lt 5, 3) := by decide +kernel
theorem dX11_begin_16 : decode cX11_begin 16 = .ok (.iconst (-1), 1) := by decide +kernel
theorem dX11_begin_17 : decode cX11_begin 17 = .ok (.ireturn, 1) := by decide +kernel
theorem dX11_begin_18 : decode cX11_begin 18 = .ok (.iload_n 2, 1) := by decide +kernel
theorem dX11_begin_19 : decode cX11_begin 19 = .ok (.ifCond .lt 9, 3) := by decide +kernel
theorem dX11_begin_22 : decode cX11_begin 22 = .ok (.iload_n 2, 1) := by decide +kernel
theorem dX11_begin_23 : decode cX11_begin 23 = .ok (.bipush 6, 2) := by decide +kernel
theorem dX11_begin_25 : decode cX11_begin 25 = .ok (.if_icmp .le 6, 3) := by decide +kernel
theorem dX11_begin_28 : decode cX11_begin 28 = .ok (.bipush (-2), 2) := by decide +kernel
theorem dX11_begin_30 : decode cX11_begin 30 = .ok (.ireturn, 1) := by decide +kernel
theorem dX11_begin_31 : decode cX11_begin 31 = .ok (.aload_n 0, 1) := by decide +kernel
theorem dX11_begin_32 : decode cX11_begin 32 = .ok (.getfield 33, 3) := by decide +kernel
theorem dX11_begin_35 : decode cX11_begin 35 = .ok (.getfield 188, 3) := by decide +kernel
theorem dX11_begin_38 : decode cX11_begin 38 = .ok (.iload_n 1, 1) := by decide +kernel
theorem dX11_begin_39 : decode cX11_begin 39 = .ok (.iaload, 1) := by decide +kernel
theorem dX11_begin_40 : decode cX11_begin 40 = .ok (.istore_n 3, 1) := by decide +kernel
theorem dX11_begin_41 : decode cX11_begin 41 = .ok (.aload_n 0, 1) := by decide +kernel
theorem dX11_begin_42 : decode cX11_begin 42 = .ok (.invokevirtual 191, 3) := by decide +kernel
theorem dX11_begin_45 : decode cX11_begin 45 = .ok (.aload_n 0, 1) := by decide +kernel
theorem dX11_begin_46 : decode cX11_begin 46 = .ok (.getfield 33, 3) := by decide +kernel
theorem dX11_begin_49 : decode cX11_begin 49 = .ok (.getfield 188, 3) := by decide +kernel
theorem dX11_begin_52 : decode cX11_begin 52 = .ok (.iload_n 1, 1) := by decide +kernel
theorem dX11_begin_53 : decode cX11_begin 53 = .ok (.iload_n 2, 1) := by decide +kernel
theorem dX11_begin_54 : decode cX11_begin 54 = .ok (.iastore, 1) := by decide +kernel
theorem dX11_begin_55 : decode cX11_begin 55 = .ok (.iload_n 3, 1) := by decide +kernel
theorem dX11_begin_56 : decode cX11_begin 56 = .ok (.ireturn, 1) := by decide +kernel
theorem dX11_turn_0 : decode cX11_turn 0 = .ok (.iload_n 1, 1) := by decide +kernel
theorem dX11_turn_1 : decode cX11_turn 1 = .ok (.ifCond .lt 14, 3) := by decide +kernel
theorem dX11_turn_4 : decode cX11_turn 4 = .ok (.iload_n 1, 1) := by decide +kernel
theorem dX11_turn_5 : decode cX11_turn 5 = .ok (.aload_n 0, 1) := by decide +kernel
theorem dX11_turn_6 : decode cX11_turn 6 = .ok (.getfield 23, 3) := by decide +kernel
theorem dX11_turn_9 : decode cX11_turn 9 = .ok (.getfield 114, 3) := by decide +kernel
theorem dX11_turn_12 : decode cX11_turn 12 = .ok (.if_icmp .lt 5, 3) := by decide +kernel
theorem dX11_turn_15 : decode cX11_turn 15 = .ok (.iconst (-1), 1) := by decide +kernel
theorem dX11_turn_16 : decode cX11_turn 16 = .ok (.ireturn, 1) := by decide +kernel
theorem dX11_turn_17 : decode cX11_turn 17 = .ok (.aload_n 0, 1) := by decide +kernel
theorem dX11_turn_18 : decode cX11_turn 18 = .ok (.invokevirtual 191, 3) := by decide +kernel
theorem dX11_turn_21 : decode cX11_turn 21 = .ok (.aload_n 0, 1) := by decide +kernel
theorem dX11_turn_22 : decode cX11_turn 22 = .ok (.getfield 33, 3) := by decide +kernel
theorem dX11_turn_25 : decode cX11_turn 25 = .ok (.dup, 1) := by decide +kernel
theorem dX11_turn_26 : decode cX11_turn 26 = .ok (.getfield 117, 3) := by decide +kernel
theorem dX11_turn_29 : decode cX11_turn 29 = .ok (.iconst 1, 1) := by decide +kernel
theorem dX11_turn_30 : decode cX11_turn 30 = .ok (.iload_n 1, 1) := by decide +kernel
theorem dX11_turn_31 : decode cX11_turn 31 = .ok (.ishl, 1) := by decide +kernel
theorem dX11_turn_32 : decode cX11_turn 32 = .ok (.ixor, 1) := by decide +kernel
theorem dX11_turn_33 : decode cX11_turn 33 = .ok (.putfield 117, 3) := by decide +kernel
theorem dX11_turn_36 : decode cX11_turn 36 = .ok (.aload_n 0, 1) := by decide +kernel
theorem dX11_turn_37 : decode cX11_turn 37 = .ok (.getfield 33, 3) := by decide +kernel
theorem dX11_turn_40 : decode cX11_turn 40 = .ok (.getfield 117, 3) := by decide +kernel
theorem dX11_turn_43 : decode cX11_turn 43 = .ok (.iload_n 1, 1) := by decide +kernel
theorem dX11_turn_44 : decode cX11_turn 44 = .ok (.ishr, 1) := by decide +kernel
theorem dX11_turn_45 : decode cX11_turn 45 = .ok (.iconst 1, 1) := by decide +kernel
theorem dX11_turn_46 : decode cX11_turn 46 = .ok (.iand, 1) := by decide +kernel
theorem dX11_turn_47 : decode cX11_turn 47 = .ok (.ireturn, 1) := by decide +kernel
theorem dX11_remember_0 : decode cX11_remember 0 = .ok (.aload_n 0, 1) := by decide +kernel
theorem dX11_remember_1 : decode cX11_remember 1 = .ok (.getfield 96, 3) := by decide +kernel
theorem dX11_remember_4 : decode cX11_remember 4 = .ok (.aload_n 0, 1) := by decide +kernel
theorem dX11_remember_5 : decode cX11_remember 5 = .ok (.getfield 40, 3) := by decide +kernel
theorem dX11_remember_8 : decode cX11_remember 8 = .ok (.arraylength, 1) := by decide +kernel
theorem dX11_remember_9 : decode cX11_remember 9 = .ok (.if_icmp .lt 45, 3) := by decide +kernel
theorem dX11_remember_12 : decode cX11_remember 12 = .ok (.iconst 1, 1) := by decide +kernel
theorem dX11_remember_13 : decode cX11_remember 13 = .ok (.istore_n 1, 1) := by decide +kernel
theorem dX11_remember_14 : decode cX11_remember 14 = .ok (.iload_n 1, 1) := by decide +kernel
theorem dX11_remember_15 : decode cX11_remember 15 = .ok (.aload_n 0, 1) := by decide +kernel
theorem dX11_remember_16 : decode cX11_remember 16 = .ok (.getfield 40, 3) := by decide +kernel
theorem dX11_remember_19 : decode cX11_remember 19 = .ok (.arraylength, 1) := by decide +kernel
theorem dX11_remember_20 : decode cX11_remember 20 = .ok (.if_icmp .ge 23, 3) := by decide +kernel
theorem dX11_remember_23 : decode cX11_remember 23 = .ok (.aload_n 0, 1) := by decide +kernel
theorem dX11_remember_24 : decode cX11_remember 24 = .ok (.getfield 40, 3) := by decide +kernel
theorem dX11_remember_27 : decode cX11_remember 27 = .ok (.iload_n 1, 1) := by decide +kernel
theorem dX11_remember_28 : decode cX11_remember 28 = .ok (.iconst 1, 1) := by decide +kernel
theorem dX11_remember_29 : decode cX11_remember 29 = .ok (.isub, 1) := by decide +kernel
theorem dX11_remember_30 : decode cX11_remember 30 = .ok (.aload_n 0, 1) := by decide +kernel
theorem dX11_remember_31 : decode cX11_remember 31 = .ok (.getfield 40, 3) := by decide +kernel
theorem dX11_remember_34 : decode cX11_remember 34 = .ok (.iload_n 1, 1) := by decide +kernel
theorem dX11_remember_35 : decode cX11_remember 35 = .ok (.iaload, 1) := by decide +kernel
theorem dX11_remember_36 : decode cX11_remember 36 = .ok (.iastore, 1) := by decide +kernel
theorem dX11_remember_37 : decode cX11_remember 37 = .ok (.iinc 1 1, 3) := by decide +kernel
theorem dX11_remember_40 : decode cX11_remember 40 = .ok (.goto (-26), 3) := by decide +kernel
theorem dX11_remember_43 : decode cX11_remember 43 = .ok (.aload_n 0, 1) := by decide +kernel
theorem dX11_remember_44 : decode cX11_remember 44 = .ok (.aload_n 0, 1) := by decide +kernel
theorem dX11_remember_45 : decode cX11_remember 45 = .ok (.getfield 40, 3) := by decide +kernel
theorem dX11_remember_48 : decode cX11_remember 48 = .ok (.arraylength, 1) := by decide +kernel
theorem dX11_remember_49 : decode cX11_remember 49 = .ok (.iconst 1, 1) := by decide +kernel
theorem dX11_remember_50 : decode cX11_remember 50 = .ok (.isub, 1) := by decide +kernel
theorem dX11_remember_51 : decode cX11_remember 51 = .ok (.putfield 96, 3) := by decide +kernel
theorem dX11_remember_54 : decode cX11_remember 54 = .ok (.aload_n 0, 1) := by decide +kernel
theorem dX11_remember_55 : decode cX11_remember 55 = .ok (.getfield 96, 3) := by decide +kernel
theorem dX11_remember_58 : decode cX11_remember 58 = .ok (.ifCond .lt 29, 3) := by decide +kernel
theorem dX11_remember_61 : decode cX11_remember 61 = .ok (.aload_n 0, 1) := by decide +kernel
theorem dX11_remember_62 : decode cX11_remember 62 = .ok (.getfield 40, 3) := by decide +kernel
theorem dX11_remember_65 : decode cX11_remember 65 = .ok (.aload_n 0, 1) := by decide +kernel
theorem dX11_remember_66 : decode cX11_remember 66 = .ok (.getfield 96, 3) := by decide +kernel
theorem dX11_remember_69 : decode cX11_remember 69 = .ok (.aload_n 0, 1) := by decide +kernel
theorem dX11_remember_70 : decode cX11_remember 70 = .ok (.getfield 33, 3) := by decide +kernel
theorem dX11_remember_73 : decode cX11_remember 73 = .ok (.invokevirtual 194, 3) := by decide +kernel
theorem dX11_remember_76 : decode cX11_remember 76 = .ok (.iastore, 1) := by decide +kernel
theorem dX11_remember_77 : decode cX11_remember 77 = .ok (.aload_n 0, 1) := by decide +kernel
theorem dX11_remember_78 : decode cX11_remember 78 = .ok (.dup, 1) := by decide +kernel
theorem dX11_remember_79 : decode cX11_remember 79 = .ok (.getfield 96, 3) := by decide +kernel
theorem dX11_remember_82 : decode cX11_remember 82 = .ok (.iconst 1, 1) := by decide +kernel
theorem dX11_remember_83 : decode cX11_remember 83 = .ok (.iadd, 1) := by decide +kernel
theorem dX11_remember_84 : decode cX11_remember 84 = .ok (.putfield 96, 3) := by decide +kernel
theorem dX11_remember_87 : decode cX11_remember 87 = .ok (.return_, 1) := by decide +kernel
theorem dX11_undo_0 : decode cX11_undo 0 = .ok (.aload_n 0, 1) := by decide +kernel
theorem dX11_undo_1 : decode cX11_undo 1 = .ok (.getfield 96, 3) := by decide +kernel
theorem dX11_undo_4 : decode cX11_undo 4 = .ok (.iconst 1, 1) := by decide +kernel
theorem dX11_undo_5 : decode cX11_undo 5 = .ok (.if_icmp .lt 15, 3) := by decide +kernel
theorem dX11_undo_8 : decode cX11_undo 8 = .ok (.aload_n 0, 1) := by decide +kernel
theorem dX11_undo_9 : decode cX11_undo 9 = .ok (.getfield 96, 3) := by decide +kernel
theorem dX11_undo_12 : decode cX11_undo 12 = .ok (.aload_n 0, 1) := by decide +kernel
theorem dX11_undo_13 : decode cX11_undo 13 = .ok (.getfield 40, 3) := by decide +kernel
theorem dX11_undo_16 : decode cX11_undo 16 = .ok (.arraylength, 1) := by decide +kernel
theorem dX11_undo_17 : decode cX11_undo 17 = .ok (.if_icmp .le 6, 3) := by decide +kernel
theorem dX11_undo_20 : decode cX11_undo 20 = .ok (.bipush (-3), 2) := by decide +kernel
theorem dX11_undo_22 : decode cX11_undo 22 = .ok (.ireturn, 1) := by decide +kernel
theorem dX11_undo_23 : decode cX11_undo 23 = .ok (.aload_n 0, 1) := by decide +kernel
theorem dX11_undo_24 : decode cX11_undo 24 = .ok (.dup, 1) := by decide +kernel
theorem dX11_undo_25 : decode cX11_undo 25 = .ok (.getfield 96, 3) := by decide +kernel
theorem dX11_undo_28 : decode cX11_undo 28 = .ok (.iconst 1, 1) := by decide +kernel
theorem dX11_undo_29 : decode cX11_undo 29 = .ok (.isub, 1) := by decide +kernel
theorem dX11_undo_30 : decode cX11_undo 30 = .ok (.putfield 96, 3) := by decide +kernel
theorem dX11_undo_33 : decode cX11_undo 33 = .ok (.aload_n 0, 1) := by decide +kernel
theorem dX11_undo_34 : decode cX11_undo 34 = .ok (.getfield 33, 3) := by decide +kernel
theorem dX11_undo_37 : decode cX11_undo 37 = .ok (.aload_n 0, 1) := by decide +kernel
theorem dX11_undo_38 : decode cX11_undo 38 = .ok (.getfield 40, 3) := by decide +kernel
theorem dX11_undo_41 : decode cX11_undo 41 = .ok (.aload_n 0, 1) := by decide +kernel
theorem dX11_undo_42 : decode cX11_undo 42 = .ok (.getfield 96, 3) := by decide +kernel
theorem dX11_undo_45 : decode cX11_undo 45 = .ok (.iaload, 1) := by decide +kernel
theorem dX11_undo_46 : decode cX11_undo 46 = .ok (.invokevirtual 197, 3) := by decide +kernel
theorem dX11_undo_49 : decode cX11_undo 49 = .ok (.aload_n 0, 1) := by decide +kernel
theorem dX11_undo_50 : decode cX11_undo 50 = .ok (.getfield 96, 3) := by decide +kernel
theorem dX11_undo_53 : decode cX11_undo 53 = .ok (.ireturn, 1) := by decide +kernel
theorem dX11_falls_0 : decode cX11_falls 0 = .ok (.iload_n 1, 1) := by decide +kernel
theorem dX11_falls_1 : decode cX11_falls 1 = .ok (.ifCond .lt 14, 3) := by decide +kernel
theorem dX11_falls_4 : decode cX11_falls 4 = .ok (.iload_n 1, 1) := by decide +kernel
theorem dX11_falls_5 : decode cX11_falls 5 = .ok (.aload_n 0, 1) := by decide +kernel
theorem dX11_falls_6 : decode cX11_falls 6 = .ok (.getfield 23, 3) := by decide +kernel
theorem dX11_falls_9 : decode cX11_falls 9 = .ok (.getfield 108, 3) := by decide +kernel
theorem dX11_falls_12 : decode cX11_falls 12 = .ok (.if_icmp .lt 5, 3) := by decide +kernel
theorem dX11_falls_15 : decode cX11_falls 15 = .ok (.iconst (-1), 1) := by decide +kernel
theorem dX11_falls_16 : decode cX11_falls 16 = .ok (.ireturn, 1) := by decide +kernel
theorem dX11_falls_17 : decode cX11_falls 17 = .ok (.aload_n 0, 1) := by decide +kernel
theorem dX11_falls_18 : decode cX11_falls 18 = .ok (.aload_n 0, 1) := by decide +kernel
theorem dX11_falls_19 : decode cX11_falls 19 = .ok (.getfield 33, 3) := by decide +kernel
theorem dX11_falls_22 : decode cX11_falls 22 = .ok (.invokevirtual 124, 3) := by decide +kernel
theorem dX11_falls_25 : decode cX11_falls 25 = .ok (.istore_n 3, 1) := by decide +kernel
theorem dX11_falls_26 : decode cX11_falls 26 = .ok (.iload_n 2, 1) := by decide +kernel
theorem dX11_falls_27 : decode cX11_falls 27 = .ok (.iload_n 3, 1) := by decide +kernel
theorem dX11_falls_28 : decode cX11_falls 28 = .ok (.iconst (-1), 1) := by decide +kernel
theorem dX11_falls_29 : decode cX11_falls 29 = .ok (.ixor, 1) := by decide +kernel
theorem dX11_falls_30 : decode cX11_falls 30 = .ok (.iand, 1) := by decide +kernel
theorem dX11_falls_31 : decode cX11_falls 31 = .ok (.ifCond .eq 6, 3) := by decide +kernel
theorem dX11_falls_34 : decode cX11_falls 34 = .ok (.bipush (-2), 2) := by decide +kernel
theorem dX11_falls_36 : decode cX11_falls 36 = .ok (.ireturn, 1) := by decide +kernel
theorem dX11_falls_37 : decode cX11_falls 37 = .ok (.aload_n 0, 1) := by decide +kernel
theorem dX11_falls_38 : decode cX11_falls 38 = .ok (.aload_n 0, 1) := by decide +kernel
theorem dX11_falls_39 : decode cX11_falls 39 = .ok (.getfield 33, 3) := by decide +kernel
theorem dX11_falls_42 : decode cX11_falls 42 = .ok (.invokevirtual 120, 3) := by decide +kernel
theorem dX11_falls_45 : decode cX11_falls 45 = .ok (.iload_n 1, 1) := by decide +kernel
theorem dX11_falls_46 : decode cX11_falls 46 = .ok (.iload_n 2, 1) := by decide +kernel
theorem dX11_falls_47 : decode cX11_falls 47 = .ok (.iload_n 3, 1) := by decide +kernel
theorem dX11_falls_48 : decode cX11_falls 48 = .ok (.invokevirtual 201, 3) := by decide +kernel
theorem dX11_falls_51 : decode cX11_falls 51 = .ok (.ireturn, 1) := by decide +kernel
theorem dX11_fewest_0 : decode cX11_fewest 0 = .ok (.iload_n 1, 1) := by decide +kernel
theorem dX11_fewest_1 : decode cX11_fewest 1 = .ok (.ifCond .lt 8, 3) := by decide +kernel
theorem dX11_fewest_4 : decode cX11_fewest 4 = .ok (.iload_n 1, 1) := by decide +kernel
theorem dX11_fewest_5 : decode cX11_fewest 5 = .ok (.iconst 1, 1) := by decide +kernel
theorem dX11_fewest_6 : decode cX11_fewest 6 = .ok (.if_icmp .le 6, 3) := by decide +kernel
theorem dX11_fewest_9 : decode cX11_fewest 9 = .ok (.bipush (-2), 2) := by decide +kernel
theorem dX11_fewest_11 : decode cX11_fewest 11 = .ok (.ireturn, 1) := by decide +kernel
theorem dX11_fewest_12 : decode cX11_fewest 12 = .ok (.aload_n 0, 1) := by decide +kernel
theorem dX11_fewest_13 : decode cX11_fewest 13 = .ok (.aload_n 0, 1) := by decide +kernel
theorem dX11_fewest_14 : decode cX11_fewest 14 = .ok (.getfield 33, 3) := by decide +kernel
theorem dX11_fewest_17 : decode cX11_fewest 17 = .ok (.invokevirtual 124, 3) := by decide +kernel
theorem dX11_fewest_20 : decode cX11_fewest 20 = .ok (.istore_n 2, 1) := by decide +kernel
theorem dX11_fewest_21 : decode cX11_fewest 21 = .ok (.aload_n 0, 1) := by decide +kernel
theorem dX11_fewest_22 : decode cX11_fewest 22 = .ok (.aload_n 0, 1) := by decide +kernel
theorem dX11_fewest_23 : decode cX11_fewest 23 = .ok (.getfield 33, 3) := by decide +kernel
theorem dX11_fewest_26 : decode cX11_fewest 26 = .ok (.invokevirtual 120, 3) := by decide +kernel
theorem dX11_fewest_29 : decode cX11_fewest 29 = .ok (.astore_n 3, 1) := by decide +kernel
theorem dX11_fewest_30 : decode cX11_fewest 30 = .ok (.aload_n 3, 1) := by decide +kernel
theorem dX11_fewest_31 : decode cX11_fewest 31 = .ok (.iload_n 2, 1) := by decide +kernel
theorem dX11_fewest_32 : decode cX11_fewest 32 = .ok (.invokevirtual 128, 3) := by decide +kernel
theorem dX11_fewest_35 : decode cX11_fewest 35 = .ok (.invokestatic 205, 3) := by decide +kernel
theorem dX11_fewest_38 : decode cX11_fewest 38 = .ok (.istore 4, 2) := by decide +kernel
theorem dX11_fewest_40 : decode cX11_fewest 40 = .ok (.iload_n 2, 1) := by decide +kernel
theorem dX11_fewest_41 : decode cX11_fewest 41 = .ok (.istore 5, 2) := by decide +kernel
theorem dX11_fewest_43 : decode cX11_fewest 43 = .ok (.iconst 0, 1) := by decide +kernel
theorem dX11_fewest_44 : decode cX11_fewest 44 = .ok (.istore 6, 2) := by decide +kernel
theorem dX11_fewest_46 : decode cX11_fewest 46 = .ok (.iload 6, 2) := by decide +kernel
theorem dX11_fewest_48 : decode cX11_fewest 48 = .ok (.bipush 32, 2) := by decide +kernel
theorem dX11_fewest_50 : decode cX11_fewest 50 = .ok (.if_icmp .ge 49, 3) := by decide +kernel
theorem dX11_fewest_53 : decode cX11_fewest 53 = .ok (.iload 6, 2) := by decide +kernel
theorem dX11_fewest_55 : decode cX11_fewest 55 = .ok (.iload_n 2, 1) := by decide +kernel
theorem dX11_fewest_56 : decode cX11_fewest 56 = .ok (.iconst (-1), 1) := by decide +kernel
theorem dX11_fewest_57 : decode cX11_fewest 57 = .ok (.ixor, 1) := by decide +kernel
theorem dX11_fewest_58 : decode cX11_fewest 58 = .ok (.iand, 1) := by decide +kernel
theorem dX11_fewest_59 : decode cX11_fewest 59 = .ok (.ifCond .ne 34, 3) := by decide +kernel
theorem dX11_fewest_62 : decode cX11_fewest 62 = .ok (.iload 6, 2) := by decide +kernel
theorem dX11_fewest_64 : decode cX11_fewest 64 = .ok (.invokestatic 205, 3) := by decide +kernel
theorem dX11_fewest_67 : decode cX11_fewest 67 = .ok (.iload 5, 2) := by decide +kernel
theorem dX11_fewest_69 : decode cX11_fewest 69 = .ok (.invokestatic 205, 3) := by decide +kernel
theorem dX11_fewest_72 : decode cX11_fewest 72 = .ok (.if_icmp .ge 21, 3) := by decide +kernel
theorem dX11_fewest_75 : decode cX11_fewest 75 = .ok (.aload_n 3, 1) := by decide +kernel
theorem dX11_fewest_76 : decode cX11_fewest 76 = .ok (.iload 6, 2) := by decide +kernel
theorem dX11_fewest_78 : decode cX11_fewest 78 = .ok (.invokevirtual 128, 3) := by decide +kernel
theorem dX11_fewest_81 : decode cX11_fewest 81 = .ok (.invokestatic 205, 3) := by decide +kernel
theorem dX11_fewest_84 : decode cX11_fewest 84 = .ok (.iload 4, 2) := by decide +kernel
theorem dX11_fewest_86 : decode cX11_fewest 86 = .ok (.if_icmp .ne 7, 3) := by decide +kernel
theorem dX11_fewest_89 : decode cX11_fewest 89 = .ok (.iload 6, 2) := by decide +kernel
theorem dX11_fewest_91 : decode cX11_fewest 91 = .ok (.istore 5, 2) := by decide +kernel
theorem dX11_fewest_93 : decode cX11_fewest 93 = .ok (.iinc 6 1, 3) := by decide +kernel
theorem dX11_fewest_96 : decode cX11_fewest 96 = .ok (.goto (-50), 3) := by decide +kernel
theorem dX11_fewest_99 : decode cX11_fewest 99 = .ok (.iload_n 1, 1) := by decide +kernel
theorem dX11_fewest_100 : decode cX11_fewest 100 = .ok (.ifCond .ne 11, 3) := by decide +kernel
theorem dX11_fewest_103 : decode cX11_fewest 103 = .ok (.iload 5, 2) := by decide +kernel
theorem dX11_fewest_105 : decode cX11_fewest 105 = .ok (.invokestatic 205, 3) := by decide +kernel
theorem dX11_fewest_108 : decode cX11_fewest 108 = .ok (.goto 5, 3) := by decide +kernel
theorem dX11_fewest_111 : decode cX11_fewest 111 = .ok (.iload 5, 2) := by decide +kernel
theorem dX11_fewest_113 : decode cX11_fewest 113 = .ok (.ireturn, 1) := by decide +kernel
theorem dX11_judge_0 : decode cX11_judge 0 = .ok (.iload_n 1, 1) := by decide +kernel
theorem dX11_judge_1 : decode cX11_judge 1 = .ok (.iconst 1, 1) := by decide +kernel
theorem dX11_judge_2 : decode cX11_judge 2 = .ok (.if_icmp .lt 8, 3) := by decide +kernel
theorem dX11_judge_5 : decode cX11_judge 5 = .ok (.iload_n 1, 1) := by decide +kernel
theorem dX11_judge_6 : decode cX11_judge 6 = .ok (.iconst 4, 1) := by decide +kernel
theorem dX11_judge_7 : decode cX11_judge 7 = .ok (.if_icmp .le 6, 3) := by decide +kernel
theorem dX11_judge_10 : decode cX11_judge 10 = .ok (.bipush (-2), 2) := by decide +kernel
theorem dX11_judge_12 : decode cX11_judge 12 = .ok (.ireturn, 1) := by decide +kernel
theorem dX11_judge_13 : decode cX11_judge 13 = .ok (.lload_n 2, 1) := by decide +kernel
theorem dX11_judge_14 : decode cX11_judge 14 = .ok (.lstore 4, 2) := by decide +kernel
theorem dX11_judge_16 : decode cX11_judge 16 = .ok (.iload_n 1, 1) := by decide +kernel
theorem dX11_judge_17 : decode cX11_judge 17 = .ok (.iconst 1, 1) := by decide +kernel
theorem dX11_judge_18 : decode cX11_judge 18 = .ok (.isub, 1) := by decide +kernel
theorem dX11_judge_19 : decode cX11_judge 19 = .ok (.istore 6, 2) := by decide +kernel
theorem dX11_judge_21 : decode cX11_judge 21 = .ok (.iload 6, 2) := by decide +kernel
theorem dX11_judge_23 : decode cX11_judge 23 = .ok (.ifCond .lt 41, 3) := by decide +kernel
theorem dX11_judge_26 : decode cX11_judge 26 = .ok (.iload 6, 2) := by decide +kernel
theorem dX11_judge_28 : decode cX11_judge 28 = .ok (.aload_n 0, 1) := by decide +kernel
theorem dX11_judge_29 : decode cX11_judge 29 = .ok (.getfield 53, 3) := by decide +kernel
theorem dX11_judge_32 : decode cX11_judge 32 = .ok (.arraylength, 1) := by decide +kernel
theorem dX11_judge_33 : decode cX11_judge 33 = .ok (.if_icmp .ge 31, 3) := by decide +kernel
theorem dX11_judge_36 : decode cX11_judge 36 = .ok (.aload_n 0, 1) := by decide +kernel
theorem dX11_judge_37 : decode cX11_judge 37 = .ok (.getfield 53, 3) := by decide +kernel
theorem dX11_judge_40 : decode cX11_judge 40 = .ok (.iload 6, 2) := by decide +kernel
theorem dX11_judge_42 : decode cX11_judge 42 = .ok (.lload 4, 2) := by decide +kernel
theorem dX11_judge_44 : decode cX11_judge 44 = .ok (.ldc2_w 210, 3) := by decide +kernel
theorem dX11_judge_47 : decode cX11_judge 47 = .ok (.lrem, 1) := by decide +kernel
theorem dX11_judge_48 : decode cX11_judge 48 = .ok (.l2i, 1) := by decide +kernel
theorem dX11_judge_49 : decode cX11_judge 49 = .ok (.iastore, 1) := by decide +kernel
theorem dX11_judge_50 : decode cX11_judge 50 = .ok (.lload 4, 2) := by decide +kernel
theorem dX11_judge_52 : decode cX11_judge 52 = .ok (.ldc2_w 210, 3) := by decide +kernel
theorem dX11_judge_55 : decode cX11_judge 55 = .ok (.ldiv, 1) := by decide +kernel
theorem dX11_judge_56 : decode cX11_judge 56 = .ok (.lstore 4, 2) := by decide +kernel
theorem dX11_judge_58 : decode cX11_judge 58 = .ok (.iinc 6 (-1), 3) := by decide +kernel
theorem dX11_judge_61 : decode cX11_judge 61 = .ok (.goto (-40), 3) := by decide +kernel
theorem dX11_judge_64 : decode cX11_judge 64 = .ok (.lload_n 2, 1) := by decide +kernel
theorem dX11_judge_65 : decode cX11_judge 65 = .ok (.lconst 0, 1) := by decide +kernel
theorem dX11_judge_66 : decode cX11_judge 66 = .ok (.lcmp, 1) := by decide +kernel
theorem dX11_judge_67 : decode cX11_judge 67 = .ok (.ifCond .lt 10, 3) := by decide +kernel
theorem dX11_judge_70 : decode cX11_judge 70 = .ok (.lload 4, 2) := by decide +kernel
theorem dX11_judge_72 : decode cX11_judge 72 = .ok (.lconst 0, 1) := by decide +kernel
theorem dX11_judge_73 : decode cX11_judge 73 = .ok (.lcmp, 1) := by decide +kernel
theorem dX11_judge_74 : decode cX11_judge 74 = .ok (.ifCond .eq 6, 3) := by decide +kernel
theorem dX11_judge_77 : decode cX11_judge 77 = .ok (.bipush (-2), 2) := by decide +kernel
theorem dX11_judge_79 : decode cX11_judge 79 = .ok (.ireturn, 1) := by decide +kernel
theorem dX11_judge_80 : decode cX11_judge 80 = .ok (.aload_n 0, 1) := by decide +kernel
theorem dX11_judge_81 : decode cX11_judge 81 = .ok (.getfield 37, 3) := by decide +kernel
theorem dX11_judge_84 : decode cX11_judge 84 = .ok (.aload_n 0, 1) := by decide +kernel
theorem dX11_judge_85 : decode cX11_judge 85 = .ok (.getfield 33, 3) := by decide +kernel
theorem dX11_judge_88 : decode cX11_judge 88 = .ok (.invokevirtual 194, 3) := by decide +kernel
theorem dX11_judge_91 : decode cX11_judge 91 = .ok (.invokevirtual 197, 3) := by decide +kernel
theorem dX11_judge_94 : decode cX11_judge 94 = .ok (.iconst 0, 1) := by decide +kernel
theorem dX11_judge_95 : decode cX11_judge 95 = .ok (.istore 6, 2) := by decide +kernel
theorem dX11_judge_97 : decode cX11_judge 97 = .ok (.iload 6, 2) := by decide +kernel
theorem dX11_judge_99 : decode cX11_judge 99 = .ok (.iload_n 1, 1) := by decide +kernel
theorem dX11_judge_100 : decode cX11_judge 100 = .ok (.if_icmp .ge 65, 3) := by decide +kernel
theorem dX11_judge_103 : decode cX11_judge 103 = .ok (.iload 6, 2) := by decide +kernel
theorem dX11_judge_105 : decode cX11_judge 105 = .ok (.aload_n 0, 1) := by decide +kernel
theorem dX11_judge_106 : decode cX11_judge 106 = .ok (.getfield 53, 3) := by decide +kernel
theorem dX11_judge_109 : decode cX11_judge 109 = .ok (.arraylength, 1) := by decide +kernel
theorem dX11_judge_110 : decode cX11_judge 110 = .ok (.if_icmp .ge 55, 3) := by decide +kernel
theorem dX11_judge_113 : decode cX11_judge 113 = .ok (.aload_n 0, 1) := by decide +kernel
theorem dX11_judge_114 : decode cX11_judge 114 = .ok (.getfield 53, 3) := by decide +kernel
theorem dX11_judge_117 : decode cX11_judge 117 = .ok (.iload 6, 2) := by decide +kernel
theorem dX11_judge_119 : decode cX11_judge 119 = .ok (.iaload, 1) := by decide +kernel
theorem dX11_judge_120 : decode cX11_judge 120 = .ok (.istore 7, 2) := by decide +kernel
theorem dX11_judge_122 : decode cX11_judge 122 = .ok (.aload_n 0, 1) := by decide +kernel
theorem dX11_judge_123 : decode cX11_judge 123 = .ok (.iload 7, 2) := by decide +kernel
theorem dX11_judge_125 : decode cX11_judge 125 = .ok (.sipush 1000, 3) := by decide +kernel
theorem dX11_judge_128 : decode cX11_judge 128 = .ok (.idiv, 1) := by decide +kernel
theorem dX11_judge_129 : decode cX11_judge 129 = .ok (.iload 7, 2) := by decide +kernel
theorem dX11_judge_131 : decode cX11_judge 131 = .ok (.bipush 100, 2) := by decide +kernel
theorem dX11_judge_133 : decode cX11_judge 133 = .ok (.idiv, 1) := by decide +kernel
theorem dX11_judge_134 : decode cX11_judge 134 = .ok (.bipush 10, 2) := by decide +kernel
theorem dX11_judge_136 : decode cX11_judge 136 = .ok (.irem, 1) := by decide +kernel
theorem dX11_judge_137 : decode cX11_judge 137 = .ok (.iload 7, 2) := by decide +kernel
theorem dX11_judge_139 : decode cX11_judge 139 = .ok (.bipush 10, 2) := by decide +kernel
theorem dX11_judge_141 : decode cX11_judge 141 = .ok (.idiv, 1) := by decide +kernel
theorem dX11_judge_142 : decode cX11_judge 142 = .ok (.bipush 10, 2) := by decide +kernel
theorem dX11_judge_144 : decode cX11_judge 144 = .ok (.irem, 1) := by decide +kernel
theorem dX11_judge_145 : decode cX11_judge 145 = .ok (.iload 7, 2) := by decide +kernel
theorem dX11_judge_147 : decode cX11_judge 147 = .ok (.bipush 10, 2) := by decide +kernel
theorem dX11_judge_149 : decode cX11_judge 149 = .ok (.irem, 1) := by decide +kernel
theorem dX11_judge_150 : decode cX11_judge 150 = .ok (.invokevirtual 212, 3) := by decide +kernel
theorem dX11_judge_153 : decode cX11_judge 153 = .ok (.ifCond .ne 6, 3) := by decide +kernel
theorem dX11_judge_156 : decode cX11_judge 156 = .ok (.iload 6, 2) := by decide +kernel
theorem dX11_judge_158 : decode cX11_judge 158 = .ok (.ireturn, 1) := by decide +kernel
theorem dX11_judge_159 : decode cX11_judge 159 = .ok (.iinc 6 1, 3) := by decide +kernel
theorem dX11_judge_162 : decode cX11_judge 162 = .ok (.goto (-65), 3) := by decide +kernel
theorem dX11_judge_165 : decode cX11_judge 165 = .ok (.bipush (-9), 2) := by decide +kernel
theorem dX11_judge_167 : decode cX11_judge 167 = .ok (.ireturn, 1) := by decide +kernel
theorem dX11_stands_0 : decode cX11_stands 0 = .ok (.iload_n 1, 1) := by decide +kernel
theorem dX11_stands_1 : decode cX11_stands 1 = .ok (.iconst 5, 1) := by decide +kernel
theorem dX11_stands_2 : decode cX11_stands 2 = .ok (.if_icmp .ne 69, 3) := by decide +kernel
theorem dX11_stands_5 : decode cX11_stands 5 = .ok (.iload_n 2, 1) := by decide +kernel
theorem dX11_stands_6 : decode cX11_stands 6 = .ok (.aload_n 0, 1) := by decide +kernel
theorem dX11_stands_7 : decode cX11_stands 7 = .ok (.getfield 23, 3) := by decide +kernel
theorem dX11_stands_10 : decode cX11_stands 10 = .ok (.getfield 108, 3) := by decide +kernel
theorem dX11_stands_13 : decode cX11_stands 13 = .ok (.if_icmp .ge 56, 3) := by decide +kernel
theorem dX11_stands_16 : decode cX11_stands 16 = .ok (.iload_n 2, 1) := by decide +kernel
theorem dX11_stands_17 : decode cX11_stands 17 = .ok (.iconst 3, 1) := by decide +kernel
theorem dX11_stands_18 : decode cX11_stands 18 = .ok (.if_icmp .ge 51, 3) := by decide +kernel
theorem dX11_stands_21 : decode cX11_stands 21 = .ok (.iload_n 3, 1) := by decide +kernel
theorem dX11_stands_22 : decode cX11_stands 22 = .ok (.aload_n 0, 1) := by decide +kernel
theorem dX11_stands_23 : decode cX11_stands 23 = .ok (.getfield 23, 3) := by decide +kernel
theorem dX11_stands_26 : decode cX11_stands 26 = .ok (.getfield 114, 3) := by decide +kernel
theorem dX11_stands_29 : decode cX11_stands 29 = .ok (.if_icmp .ge 40, 3) := by decide +kernel
theorem dX11_stands_32 : decode cX11_stands 32 = .ok (.iload 4, 2) := by decide +kernel
theorem dX11_stands_34 : decode cX11_stands 34 = .ok (.aload_n 0, 1) := by decide +kernel
theorem dX11_stands_35 : decode cX11_stands 35 = .ok (.aload_n 0, 1) := by decide +kernel
theorem dX11_stands_36 : decode cX11_stands 36 = .ok (.getfield 37, 3) := by decide +kernel
theorem dX11_stands_39 : decode cX11_stands 39 = .ok (.invokevirtual 120, 3) := by decide +kernel
theorem dX11_stands_42 : decode cX11_stands 42 = .ok (.aload_n 0, 1) := by decide +kernel
theorem dX11_stands_43 : decode cX11_stands 43 = .ok (.aload_n 0, 1) := by decide +kernel
theorem dX11_stands_44 : decode cX11_stands 44 = .ok (.getfield 37, 3) := by decide +kernel
theorem dX11_stands_47 : decode cX11_stands 47 = .ok (.invokevirtual 124, 3) := by decide +kernel
theorem dX11_stands_50 : decode cX11_stands 50 = .ok (.invokevirtual 140, 3) := by decide +kernel
theorem dX11_stands_53 : decode cX11_stands 53 = .ok (.getfield 166, 3) := by decide +kernel
theorem dX11_stands_56 : decode cX11_stands 56 = .ok (.iload_n 2, 1) := by decide +kernel
theorem dX11_stands_57 : decode cX11_stands 57 = .ok (.iaload, 1) := by decide +kernel
theorem dX11_stands_58 : decode cX11_stands 58 = .ok (.iload_n 3, 1) := by decide +kernel
theorem dX11_stands_59 : decode cX11_stands 59 = .ok (.ishr, 1) := by decide +kernel
theorem dX11_stands_60 : decode cX11_stands 60 = .ok (.iconst 1, 1) := by decide +kernel
theorem dX11_stands_61 : decode cX11_stands 61 = .ok (.iand, 1) := by decide +kernel
theorem dX11_stands_62 : decode cX11_stands 62 = .ok (.if_icmp .ne 7, 3) := by decide +kernel
theorem dX11_stands_65 : decode cX11_stands 65 = .ok (.iconst 1, 1) := by decide +kernel
theorem dX11_stands_66 : decode cX11_stands 66 = .ok (.goto 4, 3) := by decide +kernel
theorem dX11_stands_69 : decode cX11_stands 69 = .ok (.iconst 0, 1) := by decide +kernel
theorem dX11_stands_70 : decode cX11_stands 70 = .ok (.ireturn, 1) := by decide +kernel
theorem dX11_stands_71 : decode cX11_stands 71 = .ok (.iload_n 1, 1) := by decide +kernel
theorem dX11_stands_72 : decode cX11_stands 72 = .ok (.bipush 6, 2) := by decide +kernel
theorem dX11_stands_74 : decode cX11_stands 74 = .ok (.if_icmp .ne 25, 3) := by decide +kernel
theorem dX11_stands_77 : decode cX11_stands 77 = .ok (.aload_n 0, 1) := by decide +kernel
theorem dX11_stands_78 : decode cX11_stands 78 = .ok (.aload_n 0, 1) := by decide +kernel
theorem dX11_stands_79 : decode cX11_stands 79 = .ok (.getfield 37, 3) := by decide +kernel
theorem dX11_stands_82 : decode cX11_stands 82 = .ok (.invokevirtual 120, 3) := by decide +kernel
theorem dX11_stands_85 : decode cX11_stands 85 = .ok (.invokevirtual 132, 3) := by decide +kernel
theorem dX11_stands_88 : decode cX11_stands 88 = .ok (.getfield 150, 3) := by decide +kernel
theorem dX11_stands_91 : decode cX11_stands 91 = .ok (.iload_n 2, 1) := by decide +kernel
theorem dX11_stands_92 : decode cX11_stands 92 = .ok (.iload_n 3, 1) := by decide +kernel
theorem dX11_stands_93 : decode cX11_stands 93 = .ok (.iload 4, 2) := by decide +kernel
theorem dX11_stands_95 : decode cX11_stands 95 = .ok (.invokevirtual 216, 3) := by decide +kernel
theorem dX11_stands_98 : decode cX11_stands 98 = .ok (.ireturn, 1) := by decide +kernel
theorem dX11_stands_99 : decode cX11_stands 99 = .ok (.iload_n 3, 1) := by decide +kernel
theorem dX11_stands_100 : decode cX11_stands 100 = .ok (.ifCond .eq 5, 3) := by decide +kernel
theorem dX11_stands_103 : decode cX11_stands 103 = .ok (.iconst 0, 1) := by decide +kernel
theorem dX11_stands_104 : decode cX11_stands 104 = .ok (.ireturn, 1) := by decide +kernel
theorem dX11_stands_105 : decode cX11_stands 105 = .ok (.iload_n 1, 1) := by decide +kernel
theorem dX11_stands_106 : decode cX11_stands 106 = .ok (.tableswitch 160 1 4 #[30, 41, 71, 116], 30) := by decide +kernel
theorem dX11_stands_136 : decode cX11_stands 136 = .ok (.aload_n 0, 1) := by decide +kernel
theorem dX11_stands_137 : decode cX11_stands 137 = .ok (.getfield 37, 3) := by decide +kernel
theorem dX11_stands_140 : decode cX11_stands 140 = .ok (.iload_n 2, 1) := by decide +kernel
theorem dX11_stands_141 : decode cX11_stands 141 = .ok (.iload 4, 2) := by decide +kernel
theorem dX11_stands_143 : decode cX11_stands 143 = .ok (.invokevirtual 220, 3) := by decide +kernel
theorem dX11_stands_146 : decode cX11_stands 146 = .ok (.ireturn, 1) := by decide +kernel
theorem dX11_stands_147 : decode cX11_stands 147 = .ok (.iload_n 2, 1) := by decide +kernel
theorem dX11_stands_148 : decode cX11_stands 148 = .ok (.aload_n 0, 1) := by decide +kernel
theorem dX11_stands_149 : decode cX11_stands 149 = .ok (.getfield 23, 3) := by decide +kernel
theorem dX11_stands_152 : decode cX11_stands 152 = .ok (.getfield 114, 3) := by decide +kernel
theorem dX11_stands_155 : decode cX11_stands 155 = .ok (.if_icmp .ge 20, 3) := by decide +kernel
theorem dX11_stands_158 : decode cX11_stands 158 = .ok (.aload_n 0, 1) := by decide +kernel
theorem dX11_stands_159 : decode cX11_stands 159 = .ok (.getfield 37, 3) := by decide +kernel
theorem dX11_stands_162 : decode cX11_stands 162 = .ok (.iload_n 2, 1) := by decide +kernel
theorem dX11_stands_163 : decode cX11_stands 163 = .ok (.iload 4, 2) := by decide +kernel
theorem dX11_stands_165 : decode cX11_stands 165 = .ok (.invokevirtual 224, 3) := by decide +kernel
theorem dX11_stands_168 : decode cX11_stands 168 = .ok (.ifCond .eq 7, 3) := by decide +kernel
theorem dX11_stands_171 : decode cX11_stands 171 = .ok (.iconst 1, 1) := by decide +kernel
theorem dX11_stands_172 : decode cX11_stands 172 = .ok (.goto 4, 3) := by decide +kernel
theorem dX11_stands_175 : decode cX11_stands 175 = .ok (.iconst 0, 1) := by decide +kernel
theorem dX11_stands_176 : decode cX11_stands 176 = .ok (.ireturn, 1) := by decide +kernel
theorem dX11_stands_177 : decode cX11_stands 177 = .ok (.iload_n 2, 1) := by decide +kernel
theorem dX11_stands_178 : decode cX11_stands 178 = .ok (.aload_n 0, 1) := by decide +kernel
theorem dX11_stands_179 : decode cX11_stands 179 = .ok (.getfield 23, 3) := by decide +kernel
theorem dX11_stands_182 : decode cX11_stands 182 = .ok (.getfield 105, 3) := by decide +kernel
theorem dX11_stands_185 : decode cX11_stands 185 = .ok (.if_icmp .ge 35, 3) := by decide +kernel
theorem dX11_stands_188 : decode cX11_stands 188 = .ok (.iload 4, 2) := by decide +kernel
theorem dX11_stands_190 : decode cX11_stands 190 = .ok (.aload_n 0, 1) := by decide +kernel
theorem dX11_stands_191 : decode cX11_stands 191 = .ok (.aload_n 0, 1) := by decide +kernel
theorem dX11_stands_192 : decode cX11_stands 192 = .ok (.getfield 37, 3) := by decide +kernel
theorem dX11_stands_195 : decode cX11_stands 195 = .ok (.invokevirtual 120, 3) := by decide +kernel
theorem dX11_stands_198 : decode cX11_stands 198 = .ok (.aload_n 0, 1) := by decide +kernel
theorem dX11_stands_199 : decode cX11_stands 199 = .ok (.aload_n 0, 1) := by decide +kernel
theorem dX11_stands_200 : decode cX11_stands 200 = .ok (.getfield 37, 3) := by decide +kernel
theorem dX11_stands_203 : decode cX11_stands 203 = .ok (.invokevirtual 124, 3) := by decide +kernel
theorem dX11_stands_206 : decode cX11_stands 206 = .ok (.invokevirtual 128, 3) := by decide +kernel
theorem dX11_stands_209 : decode cX11_stands 209 = .ok (.iload_n 2, 1) := by decide +kernel
theorem dX11_stands_210 : decode cX11_stands 210 = .ok (.ishr, 1) := by decide +kernel
theorem dX11_stands_211 : decode cX11_stands 211 = .ok (.iconst 1, 1) := by decide +kernel
theorem dX11_stands_212 : decode cX11_stands 212 = .ok (.iand, 1) := by decide +kernel
theorem dX11_stands_213 : decode cX11_stands 213 = .ok (.if_icmp .ne 7, 3) := by decide +kernel
theorem dX11_stands_216 : decode cX11_stands 216 = .ok (.iconst 1, 1) := by decide +kernel
theorem dX11_stands_217 : decode cX11_stands 217 = .ok (.goto 4, 3) := by decide +kernel
theorem dX11_stands_220 : decode cX11_stands 220 = .ok (.iconst 0, 1) := by decide +kernel
theorem dX11_stands_221 : decode cX11_stands 221 = .ok (.ireturn, 1) := by decide +kernel
theorem dX11_stands_222 : decode cX11_stands 222 = .ok (.iload_n 2, 1) := by decide +kernel
theorem dX11_stands_223 : decode cX11_stands 223 = .ok (.aload_n 0, 1) := by decide +kernel
theorem dX11_stands_224 : decode cX11_stands 224 = .ok (.getfield 23, 3) := by decide +kernel
theorem dX11_stands_227 : decode cX11_stands 227 = .ok (.getfield 105, 3) := by decide +kernel
theorem dX11_stands_230 : decode cX11_stands 230 = .ok (.if_icmp .ge 34, 3) := by decide +kernel
theorem dX11_stands_233 : decode cX11_stands 233 = .ok (.iload 4, 2) := by decide +kernel
theorem dX11_stands_235 : decode cX11_stands 235 = .ok (.aload_n 0, 1) := by decide +kernel
theorem dX11_stands_236 : decode cX11_stands 236 = .ok (.getfield 23, 3) := by decide +kernel
theorem dX11_stands_239 : decode cX11_stands 239 = .ok (.aload_n 0, 1) := by decide +kernel
theorem dX11_stands_240 : decode cX11_stands 240 = .ok (.aload_n 0, 1) := by decide +kernel
theorem dX11_stands_241 : decode cX11_stands 241 = .ok (.getfield 37, 3) := by decide +kernel
theorem dX11_stands_244 : decode cX11_stands 244 = .ok (.invokevirtual 120, 3) := by decide +kernel
theorem dX11_stands_247 : decode cX11_stands 247 = .ok (.invokevirtual 132, 3) := by decide +kernel
theorem dX11_stands_250 : decode cX11_stands 250 = .ok (.invokevirtual 136, 3) := by decide +kernel
theorem dX11_stands_253 : decode cX11_stands 253 = .ok (.iload_n 2, 1) := by decide +kernel
theorem dX11_stands_254 : decode cX11_stands 254 = .ok (.ishr, 1) := by decide +kernel
theorem dX11_stands_255 : decode cX11_stands 255 = .ok (.iconst 1, 1) := by decide +kernel
theorem dX11_stands_256 : decode cX11_stands 256 = .ok (.iand, 1) := by decide +kernel
theorem dX11_stands_257 : decode cX11_stands 257 = .ok (.if_icmp .ne 7, 3) := by decide +kernel
theorem dX11_stands_260 : decode cX11_stands 260 = .ok (.iconst 1, 1) := by decide +kernel
theorem dX11_stands_261 : decode cX11_stands 261 = .ok (.goto 4, 3) := by decide +kernel
theorem dX11_stands_264 : decode cX11_stands 264 = .ok (.iconst 0, 1) := by decide +kernel
theorem dX11_stands_265 : decode cX11_stands 265 = .ok (.ireturn, 1) := by decide +kernel
theorem dX11_stands_266 : decode cX11_stands 266 = .ok (.iconst 0, 1) := by decide +kernel
theorem dX11_stands_267 : decode cX11_stands 267 = .ok (.ireturn, 1) := by decide +kernel
theorem dX11_share_0 : decode cX11_share 0 = .ok (.iload_n 1, 1) := by decide +kernel
theorem dX11_share_1 : decode cX11_share 1 = .ok (.ifCond .lt 14, 3) := by decide +kernel
theorem dX11_share_4 : decode cX11_share 4 = .ok (.iload_n 1, 1) := by decide +kernel
theorem dX11_share_5 : decode cX11_share 5 = .ok (.aload_n 0, 1) := by decide +kernel
theorem dX11_share_6 : decode cX11_share 6 = .ok (.getfield 23, 3) := by decide +kernel
theorem dX11_share_9 : decode cX11_share 9 = .ok (.getfield 114, 3) := by decide +kernel
theorem dX11_share_12 : decode cX11_share 12 = .ok (.if_icmp .lt 5, 3) := by decide +kernel
theorem dX11_share_15 : decode cX11_share 15 = .ok (.iconst (-1), 1) := by decide +kernel
theorem dX11_share_16 : decode cX11_share 16 = .ok (.ireturn, 1) := by decide +kernel
theorem dX11_share_17 : decode cX11_share 17 = .ok (.aload_n 0, 1) := by decide +kernel
theorem dX11_share_18 : decode cX11_share 18 = .ok (.aload_n 0, 1) := by decide +kernel
theorem dX11_share_19 : decode cX11_share 19 = .ok (.getfield 33, 3) := by decide +kernel
theorem dX11_share_22 : decode cX11_share 22 = .ok (.invokevirtual 124, 3) := by decide +kernel
theorem dX11_share_25 : decode cX11_share 25 = .ok (.istore_n 3, 1) := by decide +kernel
theorem dX11_share_26 : decode cX11_share 26 = .ok (.iconst 1, 1) := by decide +kernel
theorem dX11_share_27 : decode cX11_share 27 = .ok (.iload_n 1, 1) := by decide +kernel
theorem dX11_share_28 : decode cX11_share 28 = .ok (.ishl, 1) := by decide +kernel
theorem dX11_share_29 : decode cX11_share 29 = .ok (.istore 4, 2) := by decide +kernel
theorem dX11_share_31 : decode cX11_share 31 = .ok (.iload_n 3, 1) := by decide +kernel
theorem dX11_share_32 : decode cX11_share 32 = .ok (.iload 4, 2) := by decide +kernel
theorem dX11_share_34 : decode cX11_share 34 = .ok (.iand, 1) := by decide +kernel
theorem dX11_share_35 : decode cX11_share 35 = .ok (.ifCond .ne 6, 3) := by decide +kernel
theorem dX11_share_38 : decode cX11_share 38 = .ok (.bipush (-3), 2) := by decide +kernel
theorem dX11_share_40 : decode cX11_share 40 = .ok (.ireturn, 1) := by decide +kernel
theorem dX11_share_41 : decode cX11_share 41 = .ok (.aload_n 0, 1) := by decide +kernel
theorem dX11_share_42 : decode cX11_share 42 = .ok (.aload_n 0, 1) := by decide +kernel
theorem dX11_share_43 : decode cX11_share 43 = .ok (.getfield 33, 3) := by decide +kernel
theorem dX11_share_46 : decode cX11_share 46 = .ok (.invokevirtual 120, 3) := by decide +kernel
theorem dX11_share_49 : decode cX11_share 49 = .ok (.astore 5, 2) := by decide +kernel
theorem dX11_share_51 : decode cX11_share 51 = .ok (.iload_n 3, 1) := by decide +kernel
theorem dX11_share_52 : decode cX11_share 52 = .ok (.invokestatic 205, 3) := by decide +kernel
theorem dX11_share_55 : decode cX11_share 55 = .ok (.istore 6, 2) := by decide +kernel
theorem dX11_share_57 : decode cX11_share 57 = .ok (.iconst 0, 1) := by decide +kernel
theorem dX11_share_58 : decode cX11_share 58 = .ok (.istore 7, 2) := by decide +kernel
theorem dX11_share_60 : decode cX11_share 60 = .ok (.iconst 0, 1) := by decide +kernel
theorem dX11_share_61 : decode cX11_share 61 = .ok (.istore 8, 2) := by decide +kernel
theorem dX11_share_63 : decode cX11_share 63 = .ok (.iload 8, 2) := by decide +kernel
theorem dX11_share_65 : decode cX11_share 65 = .ok (.bipush 32, 2) := by decide +kernel
theorem dX11_share_67 : decode cX11_share 67 = .ok (.if_icmp .ge 80, 3) := by decide +kernel
theorem dX11_share_70 : decode cX11_share 70 = .ok (.iload 8, 2) := by decide +kernel
theorem dX11_share_72 : decode cX11_share 72 = .ok (.iload_n 3, 1) := by decide +kernel
theorem dX11_share_73 : decode cX11_share 73 = .ok (.iload 4, 2) := by decide +kernel
theorem dX11_share_75 : decode cX11_share 75 = .ok (.iconst (-1), 1) := by decide +kernel
theorem dX11_share_76 : decode cX11_share 76 = .ok (.ixor, 1) := by decide +kernel
theorem dX11_share_77 : decode cX11_share 77 = .ok (.iand, 1) := by decide +kernel
theorem dX11_share_78 : decode cX11_share 78 = .ok (.iconst (-1), 1) := by decide +kernel
theorem dX11_share_79 : decode cX11_share 79 = .ok (.ixor, 1) := by decide +kernel
theorem dX11_share_80 : decode cX11_share 80 = .ok (.iand, 1) := by decide +kernel
theorem dX11_share_81 : decode cX11_share 81 = .ok (.ifCond .ne 60, 3) := by decide +kernel
theorem dX11_share_84 : decode cX11_share 84 = .ok (.iload 8, 2) := by decide +kernel
theorem dX11_share_86 : decode cX11_share 86 = .ok (.invokestatic 205, 3) := by decide +kernel
theorem dX11_share_89 : decode cX11_share 89 = .ok (.istore 9, 2) := by decide +kernel
theorem dX11_share_91 : decode cX11_share 91 = .ok (.aload 5, 2) := by decide +kernel
theorem dX11_share_93 : decode cX11_share 93 = .ok (.iload 8, 2) := by decide +kernel
theorem dX11_share_95 : decode cX11_share 95 = .ok (.iload 4, 2) := by decide +kernel
theorem dX11_share_97 : decode cX11_share 97 = .ok (.ior, 1) := by decide +kernel
theorem dX11_share_98 : decode cX11_share 98 = .ok (.invokevirtual 128, 3) := by decide +kernel
theorem dX11_share_101 : decode cX11_share 101 = .ok (.invokestatic 205, 3) := by decide +kernel
theorem dX11_share_104 : decode cX11_share 104 = .ok (.aload 5, 2) := by decide +kernel
theorem dX11_share_106 : decode cX11_share 106 = .ok (.iload 8, 2) := by decide +kernel
theorem dX11_share_108 : decode cX11_share 108 = .ok (.invokevirtual 128, 3) := by decide +kernel
theorem dX11_share_111 : decode cX11_share 111 = .ok (.invokestatic 205, 3) := by decide +kernel
theorem dX11_share_114 : decode cX11_share 114 = .ok (.isub, 1) := by decide +kernel
theorem dX11_share_115 : decode cX11_share 115 = .ok (.istore 10, 2) := by decide +kernel
theorem dX11_share_117 : decode cX11_share 117 = .ok (.iload 7, 2) := by decide +kernel
theorem dX11_share_119 : decode cX11_share 119 = .ok (.iload 9, 2) := by decide +kernel
theorem dX11_share_121 : decode cX11_share 121 = .ok (.invokestatic 227, 3) := by decide +kernel
theorem dX11_share_124 : decode cX11_share 124 = .ok (.iload 6, 2) := by decide +kernel
theorem dX11_share_126 : decode cX11_share 126 = .ok (.iconst 1, 1) := by decide +kernel
theorem dX11_share_127 : decode cX11_share 127 = .ok (.isub, 1) := by decide +kernel
theorem dX11_share_128 : decode cX11_share 128 = .ok (.iload 9, 2) := by decide +kernel
theorem dX11_share_130 : decode cX11_share 130 = .ok (.isub, 1) := by decide +kernel
theorem dX11_share_131 : decode cX11_share 131 = .ok (.invokestatic 227, 3) := by decide +kernel
theorem dX11_share_134 : decode cX11_share 134 = .ok (.imul, 1) := by decide +kernel
theorem dX11_share_135 : decode cX11_share 135 = .ok (.iload 10, 2) := by decide +kernel
theorem dX11_share_137 : decode cX11_share 137 = .ok (.imul, 1) := by decide +kernel
theorem dX11_share_138 : decode cX11_share 138 = .ok (.iadd, 1) := by decide +kernel
theorem dX11_share_139 : decode cX11_share 139 = .ok (.istore 7, 2) := by decide +kernel
theorem dX11_share_141 : decode cX11_share 141 = .ok (.iinc 8 1, 3) := by decide +kernel
theorem dX11_share_144 : decode cX11_share 144 = .ok (.goto (-81), 3) := by decide +kernel
theorem dX11_share_147 : decode cX11_share 147 = .ok (.iload 7, 2) := by decide +kernel
theorem dX11_share_149 : decode cX11_share 149 = .ok (.iload 6, 2) := by decide +kernel
theorem dX11_share_151 : decode cX11_share 151 = .ok (.invokestatic 227, 3) := by decide +kernel
theorem dX11_share_154 : decode cX11_share 154 = .ok (.iload_n 2, 1) := by decide +kernel
theorem dX11_share_155 : decode cX11_share 155 = .ok (.invokestatic 230, 3) := by decide +kernel
theorem dX11_share_158 : decode cX11_share 158 = .ok (.ireturn, 1) := by decide +kernel
theorem dX11_factorial_0 : decode cX11_factorial 0 = .ok (.iload_n 0, 1) := by decide +kernel
theorem dX11_factorial_1 : decode cX11_factorial 1 = .ok (.ifCond .lt 11, 3) := by decide +kernel
theorem dX11_factorial_4 : decode cX11_factorial 4 = .ok (.iload_n 0, 1) := by decide +kernel
theorem dX11_factorial_5 : decode cX11_factorial 5 = .ok (.getstatic 234, 3) := by decide +kernel
theorem dX11_factorial_8 : decode cX11_factorial 8 = .ok (.arraylength, 1) := by decide +kernel
theorem dX11_factorial_9 : decode cX11_factorial 9 = .ok (.if_icmp .lt 7, 3) := by decide +kernel
theorem dX11_factorial_12 : decode cX11_factorial 12 = .ok (.iconst 1, 1) := by decide +kernel
theorem dX11_factorial_13 : decode cX11_factorial 13 = .ok (.goto 8, 3) := by decide +kernel
theorem dX11_factorial_16 : decode cX11_factorial 16 = .ok (.getstatic 234, 3) := by decide +kernel
theorem dX11_factorial_19 : decode cX11_factorial 19 = .ok (.iload_n 0, 1) := by decide +kernel
theorem dX11_factorial_20 : decode cX11_factorial 20 = .ok (.iaload, 1) := by decide +kernel
theorem dX11_factorial_21 : decode cX11_factorial 21 = .ok (.ireturn, 1) := by decide +kernel
theorem dX11_part_0 : decode cX11_part 0 = .ok (.iload_n 1, 1) := by decide +kernel
theorem dX11_part_1 : decode cX11_part 1 = .ok (.istore_n 3, 1) := by decide +kernel
theorem dX11_part_2 : decode cX11_part 2 = .ok (.iload_n 0, 1) := by decide +kernel
theorem dX11_part_3 : decode cX11_part 3 = .ok (.istore 4, 2) := by decide +kernel
theorem dX11_part_5 : decode cX11_part 5 = .ok (.iconst 0, 1) := by decide +kernel
theorem dX11_part_6 : decode cX11_part 6 = .ok (.istore 5, 2) := by decide +kernel
theorem dX11_part_8 : decode cX11_part 8 = .ok (.iload 5, 2) := by decide +kernel
theorem dX11_part_10 : decode cX11_part 10 = .ok (.bipush 64, 2) := by decide +kernel
theorem dX11_part_12 : decode cX11_part 12 = .ok (.if_icmp .ge 27, 3) := by decide +kernel
theorem dX11_part_15 : decode cX11_part 15 = .ok (.iload 4, 2) := by decide +kernel
theorem dX11_part_17 : decode cX11_part 17 = .ok (.ifCond .eq 22, 3) := by decide +kernel
theorem dX11_part_20 : decode cX11_part 20 = .ok (.iload_n 3, 1) := by decide +kernel
theorem dX11_part_21 : decode cX11_part 21 = .ok (.iload 4, 2) := by decide +kernel
theorem dX11_part_23 : decode cX11_part 23 = .ok (.irem, 1) := by decide +kernel
theorem dX11_part_24 : decode cX11_part 24 = .ok (.istore 6, 2) := by decide +kernel
theorem dX11_part_26 : decode cX11_part 26 = .ok (.iload 4, 2) := by decide +kernel
theorem dX11_part_28 : decode cX11_part 28 = .ok (.istore_n 3, 1) := by decide +kernel
theorem dX11_part_29 : decode cX11_part 29 = .ok (.iload 6, 2) := by decide +kernel
theorem dX11_part_31 : decode cX11_part 31 = .ok (.istore 4, 2) := by decide +kernel
theorem dX11_part_33 : decode cX11_part 33 = .ok (.iinc 5 1, 3) := by decide +kernel
theorem dX11_part_36 : decode cX11_part 36 = .ok (.goto (-28), 3) := by decide +kernel
theorem dX11_part_39 : decode cX11_part 39 = .ok (.iload_n 3, 1) := by decide +kernel
theorem dX11_part_40 : decode cX11_part 40 = .ok (.ifCond .ne 6, 3) := by decide +kernel
theorem dX11_part_43 : decode cX11_part 43 = .ok (.bipush (-9), 2) := by decide +kernel
theorem dX11_part_45 : decode cX11_part 45 = .ok (.ireturn, 1) := by decide +kernel
theorem dX11_part_46 : decode cX11_part 46 = .ok (.iload_n 2, 1) := by decide +kernel
theorem dX11_part_47 : decode cX11_part 47 = .ok (.ifCond .eq 9, 3) := by decide +kernel
theorem dX11_part_50 : decode cX11_part 50 = .ok (.iload_n 0, 1) := by decide +kernel
theorem dX11_part_51 : decode cX11_part 51 = .ok (.iload_n 3, 1) := by decide +kernel
theorem dX11_part_52 : decode cX11_part 52 = .ok (.idiv, 1) := by decide +kernel
theorem dX11_part_53 : decode cX11_part 53 = .ok (.goto 6, 3) := by decide +kernel
theorem dX11_part_56 : decode cX11_part 56 = .ok (.iload_n 1, 1) := by decide +kernel
theorem dX11_part_57 : decode cX11_part 57 = .ok (.iload_n 3, 1) := by decide +kernel
theorem dX11_part_58 : decode cX11_part 58 = .ok (.idiv, 1) := by decide +kernel
theorem dX11_part_59 : decode cX11_part 59 = .ok (.ireturn, 1) := by decide +kernel
theorem dX11_see_0 : decode cX11_see 0 = .ok (.iload_n 1, 1) := by decide +kernel
theorem dX11_see_1 : decode cX11_see 1 = .ok (.ifCond .lt 14, 3) := by decide +kernel
theorem dX11_see_4 : decode cX11_see 4 = .ok (.iload_n 1, 1) := by decide +kernel
theorem dX11_see_5 : decode cX11_see 5 = .ok (.aload_n 0, 1) := by decide +kernel
theorem dX11_see_6 : decode cX11_see 6 = .ok (.getfield 23, 3) := by decide +kernel
theorem dX11_see_9 : decode cX11_see 9 = .ok (.getfield 105, 3) := by decide +kernel
theorem dX11_see_12 : decode cX11_see 12 = .ok (.if_icmp .lt 5, 3) := by decide +kernel
theorem dX11_see_15 : decode cX11_see 15 = .ok (.iconst (-1), 1) := by decide +kernel
theorem dX11_see_16 : decode cX11_see 16 = .ok (.ireturn, 1) := by decide +kernel
theorem dX11_see_17 : decode cX11_see 17 = .ok (.iload_n 2, 1) := by decide +kernel
theorem dX11_see_18 : decode cX11_see 18 = .ok (.ifCond .lt 8, 3) := by decide +kernel
theorem dX11_see_21 : decode cX11_see 21 = .ok (.iload_n 2, 1) := by decide +kernel
theorem dX11_see_22 : decode cX11_see 22 = .ok (.iconst 1, 1) := by decide +kernel
theorem dX11_see_23 : decode cX11_see 23 = .ok (.if_icmp .le 6, 3) := by decide +kernel
theorem dX11_see_26 : decode cX11_see 26 = .ok (.bipush (-2), 2) := by decide +kernel
theorem dX11_see_28 : decode cX11_see 28 = .ok (.ireturn, 1) := by decide +kernel
theorem dX11_see_29 : decode cX11_see 29 = .ok (.aload_n 0, 1) := by decide +kernel
theorem dX11_see_30 : decode cX11_see 30 = .ok (.getfield 159, 3) := by decide +kernel
theorem dX11_see_33 : decode cX11_see 33 = .ok (.ifCond .lt 27, 3) := by decide +kernel
theorem dX11_see_36 : decode cX11_see 36 = .ok (.aload_n 0, 1) := by decide +kernel
theorem dX11_see_37 : decode cX11_see 37 = .ok (.getfield 159, 3) := by decide +kernel
theorem dX11_see_40 : decode cX11_see 40 = .ok (.aload_n 0, 1) := by decide +kernel
theorem dX11_see_41 : decode cX11_see 41 = .ok (.getfield 47, 3) := by decide +kernel
theorem dX11_see_44 : decode cX11_see 44 = .ok (.arraylength, 1) := by decide +kernel
theorem dX11_see_45 : decode cX11_see 45 = .ok (.if_icmp .ge 15, 3) := by decide +kernel
theorem dX11_see_48 : decode cX11_see 48 = .ok (.aload_n 0, 1) := by decide +kernel
theorem dX11_see_49 : decode cX11_see 49 = .ok (.getfield 159, 3) := by decide +kernel
theorem dX11_see_52 : decode cX11_see 52 = .ok (.aload_n 0, 1) := by decide +kernel
theorem dX11_see_53 : decode cX11_see 53 = .ok (.getfield 50, 3) := by decide +kernel
theorem dX11_see_56 : decode cX11_see 56 = .ok (.arraylength, 1) := by decide +kernel
theorem dX11_see_57 : decode cX11_see 57 = .ok (.if_icmp .lt 6, 3) := by decide +kernel
theorem dX11_see_60 : decode cX11_see 60 = .ok (.bipush (-4), 2) := by decide +kernel
theorem dX11_see_62 : decode cX11_see 62 = .ok (.ireturn, 1) := by decide +kernel
theorem dX11_see_63 : decode cX11_see 63 = .ok (.aload_n 0, 1) := by decide +kernel
theorem dX11_see_64 : decode cX11_see 64 = .ok (.getfield 47, 3) := by decide +kernel
theorem dX11_see_67 : decode cX11_see 67 = .ok (.aload_n 0, 1) := by decide +kernel
theorem dX11_see_68 : decode cX11_see 68 = .ok (.getfield 159, 3) := by decide +kernel
theorem dX11_see_71 : decode cX11_see 71 = .ok (.iload_n 1, 1) := by decide +kernel
theorem dX11_see_72 : decode cX11_see 72 = .ok (.iastore, 1) := by decide +kernel
theorem dX11_see_73 : decode cX11_see 73 = .ok (.aload_n 0, 1) := by decide +kernel
theorem dX11_see_74 : decode cX11_see 74 = .ok (.getfield 50, 3) := by decide +kernel
theorem dX11_see_77 : decode cX11_see 77 = .ok (.aload_n 0, 1) := by decide +kernel
theorem dX11_see_78 : decode cX11_see 78 = .ok (.getfield 159, 3) := by decide +kernel
theorem dX11_see_81 : decode cX11_see 81 = .ok (.iload_n 2, 1) := by decide +kernel
theorem dX11_see_82 : decode cX11_see 82 = .ok (.iastore, 1) := by decide +kernel
theorem dX11_see_83 : decode cX11_see 83 = .ok (.aload_n 0, 1) := by decide +kernel
theorem dX11_see_84 : decode cX11_see 84 = .ok (.dup, 1) := by decide +kernel
theorem dX11_see_85 : decode cX11_see 85 = .ok (.getfield 159, 3) := by decide +kernel
theorem dX11_see_88 : decode cX11_see 88 = .ok (.iconst 1, 1) := by decide +kernel
theorem dX11_see_89 : decode cX11_see 89 = .ok (.iadd, 1) := by decide +kernel
theorem dX11_see_90 : decode cX11_see 90 = .ok (.putfield 159, 3) := by decide +kernel
theorem dX11_see_93 : decode cX11_see 93 = .ok (.aload_n 0, 1) := by decide +kernel
theorem dX11_see_94 : decode cX11_see 94 = .ok (.getfield 159, 3) := by decide +kernel
theorem dX11_see_97 : decode cX11_see 97 = .ok (.ireturn, 1) := by decide +kernel
theorem dX11_unsee_0 : decode cX11_unsee 0 = .ok (.aload_n 0, 1) := by decide +kernel
theorem dX11_unsee_1 : decode cX11_unsee 1 = .ok (.getfield 159, 3) := by decide +kernel
theorem dX11_unsee_4 : decode cX11_unsee 4 = .ok (.istore_n 1, 1) := by decide +kernel
theorem dX11_unsee_5 : decode cX11_unsee 5 = .ok (.aload_n 0, 1) := by decide +kernel
theorem dX11_unsee_6 : decode cX11_unsee 6 = .ok (.iconst 0, 1) := by decide +kernel
theorem dX11_unsee_7 : decode cX11_unsee 7 = .ok (.putfield 159, 3) := by decide +kernel
theorem dX11_unsee_10 : decode cX11_unsee 10 = .ok (.iload_n 1, 1) := by decide +kernel
theorem dX11_unsee_11 : decode cX11_unsee 11 = .ok (.ireturn, 1) := by decide +kernel
theorem dX11_which_0 : decode cX11_which 0 = .ok (.iload_n 1, 1) := by decide +kernel
theorem dX11_which_1 : decode cX11_which 1 = .ok (.ifCond .lt 8, 3) := by decide +kernel
theorem dX11_which_4 : decode cX11_which 4 = .ok (.iload_n 1, 1) := by decide +kernel
theorem dX11_which_5 : decode cX11_which 5 = .ok (.iconst 1, 1) := by decide +kernel
theorem dX11_which_6 : decode cX11_which 6 = .ok (.if_icmp .le 6, 3) := by decide +kernel
theorem dX11_which_9 : decode cX11_which 9 = .ok (.bipush (-2), 2) := by decide +kernel
theorem dX11_which_11 : decode cX11_which 11 = .ok (.ireturn, 1) := by decide +kernel
theorem dX11_which_12 : decode cX11_which 12 = .ok (.aload_n 0, 1) := by decide +kernel
theorem dX11_which_13 : decode cX11_which 13 = .ok (.invokevirtual 237, 3) := by decide +kernel
theorem dX11_which_16 : decode cX11_which 16 = .ok (.iload_n 1, 1) := by decide +kernel
theorem dX11_which_17 : decode cX11_which 17 = .ok (.ifCond .ne 13, 3) := by decide +kernel
theorem dX11_which_20 : decode cX11_which 20 = .ok (.aload_n 0, 1) := by decide +kernel
theorem dX11_which_21 : decode cX11_which 21 = .ok (.getfield 59, 3) := by decide +kernel
theorem dX11_which_24 : decode cX11_which 24 = .ok (.invokevirtual 155, 3) := by decide +kernel
theorem dX11_which_27 : decode cX11_which 27 = .ok (.goto 10, 3) := by decide +kernel
theorem dX11_which_30 : decode cX11_which 30 = .ok (.aload_n 0, 1) := by decide +kernel
theorem dX11_which_31 : decode cX11_which 31 = .ok (.getfield 59, 3) := by decide +kernel
theorem dX11_which_34 : decode cX11_which 34 = .ok (.invokevirtual 240, 3) := by decide +kernel
theorem dX11_which_37 : decode cX11_which 37 = .ok (.ireturn, 1) := by decide +kernel
theorem dX11_findAgreeing_0 : decode cX11_findAgreeing 0 = .ok (.aload_n 0, 1) := by decide +kernel
theorem dX11_findAgreeing_1 : decode cX11_findAgreeing 1 = .ok (.getfield 33, 3) := by decide +kernel
theorem dX11_findAgreeing_4 : decode cX11_findAgreeing 4 = .ok (.aload_n 0, 1) := by decide +kernel
theorem dX11_findAgreeing_5 : decode cX11_findAgreeing 5 = .ok (.getfield 59, 3) := by decide +kernel
theorem dX11_findAgreeing_8 : decode cX11_findAgreeing 8 = .ok (.invokevirtual 243, 3) := by decide +kernel
theorem dX11_findAgreeing_11 : decode cX11_findAgreeing 11 = .ok (.iconst 0, 1) := by decide +kernel
theorem dX11_findAgreeing_12 : decode cX11_findAgreeing 12 = .ok (.istore_n 1, 1) := by decide +kernel
theorem dX11_findAgreeing_13 : decode cX11_findAgreeing 13 = .ok (.iload_n 1, 1) := by decide +kernel
theorem dX11_findAgreeing_14 : decode cX11_findAgreeing 14 = .ok (.aload_n 0, 1) := by decide +kernel
theorem dX11_findAgreeing_15 : decode cX11_findAgreeing 15 = .ok (.getfield 159, 3) := by decide +kernel
theorem dX11_findAgreeing_18 : decode cX11_findAgreeing 18 = .ok (.if_icmp .ge 103, 3) := by decide +kernel
theorem dX11_findAgreeing_21 : decode cX11_findAgreeing 21 = .ok (.iload_n 1, 1) := by decide +kernel
theorem dX11_findAgreeing_22 : decode cX11_findAgreeing 22 = .ok (.aload_n 0, 1) := by decide +kernel
theorem dX11_findAgreeing_23 : decode cX11_findAgreeing 23 = .ok (.getfield 47, 3) := by decide +kernel
theorem dX11_findAgreeing_26 : decode cX11_findAgreeing 26 = .ok (.arraylength, 1) := by decide +kernel
theorem dX11_findAgreeing_27 : decode cX11_findAgreeing 27 = .ok (.if_icmp .ge 94, 3) := by decide +kernel
theorem dX11_findAgreeing_30 : decode cX11_findAgreeing 30 = .ok (.iload_n 1, 1) := by decide +kernel
theorem dX11_findAgreeing_31 : decode cX11_findAgreeing 31 = .ok (.aload_n 0, 1) := by decide +kernel
theorem dX11_findAgreeing_32 : decode cX11_findAgreeing 32 = .ok (.getfield 50, 3) := by decide +kernel
theorem dX11_findAgreeing_35 : decode cX11_findAgreeing 35 = .ok (.arraylength, 1) := by decide +kernel
theorem dX11_findAgreeing_36 : decode cX11_findAgreeing 36 = .ok (.if_icmp .ge 85, 3) := by decide +kernel
theorem dX11_findAgreeing_39 : decode cX11_findAgreeing 39 = .ok (.aload_n 0, 1) := by decide +kernel
theorem dX11_findAgreeing_40 : decode cX11_findAgreeing 40 = .ok (.getfield 47, 3) := by decide +kernel
theorem dX11_findAgreeing_43 : decode cX11_findAgreeing 43 = .ok (.iload_n 1, 1) := by decide +kernel
theorem dX11_findAgreeing_44 : decode cX11_findAgreeing 44 = .ok (.iaload, 1) := by decide +kernel
theorem dX11_findAgreeing_45 : decode cX11_findAgreeing 45 = .ok (.istore_n 2, 1) := by decide +kernel
theorem dX11_findAgreeing_46 : decode cX11_findAgreeing 46 = .ok (.iload_n 2, 1) := by decide +kernel
theorem dX11_findAgreeing_47 : decode cX11_findAgreeing 47 = .ok (.aload_n 0, 1) := by decide +kernel
theorem dX11_findAgreeing_48 : decode cX11_findAgreeing 48 = .ok (.getfield 23, 3) := by decide +kernel
theorem dX11_findAgreeing_51 : decode cX11_findAgreeing 51 = .ok (.getfield 105, 3) := by decide +kernel
theorem dX11_findAgreeing_54 : decode cX11_findAgreeing 54 = .ok (.if_icmp .ge 44, 3) := by decide +kernel
theorem dX11_findAgreeing_57 : decode cX11_findAgreeing 57 = .ok (.aload_n 0, 1) := by decide +kernel
theorem dX11_findAgreeing_58 : decode cX11_findAgreeing 58 = .ok (.getfield 68, 3) := by decide +kernel
theorem dX11_findAgreeing_61 : decode cX11_findAgreeing 61 = .ok (.iload_n 2, 1) := by decide +kernel
theorem dX11_findAgreeing_62 : decode cX11_findAgreeing 62 = .ok (.invokevirtual 247, 3) := by decide +kernel
theorem dX11_findAgreeing_65 : decode cX11_findAgreeing 65 = .ok (.astore_n 3, 1) := by decide +kernel
theorem dX11_findAgreeing_66 : decode cX11_findAgreeing 66 = .ok (.aload_n 0, 1) := by decide +kernel
theorem dX11_findAgreeing_67 : decode cX11_findAgreeing 67 = .ok (.getfield 50, 3) := by decide +kernel
theorem dX11_findAgreeing_70 : decode cX11_findAgreeing 70 = .ok (.iload_n 1, 1) := by decide +kernel
theorem dX11_findAgreeing_71 : decode cX11_findAgreeing 71 = .ok (.iaload, 1) := by decide +kernel
theorem dX11_findAgreeing_72 : decode cX11_findAgreeing 72 = .ok (.iconst 1, 1) := by decide +kernel
theorem dX11_findAgreeing_73 : decode cX11_findAgreeing 73 = .ok (.if_icmp .ne 14, 3) := by decide +kernel
theorem dX11_findAgreeing_76 : decode cX11_findAgreeing 76 = .ok (.aload_n 0, 1) := by decide +kernel
theorem dX11_findAgreeing_77 : decode cX11_findAgreeing 77 = .ok (.getfield 59, 3) := by decide +kernel
theorem dX11_findAgreeing_80 : decode cX11_findAgreeing 80 = .ok (.aload_n 3, 1) := by decide +kernel
theorem dX11_findAgreeing_81 : decode cX11_findAgreeing 81 = .ok (.invokevirtual 251, 3) := by decide +kernel
theorem dX11_findAgreeing_84 : decode cX11_findAgreeing 84 = .ok (.goto 11, 3) := by decide +kernel
theorem dX11_findAgreeing_87 : decode cX11_findAgreeing 87 = .ok (.aload_n 0, 1) := by decide +kernel
theorem dX11_findAgreeing_88 : decode cX11_findAgreeing 88 = .ok (.getfield 59, 3) := by decide +kernel
theorem dX11_findAgreeing_91 : decode cX11_findAgreeing 91 = .ok (.aload_n 3, 1) := by decide +kernel
theorem dX11_findAgreeing_92 : decode cX11_findAgreeing 92 = .ok (.invokevirtual 254, 3) := by decide +kernel
theorem dX11_findAgreeing_95 : decode cX11_findAgreeing 95 = .ok (.goto 20, 3) := by decide +kernel
theorem dX11_findAgreeing_98 : decode cX11_findAgreeing 98 = .ok (.aload_n 0, 1) := by decide +kernel
theorem dX11_findAgreeing_99 : decode cX11_findAgreeing 99 = .ok (.getfield 50, 3) := by decide +kernel
theorem dX11_findAgreeing_102 : decode cX11_findAgreeing 102 = .ok (.iload_n 1, 1) := by decide +kernel
theorem dX11_findAgreeing_103 : decode cX11_findAgreeing 103 = .ok (.iaload, 1) := by decide +kernel
theorem dX11_findAgreeing_104 : decode cX11_findAgreeing 104 = .ok (.iconst 1, 1) := by decide +kernel
theorem dX11_findAgreeing_105 : decode cX11_findAgreeing 105 = .ok (.if_icmp .ne 10, 3) := by decide +kernel
theorem dX11_findAgreeing_108 : decode cX11_findAgreeing 108 = .ok (.aload_n 0, 1) := by decide +kernel
theorem dX11_findAgreeing_109 : decode cX11_findAgreeing 109 = .ok (.getfield 59, 3) := by decide +kernel
theorem dX11_findAgreeing_112 : decode cX11_findAgreeing 112 = .ok (.invokevirtual 257, 3) := by decide +kernel
theorem dX11_findAgreeing_115 : decode cX11_findAgreeing 115 = .ok (.iinc 1 1, 3) := by decide +kernel
theorem dX11_findAgreeing_118 : decode cX11_findAgreeing 118 = .ok (.goto (-105), 3) := by decide +kernel
theorem dX11_findAgreeing_121 : decode cX11_findAgreeing 121 = .ok (.return_, 1) := by decide +kernel
theorem dX11_lost_0 : decode cX11_lost 0 = .ok (.iload_n 1, 1) := by decide +kernel
theorem dX11_lost_1 : decode cX11_lost 1 = .ok (.ifCond .lt 9, 3) := by decide +kernel
theorem dX11_lost_4 : decode cX11_lost 4 = .ok (.iload_n 1, 1) := by decide +kernel
theorem dX11_lost_5 : decode cX11_lost 5 = .ok (.bipush 10, 2) := by decide +kernel
theorem dX11_lost_7 : decode cX11_lost 7 = .ok (.if_icmp .le 6, 3) := by decide +kernel
theorem dX11_lost_10 : decode cX11_lost 10 = .ok (.bipush (-2), 2) := by decide +kernel
theorem dX11_lost_12 : decode cX11_lost 12 = .ok (.ireturn, 1) := by decide +kernel
theorem dX11_lost_13 : decode cX11_lost 13 = .ok (.aload_n 0, 1) := by decide +kernel
theorem dX11_lost_14 : decode cX11_lost 14 = .ok (.aload_n 0, 1) := by decide +kernel
theorem dX11_lost_15 : decode cX11_lost 15 = .ok (.getfield 33, 3) := by decide +kernel
theorem dX11_lost_18 : decode cX11_lost 18 = .ok (.invokevirtual 124, 3) := by decide +kernel
theorem dX11_lost_21 : decode cX11_lost 21 = .ok (.istore_n 3, 1) := by decide +kernel
theorem dX11_lost_22 : decode cX11_lost 22 = .ok (.aload_n 0, 1) := by decide +kernel
theorem dX11_lost_23 : decode cX11_lost 23 = .ok (.aload_n 0, 1) := by decide +kernel
theorem dX11_lost_24 : decode cX11_lost 24 = .ok (.getfield 33, 3) := by decide +kernel
theorem dX11_lost_27 : decode cX11_lost 27 = .ok (.invokevirtual 120, 3) := by decide +kernel
theorem dX11_lost_30 : decode cX11_lost 30 = .ok (.astore 4, 2) := by decide +kernel
theorem dX11_lost_32 : decode cX11_lost 32 = .ok (.iload_n 3, 1) := by decide +kernel
theorem dX11_lost_33 : decode cX11_lost 33 = .ok (.invokestatic 205, 3) := by decide +kernel
theorem dX11_lost_36 : decode cX11_lost 36 = .ok (.istore 5, 2) := by decide +kernel
theorem dX11_lost_38 : decode cX11_lost 38 = .ok (.iconst 1, 1) := by decide +kernel
theorem dX11_lost_39 : decode cX11_lost 39 = .ok (.aload_n 0, 1) := by decide +kernel
theorem dX11_lost_40 : decode cX11_lost 40 = .ok (.getfield 23, 3) := by decide +kernel
theorem dX11_lost_43 : decode cX11_lost 43 = .ok (.getfield 105, 3) := by decide +kernel
theorem dX11_lost_46 : decode cX11_lost 46 = .ok (.ishl, 1) := by decide +kernel
theorem dX11_lost_47 : decode cX11_lost 47 = .ok (.iconst 1, 1) := by decide +kernel
theorem dX11_lost_48 : decode cX11_lost 48 = .ok (.isub, 1) := by decide +kernel
theorem dX11_lost_49 : decode cX11_lost 49 = .ok (.istore 6, 2) := by decide +kernel
theorem dX11_lost_51 : decode cX11_lost 51 = .ok (.iconst 0, 1) := by decide +kernel
theorem dX11_lost_52 : decode cX11_lost 52 = .ok (.istore 7, 2) := by decide +kernel
theorem dX11_lost_54 : decode cX11_lost 54 = .ok (.iconst 0, 1) := by decide +kernel
theorem dX11_lost_55 : decode cX11_lost 55 = .ok (.istore 8, 2) := by decide +kernel
theorem dX11_lost_57 : decode cX11_lost 57 = .ok (.iload 8, 2) := by decide +kernel
theorem dX11_lost_59 : decode cX11_lost 59 = .ok (.bipush 32, 2) := by decide +kernel
theorem dX11_lost_61 : decode cX11_lost 61 = .ok (.if_icmp .ge 61, 3) := by decide +kernel
theorem dX11_lost_64 : decode cX11_lost 64 = .ok (.iload 8, 2) := by decide +kernel
theorem dX11_lost_66 : decode cX11_lost 66 = .ok (.iload_n 3, 1) := by decide +kernel
theorem dX11_lost_67 : decode cX11_lost 67 = .ok (.iconst (-1), 1) := by decide +kernel
theorem dX11_lost_68 : decode cX11_lost 68 = .ok (.ixor, 1) := by decide +kernel
theorem dX11_lost_69 : decode cX11_lost 69 = .ok (.iand, 1) := by decide +kernel
theorem dX11_lost_70 : decode cX11_lost 70 = .ok (.ifCond .ne 46, 3) := by decide +kernel
theorem dX11_lost_73 : decode cX11_lost 73 = .ok (.aload 4, 2) := by decide +kernel
theorem dX11_lost_75 : decode cX11_lost 75 = .ok (.iload 8, 2) := by decide +kernel
theorem dX11_lost_77 : decode cX11_lost 77 = .ok (.invokevirtual 128, 3) := by decide +kernel
theorem dX11_lost_80 : decode cX11_lost 80 = .ok (.iload 6, 2) := by decide +kernel
theorem dX11_lost_82 : decode cX11_lost 82 = .ok (.if_icmp .ne 34, 3) := by decide +kernel
theorem dX11_lost_85 : decode cX11_lost 85 = .ok (.iload 8, 2) := by decide +kernel
theorem dX11_lost_87 : decode cX11_lost 87 = .ok (.invokestatic 205, 3) := by decide +kernel
theorem dX11_lost_90 : decode cX11_lost 90 = .ok (.istore 9, 2) := by decide +kernel
theorem dX11_lost_92 : decode cX11_lost 92 = .ok (.iload 7, 2) := by decide +kernel
theorem dX11_lost_94 : decode cX11_lost 94 = .ok (.bipush 10, 2) := by decide +kernel
theorem dX11_lost_96 : decode cX11_lost 96 = .ok (.iload_n 1, 1) := by decide +kernel
theorem dX11_lost_97 : decode cX11_lost 97 = .ok (.isub, 1) := by decide +kernel
theorem dX11_lost_98 : decode cX11_lost 98 = .ok (.iload 9, 2) := by decide +kernel
theorem dX11_lost_100 : decode cX11_lost 100 = .ok (.invokestatic 260, 3) := by decide +kernel
theorem dX11_lost_103 : decode cX11_lost 103 = .ok (.iload_n 1, 1) := by decide +kernel
theorem dX11_lost_104 : decode cX11_lost 104 = .ok (.iload 5, 2) := by decide +kernel
theorem dX11_lost_106 : decode cX11_lost 106 = .ok (.iload 9, 2) := by decide +kernel
theorem dX11_lost_108 : decode cX11_lost 108 = .ok (.isub, 1) := by decide +kernel
theorem dX11_lost_109 : decode cX11_lost 109 = .ok (.invokestatic 260, 3) := by decide +kernel
theorem dX11_lost_112 : decode cX11_lost 112 = .ok (.imul, 1) := by decide +kernel
theorem dX11_lost_113 : decode cX11_lost 113 = .ok (.iadd, 1) := by decide +kernel
theorem dX11_lost_114 : decode cX11_lost 114 = .ok (.istore 7, 2) := by decide +kernel
theorem dX11_lost_116 : decode cX11_lost 116 = .ok (.iinc 8 1, 3) := by decide +kernel
theorem dX11_lost_119 : decode cX11_lost 119 = .ok (.goto (-62), 3) := by decide +kernel
theorem dX11_lost_122 : decode cX11_lost 122 = .ok (.iload 7, 2) := by decide +kernel
theorem dX11_lost_124 : decode cX11_lost 124 = .ok (.bipush 10, 2) := by decide +kernel
theorem dX11_lost_126 : decode cX11_lost 126 = .ok (.iload 5, 2) := by decide +kernel
theorem dX11_lost_128 : decode cX11_lost 128 = .ok (.invokestatic 260, 3) := by decide +kernel
theorem dX11_lost_131 : decode cX11_lost 131 = .ok (.iload_n 2, 1) := by decide +kernel
theorem dX11_lost_132 : decode cX11_lost 132 = .ok (.invokestatic 230, 3) := by decide +kernel
theorem dX11_lost_135 : decode cX11_lost 135 = .ok (.ireturn, 1) := by decide +kernel
theorem dX11_power_0 : decode cX11_power 0 = .ok (.iconst 1, 1) := by decide +kernel
theorem dX11_power_1 : decode cX11_power 1 = .ok (.istore_n 2, 1) := by decide +kernel
theorem dX11_power_2 : decode cX11_power 2 = .ok (.iconst 0, 1) := by decide +kernel
theorem dX11_power_3 : decode cX11_power 3 = .ok (.istore_n 3, 1) := by decide +kernel
theorem dX11_power_4 : decode cX11_power 4 = .ok (.iload_n 3, 1) := by decide +kernel
theorem dX11_power_5 : decode cX11_power 5 = .ok (.iload_n 1, 1) := by decide +kernel
theorem dX11_power_6 : decode cX11_power 6 = .ok (.if_icmp .ge 13, 3) := by decide +kernel
theorem dX11_power_9 : decode cX11_power 9 = .ok (.iload_n 2, 1) := by decide +kernel
theorem dX11_power_10 : decode cX11_power 10 = .ok (.iload_n 0, 1) := by decide +kernel
theorem dX11_power_11 : decode cX11_power 11 = .ok (.imul, 1) := by decide +kernel
theorem dX11_power_12 : decode cX11_power 12 = .ok (.istore_n 2, 1) := by decide +kernel
theorem dX11_power_13 : decode cX11_power 13 = .ok (.iinc 3 1, 3) := by decide +kernel
theorem dX11_power_16 : decode cX11_power 16 = .ok (.goto (-12), 3) := by decide +kernel
theorem dX11_power_19 : decode cX11_power 19 = .ok (.iload_n 2, 1) := by decide +kernel
theorem dX11_power_20 : decode cX11_power 20 = .ok (.ireturn, 1) := by decide +kernel
theorem dX11_seed_0 : decode cX11_seed 0 = .ok (.aload_n 0, 1) := by decide +kernel
theorem dX11_seed_1 : decode cX11_seed 1 = .ok (.getfield 75, 3) := by decide +kernel
theorem dX11_seed_4 : decode cX11_seed 4 = .ok (.getfield 264, 3) := by decide +kernel
theorem dX11_seed_7 : decode cX11_seed 7 = .ok (.lstore_n 3, 1) := by decide +kernel
theorem dX11_seed_8 : decode cX11_seed 8 = .ok (.aload_n 0, 1) := by decide +kernel
theorem dX11_seed_9 : decode cX11_seed 9 = .ok (.getfield 75, 3) := by decide +kernel
theorem dX11_seed_12 : decode cX11_seed 12 = .ok (.lload_n 1, 1) := by decide +kernel
theorem dX11_seed_13 : decode cX11_seed 13 = .ok (.putfield 264, 3) := by decide +kernel
theorem dX11_seed_16 : decode cX11_seed 16 = .ok (.lload_n 3, 1) := by decide +kernel
theorem dX11_seed_17 : decode cX11_seed 17 = .ok (.lreturn, 1) := by decide +kernel
theorem dX11_drawn_0 : decode cX11_drawn 0 = .ok (.iload_n 1, 1) := by decide +kernel
theorem dX11_drawn_1 : decode cX11_drawn 1 = .ok (.iconst 1, 1) := by decide +kernel
theorem dX11_drawn_2 : decode cX11_drawn 2 = .ok (.if_icmp .lt 9, 3) := by decide +kernel
theorem dX11_drawn_5 : decode cX11_drawn 5 = .ok (.iload_n 1, 1) := by decide +kernel
theorem dX11_drawn_6 : decode cX11_drawn 6 = .ok (.bipush 20, 2) := by decide +kernel
theorem dX11_drawn_8 : decode cX11_drawn 8 = .ok (.if_icmp .le 6, 3) := by decide +kernel
theorem dX11_drawn_11 : decode cX11_drawn 11 = .ok (.bipush (-2), 2) := by decide +kernel
theorem dX11_drawn_13 : decode cX11_drawn 13 = .ok (.ireturn, 1) := by decide +kernel
theorem dX11_drawn_14 : decode cX11_drawn 14 = .ok (.iconst 0, 1) := by decide +kernel
theorem dX11_drawn_15 : decode cX11_drawn 15 = .ok (.istore_n 2, 1) := by decide +kernel
theorem dX11_drawn_16 : decode cX11_drawn 16 = .ok (.iconst 0, 1) := by decide +kernel
theorem dX11_drawn_17 : decode cX11_drawn 17 = .ok (.istore_n 3, 1) := by decide +kernel
theorem dX11_drawn_18 : decode cX11_drawn 18 = .ok (.iload_n 3, 1) := by decide +kernel
theorem dX11_drawn_19 : decode cX11_drawn 19 = .ok (.iload_n 1, 1) := by decide +kernel
theorem dX11_drawn_20 : decode cX11_drawn 20 = .ok (.if_icmp .ge 27, 3) := by decide +kernel
theorem dX11_drawn_23 : decode cX11_drawn 23 = .ok (.iload_n 2, 1) := by decide +kernel
theorem dX11_drawn_24 : decode cX11_drawn 24 = .ok (.aload_n 0, 1) := by decide +kernel
theorem dX11_drawn_25 : decode cX11_drawn 25 = .ok (.getfield 75, 3) := by decide +kernel
theorem dX11_drawn_28 : decode cX11_drawn 28 = .ok (.aload_n 0, 1) := by decide +kernel
theorem dX11_drawn_29 : decode cX11_drawn 29 = .ok (.getfield 23, 3) := by decide +kernel
theorem dX11_drawn_32 : decode cX11_drawn 32 = .ok (.aload_n 0, 1) := by decide +kernel
theorem dX11_drawn_33 : decode cX11_drawn 33 = .ok (.getfield 33, 3) := by decide +kernel
theorem dX11_drawn_36 : decode cX11_drawn 36 = .ok (.invokevirtual 268, 3) := by decide +kernel
theorem dX11_drawn_39 : decode cX11_drawn 39 = .ok (.iadd, 1) := by decide +kernel
theorem dX11_drawn_40 : decode cX11_drawn 40 = .ok (.istore_n 2, 1) := by decide +kernel
theorem dX11_drawn_41 : decode cX11_drawn 41 = .ok (.iinc 3 1, 3) := by decide +kernel
theorem dX11_drawn_44 : decode cX11_drawn 44 = .ok (.goto (-26), 3) := by decide +kernel
theorem dX11_drawn_47 : decode cX11_drawn 47 = .ok (.iload_n 2, 1) := by decide +kernel
theorem dX11_drawn_48 : decode cX11_drawn 48 = .ok (.ireturn, 1) := by decide +kernel
theorem dX11_keep_0 : decode cX11_keep 0 = .ok (.iload_n 1, 1) := by decide +kernel
theorem dX11_keep_1 : decode cX11_keep 1 = .ok (.ifCond .lt 12, 3) := by decide +kernel
theorem dX11_keep_4 : decode cX11_keep 4 = .ok (.iload_n 1, 1) := by decide +kernel
theorem dX11_keep_5 : decode cX11_keep 5 = .ok (.aload_n 0, 1) := by decide +kernel
theorem dX11_keep_6 : decode cX11_keep 6 = .ok (.getfield 44, 3) := by decide +kernel
theorem dX11_keep_9 : decode cX11_keep 9 = .ok (.arraylength, 1) := by decide +kernel
theorem dX11_keep_10 : decode cX11_keep 10 = .ok (.if_icmp .lt 5, 3) := by decide +kernel
theorem dX11_keep_13 : decode cX11_keep 13 = .ok (.iconst (-1), 1) := by decide +kernel
theorem dX11_keep_14 : decode cX11_keep 14 = .ok (.ireturn, 1) := by decide +kernel
theorem dX11_keep_15 : decode cX11_keep 15 = .ok (.aload_n 0, 1) := by decide +kernel
theorem dX11_keep_16 : decode cX11_keep 16 = .ok (.getfield 44, 3) := by decide +kernel
theorem dX11_keep_19 : decode cX11_keep 19 = .ok (.iload_n 1, 1) := by decide +kernel
theorem dX11_keep_20 : decode cX11_keep 20 = .ok (.aload_n 0, 1) := by decide +kernel
theorem dX11_keep_21 : decode cX11_keep 21 = .ok (.getfield 33, 3) := by decide +kernel
theorem dX11_keep_24 : decode cX11_keep 24 = .ok (.invokevirtual 194, 3) := by decide +kernel
theorem dX11_keep_27 : decode cX11_keep 27 = .ok (.iastore, 1) := by decide +kernel
theorem dX11_keep_28 : decode cX11_keep 28 = .ok (.aload_n 0, 1) := by decide +kernel
theorem dX11_keep_29 : decode cX11_keep 29 = .ok (.getfield 33, 3) := by decide +kernel
theorem dX11_keep_32 : decode cX11_keep 32 = .ok (.getfield 117, 3) := by decide +kernel
theorem dX11_keep_35 : decode cX11_keep 35 = .ok (.invokestatic 205, 3) := by decide +kernel
theorem dX11_keep_38 : decode cX11_keep 38 = .ok (.ireturn, 1) := by decide +kernel
theorem dX11_again_0 : decode cX11_again 0 = .ok (.iload_n 1, 1) := by decide +kernel
theorem dX11_again_1 : decode cX11_again 1 = .ok (.ifCond .lt 12, 3) := by decide +kernel
theorem dX11_again_4 : decode cX11_again 4 = .ok (.iload_n 1, 1) := by decide +kernel
theorem dX11_again_5 : decode cX11_again 5 = .ok (.aload_n 0, 1) := by decide +kernel
theorem dX11_again_6 : decode cX11_again 6 = .ok (.getfield 44, 3) := by decide +kernel
theorem dX11_again_9 : decode cX11_again 9 = .ok (.arraylength, 1) := by decide +kernel
theorem dX11_again_10 : decode cX11_again 10 = .ok (.if_icmp .lt 5, 3) := by decide +kernel
theorem dX11_again_13 : decode cX11_again 13 = .ok (.iconst (-1), 1) := by decide +kernel
theorem dX11_again_14 : decode cX11_again 14 = .ok (.ireturn, 1) := by decide +kernel
theorem dX11_again_15 : decode cX11_again 15 = .ok (.aload_n 0, 1) := by decide +kernel
theorem dX11_again_16 : decode cX11_again 16 = .ok (.getfield 44, 3) := by decide +kernel
theorem dX11_again_19 : decode cX11_again 19 = .ok (.iload_n 1, 1) := by decide +kernel
theorem dX11_again_20 : decode cX11_again 20 = .ok (.iaload, 1) := by decide +kernel
theorem dX11_again_21 : decode cX11_again 21 = .ok (.iconst (-1), 1) := by decide +kernel
theorem dX11_again_22 : decode cX11_again 22 = .ok (.if_icmp .ne 6, 3) := by decide +kernel
theorem dX11_again_25 : decode cX11_again 25 = .ok (.bipush (-3), 2) := by decide +kernel
theorem dX11_again_27 : decode cX11_again 27 = .ok (.ireturn, 1) := by decide +kernel
theorem dX11_again_28 : decode cX11_again 28 = .ok (.aload_n 0, 1) := by decide +kernel
theorem dX11_again_29 : decode cX11_again 29 = .ok (.getfield 33, 3) := by decide +kernel
theorem dX11_again_32 : decode cX11_again 32 = .ok (.aload_n 0, 1) := by decide +kernel
theorem dX11_again_33 : decode cX11_again 33 = .ok (.getfield 44, 3) := by decide +kernel
theorem dX11_again_36 : decode cX11_again 36 = .ok (.iload_n 1, 1) := by decide +kernel
theorem dX11_again_37 : decode cX11_again 37 = .ok (.iaload, 1) := by decide +kernel
theorem dX11_again_38 : decode cX11_again 38 = .ok (.invokevirtual 197, 3) := by decide +kernel
theorem dX11_again_41 : decode cX11_again 41 = .ok (.aload_n 0, 1) := by decide +kernel
theorem dX11_again_42 : decode cX11_again 42 = .ok (.iconst 0, 1) := by decide +kernel
theorem dX11_again_43 : decode cX11_again 43 = .ok (.putfield 96, 3) := by decide +kernel
theorem dX11_again_46 : decode cX11_again 46 = .ok (.aload_n 0, 1) := by decide +kernel
theorem dX11_again_47 : decode cX11_again 47 = .ok (.getfield 33, 3) := by decide +kernel
theorem dX11_again_50 : decode cX11_again 50 = .ok (.getfield 117, 3) := by decide +kernel
theorem dX11_again_53 : decode cX11_again 53 = .ok (.invokestatic 205, 3) := by decide +kernel
theorem dX11_again_56 : decode cX11_again 56 = .ok (.ireturn, 1) := by decide +kernel
theorem dX11_active_0 : decode cX11_active 0 = .ok (.iconst 1, 1) := by decide +kernel
theorem dX11_active_1 : decode cX11_active 1 = .ok (.aload_n 0, 1) := by decide +kernel
theorem dX11_active_2 : decode cX11_active 2 = .ok (.getfield 23, 3) := by decide +kernel
theorem dX11_active_5 : decode cX11_active 5 = .ok (.getfield 114, 3) := by decide +kernel
theorem dX11_active_8 : decode cX11_active 8 = .ok (.ishl, 1) := by decide +kernel
theorem dX11_active_9 : decode cX11_active 9 = .ok (.iconst 1, 1) := by decide +kernel
theorem dX11_active_10 : decode cX11_active 10 = .ok (.isub, 1) := by decide +kernel
theorem dX11_active_11 : decode cX11_active 11 = .ok (.aload_n 1, 1) := by decide +kernel
theorem dX11_active_12 : decode cX11_active 12 = .ok (.getfield 117, 3) := by decide +kernel
theorem dX11_active_15 : decode cX11_active 15 = .ok (.iconst (-1), 1) := by decide +kernel
theorem dX11_active_16 : decode cX11_active 16 = .ok (.ixor, 1) := by decide +kernel
theorem dX11_active_17 : decode cX11_active 17 = .ok (.iand, 1) := by decide +kernel
theorem dX11_active_18 : decode cX11_active 18 = .ok (.ireturn, 1) := by decide +kernel
theorem dX11_view_0 : decode cX11_view 0 = .ok (.aload_n 0, 1) := by decide +kernel
theorem dX11_view_1 : decode cX11_view 1 = .ok (.getfield 68, 3) := by decide +kernel
theorem dX11_view_4 : decode cX11_view 4 = .ok (.aload_n 1, 1) := by decide +kernel
theorem dX11_view_5 : decode cX11_view 5 = .ok (.invokevirtual 272, 3) := by decide +kernel
theorem dX11_view_8 : decode cX11_view 8 = .ok (.aload_n 0, 1) := by decide +kernel
theorem dX11_view_9 : decode cX11_view 9 = .ok (.getfield 68, 3) := by decide +kernel
theorem dX11_view_12 : decode cX11_view 12 = .ok (.areturn, 1) := by decide +kernel
theorem dX12_init_0 : decode cX12_init 0 = .ok (.aload_n 0, 1) := by decide +kernel
theorem dX12_init_1 : decode cX12_init 1 = .ok (.invokespecial 1, 3) := by decide +kernel
theorem dX12_init_4 : decode cX12_init 4 = .ok (.aload_n 0, 1) := by decide +kernel
theorem dX12_init_5 : decode cX12_init 5 = .ok (.bipush 60, 2) := by decide +kernel
theorem dX12_init_7 : decode cX12_init 7 = .ok (.newarray .int, 2) := by decide +kernel
theorem dX12_init_9 : decode cX12_init 9 = .ok (.putfield 7, 3) := by decide +kernel
theorem dX12_init_12 : decode cX12_init 12 = .ok (.aload_n 0, 1) := by decide +kernel
theorem dX12_init_13 : decode cX12_init 13 = .ok (.bipush 62, 2) := by decide +kernel
theorem dX12_init_15 : decode cX12_init 15 = .ok (.newarray .int, 2) := by decide +kernel
theorem dX12_init_17 : decode cX12_init 17 = .ok (.putfield 13, 3) := by decide +kernel
theorem dX12_init_20 : decode cX12_init 20 = .ok (.aload_n 0, 1) := by decide +kernel
theorem dX12_init_21 : decode cX12_init 21 = .ok (.bipush 62, 2) := by decide +kernel
theorem dX12_init_23 : decode cX12_init 23 = .ok (.newarray .int, 2) := by decide +kernel
theorem dX12_init_25 : decode cX12_init 25 = .ok (.putfield 16, 3) := by decide +kernel
theorem dX12_init_28 : decode cX12_init 28 = .ok (.aload_n 0, 1) := by decide +kernel
theorem dX12_init_29 : decode cX12_init 29 = .ok (.bipush 62, 2) := by decide +kernel
theorem dX12_init_31 : decode cX12_init 31 = .ok (.newarray .int, 2) := by decide +kernel
theorem dX12_init_33 : decode cX12_init 33 = .ok (.putfield 19, 3) := by decide +kernel
theorem dX12_init_36 : decode cX12_init 36 = .ok (.aload_n 0, 1) := by decide +kernel
theorem dX12_init_37 : decode cX12_init 37 = .ok (.bipush 62, 2) := by decide +kernel
theorem dX12_init_39 : decode cX12_init 39 = .ok (.newarray .int, 2) := by decide +kernel
theorem dX12_init_41 : decode cX12_init 41 = .ok (.putfield 22, 3) := by decide +kernel
theorem dX12_init_44 : decode cX12_init 44 = .ok (.aload_n 0, 1) := by decide +kernel
theorem dX12_init_45 : decode cX12_init 45 = .ok (.bipush 62, 2) := by decide +kernel
theorem dX12_init_47 : decode cX12_init 47 = .ok (.newarray .int, 2) := by decide +kernel
theorem dX12_init_49 : decode cX12_init 49 = .ok (.putfield 25, 3) := by decide +kernel
theorem dX12_init_52 : decode cX12_init 52 = .ok (.aload_n 0, 1) := by decide +kernel
theorem dX12_init_53 : decode cX12_init 53 = .ok (.bipush 62, 2) := by decide +kernel
theorem dX12_init_55 : decode cX12_init 55 = .ok (.newarray .int, 2) := by decide +kernel
theorem dX12_init_57 : decode cX12_init 57 = .ok (.putfield 28, 3) := by decide +kernel
theorem dX12_init_60 : decode cX12_init 60 = .ok (.aload_n 0, 1) := by decide +kernel
theorem dX12_init_61 : decode cX12_init 61 = .ok (.iconst 5, 1) := by decide +kernel
theorem dX12_init_62 : decode cX12_init 62 = .ok (.newarray .int, 2) := by decide +kernel
theorem dX12_init_64 : decode cX12_init 64 = .ok (.putfield 31, 3) := by decide +kernel
theorem dX12_init_67 : decode cX12_init 67 = .ok (.aload_n 0, 1) := by decide +kernel
theorem dX12_init_68 : decode cX12_init 68 = .ok (.iconst 5, 1) := by decide +kernel
theorem dX12_init_69 : decode cX12_init 69 = .ok (.newarray .int, 2) := by decide +kernel
theorem dX12_init_71 : decode cX12_init 71 = .ok (.putfield 34, 3) := by decide +kernel
theorem dX12_init_74 : decode cX12_init 74 = .ok (.aload_n 0, 1) := by decide +kernel
theorem dX12_init_75 : decode cX12_init 75 = .ok (.iconst 5, 1) := by decide +kernel
theorem dX12_init_76 : decode cX12_init 76 = .ok (.newarray .int, 2) := by decide +kernel
theorem dX12_init_78 : decode cX12_init 78 = .ok (.putfield 37, 3) := by decide +kernel
theorem dX12_init_81 : decode cX12_init 81 = .ok (.aload_n 0, 1) := by decide +kernel
theorem dX12_init_82 : decode cX12_init 82 = .ok (.bipush 62, 2) := by decide +kernel
theorem dX12_init_84 : decode cX12_init 84 = .ok (.newarray .int, 2) := by decide +kernel
theorem dX12_init_86 : decode cX12_init 86 = .ok (.putfield 40, 3) := by decide +kernel
theorem dX12_init_89 : decode cX12_init 89 = .ok (.aload_n 0, 1) := by decide +kernel
theorem dX12_init_90 : decode cX12_init 90 = .ok (.bipush 62, 2) := by decide +kernel
theorem dX12_init_92 : decode cX12_init 92 = .ok (.newarray .int, 2) := by decide +kernel
theorem dX12_init_94 : decode cX12_init 94 = .ok (.putfield 43, 3) := by decide +kernel
theorem dX12_init_97 : decode cX12_init 97 = .ok (.aload_n 0, 1) := by decide +kernel
theorem dX12_init_98 : decode cX12_init 98 = .ok (.bipush 62, 2) := by decide +kernel
theorem dX12_init_100 : decode cX12_init 100 = .ok (.newarray .int, 2) := by decide +kernel
theorem dX12_init_102 : decode cX12_init 102 = .ok (.putfield 46, 3) := by decide +kernel
theorem dX12_init_105 : decode cX12_init 105 = .ok (.aload_n 0, 1) := by decide +kernel
theorem dX12_init_106 : decode cX12_init 106 = .ok (.bipush 62, 2) := by decide +kernel
theorem dX12_init_108 : decode cX12_init 108 = .ok (.newarray .int, 2) := by decide +kernel
theorem dX12_init_110 : decode cX12_init 110 = .ok (.putfield 49, 3) := by decide +kernel
theorem dX12_init_113 : decode cX12_init 113 = .ok (.aload_n 0, 1) := by decide +kernel
theorem dX12_init_114 : decode cX12_init 114 = .ok (.bipush 62, 2) := by decide +kernel
theorem dX12_init_116 : decode cX12_init 116 = .ok (.newarray .int, 2) := by decide +kernel
theorem dX12_init_118 : decode cX12_init 118 = .ok (.putfield 52, 3) := by decide +kernel
theorem dX12_init_121 : decode cX12_init 121 = .ok (.aload_n 0, 1) := by decide +kernel
theorem dX12_init_122 : decode cX12_init 122 = .ok (.bipush 62, 2) := by decide +kernel
theorem dX12_init_124 : decode cX12_init 124 = .ok (.newarray .int, 2) := by decide +kernel
theorem dX12_init_126 : decode cX12_init 126 = .ok (.putfield 55, 3) := by decide +kernel
theorem dX12_init_129 : decode cX12_init 129 = .ok (.aload_n 0, 1) := by decide +kernel
theorem dX12_init_130 : decode cX12_init 130 = .ok (.iconst 5, 1) := by decide +kernel
theorem dX12_init_131 : decode cX12_init 131 = .ok (.newarray .int, 2) := by decide +kernel
theorem dX12_init_133 : decode cX12_init 133 = .ok (.putfield 58, 3) := by decide +kernel
theorem dX12_init_136 : decode cX12_init 136 = .ok (.aload_n 0, 1) := by decide +kernel
theorem dX12_init_137 : decode cX12_init 137 = .ok (.iconst 5, 1) := by decide +kernel
theorem dX12_init_138 : decode cX12_init 138 = .ok (.newarray .int, 2) := by decide +kernel
theorem dX12_init_140 : decode cX12_init 140 = .ok (.putfield 61, 3) := by decide +kernel
theorem dX12_init_143 : decode cX12_init 143 = .ok (.aload_n 0, 1) := by decide +kernel
theorem dX12_init_144 : decode cX12_init 144 = .ok (.iconst 5, 1) := by decide +kernel
theorem dX12_init_145 : decode cX12_init 145 = .ok (.newarray .int, 2) := by decide +kernel
theorem dX12_init_147 : decode cX12_init 147 = .ok (.putfield 64, 3) := by decide +kernel
theorem dX12_init_150 : decode cX12_init 150 = .ok (.aload_n 0, 1) := by decide +kernel
theorem dX12_init_151 : decode cX12_init 151 = .ok (.bipush 8, 2) := by decide +kernel
theorem dX12_init_153 : decode cX12_init 153 = .ok (.newarray .int, 2) := by decide +kernel
theorem dX12_init_155 : decode cX12_init 155 = .ok (.putfield 67, 3) := by decide +kernel
theorem dX12_init_158 : decode cX12_init 158 = .ok (.aload_n 0, 1) := by decide +kernel
theorem dX12_init_159 : decode cX12_init 159 = .ok (.iconst 4, 1) := by decide +kernel
theorem dX12_init_160 : decode cX12_init 160 = .ok (.newarray .int, 2) := by decide +kernel
theorem dX12_init_162 : decode cX12_init 162 = .ok (.putfield 70, 3) := by decide +kernel
theorem dX12_init_165 : decode cX12_init 165 = .ok (.aload_n 0, 1) := by decide +kernel
theorem dX12_init_166 : decode cX12_init 166 = .ok (.iconst 4, 1) := by decide +kernel
theorem dX12_init_167 : decode cX12_init 167 = .ok (.newarray .int, 2) := by decide +kernel
theorem dX12_init_169 : decode cX12_init 169 = .ok (.putfield 73, 3) := by decide +kernel
theorem dX12_init_172 : decode cX12_init 172 = .ok (.aload_n 0, 1) := by decide +kernel
theorem dX12_init_173 : decode cX12_init 173 = .ok (.bipush 56, 2) := by decide +kernel
theorem dX12_init_175 : decode cX12_init 175 = .ok (.newarray .int, 2) := by decide +kernel
theorem dX12_init_177 : decode cX12_init 177 = .ok (.putfield 76, 3) := by decide +kernel
theorem dX12_init_180 : decode cX12_init 180 = .ok (.aload_n 0, 1) := by decide +kernel
theorem dX12_init_181 : decode cX12_init 181 = .ok (.bipush 8, 2) := by decide +kernel
theorem dX12_init_183 : decode cX12_init 183 = .ok (.newarray .int, 2) := by decide +kernel
theorem dX12_init_185 : decode cX12_init 185 = .ok (.putfield 79, 3) := by decide +kernel
theorem dX12_init_188 : decode cX12_init 188 = .ok (.aload_n 0, 1) := by decide +kernel
theorem dX12_init_189 : decode cX12_init 189 = .ok (.iconst 2, 1) := by decide +kernel
theorem dX12_init_190 : decode cX12_init 190 = .ok (.newarray .boolean, 2) := by decide +kernel
theorem dX12_init_192 : decode cX12_init 192 = .ok (.putfield 82, 3) := by decide +kernel
theorem dX12_init_195 : decode cX12_init 195 = .ok (.aload_n 0, 1) := by decide +kernel
theorem dX12_init_196 : decode cX12_init 196 = .ok (.bipush 6, 2) := by decide +kernel
theorem dX12_init_198 : decode cX12_init 198 = .ok (.newarray .int, 2) := by decide +kernel
theorem dX12_init_200 : decode cX12_init 200 = .ok (.putfield 86, 3) := by decide +kernel
theorem dX12_init_203 : decode cX12_init 203 = .ok (.aload_n 0, 1) := by decide +kernel
theorem dX12_init_204 : decode cX12_init 204 = .ok (.bipush 6, 2) := by decide +kernel
theorem dX12_init_206 : decode cX12_init 206 = .ok (.newarray .int, 2) := by decide +kernel
theorem dX12_init_208 : decode cX12_init 208 = .ok (.putfield 89, 3) := by decide +kernel
theorem dX12_init_211 : decode cX12_init 211 = .ok (.aload_n 0, 1) := by decide +kernel
theorem dX12_init_212 : decode cX12_init 212 = .ok (.sipush 248, 3) := by decide +kernel
theorem dX12_init_215 : decode cX12_init 215 = .ok (.newarray .long, 2) := by decide +kernel
theorem dX12_init_217 : decode cX12_init 217 = .ok (.putfield 92, 3) := by decide +kernel
theorem dX12_init_220 : decode cX12_init 220 = .ok (.aload_n 0, 1) := by decide +kernel
theorem dX12_init_221 : decode cX12_init 221 = .ok (.sipush 248, 3) := by decide +kernel
theorem dX12_init_224 : decode cX12_init 224 = .ok (.newarray .long, 2) := by decide +kernel
theorem dX12_init_226 : decode cX12_init 226 = .ok (.putfield 96, 3) := by decide +kernel
theorem dX12_init_229 : decode cX12_init 229 = .ok (.aload_n 0, 1) := by decide +kernel
theorem dX12_init_230 : decode cX12_init 230 = .ok (.iconst 3, 1) := by decide +kernel
theorem dX12_init_231 : decode cX12_init 231 = .ok (.newarray .int, 2) := by decide +kernel
theorem dX12_init_233 : decode cX12_init 233 = .ok (.putfield 99, 3) := by decide +kernel
theorem dX12_init_236 : decode cX12_init 236 = .ok (.aload_n 0, 1) := by decide +kernel
theorem dX12_init_237 : decode cX12_init 237 = .ok (.iconst 4, 1) := by decide +kernel
theorem dX12_init_238 : decode cX12_init 238 = .ok (.newarray .long, 2) := by decide +kernel
theorem dX12_init_240 : decode cX12_init 240 = .ok (.putfield 102, 3) := by decide +kernel
theorem dX12_init_243 : decode cX12_init 243 = .ok (.aload_n 0, 1) := by decide +kernel
theorem dX12_init_244 : decode cX12_init 244 = .ok (.bipush 32, 2) := by decide +kernel
theorem dX12_init_246 : decode cX12_init 246 = .ok (.newarray .int, 2) := by decide +kernel
theorem dX12_init_248 : decode cX12_init 248 = .ok (.putfield 105, 3) := by decide +kernel
theorem dX12_init_251 : decode cX12_init 251 = .ok (.iconst 0, 1) := by decide +kernel
theorem dX12_init_252 : decode cX12_init 252 = .ok (.istore_n 1, 1) := by decide +kernel
theorem dX12_init_253 : decode cX12_init 253 = .ok (.iload_n 1, 1) := by decide +kernel
theorem dX12_init_254 : decode cX12_init 254 = .ok (.iconst 3, 1) := by decide +kernel
theorem dX12_init_255 : decode cX12_init 255 = .ok (.if_icmp .ge 17, 3) := by decide +kernel
theorem dX12_init_258 : decode cX12_init 258 = .ok (.aload_n 0, 1) := by decide +kernel
theorem dX12_init_259 : decode cX12_init 259 = .ok (.getfield 70, 3) := by decide +kernel
theorem dX12_init_262 : decode cX12_init 262 = .ok (.iload_n 1, 1) := by decide +kernel
theorem dX12_init_263 : decode cX12_init 263 = .ok (.bipush 6, 2) := by decide +kernel
theorem dX12_init_265 : decode cX12_init 265 = .ok (.iastore, 1) := by decide +kernel
theorem dX12_init_266 : decode cX12_init 266 = .ok (.iinc 1 1, 3) := by decide +kernel
theorem dX12_init_269 : decode cX12_init 269 = .ok (.goto (-16), 3) := by decide +kernel
theorem dX12_init_272 : decode cX12_init 272 = .ok (.return_, 1) := by decide +kernel
theorem dX12_in_0 : decode cX12_in 0 = .ok (.lload_n 0, 1) := by decide +kernel
theorem dX12_in_1 : decode cX12_in 1 = .ok (.lload_n 2, 1) := by decide +kernel
theorem dX12_in_2 : decode cX12_in 2 = .ok (.lcmp, 1) := by decide +kernel
theorem dX12_in_3 : decode cX12_in 3 = .ok (.ifCond .lt 14, 3) := by decide +kernel
theorem dX12_in_6 : decode cX12_in 6 = .ok (.lload_n 0, 1) := by decide +kernel
theorem dX12_in_7 : decode cX12_in 7 = .ok (.lload 4, 2) := by decide +kernel
theorem dX12_in_9 : decode cX12_in 9 = .ok (.lcmp, 1) := by decide +kernel
theorem dX12_in_10 : decode cX12_in 10 = .ok (.ifCond .gt 7, 3) := by decide +kernel
theorem dX12_in_13 : decode cX12_in 13 = .ok (.iconst 1, 1) := by decide +kernel
theorem dX12_in_14 : decode cX12_in 14 = .ok (.goto 4, 3) := by decide +kernel
theorem dX12_in_17 : decode cX12_in 17 = .ok (.iconst 0, 1) := by decide +kernel
theorem dX12_in_18 : decode cX12_in 18 = .ok (.ireturn, 1) := by decide +kernel
theorem dX12_isIn_0 : decode cX12_isIn 0 = .ok (.iload_n 0, 1) := by decide +kernel
theorem dX12_isIn_1 : decode cX12_isIn 1 = .ok (.iload_n 1, 1) := by decide +kernel
theorem dX12_isIn_2 : decode cX12_isIn 2 = .ok (.ishr, 1) := by decide +kernel
theorem dX12_isIn_3 : decode cX12_isIn 3 = .ok (.iconst 1, 1) := by decide +kernel
theorem dX12_isIn_4 : decode cX12_isIn 4 = .ok (.iand, 1) := by decide +kernel
theorem dX12_isIn_5 : decode cX12_isIn 5 = .ok (.iconst 1, 1) := by decide +kernel
theorem dX12_isIn_6 : decode cX12_isIn 6 = .ok (.if_icmp .ne 7, 3) := by decide +kernel
theorem dX12_isIn_9 : decode cX12_isIn 9 = .ok (.iconst 1, 1) := by decide +kernel
theorem dX12_isIn_10 : decode cX12_isIn 10 = .ok (.goto 4, 3) := by decide +kernel
theorem dX12_isIn_13 : decode cX12_isIn 13 = .ok (.iconst 0, 1) := by decide +kernel
theorem dX12_isIn_14 : decode cX12_isIn 14 = .ok (.ireturn, 1) := by decide +kernel
theorem dX12_ones_0 : decode cX12_ones 0 = .ok (.iconst 0, 1) := by decide +kernel
theorem dX12_ones_1 : decode cX12_ones 1 = .ok (.istore_n 1, 1) := by decide +kernel
theorem dX12_ones_2 : decode cX12_ones 2 = .ok (.iconst 0, 1) := by decide +kernel
theorem dX12_ones_3 : decode cX12_ones 3 = .ok (.istore_n 2, 1) := by decide +kernel
theorem dX12_ones_4 : decode cX12_ones 4 = .ok (.iload_n 2, 1) := by decide +kernel
theorem dX12_ones_5 : decode cX12_ones 5 = .ok (.iconst 5, 1) := by decide +kernel
theorem dX12_ones_6 : decode cX12_ones 6 = .ok (.if_icmp .ge 17, 3) := by decide +kernel
theorem dX12_ones_9 : decode cX12_ones 9 = .ok (.iload_n 1, 1) := by decide +kernel
theorem dX12_ones_10 : decode cX12_ones 10 = .ok (.iload_n 0, 1) := by decide +kernel
theorem dX12_ones_11 : decode cX12_ones 11 = .ok (.iload_n 2, 1) := by decide +kernel
theorem dX12_ones_12 : decode cX12_ones 12 = .ok (.ishr, 1) := by decide +kernel
theorem dX12_ones_13 : decode cX12_ones 13 = .ok (.iconst 1, 1) := by decide +kernel
theorem dX12_ones_14 : decode cX12_ones 14 = .ok (.iand, 1) := by decide +kernel
theorem dX12_ones_15 : decode cX12_ones 15 = .ok (.iadd, 1) := by decide +kernel
theorem dX12_ones_16 : decode cX12_ones 16 = .ok (.istore_n 1, 1) := by decide +kernel
theorem dX12_ones_17 : decode cX12_ones 17 = .ok (.iinc 2 1, 3) := by decide +kernel
theorem dX12_ones_20 : decode cX12_ones 20 = .ok (.goto (-16), 3) := by decide +kernel
theorem dX12_ones_23 : decode cX12_ones 23 = .ok (.iload_n 1, 1) := by decide +kernel
theorem dX12_ones_24 : decode cX12_ones 24 = .ok (.ireturn, 1) := by decide +kernel
theorem dX12_power_0 : decode cX12_power 0 = .ok (.iconst 1, 1) := by decide +kernel
theorem dX12_power_1 : decode cX12_power 1 = .ok (.istore_n 2, 1) := by decide +kernel
theorem dX12_power_2 : decode cX12_power 2 = .ok (.iconst 0, 1) := by decide +kernel
theorem dX12_power_3 : decode cX12_power 3 = .ok (.istore_n 3, 1) := by decide +kernel
theorem dX12_power_4 : decode cX12_power 4 = .ok (.iload_n 3, 1) := by decide +kernel
theorem dX12_power_5 : decode cX12_power 5 = .ok (.iload_n 1, 1) := by decide +kernel
theorem dX12_power_6 : decode cX12_power 6 = .ok (.if_icmp .ge 13, 3) := by decide +kernel
theorem dX12_power_9 : decode cX12_power 9 = .ok (.iload_n 2, 1) := by decide +kernel
theorem dX12_power_10 : decode cX12_power 10 = .ok (.iload_n 0, 1) := by decide +kernel
theorem dX12_power_11 : decode cX12_power 11 = .ok (.imul, 1) := by decide +kernel
theorem dX12_power_12 : decode cX12_power 12 = .ok (.istore_n 2, 1) := by decide +kernel
theorem dX12_power_13 : decode cX12_power 13 = .ok (.iinc 3 1, 3) := by decide +kernel
theorem dX12_power_16 : decode cX12_power 16 = .ok (.goto (-12), 3) := by decide +kernel
theorem dX12_power_19 : decode cX12_power 19 = .ok (.iload_n 2, 1) := by decide +kernel
theorem dX12_power_20 : decode cX12_power 20 = .ok (.ireturn, 1) := by decide +kernel
theorem dX12_factorial_0 : decode cX12_factorial 0 = .ok (.iconst 1, 1) := by decide +kernel
theorem dX12_factorial_1 : decode cX12_factorial 1 = .ok (.istore_n 1, 1) := by decide +kernel
theorem dX12_factorial_2 : decode cX12_factorial 2 = .ok (.iconst 2, 1) := by decide +kernel
theorem dX12_factorial_3 : decode cX12_factorial 3 = .ok (.istore_n 2, 1) := by decide +kernel
theorem dX12_factorial_4 : decode cX12_factorial 4 = .ok (.iload_n 2, 1) := by decide +kernel
theorem dX12_factorial_5 : decode cX12_factorial 5 = .ok (.iload_n 0, 1) := by decide +kernel
theorem dX12_factorial_6 : decode cX12_factorial 6 = .ok (.if_icmp .gt 13, 3) := by decide +kernel
theorem dX12_factorial_9 : decode cX12_factorial 9 = .ok (.iload_n 1, 1) := by decide +kernel
theorem dX12_factorial_10 : decode cX12_factorial 10 = .ok (.iload_n 2, 1) := by decide +kernel
theorem dX12_factorial_11 : decode cX12_factorial 11 = .ok (.imul, 1) := by decide +kernel
theorem dX12_factorial_12 : decode cX12_factorial 12 = .ok (.istore_n 1, 1) := by decide +kernel
theorem dX12_factorial_13 : decode cX12_factorial 13 = .ok (.iinc 2 1, 3) := by decide +kernel
theorem dX12_factorial_16 : decode cX12_factorial 16 = .ok (.goto (-12), 3) := by decide +kernel
theorem dX12_factorial_19 : decode cX12_factorial 19 = .ok (.iload_n 1, 1) := by decide +kernel
theorem dX12_factorial_20 : decode cX12_factorial 20 = .ok (.ireturn, 1) := by decide +kernel
theorem dX12_divisor_0 : decode cX12_divisor 0 = .ok (.iload_n 0, 1) := by decide +kernel
theorem dX12_divisor_1 : decode cX12_divisor 1 = .ok (.ifCond .ge 8, 3) := by decide +kernel
theorem dX12_divisor_4 : decode cX12_divisor 4 = .ok (.iload_n 0, 1) := by decide +kernel
theorem dX12_divisor_5 : decode cX12_divisor 5 = .ok (.ineg, 1) := by decide +kernel
theorem dX12_divisor_6 : decode cX12_divisor 6 = .ok (.goto 4, 3) := by decide +kernel
theorem dX12_divisor_9 : decode cX12_divisor 9 = .ok (.iload_n 0, 1) := by decide +kernel
theorem dX12_divisor_10 : decode cX12_divisor 10 = .ok (.istore_n 2, 1) := by decide +kernel
theorem dX12_divisor_11 : decode cX12_divisor 11 = .ok (.iload_n 1, 1) := by decide +kernel
theorem dX12_divisor_12 : decode cX12_divisor 12 = .ok (.istore_n 3, 1) := by decide +kernel
theorem dX12_divisor_13 : decode cX12_divisor 13 = .ok (.iload_n 3, 1) := by decide +kernel
theorem dX12_divisor_14 : decode cX12_divisor 14 = .ok (.ifCond .eq 16, 3) := by decide +kernel
theorem dX12_divisor_17 : decode cX12_divisor 17 = .ok (.iload_n 2, 1) := by decide +kernel
theorem dX12_divisor_18 : decode cX12_divisor 18 = .ok (.iload_n 3, 1) := by decide +kernel
theorem dX12_divisor_19 : decode cX12_divisor 19 = .ok (.irem, 1) := by decide +kernel
theorem dX12_divisor_20 : decode cX12_divisor 20 = .ok (.istore 4, 2) := by decide +kernel
theorem dX12_divisor_22 : decode cX12_divisor 22 = .ok (.iload_n 3, 1) := by decide +kernel
theorem dX12_divisor_23 : decode cX12_divisor 23 = .ok (.istore_n 2, 1) := by decide +kernel
theorem dX12_divisor_24 : decode cX12_divisor 24 = .ok (.iload 4, 2) := by decide +kernel
theorem dX12_divisor_26 : decode cX12_divisor 26 = .ok (.istore_n 3, 1) := by decide +kernel
theorem dX12_divisor_27 : decode cX12_divisor 27 = .ok (.goto (-14), 3) := by decide +kernel
theorem dX12_divisor_30 : decode cX12_divisor 30 = .ok (.iload_n 2, 1) := by decide +kernel
theorem dX12_divisor_31 : decode cX12_divisor 31 = .ok (.ireturn, 1) := by decide +kernel
theorem dX12_fraction_0 : decode cX12_fraction 0 = .ok (.iload_n 0, 1) := by decide +kernel
theorem dX12_fraction_1 : decode cX12_fraction 1 = .ok (.iload_n 1, 1) := by decide +kernel
theorem dX12_fraction_2 : decode cX12_fraction 2 = .ok (.invokestatic 108, 3) := by decide +kernel
theorem dX12_fraction_5 : decode cX12_fraction 5 = .ok (.istore_n 3, 1) := by decide +kernel
theorem dX12_fraction_6 : decode cX12_fraction 6 = .ok (.iload_n 2, 1) := by decide +kernel
theorem dX12_fraction_7 : decode cX12_fraction 7 = .ok (.ifCond .eq 9, 3) := by decide +kernel
theorem dX12_fraction_10 : decode cX12_fraction 10 = .ok (.iload_n 0, 1) := by decide +kernel
theorem dX12_fraction_11 : decode cX12_fraction 11 = .ok (.iload_n 3, 1) := by decide +kernel
theorem dX12_fraction_12 : decode cX12_fraction 12 = .ok (.idiv, 1) := by decide +kernel
theorem dX12_fraction_13 : decode cX12_fraction 13 = .ok (.goto 6, 3) := by decide +kernel
theorem dX12_fraction_16 : decode cX12_fraction 16 = .ok (.iload_n 1, 1) := by decide +kernel
theorem dX12_fraction_17 : decode cX12_fraction 17 = .ok (.iload_n 3, 1) := by decide +kernel
theorem dX12_fraction_18 : decode cX12_fraction 18 = .ok (.idiv, 1) := by decide +kernel
theorem dX12_fraction_19 : decode cX12_fraction 19 = .ok (.ireturn, 1) := by decide +kernel
theorem dX12_write_0 : decode cX12_write 0 = .ok (.iload_n 1, 1) := by decide +kernel
theorem dX12_write_1 : decode cX12_write 1 = .ok (.i2l, 1) := by decide +kernel
theorem dX12_write_2 : decode cX12_write 2 = .ok (.lconst 0, 1) := by decide +kernel
theorem dX12_write_3 : decode cX12_write 3 = .ok (.ldc2_w 112, 3) := by decide +kernel
theorem dX12_write_6 : decode cX12_write 6 = .ok (.invokestatic 114, 3) := by decide +kernel
theorem dX12_write_9 : decode cX12_write 9 = .ok (.ifCond .ne 6, 3) := by decide +kernel
theorem dX12_write_12 : decode cX12_write 12 = .ok (.bipush (-2), 2) := by decide +kernel
theorem dX12_write_14 : decode cX12_write 14 = .ok (.ireturn, 1) := by decide +kernel
theorem dX12_write_15 : decode cX12_write 15 = .ok (.aload_n 0, 1) := by decide +kernel
theorem dX12_write_16 : decode cX12_write 16 = .ok (.getfield 118, 3) := by decide +kernel
theorem dX12_write_19 : decode cX12_write 19 = .ok (.bipush 60, 2) := by decide +kernel
theorem dX12_write_21 : decode cX12_write 21 = .ok (.if_icmp .ne 6, 3) := by decide +kernel
theorem dX12_write_24 : decode cX12_write 24 = .ok (.bipush (-4), 2) := by decide +kernel
theorem dX12_write_26 : decode cX12_write 26 = .ok (.ireturn, 1) := by decide +kernel
theorem dX12_write_27 : decode cX12_write 27 = .ok (.aload_n 0, 1) := by decide +kernel
theorem dX12_write_28 : decode cX12_write 28 = .ok (.getfield 7, 3) := by decide +kernel
theorem dX12_write_31 : decode cX12_write 31 = .ok (.aload_n 0, 1) := by decide +kernel
theorem dX12_write_32 : decode cX12_write 32 = .ok (.getfield 118, 3) := by decide +kernel
theorem dX12_write_35 : decode cX12_write 35 = .ok (.iload_n 1, 1) := by decide +kernel
theorem dX12_write_36 : decode cX12_write 36 = .ok (.iastore, 1) := by decide +kernel
theorem dX12_write_37 : decode cX12_write 37 = .ok (.aload_n 0, 1) := by decide +kernel
theorem dX12_write_38 : decode cX12_write 38 = .ok (.dup, 1) := by decide +kernel
theorem dX12_write_39 : decode cX12_write 39 = .ok (.getfield 118, 3) := by decide +kernel
theorem dX12_write_42 : decode cX12_write 42 = .ok (.iconst 1, 1) := by decide +kernel
theorem dX12_write_43 : decode cX12_write 43 = .ok (.iadd, 1) := by decide +kernel
theorem dX12_write_44 : decode cX12_write 44 = .ok (.putfield 118, 3) := by decide +kernel
theorem dX12_write_47 : decode cX12_write 47 = .ok (.aload_n 0, 1) := by decide +kernel
theorem dX12_write_48 : decode cX12_write 48 = .ok (.getfield 118, 3) := by decide +kernel
theorem dX12_write_51 : decode cX12_write 51 = .ok (.ireturn, 1) := by decide +kernel
theorem dX12_wipe_0 : decode cX12_wipe 0 = .ok (.aload_n 0, 1) := by decide +kernel
theorem dX12_wipe_1 : decode cX12_wipe 1 = .ok (.getfield 118, 3) := by decide +kernel
theorem dX12_wipe_4 : decode cX12_wipe 4 = .ok (.istore_n 1, 1) := by decide +kernel
theorem dX12_wipe_5 : decode cX12_wipe 5 = .ok (.aload_n 0, 1) := by decide +kernel
theorem dX12_wipe_6 : decode cX12_wipe 6 = .ok (.iconst 0, 1) := by decide +kernel
theorem dX12_wipe_7 : decode cX12_wipe 7 = .ok (.putfield 118, 3) := by decide +kernel
theorem dX12_wipe_10 : decode cX12_wipe 10 = .ok (.iload_n 1, 1) := by decide +kernel
theorem dX12_wipe_11 : decode cX12_wipe 11 = .ok (.ireturn, 1) := by decide +kernel
theorem dX12_variableOf_0 : decode cX12_variableOf 0 = .ok (.iload_n 0, 1) := by decide +kernel
theorem dX12_variableOf_1 : decode cX12_variableOf 1 = .ok (.i2l, 1) := by decide +kernel
theorem dX12_variableOf_2 : decode cX12_variableOf 2 = .ok (.ldc2_w 122, 3) := by decide +kernel
theorem dX12_variableOf_5 : decode cX12_variableOf 5 = .ok (.ldc2_w 124, 3) := by decide +kernel
theorem dX12_variableOf_8 : decode cX12_variableOf 8 = .ok (.invokestatic 114, 3) := by decide +kernel
theorem dX12_variableOf_11 : decode cX12_variableOf 11 = .ok (.ifCond .eq 10, 3) := by decide +kernel
theorem dX12_variableOf_14 : decode cX12_variableOf 14 = .ok (.iload_n 0, 1) := by decide +kernel
theorem dX12_variableOf_15 : decode cX12_variableOf 15 = .ok (.bipush 97, 2) := by decide +kernel
theorem dX12_variableOf_17 : decode cX12_variableOf 17 = .ok (.isub, 1) := by decide +kernel
theorem dX12_variableOf_18 : decode cX12_variableOf 18 = .ok (.goto 5, 3) := by decide +kernel
theorem dX12_variableOf_21 : decode cX12_variableOf 21 = .ok (.bipush (-9), 2) := by decide +kernel
theorem dX12_variableOf_23 : decode cX12_variableOf 23 = .ok (.ireturn, 1) := by decide +kernel
theorem dX12_termOf_0 : decode cX12_termOf 0 = .ok (.iload_n 0, 1) := by decide +kernel
theorem dX12_termOf_1 : decode cX12_termOf 1 = .ok (.i2l, 1) := by decide +kernel
theorem dX12_termOf_2 : decode cX12_termOf 2 = .ok (.ldc2_w 126, 3) := by decide +kernel
theorem dX12_termOf_5 : decode cX12_termOf 5 = .ok (.ldc2_w 128, 3) := by decide +kernel
theorem dX12_termOf_8 : decode cX12_termOf 8 = .ok (.invokestatic 114, 3) := by decide +kernel
theorem dX12_termOf_11 : decode cX12_termOf 11 = .ok (.ifCond .eq 10, 3) := by decide +kernel
theorem dX12_termOf_14 : decode cX12_termOf 14 = .ok (.iload_n 0, 1) := by decide +kernel
theorem dX12_termOf_15 : decode cX12_termOf 15 = .ok (.bipush 48, 2) := by decide +kernel
theorem dX12_termOf_17 : decode cX12_termOf 17 = .ok (.isub, 1) := by decide +kernel
theorem dX12_termOf_18 : decode cX12_termOf 18 = .ok (.goto 29, 3) := by decide +kernel
theorem dX12_termOf_21 : decode cX12_termOf 21 = .ok (.iload_n 0, 1) := by decide +kernel
theorem dX12_termOf_22 : decode cX12_termOf 22 = .ok (.i2l, 1) := by decide +kernel
theorem dX12_termOf_23 : decode cX12_termOf 23 = .ok (.ldc2_w 122, 3) := by decide +kernel
theorem dX12_termOf_26 : decode cX12_termOf 26 = .ok (.ldc2_w 124, 3) := by decide +kernel
theorem dX12_termOf_29 : decode cX12_termOf 29 = .ok (.invokestatic 114, 3) := by decide +kernel
theorem dX12_termOf_32 : decode cX12_termOf 32 = .ok (.ifCond .eq 13, 3) := by decide +kernel
theorem dX12_termOf_35 : decode cX12_termOf 35 = .ok (.iload_n 0, 1) := by decide +kernel
theorem dX12_termOf_36 : decode cX12_termOf 36 = .ok (.bipush 97, 2) := by decide +kernel
theorem dX12_termOf_38 : decode cX12_termOf 38 = .ok (.isub, 1) := by decide +kernel
theorem dX12_termOf_39 : decode cX12_termOf 39 = .ok (.bipush 6, 2) := by decide +kernel
theorem dX12_termOf_41 : decode cX12_termOf 41 = .ok (.iadd, 1) := by decide +kernel
theorem dX12_termOf_42 : decode cX12_termOf 42 = .ok (.goto 5, 3) := by decide +kernel
theorem dX12_termOf_45 : decode cX12_termOf 45 = .ok (.bipush (-9), 2) := by decide +kernel
theorem dX12_termOf_47 : decode cX12_termOf 47 = .ok (.ireturn, 1) := by decide +kernel
theorem dX12_isCompare_0 : decode cX12_isCompare 0 = .ok (.iload_n 0, 1) := by decide +kernel
theorem dX12_isCompare_1 : decode cX12_isCompare 1 = .ok (.bipush 60, 2) := by decide +kernel
theorem dX12_isCompare_3 : decode cX12_isCompare 3 = .ok (.if_icmp .eq 21, 3) := by decide +kernel
theorem dX12_isCompare_6 : decode cX12_isCompare 6 = .ok (.iload_n 0, 1) := by decide +kernel
theorem dX12_isCompare_7 : decode cX12_isCompare 7 = .ok (.bipush 61, 2) := by decide +kernel
theorem dX12_isCompare_9 : decode cX12_isCompare 9 = .ok (.if_icmp .eq 15, 3) := by decide +kernel
theorem dX12_isCompare_12 : decode cX12_isCompare 12 = .ok (.iload_n 0, 1) := by decide +kernel
theorem dX12_isCompare_13 : decode cX12_isCompare 13 = .ok (.bipush 62, 2) := by decide +kernel
theorem dX12_isCompare_15 : decode cX12_isCompare 15 = .ok (.if_icmp .eq 9, 3) := by decide +kernel
theorem dX12_isCompare_18 : decode cX12_isCompare 18 = .ok (.iload_n 0, 1) := by decide +kernel
theorem dX12_isCompare_19 : decode cX12_isCompare 19 = .ok (.bipush 35, 2) := by decide +kernel
theorem dX12_isCompare_21 : decode cX12_isCompare 21 = .ok (.if_icmp .ne 7, 3) := by decide +kernel
theorem dX12_isCompare_24 : decode cX12_isCompare 24 = .ok (.iconst 1, 1) := by decide +kernel
theorem dX12_isCompare_25 : decode cX12_isCompare 25 = .ok (.goto 4, 3) := by decide +kernel
theorem dX12_isCompare_28 : decode cX12_isCompare 28 = .ok (.iconst 0, 1) := by decide +kernel
theorem dX12_isCompare_29 : decode cX12_isCompare 29 = .ok (.ireturn, 1) := by decide +kernel
theorem dX12_newNode_0 : decode cX12_newNode 0 = .ok (.aload_n 0, 1) := by decide +kernel
theorem dX12_newNode_1 : decode cX12_newNode 1 = .ok (.getfield 40, 3) := by decide +kernel
theorem dX12_newNode_4 : decode cX12_newNode 4 = .ok (.aload_n 0, 1) := by decide +kernel
theorem dX12_newNode_5 : decode cX12_newNode 5 = .ok (.getfield 130, 3) := by decide +kernel
theorem dX12_newNode_8 : decode cX12_newNode 8 = .ok (.iload_n 1, 1) := by decide +kernel
theorem dX12_newNode_9 : decode cX12_newNode 9 = .ok (.iastore, 1) := by decide +kernel
theorem dX12_newNode_10 : decode cX12_newNode 10 = .ok (.aload_n 0, 1) := by decide +kernel
theorem dX12_newNode_11 : decode cX12_newNode 11 = .ok (.getfield 55, 3) := by decide +kernel
theorem dX12_newNode_14 : decode cX12_newNode 14 = .ok (.aload_n 0, 1) := by decide +kernel
theorem dX12_newNode_15 : decode cX12_newNode 15 = .ok (.getfield 130, 3) := by decide +kernel
theorem dX12_newNode_18 : decode cX12_newNode 18 = .ok (.aload_n 0, 1) := by decide +kernel
theorem dX12_newNode_19 : decode cX12_newNode 19 = .ok (.getfield 130, 3) := by decide +kernel
theorem dX12_newNode_22 : decode cX12_newNode 22 = .ok (.iconst 1, 1) := by decide +kernel
theorem dX12_newNode_23 : decode cX12_newNode 23 = .ok (.iadd, 1) := by decide +kernel
theorem dX12_newNode_24 : decode cX12_newNode 24 = .ok (.iastore, 1) := by decide +kernel
theorem dX12_newNode_25 : decode cX12_newNode 25 = .ok (.aload_n 0, 1) := by decide +kernel
theorem dX12_newNode_26 : decode cX12_newNode 26 = .ok (.dup, 1) := by decide +kernel
theorem dX12_newNode_27 : decode cX12_newNode 27 = .ok (.getfield 130, 3) := by decide +kernel
theorem dX12_newNode_30 : decode cX12_newNode 30 = .ok (.iconst 1, 1) := by decide +kernel
theorem dX12_newNode_31 : decode cX12_newNode 31 = .ok (.iadd, 1) := by decide +kernel
theorem dX12_newNode_32 : decode cX12_newNode 32 = .ok (.putfield 130, 3) := by decide +kernel
theorem dX12_newNode_35 : decode cX12_newNode 35 = .ok (.return_, 1) := by decide +kernel
theorem dX12_innermost_0 : decode cX12_innermost 0 = .ok (.aload_n 0, 1) := by decide +kernel
theorem dX12_innermost_1 : decode cX12_innermost 1 = .ok (.getfield 133, 3) := by decide +kernel
theorem dX12_innermost_4 : decode cX12_innermost 4 = .ok (.ifCond .ne 7, 3) := by decide +kernel
theorem dX12_innermost_7 : decode cX12_innermost 7 = .ok (.iconst 0, 1) := by decide +kernel
theorem dX12_innermost_8 : decode cX12_innermost 8 = .ok (.goto 19, 3) := by decide +kernel
theorem dX12_innermost_11 : decode cX12_innermost 11 = .ok (.aload_n 0, 1) := by decide +kernel
theorem dX12_innermost_12 : decode cX12_innermost 12 = .ok (.getfield 40, 3) := by decide +kernel
theorem dX12_innermost_15 : decode cX12_innermost 15 = .ok (.aload_n 0, 1) := by decide +kernel
theorem dX12_innermost_16 : decode cX12_innermost 16 = .ok (.getfield 67, 3) := by decide +kernel
theorem dX12_innermost_19 : decode cX12_innermost 19 = .ok (.aload_n 0, 1) := by decide +kernel
theorem dX12_innermost_20 : decode cX12_innermost 20 = .ok (.getfield 133, 3) := by decide +kernel
theorem dX12_innermost_23 : decode cX12_innermost 23 = .ok (.iconst 1, 1) := by decide +kernel
theorem dX12_innermost_24 : decode cX12_innermost 24 = .ok (.isub, 1) := by decide +kernel
theorem dX12_innermost_25 : decode cX12_innermost 25 = .ok (.iaload, 1) := by decide +kernel
theorem dX12_innermost_26 : decode cX12_innermost 26 = .ok (.iaload, 1) := by decide +kernel
theorem dX12_innermost_27 : decode cX12_innermost 27 = .ok (.ireturn, 1) := by decide +kernel
theorem dX12_takeStatement_0 : decode cX12_takeStatement 0 = .ok (.iload_n 1, 1) := by decide +kernel
theorem dX12_takeStatement_1 : decode cX12_takeStatement 1 = .ok (.invokestatic 136, 3) := by decide +kernel
theorem dX12_takeStatement_4 : decode cX12_takeStatement 4 = .ok (.bipush (-9), 2) := by decide +kernel
theorem dX12_takeStatement_6 : decode cX12_takeStatement 6 = .ok (.if_icmp .eq 30, 3) := by decide +kernel
theorem dX12_takeStatement_9 : decode cX12_takeStatement 9 = .ok (.aload_n 0, 1) := by decide +kernel
theorem dX12_takeStatement_10 : decode cX12_takeStatement 10 = .ok (.iconst 0, 1) := by decide +kernel
theorem dX12_takeStatement_11 : decode cX12_takeStatement 11 = .ok (.invokevirtual 140, 3) := by decide +kernel
theorem dX12_takeStatement_14 : decode cX12_takeStatement 14 = .ok (.aload_n 0, 1) := by decide +kernel
theorem dX12_takeStatement_15 : decode cX12_takeStatement 15 = .ok (.getfield 43, 3) := by decide +kernel
theorem dX12_takeStatement_18 : decode cX12_takeStatement 18 = .ok (.aload_n 0, 1) := by decide +kernel
theorem dX12_takeStatement_19 : decode cX12_takeStatement 19 = .ok (.getfield 130, 3) := by decide +kernel
theorem dX12_takeStatement_22 : decode cX12_takeStatement 22 = .ok (.iconst 1, 1) := by decide +kernel
theorem dX12_takeStatement_23 : decode cX12_takeStatement 23 = .ok (.isub, 1) := by decide +kernel
theorem dX12_takeStatement_24 : decode cX12_takeStatement 24 = .ok (.iload_n 1, 1) := by decide +kernel
theorem dX12_takeStatement_25 : decode cX12_takeStatement 25 = .ok (.invokestatic 136, 3) := by decide +kernel
theorem dX12_takeStatement_28 : decode cX12_takeStatement 28 = .ok (.iastore, 1) := by decide +kernel
theorem dX12_takeStatement_29 : decode cX12_takeStatement 29 = .ok (.aload_n 0, 1) := by decide +kernel
theorem dX12_takeStatement_30 : decode cX12_takeStatement 30 = .ok (.iconst 1, 1) := by decide +kernel
theorem dX12_takeStatement_31 : decode cX12_takeStatement 31 = .ok (.putfield 144, 3) := by decide +kernel
theorem dX12_takeStatement_34 : decode cX12_takeStatement 34 = .ok (.iconst 1, 1) := by decide +kernel
theorem dX12_takeStatement_35 : decode cX12_takeStatement 35 = .ok (.ireturn, 1) := by decide +kernel
theorem dX12_takeStatement_36 : decode cX12_takeStatement 36 = .ok (.iload_n 1, 1) := by decide +kernel
theorem dX12_takeStatement_37 : decode cX12_takeStatement 37 = .ok (.lookupswitch 233 #[(33, 81), (40, 103), (41, 147), (59, 213), (64, 75), (123, 126), (124, 169), (125, 191)], 75) := by decide +kernel
theorem dX12_takeStatement_112 : decode cX12_takeStatement 112 = .ok (.aload_n 0, 1) := by decide +kernel
theorem dX12_takeStatement_113 : decode cX12_takeStatement 113 = .ok (.iconst 4, 1) := by decide +kernel
theorem dX12_takeStatement_114 : decode cX12_takeStatement 114 = .ok (.invokevirtual 147, 3) := by decide +kernel
theorem dX12_takeStatement_117 : decode cX12_takeStatement 117 = .ok (.ireturn, 1) := by decide +kernel
theorem dX12_takeStatement_118 : decode cX12_takeStatement 118 = .ok (.aload_n 0, 1) := by decide +kernel
theorem dX12_takeStatement_119 : decode cX12_takeStatement 119 = .ok (.getfield 151, 3) := by decide +kernel
theorem dX12_takeStatement_122 : decode cX12_takeStatement 122 = .ok (.iconst 4, 1) := by decide +kernel
theorem dX12_takeStatement_123 : decode cX12_takeStatement 123 = .ok (.if_icmp .ge 15, 3) := by decide +kernel
theorem dX12_takeStatement_126 : decode cX12_takeStatement 126 = .ok (.aload_n 0, 1) := by decide +kernel
theorem dX12_takeStatement_127 : decode cX12_takeStatement 127 = .ok (.iconst 5, 1) := by decide +kernel
theorem dX12_takeStatement_128 : decode cX12_takeStatement 128 = .ok (.invokevirtual 147, 3) := by decide +kernel
theorem dX12_takeStatement_131 : decode cX12_takeStatement 131 = .ok (.ifCond .eq 7, 3) := by decide +kernel
theorem dX12_takeStatement_134 : decode cX12_takeStatement 134 = .ok (.iconst 1, 1) := by decide +kernel
theorem dX12_takeStatement_135 : decode cX12_takeStatement 135 = .ok (.goto 4, 3) := by decide +kernel
theorem dX12_takeStatement_138 : decode cX12_takeStatement 138 = .ok (.iconst 0, 1) := by decide +kernel
theorem dX12_takeStatement_139 : decode cX12_takeStatement 139 = .ok (.ireturn, 1) := by decide +kernel
theorem dX12_takeStatement_140 : decode cX12_takeStatement 140 = .ok (.aload_n 0, 1) := by decide +kernel
theorem dX12_takeStatement_141 : decode cX12_takeStatement 141 = .ok (.getfield 154, 3) := by decide +kernel
theorem dX12_takeStatement_144 : decode cX12_takeStatement 144 = .ok (.iconst 3, 1) := by decide +kernel
theorem dX12_takeStatement_145 : decode cX12_takeStatement 145 = .ok (.if_icmp .ge 16, 3) := by decide +kernel
theorem dX12_takeStatement_148 : decode cX12_takeStatement 148 = .ok (.aload_n 0, 1) := by decide +kernel
theorem dX12_takeStatement_149 : decode cX12_takeStatement 149 = .ok (.bipush 6, 2) := by decide +kernel
theorem dX12_takeStatement_151 : decode cX12_takeStatement 151 = .ok (.invokevirtual 147, 3) := by decide +kernel
theorem dX12_takeStatement_154 : decode cX12_takeStatement 154 = .ok (.ifCond .eq 7, 3) := by decide +kernel
theorem dX12_takeStatement_157 : decode cX12_takeStatement 157 = .ok (.iconst 1, 1) := by decide +kernel
theorem dX12_takeStatement_158 : decode cX12_takeStatement 158 = .ok (.goto 4, 3) := by decide +kernel
theorem dX12_takeStatement_161 : decode cX12_takeStatement 161 = .ok (.iconst 0, 1) := by decide +kernel
theorem dX12_takeStatement_162 : decode cX12_takeStatement 162 = .ok (.ireturn, 1) := by decide +kernel
theorem dX12_takeStatement_163 : decode cX12_takeStatement 163 = .ok (.aload_n 0, 1) := by decide +kernel
theorem dX12_takeStatement_164 : decode cX12_takeStatement 164 = .ok (.getfield 157, 3) := by decide +kernel
theorem dX12_takeStatement_167 : decode cX12_takeStatement 167 = .ok (.iconst 3, 1) := by decide +kernel
theorem dX12_takeStatement_168 : decode cX12_takeStatement 168 = .ok (.if_icmp .ge 14, 3) := by decide +kernel
theorem dX12_takeStatement_171 : decode cX12_takeStatement 171 = .ok (.aload_n 0, 1) := by decide +kernel
theorem dX12_takeStatement_172 : decode cX12_takeStatement 172 = .ok (.invokevirtual 160, 3) := by decide +kernel
theorem dX12_takeStatement_175 : decode cX12_takeStatement 175 = .ok (.ifCond .eq 7, 3) := by decide +kernel
theorem dX12_takeStatement_178 : decode cX12_takeStatement 178 = .ok (.iconst 1, 1) := by decide +kernel
theorem dX12_takeStatement_179 : decode cX12_takeStatement 179 = .ok (.goto 4, 3) := by decide +kernel
theorem dX12_takeStatement_182 : decode cX12_takeStatement 182 = .ok (.iconst 0, 1) := by decide +kernel
theorem dX12_takeStatement_183 : decode cX12_takeStatement 183 = .ok (.ireturn, 1) := by decide +kernel
theorem dX12_takeStatement_184 : decode cX12_takeStatement 184 = .ok (.aload_n 0, 1) := by decide +kernel
theorem dX12_takeStatement_185 : decode cX12_takeStatement 185 = .ok (.invokevirtual 164, 3) := by decide +kernel
theorem dX12_takeStatement_188 : decode cX12_takeStatement 188 = .ok (.bipush 6, 2) := by decide +kernel
theorem dX12_takeStatement_190 : decode cX12_takeStatement 190 = .ok (.if_icmp .ne 14, 3) := by decide +kernel
theorem dX12_takeStatement_193 : decode cX12_takeStatement 193 = .ok (.aload_n 0, 1) := by decide +kernel
theorem dX12_takeStatement_194 : decode cX12_takeStatement 194 = .ok (.invokevirtual 168, 3) := by decide +kernel
theorem dX12_takeStatement_197 : decode cX12_takeStatement 197 = .ok (.ifCond .eq 7, 3) := by decide +kernel
theorem dX12_takeStatement_200 : decode cX12_takeStatement 200 = .ok (.iconst 1, 1) := by decide +kernel
theorem dX12_takeStatement_201 : decode cX12_takeStatement 201 = .ok (.goto 4, 3) := by decide +kernel
theorem dX12_takeStatement_204 : decode cX12_takeStatement 204 = .ok (.iconst 0, 1) := by decide +kernel
theorem dX12_takeStatement_205 : decode cX12_takeStatement 205 = .ok (.ireturn, 1) := by decide +kernel
theorem dX12_takeStatement_206 : decode cX12_takeStatement 206 = .ok (.aload_n 0, 1) := by decide +kernel
theorem dX12_takeStatement_207 : decode cX12_takeStatement 207 = .ok (.invokevirtual 164, 3) := by decide +kernel
theorem dX12_takeStatement_210 : decode cX12_takeStatement 210 = .ok (.bipush 8, 2) := by decide +kernel
theorem dX12_takeStatement_212 : decode cX12_takeStatement 212 = .ok (.if_icmp .ne 14, 3) := by decide +kernel
theorem dX12_takeStatement_215 : decode cX12_takeStatement 215 = .ok (.aload_n 0, 1) := by decide +kernel
theorem dX12_takeStatement_216 : decode cX12_takeStatement 216 = .ok (.invokevirtual 171, 3) := by decide +kernel
theorem dX12_takeStatement_219 : decode cX12_takeStatement 219 = .ok (.ifCond .eq 7, 3) := by decide +kernel
theorem dX12_takeStatement_222 : decode cX12_takeStatement 222 = .ok (.iconst 1, 1) := by decide +kernel
theorem dX12_takeStatement_223 : decode cX12_takeStatement 223 = .ok (.goto 4, 3) := by decide +kernel
theorem dX12_takeStatement_226 : decode cX12_takeStatement 226 = .ok (.iconst 0, 1) := by decide +kernel
theorem dX12_takeStatement_227 : decode cX12_takeStatement 227 = .ok (.ireturn, 1) := by decide +kernel
theorem dX12_takeStatement_228 : decode cX12_takeStatement 228 = .ok (.aload_n 0, 1) := by decide +kernel
theorem dX12_takeStatement_229 : decode cX12_takeStatement 229 = .ok (.invokevirtual 164, 3) := by decide +kernel
theorem dX12_takeStatement_232 : decode cX12_takeStatement 232 = .ok (.bipush 9, 2) := by decide +kernel
theorem dX12_takeStatement_234 : decode cX12_takeStatement 234 = .ok (.if_icmp .ne 14, 3) := by decide +kernel
theorem dX12_takeStatement_237 : decode cX12_takeStatement 237 = .ok (.aload_n 0, 1) := by decide +kernel
theorem dX12_takeStatement_238 : decode cX12_takeStatement 238 = .ok (.invokevirtual 174, 3) := by decide +kernel
theorem dX12_takeStatement_241 : decode cX12_takeStatement 241 = .ok (.ifCond .eq 7, 3) := by decide +kernel
theorem dX12_takeStatement_244 : decode cX12_takeStatement 244 = .ok (.iconst 1, 1) := by decide +kernel
theorem dX12_takeStatement_245 : decode cX12_takeStatement 245 = .ok (.goto 4, 3) := by decide +kernel
theorem dX12_takeStatement_248 : decode cX12_takeStatement 248 = .ok (.iconst 0, 1) := by decide +kernel
theorem dX12_takeStatement_249 : decode cX12_takeStatement 249 = .ok (.ireturn, 1) := by decide +kernel
theorem dX12_takeStatement_250 : decode cX12_takeStatement 250 = .ok (.aload_n 0, 1) := by decide +kernel
theorem dX12_takeStatement_251 : decode cX12_takeStatement 251 = .ok (.getfield 133, 3) := by decide +kernel
theorem dX12_takeStatement_254 : decode cX12_takeStatement 254 = .ok (.ifCond .ne 14, 3) := by decide +kernel
theorem dX12_takeStatement_257 : decode cX12_takeStatement 257 = .ok (.aload_n 0, 1) := by decide +kernel
theorem dX12_takeStatement_258 : decode cX12_takeStatement 258 = .ok (.invokevirtual 177, 3) := by decide +kernel
theorem dX12_takeStatement_261 : decode cX12_takeStatement 261 = .ok (.ifCond .eq 7, 3) := by decide +kernel
theorem dX12_takeStatement_264 : decode cX12_takeStatement 264 = .ok (.iconst 1, 1) := by decide +kernel
theorem dX12_takeStatement_265 : decode cX12_takeStatement 265 = .ok (.goto 4, 3) := by decide +kernel
theorem dX12_takeStatement_268 : decode cX12_takeStatement 268 = .ok (.iconst 0, 1) := by decide +kernel
theorem dX12_takeStatement_269 : decode cX12_takeStatement 269 = .ok (.ireturn, 1) := by decide +kernel
theorem dX12_takeStatement_270 : decode cX12_takeStatement 270 = .ok (.iconst 0, 1) := by decide +kernel
theorem dX12_takeStatement_271 : decode cX12_takeStatement 271 = .ok (.ireturn, 1) := by decide +kernel
theorem dX12_takeAsking_0 : decode cX12_takeAsking 0 = .ok (.aload_n 0, 1) := by decide +kernel
theorem dX12_takeAsking_1 : decode cX12_takeAsking 1 = .ok (.iload_n 1, 1) := by decide +kernel
theorem dX12_takeAsking_2 : decode cX12_takeAsking 2 = .ok (.invokevirtual 140, 3) := by decide +kernel
theorem dX12_takeAsking_5 : decode cX12_takeAsking 5 = .ok (.aload_n 0, 1) := by decide +kernel
theorem dX12_takeAsking_6 : decode cX12_takeAsking 6 = .ok (.iconst 3, 1) := by decide +kernel
theorem dX12_takeAsking_7 : decode cX12_takeAsking 7 = .ok (.putfield 144, 3) := by decide +kernel
theorem dX12_takeAsking_10 : decode cX12_takeAsking 10 = .ok (.iload_n 1, 1) := by decide +kernel
theorem dX12_takeAsking_11 : decode cX12_takeAsking 11 = .ok (.iconst 5, 1) := by decide +kernel
theorem dX12_takeAsking_12 : decode cX12_takeAsking 12 = .ok (.if_icmp .ne 28, 3) := by decide +kernel
theorem dX12_takeAsking_15 : decode cX12_takeAsking 15 = .ok (.aload_n 0, 1) := by decide +kernel
theorem dX12_takeAsking_16 : decode cX12_takeAsking 16 = .ok (.getfield 52, 3) := by decide +kernel
theorem dX12_takeAsking_19 : decode cX12_takeAsking 19 = .ok (.aload_n 0, 1) := by decide +kernel
theorem dX12_takeAsking_20 : decode cX12_takeAsking 20 = .ok (.getfield 130, 3) := by decide +kernel
theorem dX12_takeAsking_23 : decode cX12_takeAsking 23 = .ok (.iconst 1, 1) := by decide +kernel
theorem dX12_takeAsking_24 : decode cX12_takeAsking 24 = .ok (.isub, 1) := by decide +kernel
theorem dX12_takeAsking_25 : decode cX12_takeAsking 25 = .ok (.aload_n 0, 1) := by decide +kernel
theorem dX12_takeAsking_26 : decode cX12_takeAsking 26 = .ok (.getfield 151, 3) := by decide +kernel
theorem dX12_takeAsking_29 : decode cX12_takeAsking 29 = .ok (.iastore, 1) := by decide +kernel
theorem dX12_takeAsking_30 : decode cX12_takeAsking 30 = .ok (.aload_n 0, 1) := by decide +kernel
theorem dX12_takeAsking_31 : decode cX12_takeAsking 31 = .ok (.dup, 1) := by decide +kernel
theorem dX12_takeAsking_32 : decode cX12_takeAsking 32 = .ok (.getfield 151, 3) := by decide +kernel
theorem dX12_takeAsking_35 : decode cX12_takeAsking 35 = .ok (.iconst 1, 1) := by decide +kernel
theorem dX12_takeAsking_36 : decode cX12_takeAsking 36 = .ok (.iadd, 1) := by decide +kernel
theorem dX12_takeAsking_37 : decode cX12_takeAsking 37 = .ok (.putfield 151, 3) := by decide +kernel
theorem dX12_takeAsking_40 : decode cX12_takeAsking 40 = .ok (.iload_n 1, 1) := by decide +kernel
theorem dX12_takeAsking_41 : decode cX12_takeAsking 41 = .ok (.bipush 6, 2) := by decide +kernel
theorem dX12_takeAsking_43 : decode cX12_takeAsking 43 = .ok (.if_icmp .ne 53, 3) := by decide +kernel
theorem dX12_takeAsking_46 : decode cX12_takeAsking 46 = .ok (.aload_n 0, 1) := by decide +kernel
theorem dX12_takeAsking_47 : decode cX12_takeAsking 47 = .ok (.getfield 52, 3) := by decide +kernel
theorem dX12_takeAsking_50 : decode cX12_takeAsking 50 = .ok (.aload_n 0, 1) := by decide +kernel
theorem dX12_takeAsking_51 : decode cX12_takeAsking 51 = .ok (.getfield 130, 3) := by decide +kernel
theorem dX12_takeAsking_54 : decode cX12_takeAsking 54 = .ok (.iconst 1, 1) := by decide +kernel
theorem dX12_takeAsking_55 : decode cX12_takeAsking 55 = .ok (.isub, 1) := by decide +kernel
theorem dX12_takeAsking_56 : decode cX12_takeAsking 56 = .ok (.aload_n 0, 1) := by decide +kernel
theorem dX12_takeAsking_57 : decode cX12_takeAsking 57 = .ok (.getfield 154, 3) := by decide +kernel
theorem dX12_takeAsking_60 : decode cX12_takeAsking 60 = .ok (.iastore, 1) := by decide +kernel
theorem dX12_takeAsking_61 : decode cX12_takeAsking 61 = .ok (.aload_n 0, 1) := by decide +kernel
theorem dX12_takeAsking_62 : decode cX12_takeAsking 62 = .ok (.dup, 1) := by decide +kernel
theorem dX12_takeAsking_63 : decode cX12_takeAsking 63 = .ok (.getfield 154, 3) := by decide +kernel
theorem dX12_takeAsking_66 : decode cX12_takeAsking 66 = .ok (.iconst 1, 1) := by decide +kernel
theorem dX12_takeAsking_67 : decode cX12_takeAsking 67 = .ok (.iadd, 1) := by decide +kernel
theorem dX12_takeAsking_68 : decode cX12_takeAsking 68 = .ok (.putfield 154, 3) := by decide +kernel
theorem dX12_takeAsking_71 : decode cX12_takeAsking 71 = .ok (.aload_n 0, 1) := by decide +kernel
theorem dX12_takeAsking_72 : decode cX12_takeAsking 72 = .ok (.getfield 67, 3) := by decide +kernel
theorem dX12_takeAsking_75 : decode cX12_takeAsking 75 = .ok (.aload_n 0, 1) := by decide +kernel
theorem dX12_takeAsking_76 : decode cX12_takeAsking 76 = .ok (.getfield 133, 3) := by decide +kernel
theorem dX12_takeAsking_79 : decode cX12_takeAsking 79 = .ok (.aload_n 0, 1) := by decide +kernel
theorem dX12_takeAsking_80 : decode cX12_takeAsking 80 = .ok (.getfield 130, 3) := by decide +kernel
theorem dX12_takeAsking_83 : decode cX12_takeAsking 83 = .ok (.iconst 1, 1) := by decide +kernel
theorem dX12_takeAsking_84 : decode cX12_takeAsking 84 = .ok (.isub, 1) := by decide +kernel
theorem dX12_takeAsking_85 : decode cX12_takeAsking 85 = .ok (.iastore, 1) := by decide +kernel
theorem dX12_takeAsking_86 : decode cX12_takeAsking 86 = .ok (.aload_n 0, 1) := by decide +kernel
theorem dX12_takeAsking_87 : decode cX12_takeAsking 87 = .ok (.dup, 1) := by decide +kernel
theorem dX12_takeAsking_88 : decode cX12_takeAsking 88 = .ok (.getfield 133, 3) := by decide +kernel
theorem dX12_takeAsking_91 : decode cX12_takeAsking 91 = .ok (.iconst 1, 1) := by decide +kernel
theorem dX12_takeAsking_92 : decode cX12_takeAsking 92 = .ok (.iadd, 1) := by decide +kernel
theorem dX12_takeAsking_93 : decode cX12_takeAsking 93 = .ok (.putfield 133, 3) := by decide +kernel
theorem dX12_takeAsking_96 : decode cX12_takeAsking 96 = .ok (.iconst 1, 1) := by decide +kernel
theorem dX12_takeAsking_97 : decode cX12_takeAsking 97 = .ok (.ireturn, 1) := by decide +kernel
theorem dX12_takeEither_0 : decode cX12_takeEither 0 = .ok (.aload_n 0, 1) := by decide +kernel
theorem dX12_takeEither_1 : decode cX12_takeEither 1 = .ok (.bipush 8, 2) := by decide +kernel
theorem dX12_takeEither_3 : decode cX12_takeEither 3 = .ok (.invokevirtual 140, 3) := by decide +kernel
theorem dX12_takeEither_6 : decode cX12_takeEither 6 = .ok (.aload_n 0, 1) := by decide +kernel
theorem dX12_takeEither_7 : decode cX12_takeEither 7 = .ok (.dup, 1) := by decide +kernel
theorem dX12_takeEither_8 : decode cX12_takeEither 8 = .ok (.getfield 157, 3) := by decide +kernel
theorem dX12_takeEither_11 : decode cX12_takeEither 11 = .ok (.iconst 1, 1) := by decide +kernel
theorem dX12_takeEither_12 : decode cX12_takeEither 12 = .ok (.iadd, 1) := by decide +kernel
theorem dX12_takeEither_13 : decode cX12_takeEither 13 = .ok (.putfield 157, 3) := by decide +kernel
theorem dX12_takeEither_16 : decode cX12_takeEither 16 = .ok (.aload_n 0, 1) := by decide +kernel
theorem dX12_takeEither_17 : decode cX12_takeEither 17 = .ok (.getfield 67, 3) := by decide +kernel
theorem dX12_takeEither_20 : decode cX12_takeEither 20 = .ok (.aload_n 0, 1) := by decide +kernel
theorem dX12_takeEither_21 : decode cX12_takeEither 21 = .ok (.getfield 133, 3) := by decide +kernel
theorem dX12_takeEither_24 : decode cX12_takeEither 24 = .ok (.aload_n 0, 1) := by decide +kernel
theorem dX12_takeEither_25 : decode cX12_takeEither 25 = .ok (.getfield 130, 3) := by decide +kernel
theorem dX12_takeEither_28 : decode cX12_takeEither 28 = .ok (.iconst 1, 1) := by decide +kernel
theorem dX12_takeEither_29 : decode cX12_takeEither 29 = .ok (.isub, 1) := by decide +kernel
theorem dX12_takeEither_30 : decode cX12_takeEither 30 = .ok (.iastore, 1) := by decide +kernel
theorem dX12_takeEither_31 : decode cX12_takeEither 31 = .ok (.aload_n 0, 1) := by decide +kernel
theorem dX12_takeEither_32 : decode cX12_takeEither 32 = .ok (.dup, 1) := by decide +kernel
theorem dX12_takeEither_33 : decode cX12_takeEither 33 = .ok (.getfield 133, 3) := by decide +kernel
theorem dX12_takeEither_36 : decode cX12_takeEither 36 = .ok (.iconst 1, 1) := by decide +kernel
theorem dX12_takeEither_37 : decode cX12_takeEither 37 = .ok (.iadd, 1) := by decide +kernel
theorem dX12_takeEither_38 : decode cX12_takeEither 38 = .ok (.putfield 133, 3) := by decide +kernel
theorem dX12_takeEither_41 : decode cX12_takeEither 41 = .ok (.iconst 1, 1) := by decide +kernel
theorem dX12_takeEither_42 : decode cX12_takeEither 42 = .ok (.ireturn, 1) := by decide +kernel
theorem dX12_takeClose_0 : decode cX12_takeClose 0 = .ok (.aload_n 0, 1) := by decide +kernel
theorem dX12_takeClose_1 : decode cX12_takeClose 1 = .ok (.dup, 1) := by decide +kernel
theorem dX12_takeClose_2 : decode cX12_takeClose 2 = .ok (.getfield 133, 3) := by decide +kernel
theorem dX12_takeClose_5 : decode cX12_takeClose 5 = .ok (.iconst 1, 1) := by decide +kernel
theorem dX12_takeClose_6 : decode cX12_takeClose 6 = .ok (.isub, 1) := by decide +kernel
theorem dX12_takeClose_7 : decode cX12_takeClose 7 = .ok (.putfield 133, 3) := by decide +kernel
theorem dX12_takeClose_10 : decode cX12_takeClose 10 = .ok (.aload_n 0, 1) := by decide +kernel
theorem dX12_takeClose_11 : decode cX12_takeClose 11 = .ok (.bipush 7, 2) := by decide +kernel
theorem dX12_takeClose_13 : decode cX12_takeClose 13 = .ok (.invokevirtual 140, 3) := by decide +kernel
theorem dX12_takeClose_16 : decode cX12_takeClose 16 = .ok (.aload_n 0, 1) := by decide +kernel
theorem dX12_takeClose_17 : decode cX12_takeClose 17 = .ok (.getfield 55, 3) := by decide +kernel
theorem dX12_takeClose_20 : decode cX12_takeClose 20 = .ok (.aload_n 0, 1) := by decide +kernel
theorem dX12_takeClose_21 : decode cX12_takeClose 21 = .ok (.getfield 130, 3) := by decide +kernel
theorem dX12_takeClose_24 : decode cX12_takeClose 24 = .ok (.iconst 1, 1) := by decide +kernel
theorem dX12_takeClose_25 : decode cX12_takeClose 25 = .ok (.isub, 1) := by decide +kernel
theorem dX12_takeClose_26 : decode cX12_takeClose 26 = .ok (.aload_n 0, 1) := by decide +kernel
theorem dX12_takeClose_27 : decode cX12_takeClose 27 = .ok (.getfield 67, 3) := by decide +kernel
theorem dX12_takeClose_30 : decode cX12_takeClose 30 = .ok (.aload_n 0, 1) := by decide +kernel
theorem dX12_takeClose_31 : decode cX12_takeClose 31 = .ok (.getfield 133, 3) := by decide +kernel
theorem dX12_takeClose_34 : decode cX12_takeClose 34 = .ok (.iaload, 1) := by decide +kernel
theorem dX12_takeClose_35 : decode cX12_takeClose 35 = .ok (.iastore, 1) := by decide +kernel
theorem dX12_takeClose_36 : decode cX12_takeClose 36 = .ok (.aload_n 0, 1) := by decide +kernel
theorem dX12_takeClose_37 : decode cX12_takeClose 37 = .ok (.getfield 55, 3) := by decide +kernel
theorem dX12_takeClose_40 : decode cX12_takeClose 40 = .ok (.aload_n 0, 1) := by decide +kernel
theorem dX12_takeClose_41 : decode cX12_takeClose 41 = .ok (.getfield 67, 3) := by decide +kernel
theorem dX12_takeClose_44 : decode cX12_takeClose 44 = .ok (.aload_n 0, 1) := by decide +kernel
theorem dX12_takeClose_45 : decode cX12_takeClose 45 = .ok (.getfield 133, 3) := by decide +kernel
theorem dX12_takeClose_48 : decode cX12_takeClose 48 = .ok (.iaload, 1) := by decide +kernel
theorem dX12_takeClose_49 : decode cX12_takeClose 49 = .ok (.aload_n 0, 1) := by decide +kernel
theorem dX12_takeClose_50 : decode cX12_takeClose 50 = .ok (.getfield 130, 3) := by decide +kernel
theorem dX12_takeClose_53 : decode cX12_takeClose 53 = .ok (.iastore, 1) := by decide +kernel
theorem dX12_takeClose_54 : decode cX12_takeClose 54 = .ok (.iconst 1, 1) := by decide +kernel
theorem dX12_takeClose_55 : decode cX12_takeClose 55 = .ok (.ireturn, 1) := by decide +kernel
theorem dX12_takeBar_0 : decode cX12_takeBar 0 = .ok (.aload_n 0, 1) := by decide +kernel
theorem dX12_takeBar_1 : decode cX12_takeBar 1 = .ok (.bipush 9, 2) := by decide +kernel
theorem dX12_takeBar_3 : decode cX12_takeBar 3 = .ok (.invokevirtual 140, 3) := by decide +kernel
theorem dX12_takeBar_6 : decode cX12_takeBar 6 = .ok (.aload_n 0, 1) := by decide +kernel
theorem dX12_takeBar_7 : decode cX12_takeBar 7 = .ok (.getfield 55, 3) := by decide +kernel
theorem dX12_takeBar_10 : decode cX12_takeBar 10 = .ok (.aload_n 0, 1) := by decide +kernel
theorem dX12_takeBar_11 : decode cX12_takeBar 11 = .ok (.getfield 67, 3) := by decide +kernel
theorem dX12_takeBar_14 : decode cX12_takeBar 14 = .ok (.aload_n 0, 1) := by decide +kernel
theorem dX12_takeBar_15 : decode cX12_takeBar 15 = .ok (.getfield 133, 3) := by decide +kernel
theorem dX12_takeBar_18 : decode cX12_takeBar 18 = .ok (.iconst 1, 1) := by decide +kernel
theorem dX12_takeBar_19 : decode cX12_takeBar 19 = .ok (.isub, 1) := by decide +kernel
theorem dX12_takeBar_20 : decode cX12_takeBar 20 = .ok (.iaload, 1) := by decide +kernel
theorem dX12_takeBar_21 : decode cX12_takeBar 21 = .ok (.aload_n 0, 1) := by decide +kernel
theorem dX12_takeBar_22 : decode cX12_takeBar 22 = .ok (.getfield 130, 3) := by decide +kernel
theorem dX12_takeBar_25 : decode cX12_takeBar 25 = .ok (.iastore, 1) := by decide +kernel
theorem dX12_takeBar_26 : decode cX12_takeBar 26 = .ok (.aload_n 0, 1) := by decide +kernel
theorem dX12_takeBar_27 : decode cX12_takeBar 27 = .ok (.getfield 67, 3) := by decide +kernel
theorem dX12_takeBar_30 : decode cX12_takeBar 30 = .ok (.aload_n 0, 1) := by decide +kernel
theorem dX12_takeBar_31 : decode cX12_takeBar 31 = .ok (.getfield 133, 3) := by decide +kernel
theorem dX12_takeBar_34 : decode cX12_takeBar 34 = .ok (.iconst 1, 1) := by decide +kernel
theorem dX12_takeBar_35 : decode cX12_takeBar 35 = .ok (.isub, 1) := by decide +kernel
theorem dX12_takeBar_36 : decode cX12_takeBar 36 = .ok (.aload_n 0, 1) := by decide +kernel
theorem dX12_takeBar_37 : decode cX12_takeBar 37 = .ok (.getfield 130, 3) := by decide +kernel
theorem dX12_takeBar_40 : decode cX12_takeBar 40 = .ok (.iconst 1, 1) := by decide +kernel
theorem dX12_takeBar_41 : decode cX12_takeBar 41 = .ok (.isub, 1) := by decide +kernel
theorem dX12_takeBar_42 : decode cX12_takeBar 42 = .ok (.iastore, 1) := by decide +kernel
theorem dX12_takeBar_43 : decode cX12_takeBar 43 = .ok (.iconst 1, 1) := by decide +kernel
theorem dX12_takeBar_44 : decode cX12_takeBar 44 = .ok (.ireturn, 1) := by decide +kernel
theorem dX12_takeJoin_0 : decode cX12_takeJoin 0 = .ok (.aload_n 0, 1) := by decide +kernel
theorem dX12_takeJoin_1 : decode cX12_takeJoin 1 = .ok (.dup, 1) := by decide +kernel
theorem dX12_takeJoin_2 : decode cX12_takeJoin 2 = .ok (.getfield 133, 3) := by decide +kernel
theorem dX12_takeJoin_5 : decode cX12_takeJoin 5 = .ok (.iconst 1, 1) := by decide +kernel
theorem dX12_takeJoin_6 : decode cX12_takeJoin 6 = .ok (.isub, 1) := by decide +kernel
theorem dX12_takeJoin_7 : decode cX12_takeJoin 7 = .ok (.putfield 133, 3) := by decide +kernel
theorem dX12_takeJoin_10 : decode cX12_takeJoin 10 = .ok (.aload_n 0, 1) := by decide +kernel
theorem dX12_takeJoin_11 : decode cX12_takeJoin 11 = .ok (.bipush 10, 2) := by decide +kernel
theorem dX12_takeJoin_13 : decode cX12_takeJoin 13 = .ok (.invokevirtual 140, 3) := by decide +kernel
theorem dX12_takeJoin_16 : decode cX12_takeJoin 16 = .ok (.aload_n 0, 1) := by decide +kernel
theorem dX12_takeJoin_17 : decode cX12_takeJoin 17 = .ok (.getfield 55, 3) := by decide +kernel
theorem dX12_takeJoin_20 : decode cX12_takeJoin 20 = .ok (.aload_n 0, 1) := by decide +kernel
theorem dX12_takeJoin_21 : decode cX12_takeJoin 21 = .ok (.getfield 67, 3) := by decide +kernel
theorem dX12_takeJoin_24 : decode cX12_takeJoin 24 = .ok (.aload_n 0, 1) := by decide +kernel
theorem dX12_takeJoin_25 : decode cX12_takeJoin 25 = .ok (.getfield 133, 3) := by decide +kernel
theorem dX12_takeJoin_28 : decode cX12_takeJoin 28 = .ok (.iaload, 1) := by decide +kernel
theorem dX12_takeJoin_29 : decode cX12_takeJoin 29 = .ok (.aload_n 0, 1) := by decide +kernel
theorem dX12_takeJoin_30 : decode cX12_takeJoin 30 = .ok (.getfield 130, 3) := by decide +kernel
theorem dX12_takeJoin_33 : decode cX12_takeJoin 33 = .ok (.iconst 1, 1) := by decide +kernel
theorem dX12_takeJoin_34 : decode cX12_takeJoin 34 = .ok (.isub, 1) := by decide +kernel
theorem dX12_takeJoin_35 : decode cX12_takeJoin 35 = .ok (.iastore, 1) := by decide +kernel
theorem dX12_takeJoin_36 : decode cX12_takeJoin 36 = .ok (.iconst 1, 1) := by decide +kernel
theorem dX12_takeJoin_37 : decode cX12_takeJoin 37 = .ok (.ireturn, 1) := by decide +kernel
theorem dX12_takeGuess_0 : decode cX12_takeGuess 0 = .ok (.aload_n 0, 1) := by decide +kernel
theorem dX12_takeGuess_1 : decode cX12_takeGuess 1 = .ok (.getfield 180, 3) := by decide +kernel
theorem dX12_takeGuess_4 : decode cX12_takeGuess 4 = .ok (.iconst 5, 1) := by decide +kernel
theorem dX12_takeGuess_5 : decode cX12_takeGuess 5 = .ok (.if_icmp .ne 5, 3) := by decide +kernel
theorem dX12_takeGuess_8 : decode cX12_takeGuess 8 = .ok (.iconst 0, 1) := by decide +kernel
theorem dX12_takeGuess_9 : decode cX12_takeGuess 9 = .ok (.ireturn, 1) := by decide +kernel
theorem dX12_takeGuess_10 : decode cX12_takeGuess 10 = .ok (.aload_n 0, 1) := by decide +kernel
theorem dX12_takeGuess_11 : decode cX12_takeGuess 11 = .ok (.dup, 1) := by decide +kernel
theorem dX12_takeGuess_12 : decode cX12_takeGuess 12 = .ok (.getfield 180, 3) := by decide +kernel
theorem dX12_takeGuess_15 : decode cX12_takeGuess 15 = .ok (.iconst 1, 1) := by decide +kernel
theorem dX12_takeGuess_16 : decode cX12_takeGuess 16 = .ok (.iadd, 1) := by decide +kernel
theorem dX12_takeGuess_17 : decode cX12_takeGuess 17 = .ok (.putfield 180, 3) := by decide +kernel
theorem dX12_takeGuess_20 : decode cX12_takeGuess 20 = .ok (.aload_n 0, 1) := by decide +kernel
theorem dX12_takeGuess_21 : decode cX12_takeGuess 21 = .ok (.iconst 3, 1) := by decide +kernel
theorem dX12_takeGuess_22 : decode cX12_takeGuess 22 = .ok (.putfield 144, 3) := by decide +kernel
theorem dX12_takeGuess_25 : decode cX12_takeGuess 25 = .ok (.iconst 1, 1) := by decide +kernel
theorem dX12_takeGuess_26 : decode cX12_takeGuess 26 = .ok (.ireturn, 1) := by decide +kernel
theorem dX12_takeDeed_0 : decode cX12_takeDeed 0 = .ok (.iload_n 1, 1) := by decide +kernel
theorem dX12_takeDeed_1 : decode cX12_takeDeed 1 = .ok (.bipush 61, 2) := by decide +kernel
theorem dX12_takeDeed_3 : decode cX12_takeDeed 3 = .ok (.if_icmp .ne 7, 3) := by decide +kernel
theorem dX12_takeDeed_6 : decode cX12_takeDeed 6 = .ok (.iconst 0, 1) := by decide +kernel
theorem dX12_takeDeed_7 : decode cX12_takeDeed 7 = .ok (.goto 35, 3) := by decide +kernel
theorem dX12_takeDeed_10 : decode cX12_takeDeed 10 = .ok (.iload_n 1, 1) := by decide +kernel
theorem dX12_takeDeed_11 : decode cX12_takeDeed 11 = .ok (.bipush 43, 2) := by decide +kernel
theorem dX12_takeDeed_13 : decode cX12_takeDeed 13 = .ok (.if_icmp .ne 7, 3) := by decide +kernel
theorem dX12_takeDeed_16 : decode cX12_takeDeed 16 = .ok (.iconst 1, 1) := by decide +kernel
theorem dX12_takeDeed_17 : decode cX12_takeDeed 17 = .ok (.goto 25, 3) := by decide +kernel
theorem dX12_takeDeed_20 : decode cX12_takeDeed 20 = .ok (.iload_n 1, 1) := by decide +kernel
theorem dX12_takeDeed_21 : decode cX12_takeDeed 21 = .ok (.bipush 45, 2) := by decide +kernel
theorem dX12_takeDeed_23 : decode cX12_takeDeed 23 = .ok (.if_icmp .ne 7, 3) := by decide +kernel
theorem dX12_takeDeed_26 : decode cX12_takeDeed 26 = .ok (.iconst 2, 1) := by decide +kernel
theorem dX12_takeDeed_27 : decode cX12_takeDeed 27 = .ok (.goto 15, 3) := by decide +kernel
theorem dX12_takeDeed_30 : decode cX12_takeDeed 30 = .ok (.iload_n 1, 1) := by decide +kernel
theorem dX12_takeDeed_31 : decode cX12_takeDeed 31 = .ok (.bipush 63, 2) := by decide +kernel
theorem dX12_takeDeed_33 : decode cX12_takeDeed 33 = .ok (.if_icmp .ne 7, 3) := by decide +kernel
theorem dX12_takeDeed_36 : decode cX12_takeDeed 36 = .ok (.iconst 3, 1) := by decide +kernel
theorem dX12_takeDeed_37 : decode cX12_takeDeed 37 = .ok (.goto 5, 3) := by decide +kernel
theorem dX12_takeDeed_40 : decode cX12_takeDeed 40 = .ok (.bipush (-9), 2) := by decide +kernel
theorem dX12_takeDeed_42 : decode cX12_takeDeed 42 = .ok (.istore_n 2, 1) := by decide +kernel
theorem dX12_takeDeed_43 : decode cX12_takeDeed 43 = .ok (.aload_n 0, 1) := by decide +kernel
theorem dX12_takeDeed_44 : decode cX12_takeDeed 44 = .ok (.getfield 40, 3) := by decide +kernel
theorem dX12_takeDeed_47 : decode cX12_takeDeed 47 = .ok (.aload_n 0, 1) := by decide +kernel
theorem dX12_takeDeed_48 : decode cX12_takeDeed 48 = .ok (.getfield 130, 3) := by decide +kernel
theorem dX12_takeDeed_51 : decode cX12_takeDeed 51 = .ok (.iconst 1, 1) := by decide +kernel
theorem dX12_takeDeed_52 : decode cX12_takeDeed 52 = .ok (.isub, 1) := by decide +kernel
theorem dX12_takeDeed_53 : decode cX12_takeDeed 53 = .ok (.iload_n 2, 1) := by decide +kernel
theorem dX12_takeDeed_54 : decode cX12_takeDeed 54 = .ok (.iastore, 1) := by decide +kernel
theorem dX12_takeDeed_55 : decode cX12_takeDeed 55 = .ok (.aload_n 0, 1) := by decide +kernel
theorem dX12_takeDeed_56 : decode cX12_takeDeed 56 = .ok (.iload_n 2, 1) := by decide +kernel
theorem dX12_takeDeed_57 : decode cX12_takeDeed 57 = .ok (.ifCond .ne 7, 3) := by decide +kernel
theorem dX12_takeDeed_60 : decode cX12_takeDeed 60 = .ok (.iconst 2, 1) := by decide +kernel
theorem dX12_takeDeed_61 : decode cX12_takeDeed 61 = .ok (.goto 4, 3) := by decide +kernel
theorem dX12_takeDeed_64 : decode cX12_takeDeed 64 = .ok (.iconst 0, 1) := by decide +kernel
theorem dX12_takeDeed_65 : decode cX12_takeDeed 65 = .ok (.putfield 144, 3) := by decide +kernel
theorem dX12_takeDeed_68 : decode cX12_takeDeed 68 = .ok (.iload_n 2, 1) := by decide +kernel
theorem dX12_takeDeed_69 : decode cX12_takeDeed 69 = .ok (.bipush (-9), 2) := by decide +kernel
theorem dX12_takeDeed_71 : decode cX12_takeDeed 71 = .ok (.if_icmp .eq 7, 3) := by decide +kernel
theorem dX12_takeDeed_74 : decode cX12_takeDeed 74 = .ok (.iconst 1, 1) := by decide +kernel
theorem dX12_takeDeed_75 : decode cX12_takeDeed 75 = .ok (.goto 4, 3) := by decide +kernel
theorem dX12_takeDeed_78 : decode cX12_takeDeed 78 = .ok (.iconst 0, 1) := by decide +kernel
theorem dX12_takeDeed_79 : decode cX12_takeDeed 79 = .ok (.ireturn, 1) := by decide +kernel
theorem dX12_takePart_0 : decode cX12_takePart 0 = .ok (.iload_n 1, 1) := by decide +kernel
theorem dX12_takePart_1 : decode cX12_takePart 1 = .ok (.ifCond .ne 10, 3) := by decide +kernel
theorem dX12_takePart_4 : decode cX12_takePart 4 = .ok (.iload_n 2, 1) := by decide +kernel
theorem dX12_takePart_5 : decode cX12_takePart 5 = .ok (.invokestatic 136, 3) := by decide +kernel
theorem dX12_takePart_8 : decode cX12_takePart 8 = .ok (.goto 28, 3) := by decide +kernel
theorem dX12_takePart_11 : decode cX12_takePart 11 = .ok (.iload_n 1, 1) := by decide +kernel
theorem dX12_takePart_12 : decode cX12_takePart 12 = .ok (.iconst 1, 1) := by decide +kernel
theorem dX12_takePart_13 : decode cX12_takePart 13 = .ok (.if_icmp .ne 19, 3) := by decide +kernel
theorem dX12_takePart_16 : decode cX12_takePart 16 = .ok (.iload_n 2, 1) := by decide +kernel
theorem dX12_takePart_17 : decode cX12_takePart 17 = .ok (.invokestatic 183, 3) := by decide +kernel
theorem dX12_takePart_20 : decode cX12_takePart 20 = .ok (.ifCond .eq 7, 3) := by decide +kernel
theorem dX12_takePart_23 : decode cX12_takePart 23 = .ok (.iload_n 2, 1) := by decide +kernel
theorem dX12_takePart_24 : decode cX12_takePart 24 = .ok (.goto 12, 3) := by decide +kernel
theorem dX12_takePart_27 : decode cX12_takePart 27 = .ok (.bipush (-9), 2) := by decide +kernel
theorem dX12_takePart_29 : decode cX12_takePart 29 = .ok (.goto 7, 3) := by decide +kernel
theorem dX12_takePart_32 : decode cX12_takePart 32 = .ok (.iload_n 2, 1) := by decide +kernel
theorem dX12_takePart_33 : decode cX12_takePart 33 = .ok (.invokestatic 186, 3) := by decide +kernel
theorem dX12_takePart_36 : decode cX12_takePart 36 = .ok (.istore_n 3, 1) := by decide +kernel
theorem dX12_takePart_37 : decode cX12_takePart 37 = .ok (.iload_n 3, 1) := by decide +kernel
theorem dX12_takePart_38 : decode cX12_takePart 38 = .ok (.bipush (-9), 2) := by decide +kernel
theorem dX12_takePart_40 : decode cX12_takePart 40 = .ok (.if_icmp .ne 5, 3) := by decide +kernel
theorem dX12_takePart_43 : decode cX12_takePart 43 = .ok (.iconst 0, 1) := by decide +kernel
theorem dX12_takePart_44 : decode cX12_takePart 44 = .ok (.ireturn, 1) := by decide +kernel
theorem dX12_takePart_45 : decode cX12_takePart 45 = .ok (.aload_n 0, 1) := by decide +kernel
theorem dX12_takePart_46 : decode cX12_takePart 46 = .ok (.getfield 180, 3) := by decide +kernel
theorem dX12_takePart_49 : decode cX12_takePart 49 = .ok (.ifCond .le 57, 3) := by decide +kernel
theorem dX12_takePart_52 : decode cX12_takePart 52 = .ok (.iload_n 1, 1) := by decide +kernel
theorem dX12_takePart_53 : decode cX12_takePart 53 = .ok (.ifCond .ne 18, 3) := by decide +kernel
theorem dX12_takePart_56 : decode cX12_takePart 56 = .ok (.aload_n 0, 1) := by decide +kernel
theorem dX12_takePart_57 : decode cX12_takePart 57 = .ok (.getfield 58, 3) := by decide +kernel
theorem dX12_takePart_60 : decode cX12_takePart 60 = .ok (.aload_n 0, 1) := by decide +kernel
theorem dX12_takePart_61 : decode cX12_takePart 61 = .ok (.getfield 180, 3) := by decide +kernel
theorem dX12_takePart_64 : decode cX12_takePart 64 = .ok (.iconst 1, 1) := by decide +kernel
theorem dX12_takePart_65 : decode cX12_takePart 65 = .ok (.isub, 1) := by decide +kernel
theorem dX12_takePart_66 : decode cX12_takePart 66 = .ok (.iload_n 3, 1) := by decide +kernel
theorem dX12_takePart_67 : decode cX12_takePart 67 = .ok (.iastore, 1) := by decide +kernel
theorem dX12_takePart_68 : decode cX12_takePart 68 = .ok (.goto 89, 3) := by decide +kernel
theorem dX12_takePart_71 : decode cX12_takePart 71 = .ok (.iload_n 1, 1) := by decide +kernel
theorem dX12_takePart_72 : decode cX12_takePart 72 = .ok (.iconst 1, 1) := by decide +kernel
theorem dX12_takePart_73 : decode cX12_takePart 73 = .ok (.if_icmp .ne 18, 3) := by decide +kernel
theorem dX12_takePart_76 : decode cX12_takePart 76 = .ok (.aload_n 0, 1) := by decide +kernel
theorem dX12_takePart_77 : decode cX12_takePart 77 = .ok (.getfield 61, 3) := by decide +kernel
theorem dX12_takePart_80 : decode cX12_takePart 80 = .ok (.aload_n 0, 1) := by decide +kernel
theorem dX12_takePart_81 : decode cX12_takePart 81 = .ok (.getfield 180, 3) := by decide +kernel
theorem dX12_takePart_84 : decode cX12_takePart 84 = .ok (.iconst 1, 1) := by decide +kernel
theorem dX12_takePart_85 : decode cX12_takePart 85 = .ok (.isub, 1) := by decide +kernel
theorem dX12_takePart_86 : decode cX12_takePart 86 = .ok (.iload_n 3, 1) := by decide +kernel
theorem dX12_takePart_87 : decode cX12_takePart 87 = .ok (.iastore, 1) := by decide +kernel
theorem dX12_takePart_88 : decode cX12_takePart 88 = .ok (.goto 69, 3) := by decide +kernel
theorem dX12_takePart_91 : decode cX12_takePart 91 = .ok (.aload_n 0, 1) := by decide +kernel
theorem dX12_takePart_92 : decode cX12_takePart 92 = .ok (.getfield 64, 3) := by decide +kernel
theorem dX12_takePart_95 : decode cX12_takePart 95 = .ok (.aload_n 0, 1) := by decide +kernel
theorem dX12_takePart_96 : decode cX12_takePart 96 = .ok (.getfield 180, 3) := by decide +kernel
theorem dX12_takePart_99 : decode cX12_takePart 99 = .ok (.iconst 1, 1) := by decide +kernel
theorem dX12_takePart_100 : decode cX12_takePart 100 = .ok (.isub, 1) := by decide +kernel
theorem dX12_takePart_101 : decode cX12_takePart 101 = .ok (.iload_n 3, 1) := by decide +kernel
theorem dX12_takePart_102 : decode cX12_takePart 102 = .ok (.iastore, 1) := by decide +kernel
theorem dX12_takePart_103 : decode cX12_takePart 103 = .ok (.goto 54, 3) := by decide +kernel
theorem dX12_takePart_106 : decode cX12_takePart 106 = .ok (.iload_n 1, 1) := by decide +kernel
theorem dX12_takePart_107 : decode cX12_takePart 107 = .ok (.ifCond .ne 18, 3) := by decide +kernel
theorem dX12_takePart_110 : decode cX12_takePart 110 = .ok (.aload_n 0, 1) := by decide +kernel
theorem dX12_takePart_111 : decode cX12_takePart 111 = .ok (.getfield 43, 3) := by decide +kernel
theorem dX12_takePart_114 : decode cX12_takePart 114 = .ok (.aload_n 0, 1) := by decide +kernel
theorem dX12_takePart_115 : decode cX12_takePart 115 = .ok (.getfield 130, 3) := by decide +kernel
theorem dX12_takePart_118 : decode cX12_takePart 118 = .ok (.iconst 1, 1) := by decide +kernel
theorem dX12_takePart_119 : decode cX12_takePart 119 = .ok (.isub, 1) := by decide +kernel
theorem dX12_takePart_120 : decode cX12_takePart 120 = .ok (.iload_n 3, 1) := by decide +kernel
theorem dX12_takePart_121 : decode cX12_takePart 121 = .ok (.iastore, 1) := by decide +kernel
theorem dX12_takePart_122 : decode cX12_takePart 122 = .ok (.goto 35, 3) := by decide +kernel
theorem dX12_takePart_125 : decode cX12_takePart 125 = .ok (.iload_n 1, 1) := by decide +kernel
theorem dX12_takePart_126 : decode cX12_takePart 126 = .ok (.iconst 1, 1) := by decide +kernel
theorem dX12_takePart_127 : decode cX12_takePart 127 = .ok (.if_icmp .ne 18, 3) := by decide +kernel
theorem dX12_takePart_130 : decode cX12_takePart 130 = .ok (.aload_n 0, 1) := by decide +kernel
theorem dX12_takePart_131 : decode cX12_takePart 131 = .ok (.getfield 46, 3) := by decide +kernel
theorem dX12_takePart_134 : decode cX12_takePart 134 = .ok (.aload_n 0, 1) := by decide +kernel
theorem dX12_takePart_135 : decode cX12_takePart 135 = .ok (.getfield 130, 3) := by decide +kernel
theorem dX12_takePart_138 : decode cX12_takePart 138 = .ok (.iconst 1, 1) := by decide +kernel
theorem dX12_takePart_139 : decode cX12_takePart 139 = .ok (.isub, 1) := by decide +kernel
theorem dX12_takePart_140 : decode cX12_takePart 140 = .ok (.iload_n 3, 1) := by decide +kernel
theorem dX12_takePart_141 : decode cX12_takePart 141 = .ok (.iastore, 1) := by decide +kernel
theorem dX12_takePart_142 : decode cX12_takePart 142 = .ok (.goto 15, 3) := by decide +kernel
theorem dX12_takePart_145 : decode cX12_takePart 145 = .ok (.aload_n 0, 1) := by decide +kernel
theorem dX12_takePart_146 : decode cX12_takePart 146 = .ok (.getfield 49, 3) := by decide +kernel
theorem dX12_takePart_149 : decode cX12_takePart 149 = .ok (.aload_n 0, 1) := by decide +kernel
theorem dX12_takePart_150 : decode cX12_takePart 150 = .ok (.getfield 130, 3) := by decide +kernel
theorem dX12_takePart_153 : decode cX12_takePart 153 = .ok (.iconst 1, 1) := by decide +kernel
theorem dX12_takePart_154 : decode cX12_takePart 154 = .ok (.isub, 1) := by decide +kernel
theorem dX12_takePart_155 : decode cX12_takePart 155 = .ok (.iload_n 3, 1) := by decide +kernel
theorem dX12_takePart_156 : decode cX12_takePart 156 = .ok (.iastore, 1) := by decide +kernel
theorem dX12_takePart_157 : decode cX12_takePart 157 = .ok (.aload_n 0, 1) := by decide +kernel
theorem dX12_takePart_158 : decode cX12_takePart 158 = .ok (.iload_n 1, 1) := by decide +kernel
theorem dX12_takePart_159 : decode cX12_takePart 159 = .ok (.ifCond .ne 7, 3) := by decide +kernel
theorem dX12_takePart_162 : decode cX12_takePart 162 = .ok (.iconst 4, 1) := by decide +kernel
theorem dX12_takePart_163 : decode cX12_takePart 163 = .ok (.goto 25, 3) := by decide +kernel
theorem dX12_takePart_166 : decode cX12_takePart 166 = .ok (.iload_n 1, 1) := by decide +kernel
theorem dX12_takePart_167 : decode cX12_takePart 167 = .ok (.iconst 1, 1) := by decide +kernel
theorem dX12_takePart_168 : decode cX12_takePart 168 = .ok (.if_icmp .ne 7, 3) := by decide +kernel
theorem dX12_takePart_171 : decode cX12_takePart 171 = .ok (.iconst 5, 1) := by decide +kernel
theorem dX12_takePart_172 : decode cX12_takePart 172 = .ok (.goto 16, 3) := by decide +kernel
theorem dX12_takePart_175 : decode cX12_takePart 175 = .ok (.aload_n 0, 1) := by decide +kernel
theorem dX12_takePart_176 : decode cX12_takePart 176 = .ok (.getfield 180, 3) := by decide +kernel
theorem dX12_takePart_179 : decode cX12_takePart 179 = .ok (.ifCond .le 8, 3) := by decide +kernel
theorem dX12_takePart_182 : decode cX12_takePart 182 = .ok (.bipush 6, 2) := by decide +kernel
theorem dX12_takePart_184 : decode cX12_takePart 184 = .ok (.goto 4, 3) := by decide +kernel
theorem dX12_takePart_187 : decode cX12_takePart 187 = .ok (.iconst 0, 1) := by decide +kernel
theorem dX12_takePart_188 : decode cX12_takePart 188 = .ok (.putfield 144, 3) := by decide +kernel
theorem dX12_takePart_191 : decode cX12_takePart 191 = .ok (.iconst 1, 1) := by decide +kernel
theorem dX12_takePart_192 : decode cX12_takePart 192 = .ok (.ireturn, 1) := by decide +kernel
theorem dX12_take_0 : decode cX12_take 0 = .ok (.aload_n 0, 1) := by decide +kernel
theorem dX12_take_1 : decode cX12_take 1 = .ok (.getfield 144, 3) := by decide +kernel
theorem dX12_take_4 : decode cX12_take 4 = .ok (.tableswitch 108 0 5 #[40, 46, 52, 87, 94, 101], 40) := by decide +kernel
theorem dX12_take_44 : decode cX12_take 44 = .ok (.aload_n 0, 1) := by decide +kernel
theorem dX12_take_45 : decode cX12_take 45 = .ok (.iload_n 1, 1) := by decide +kernel
theorem dX12_take_46 : decode cX12_take 46 = .ok (.invokevirtual 189, 3) := by decide +kernel
theorem dX12_take_49 : decode cX12_take 49 = .ok (.ireturn, 1) := by decide +kernel
theorem dX12_take_50 : decode cX12_take 50 = .ok (.aload_n 0, 1) := by decide +kernel
theorem dX12_take_51 : decode cX12_take 51 = .ok (.iload_n 1, 1) := by decide +kernel
theorem dX12_take_52 : decode cX12_take 52 = .ok (.invokevirtual 192, 3) := by decide +kernel
theorem dX12_take_55 : decode cX12_take 55 = .ok (.ireturn, 1) := by decide +kernel
theorem dX12_take_56 : decode cX12_take 56 = .ok (.aload_n 0, 1) := by decide +kernel
theorem dX12_take_57 : decode cX12_take 57 = .ok (.getfield 49, 3) := by decide +kernel
theorem dX12_take_60 : decode cX12_take 60 = .ok (.aload_n 0, 1) := by decide +kernel
theorem dX12_take_61 : decode cX12_take 61 = .ok (.getfield 130, 3) := by decide +kernel
theorem dX12_take_64 : decode cX12_take 64 = .ok (.iconst 1, 1) := by decide +kernel
theorem dX12_take_65 : decode cX12_take 65 = .ok (.isub, 1) := by decide +kernel
theorem dX12_take_66 : decode cX12_take 66 = .ok (.iload_n 1, 1) := by decide +kernel
theorem dX12_take_67 : decode cX12_take 67 = .ok (.invokestatic 186, 3) := by decide +kernel
theorem dX12_take_70 : decode cX12_take 70 = .ok (.iastore, 1) := by decide +kernel
theorem dX12_take_71 : decode cX12_take 71 = .ok (.aload_n 0, 1) := by decide +kernel
theorem dX12_take_72 : decode cX12_take 72 = .ok (.iconst 0, 1) := by decide +kernel
theorem dX12_take_73 : decode cX12_take 73 = .ok (.putfield 144, 3) := by decide +kernel
theorem dX12_take_76 : decode cX12_take 76 = .ok (.iload_n 1, 1) := by decide +kernel
theorem dX12_take_77 : decode cX12_take 77 = .ok (.invokestatic 186, 3) := by decide +kernel
theorem dX12_take_80 : decode cX12_take 80 = .ok (.bipush (-9), 2) := by decide +kernel
theorem dX12_take_82 : decode cX12_take 82 = .ok (.if_icmp .eq 7, 3) := by decide +kernel
theorem dX12_take_85 : decode cX12_take 85 = .ok (.iconst 1, 1) := by decide +kernel
theorem dX12_take_86 : decode cX12_take 86 = .ok (.goto 4, 3) := by decide +kernel
theorem dX12_take_89 : decode cX12_take 89 = .ok (.iconst 0, 1) := by decide +kernel
theorem dX12_take_90 : decode cX12_take 90 = .ok (.ireturn, 1) := by decide +kernel
theorem dX12_take_91 : decode cX12_take 91 = .ok (.aload_n 0, 1) := by decide +kernel
theorem dX12_take_92 : decode cX12_take 92 = .ok (.iconst 0, 1) := by decide +kernel
theorem dX12_take_93 : decode cX12_take 93 = .ok (.iload_n 1, 1) := by decide +kernel
theorem dX12_take_94 : decode cX12_take 94 = .ok (.invokevirtual 195, 3) := by decide +kernel
theorem dX12_take_97 : decode cX12_take 97 = .ok (.ireturn, 1) := by decide +kernel
theorem dX12_take_98 : decode cX12_take 98 = .ok (.aload_n 0, 1) := by decide +kernel
theorem dX12_take_99 : decode cX12_take 99 = .ok (.iconst 1, 1) := by decide +kernel
theorem dX12_take_100 : decode cX12_take 100 = .ok (.iload_n 1, 1) := by decide +kernel
theorem dX12_take_101 : decode cX12_take 101 = .ok (.invokevirtual 195, 3) := by decide +kernel
theorem dX12_take_104 : decode cX12_take 104 = .ok (.ireturn, 1) := by decide +kernel
theorem dX12_take_105 : decode cX12_take 105 = .ok (.aload_n 0, 1) := by decide +kernel
theorem dX12_take_106 : decode cX12_take 106 = .ok (.iconst 2, 1) := by decide +kernel
theorem dX12_take_107 : decode cX12_take 107 = .ok (.iload_n 1, 1) := by decide +kernel
theorem dX12_take_108 : decode cX12_take 108 = .ok (.invokevirtual 195, 3) := by decide +kernel
theorem dX12_take_111 : decode cX12_take 111 = .ok (.ireturn, 1) := by decide +kernel
theorem dX12_take_112 : decode cX12_take 112 = .ok (.iload_n 1, 1) := by decide +kernel
theorem dX12_take_113 : decode cX12_take 113 = .ok (.bipush 59, 2) := by decide +kernel
theorem dX12_take_115 : decode cX12_take 115 = .ok (.if_icmp .ne 14, 3) := by decide +kernel
theorem dX12_take_118 : decode cX12_take 118 = .ok (.aload_n 0, 1) := by decide +kernel
theorem dX12_take_119 : decode cX12_take 119 = .ok (.invokevirtual 177, 3) := by decide +kernel
theorem dX12_take_122 : decode cX12_take 122 = .ok (.ifCond .eq 7, 3) := by decide +kernel
theorem dX12_take_125 : decode cX12_take 125 = .ok (.iconst 1, 1) := by decide +kernel
theorem dX12_take_126 : decode cX12_take 126 = .ok (.goto 4, 3) := by decide +kernel
theorem dX12_take_129 : decode cX12_take 129 = .ok (.iconst 0, 1) := by decide +kernel
theorem dX12_take_130 : decode cX12_take 130 = .ok (.ireturn, 1) := by decide +kernel
theorem dX12_readText_0 : decode cX12_readText 0 = .ok (.aload_n 0, 1) := by decide +kernel
theorem dX12_readText_1 : decode cX12_readText 1 = .ok (.iconst 0, 1) := by decide +kernel
theorem dX12_readText_2 : decode cX12_readText 2 = .ok (.putfield 130, 3) := by decide +kernel
theorem dX12_readText_5 : decode cX12_readText 5 = .ok (.aload_n 0, 1) := by decide +kernel
theorem dX12_readText_6 : decode cX12_readText 6 = .ok (.iconst 0, 1) := by decide +kernel
theorem dX12_readText_7 : decode cX12_readText 7 = .ok (.putfield 151, 3) := by decide +kernel
theorem dX12_readText_10 : decode cX12_readText 10 = .ok (.aload_n 0, 1) := by decide +kernel
theorem dX12_readText_11 : decode cX12_readText 11 = .ok (.iconst 0, 1) := by decide +kernel
theorem dX12_readText_12 : decode cX12_readText 12 = .ok (.putfield 154, 3) := by decide +kernel
theorem dX12_readText_15 : decode cX12_readText 15 = .ok (.aload_n 0, 1) := by decide +kernel
theorem dX12_readText_16 : decode cX12_readText 16 = .ok (.iconst 0, 1) := by decide +kernel
theorem dX12_readText_17 : decode cX12_readText 17 = .ok (.putfield 157, 3) := by decide +kernel
theorem dX12_readText_20 : decode cX12_readText 20 = .ok (.aload_n 0, 1) := by decide +kernel
theorem dX12_readText_21 : decode cX12_readText 21 = .ok (.iconst 0, 1) := by decide +kernel
theorem dX12_readText_22 : decode cX12_readText 22 = .ok (.putfield 180, 3) := by decide +kernel
theorem dX12_readText_25 : decode cX12_readText 25 = .ok (.aload_n 0, 1) := by decide +kernel
theorem dX12_readText_26 : decode cX12_readText 26 = .ok (.iconst 0, 1) := by decide +kernel
theorem dX12_readText_27 : decode cX12_readText 27 = .ok (.putfield 133, 3) := by decide +kernel
theorem dX12_readText_30 : decode cX12_readText 30 = .ok (.aload_n 0, 1) := by decide +kernel
theorem dX12_readText_31 : decode cX12_readText 31 = .ok (.iconst 0, 1) := by decide +kernel
theorem dX12_readText_32 : decode cX12_readText 32 = .ok (.putfield 144, 3) := by decide +kernel
theorem dX12_readText_35 : decode cX12_readText 35 = .ok (.iconst 0, 1) := by decide +kernel
theorem dX12_readText_36 : decode cX12_readText 36 = .ok (.istore_n 1, 1) := by decide +kernel
theorem dX12_readText_37 : decode cX12_readText 37 = .ok (.iload_n 1, 1) := by decide +kernel
theorem dX12_readText_38 : decode cX12_readText 38 = .ok (.aload_n 0, 1) := by decide +kernel
theorem dX12_readText_39 : decode cX12_readText 39 = .ok (.getfield 118, 3) := by decide +kernel
theorem dX12_readText_42 : decode cX12_readText 42 = .ok (.if_icmp .ge 24, 3) := by decide +kernel
theorem dX12_readText_45 : decode cX12_readText 45 = .ok (.aload_n 0, 1) := by decide +kernel
theorem dX12_readText_46 : decode cX12_readText 46 = .ok (.aload_n 0, 1) := by decide +kernel
theorem dX12_readText_47 : decode cX12_readText 47 = .ok (.getfield 7, 3) := by decide +kernel
theorem dX12_readText_50 : decode cX12_readText 50 = .ok (.iload_n 1, 1) := by decide +kernel
theorem dX12_readText_51 : decode cX12_readText 51 = .ok (.iaload, 1) := by decide +kernel
theorem dX12_readText_52 : decode cX12_readText 52 = .ok (.invokevirtual 199, 3) := by decide +kernel
theorem dX12_readText_55 : decode cX12_readText 55 = .ok (.ifCond .ne 5, 3) := by decide +kernel
theorem dX12_readText_58 : decode cX12_readText 58 = .ok (.iload_n 1, 1) := by decide +kernel
theorem dX12_readText_59 : decode cX12_readText 59 = .ok (.ireturn, 1) := by decide +kernel
theorem dX12_readText_60 : decode cX12_readText 60 = .ok (.iinc 1 1, 3) := by decide +kernel
theorem dX12_readText_63 : decode cX12_readText 63 = .ok (.goto (-26), 3) := by decide +kernel
theorem dX12_readText_66 : decode cX12_readText 66 = .ok (.aload_n 0, 1) := by decide +kernel
theorem dX12_readText_67 : decode cX12_readText 67 = .ok (.getfield 144, 3) := by decide +kernel
theorem dX12_readText_70 : decode cX12_readText 70 = .ok (.bipush 6, 2) := by decide +kernel
theorem dX12_readText_72 : decode cX12_readText 72 = .ok (.if_icmp .eq 17, 3) := by decide +kernel
theorem dX12_readText_75 : decode cX12_readText 75 = .ok (.aload_n 0, 1) := by decide +kernel
theorem dX12_readText_76 : decode cX12_readText 76 = .ok (.getfield 144, 3) := by decide +kernel
theorem dX12_readText_79 : decode cX12_readText 79 = .ok (.ifCond .ne 15, 3) := by decide +kernel
theorem dX12_readText_82 : decode cX12_readText 82 = .ok (.aload_n 0, 1) := by decide +kernel
theorem dX12_readText_83 : decode cX12_readText 83 = .ok (.getfield 133, 3) := by decide +kernel
theorem dX12_readText_86 : decode cX12_readText 86 = .ok (.ifCond .ne 8, 3) := by decide +kernel
theorem dX12_readText_89 : decode cX12_readText 89 = .ok (.bipush (-9), 2) := by decide +kernel
theorem dX12_readText_91 : decode cX12_readText 91 = .ok (.goto 7, 3) := by decide +kernel
theorem dX12_readText_94 : decode cX12_readText 94 = .ok (.aload_n 0, 1) := by decide +kernel
theorem dX12_readText_95 : decode cX12_readText 95 = .ok (.getfield 118, 3) := by decide +kernel
theorem dX12_readText_98 : decode cX12_readText 98 = .ok (.ireturn, 1) := by decide +kernel
theorem dX12_fault_0 : decode cX12_fault 0 = .ok (.aload_n 0, 1) := by decide +kernel
theorem dX12_fault_1 : decode cX12_fault 1 = .ok (.invokevirtual 202, 3) := by decide +kernel
theorem dX12_fault_4 : decode cX12_fault 4 = .ok (.ireturn, 1) := by decide +kernel
theorem dX12_program_0 : decode cX12_program 0 = .ok (.aload_n 0, 1) := by decide +kernel
theorem dX12_program_1 : decode cX12_program 1 = .ok (.invokevirtual 202, 3) := by decide +kernel
theorem dX12_program_4 : decode cX12_program 4 = .ok (.bipush (-9), 2) := by decide +kernel
theorem dX12_program_6 : decode cX12_program 6 = .ok (.if_icmp .eq 6, 3) := by decide +kernel
theorem dX12_program_9 : decode cX12_program 9 = .ok (.bipush (-3), 2) := by decide +kernel
theorem dX12_program_11 : decode cX12_program 11 = .ok (.ireturn, 1) := by decide +kernel
theorem dX12_program_12 : decode cX12_program 12 = .ok (.aload_n 0, 1) := by decide +kernel
theorem dX12_program_13 : decode cX12_program 13 = .ok (.aload_n 0, 1) := by decide +kernel
theorem dX12_program_14 : decode cX12_program 14 = .ok (.getfield 130, 3) := by decide +kernel
theorem dX12_program_17 : decode cX12_program 17 = .ok (.putfield 205, 3) := by decide +kernel
theorem dX12_program_20 : decode cX12_program 20 = .ok (.aload_n 0, 1) := by decide +kernel
theorem dX12_program_21 : decode cX12_program 21 = .ok (.aload_n 0, 1) := by decide +kernel
theorem dX12_program_22 : decode cX12_program 22 = .ok (.getfield 151, 3) := by decide +kernel
theorem dX12_program_25 : decode cX12_program 25 = .ok (.putfield 208, 3) := by decide +kernel
theorem dX12_program_28 : decode cX12_program 28 = .ok (.aload_n 0, 1) := by decide +kernel
theorem dX12_program_29 : decode cX12_program 29 = .ok (.aload_n 0, 1) := by decide +kernel
theorem dX12_program_30 : decode cX12_program 30 = .ok (.getfield 154, 3) := by decide +kernel
theorem dX12_program_33 : decode cX12_program 33 = .ok (.putfield 211, 3) := by decide +kernel
theorem dX12_program_36 : decode cX12_program 36 = .ok (.aload_n 0, 1) := by decide +kernel
theorem dX12_program_37 : decode cX12_program 37 = .ok (.aload_n 0, 1) := by decide +kernel
theorem dX12_program_38 : decode cX12_program 38 = .ok (.getfield 157, 3) := by decide +kernel
theorem dX12_program_41 : decode cX12_program 41 = .ok (.putfield 214, 3) := by decide +kernel
theorem dX12_program_44 : decode cX12_program 44 = .ok (.aload_n 0, 1) := by decide +kernel
theorem dX12_program_45 : decode cX12_program 45 = .ok (.aload_n 0, 1) := by decide +kernel
theorem dX12_program_46 : decode cX12_program 46 = .ok (.getfield 180, 3) := by decide +kernel
theorem dX12_program_49 : decode cX12_program 49 = .ok (.putfield 217, 3) := by decide +kernel
theorem dX12_program_52 : decode cX12_program 52 = .ok (.iconst 0, 1) := by decide +kernel
theorem dX12_program_53 : decode cX12_program 53 = .ok (.istore_n 1, 1) := by decide +kernel
theorem dX12_program_54 : decode cX12_program 54 = .ok (.iconst 0, 1) := by decide +kernel
theorem dX12_program_55 : decode cX12_program 55 = .ok (.istore_n 2, 1) := by decide +kernel
theorem dX12_program_56 : decode cX12_program 56 = .ok (.iload_n 2, 1) := by decide +kernel
theorem dX12_program_57 : decode cX12_program 57 = .ok (.aload_n 0, 1) := by decide +kernel
theorem dX12_program_58 : decode cX12_program 58 = .ok (.getfield 205, 3) := by decide +kernel
theorem dX12_program_61 : decode cX12_program 61 = .ok (.if_icmp .ge 101, 3) := by decide +kernel
theorem dX12_program_64 : decode cX12_program 64 = .ok (.aload_n 0, 1) := by decide +kernel
theorem dX12_program_65 : decode cX12_program 65 = .ok (.getfield 13, 3) := by decide +kernel
theorem dX12_program_68 : decode cX12_program 68 = .ok (.iload_n 2, 1) := by decide +kernel
theorem dX12_program_69 : decode cX12_program 69 = .ok (.aload_n 0, 1) := by decide +kernel
theorem dX12_program_70 : decode cX12_program 70 = .ok (.getfield 40, 3) := by decide +kernel
theorem dX12_program_73 : decode cX12_program 73 = .ok (.iload_n 2, 1) := by decide +kernel
theorem dX12_program_74 : decode cX12_program 74 = .ok (.iaload, 1) := by decide +kernel
theorem dX12_program_75 : decode cX12_program 75 = .ok (.iastore, 1) := by decide +kernel
theorem dX12_program_76 : decode cX12_program 76 = .ok (.aload_n 0, 1) := by decide +kernel
theorem dX12_program_77 : decode cX12_program 77 = .ok (.getfield 16, 3) := by decide +kernel
theorem dX12_program_80 : decode cX12_program 80 = .ok (.iload_n 2, 1) := by decide +kernel
theorem dX12_program_81 : decode cX12_program 81 = .ok (.aload_n 0, 1) := by decide +kernel
theorem dX12_program_82 : decode cX12_program 82 = .ok (.getfield 43, 3) := by decide +kernel
theorem dX12_program_85 : decode cX12_program 85 = .ok (.iload_n 2, 1) := by decide +kernel
theorem dX12_program_86 : decode cX12_program 86 = .ok (.iaload, 1) := by decide +kernel
theorem dX12_program_87 : decode cX12_program 87 = .ok (.iastore, 1) := by decide +kernel
theorem dX12_program_88 : decode cX12_program 88 = .ok (.aload_n 0, 1) := by decide +kernel
theorem dX12_program_89 : decode cX12_program 89 = .ok (.getfield 19, 3) := by decide +kernel
theorem dX12_program_92 : decode cX12_program 92 = .ok (.iload_n 2, 1) := by decide +kernel
theorem dX12_program_93 : decode cX12_program 93 = .ok (.aload_n 0, 1) := by decide +kernel
theorem dX12_program_94 : decode cX12_program 94 = .ok (.getfield 46, 3) := by decide +kernel
theorem dX12_program_97 : decode cX12_program 97 = .ok (.iload_n 2, 1) := by decide +kernel
theorem dX12_program_98 : decode cX12_program 98 = .ok (.iaload, 1) := by decide +kernel
theorem dX12_program_99 : decode cX12_program 99 = .ok (.iastore, 1) := by decide +kernel
theorem dX12_program_100 : decode cX12_program 100 = .ok (.aload_n 0, 1) := by decide +kernel
theorem dX12_program_101 : decode cX12_program 101 = .ok (.getfield 22, 3) := by decide +kernel
theorem dX12_program_104 : decode cX12_program 104 = .ok (.iload_n 2, 1) := by decide +kernel
theorem dX12_program_105 : decode cX12_program 105 = .ok (.aload_n 0, 1) := by decide +kernel
theorem dX12_program_106 : decode cX12_program 106 = .ok (.getfield 49, 3) := by decide +kernel
theorem dX12_program_109 : decode cX12_program 109 = .ok (.iload_n 2, 1) := by decide +kernel
theorem dX12_program_110 : decode cX12_program 110 = .ok (.iaload, 1) := by decide +kernel
theorem dX12_program_111 : decode cX12_program 111 = .ok (.iastore, 1) := by decide +kernel
theorem dX12_program_112 : decode cX12_program 112 = .ok (.aload_n 0, 1) := by decide +kernel
theorem dX12_program_113 : decode cX12_program 113 = .ok (.getfield 25, 3) := by decide +kernel
theorem dX12_program_116 : decode cX12_program 116 = .ok (.iload_n 2, 1) := by decide +kernel
theorem dX12_program_117 : decode cX12_program 117 = .ok (.aload_n 0, 1) := by decide +kernel
theorem dX12_program_118 : decode cX12_program 118 = .ok (.getfield 52, 3) := by decide +kernel
theorem dX12_program_121 : decode cX12_program 121 = .ok (.iload_n 2, 1) := by decide +kernel
theorem dX12_program_122 : decode cX12_program 122 = .ok (.iaload, 1) := by decide +kernel
theorem dX12_program_123 : decode cX12_program 123 = .ok (.iastore, 1) := by decide +kernel
theorem dX12_program_124 : decode cX12_program 124 = .ok (.aload_n 0, 1) := by decide +kernel
theorem dX12_program_125 : decode cX12_program 125 = .ok (.getfield 28, 3) := by decide +kernel
theorem dX12_program_128 : decode cX12_program 128 = .ok (.iload_n 2, 1) := by decide +kernel
theorem dX12_program_129 : decode cX12_program 129 = .ok (.aload_n 0, 1) := by decide +kernel
theorem dX12_program_130 : decode cX12_program 130 = .ok (.getfield 55, 3) := by decide +kernel
theorem dX12_program_133 : decode cX12_program 133 = .ok (.iload_n 2, 1) := by decide +kernel
theorem dX12_program_134 : decode cX12_program 134 = .ok (.iaload, 1) := by decide +kernel
theorem dX12_program_135 : decode cX12_program 135 = .ok (.iastore, 1) := by decide +kernel
theorem dX12_program_136 : decode cX12_program 136 = .ok (.iload_n 1, 1) := by decide +kernel
theorem dX12_program_137 : decode cX12_program 137 = .ok (.aload_n 0, 1) := by decide +kernel
theorem dX12_program_138 : decode cX12_program 138 = .ok (.getfield 13, 3) := by decide +kernel
theorem dX12_program_141 : decode cX12_program 141 = .ok (.iload_n 2, 1) := by decide +kernel
theorem dX12_program_142 : decode cX12_program 142 = .ok (.iaload, 1) := by decide +kernel
theorem dX12_program_143 : decode cX12_program 143 = .ok (.invokestatic 220, 3) := by decide +kernel
theorem dX12_program_146 : decode cX12_program 146 = .ok (.ifCond .eq 7, 3) := by decide +kernel
theorem dX12_program_149 : decode cX12_program 149 = .ok (.iconst 1, 1) := by decide +kernel
theorem dX12_program_150 : decode cX12_program 150 = .ok (.goto 4, 3) := by decide +kernel
theorem dX12_program_153 : decode cX12_program 153 = .ok (.iconst 0, 1) := by decide +kernel
theorem dX12_program_154 : decode cX12_program 154 = .ok (.iadd, 1) := by decide +kernel
theorem dX12_program_155 : decode cX12_program 155 = .ok (.istore_n 1, 1) := by decide +kernel
theorem dX12_program_156 : decode cX12_program 156 = .ok (.iinc 2 1, 3) := by decide +kernel
theorem dX12_program_159 : decode cX12_program 159 = .ok (.goto (-103), 3) := by decide +kernel
theorem dX12_program_162 : decode cX12_program 162 = .ok (.iconst 0, 1) := by decide +kernel
theorem dX12_program_163 : decode cX12_program 163 = .ok (.istore_n 2, 1) := by decide +kernel
theorem dX12_program_164 : decode cX12_program 164 = .ok (.iload_n 2, 1) := by decide +kernel
theorem dX12_program_165 : decode cX12_program 165 = .ok (.aload_n 0, 1) := by decide +kernel
theorem dX12_program_166 : decode cX12_program 166 = .ok (.getfield 217, 3) := by decide +kernel
theorem dX12_program_169 : decode cX12_program 169 = .ok (.if_icmp .ge 45, 3) := by decide +kernel
theorem dX12_program_172 : decode cX12_program 172 = .ok (.aload_n 0, 1) := by decide +kernel
theorem dX12_program_173 : decode cX12_program 173 = .ok (.getfield 31, 3) := by decide +kernel
theorem dX12_program_176 : decode cX12_program 176 = .ok (.iload_n 2, 1) := by decide +kernel
theorem dX12_program_177 : decode cX12_program 177 = .ok (.aload_n 0, 1) := by decide +kernel
theorem dX12_program_178 : decode cX12_program 178 = .ok (.getfield 58, 3) := by decide +kernel
theorem dX12_program_181 : decode cX12_program 181 = .ok (.iload_n 2, 1) := by decide +kernel
theorem dX12_program_182 : decode cX12_program 182 = .ok (.iaload, 1) := by decide +kernel
theorem dX12_program_183 : decode cX12_program 183 = .ok (.iastore, 1) := by decide +kernel
theorem dX12_program_184 : decode cX12_program 184 = .ok (.aload_n 0, 1) := by decide +kernel
theorem dX12_program_185 : decode cX12_program 185 = .ok (.getfield 34, 3) := by decide +kernel
theorem dX12_program_188 : decode cX12_program 188 = .ok (.iload_n 2, 1) := by decide +kernel
theorem dX12_program_189 : decode cX12_program 189 = .ok (.aload_n 0, 1) := by decide +kernel
theorem dX12_program_190 : decode cX12_program 190 = .ok (.getfield 61, 3) := by decide +kernel
theorem dX12_program_193 : decode cX12_program 193 = .ok (.iload_n 2, 1) := by decide +kernel
theorem dX12_program_194 : decode cX12_program 194 = .ok (.iaload, 1) := by decide +kernel
theorem dX12_program_195 : decode cX12_program 195 = .ok (.iastore, 1) := by decide +kernel
theorem dX12_program_196 : decode cX12_program 196 = .ok (.aload_n 0, 1) := by decide +kernel
theorem dX12_program_197 : decode cX12_program 197 = .ok (.getfield 37, 3) := by decide +kernel
theorem dX12_program_200 : decode cX12_program 200 = .ok (.iload_n 2, 1) := by decide +kernel
theorem dX12_program_201 : decode cX12_program 201 = .ok (.aload_n 0, 1) := by decide +kernel
theorem dX12_program_202 : decode cX12_program 202 = .ok (.getfield 64, 3) := by decide +kernel
theorem dX12_program_205 : decode cX12_program 205 = .ok (.iload_n 2, 1) := by decide +kernel
theorem dX12_program_206 : decode cX12_program 206 = .ok (.iaload, 1) := by decide +kernel
theorem dX12_program_207 : decode cX12_program 207 = .ok (.iastore, 1) := by decide +kernel
theorem dX12_program_208 : decode cX12_program 208 = .ok (.iinc 2 1, 3) := by decide +kernel
theorem dX12_program_211 : decode cX12_program 211 = .ok (.goto (-47), 3) := by decide +kernel
theorem dX12_program_214 : decode cX12_program 214 = .ok (.iconst 0, 1) := by decide +kernel
theorem dX12_program_215 : decode cX12_program 215 = .ok (.istore_n 2, 1) := by decide +kernel
theorem dX12_program_216 : decode cX12_program 216 = .ok (.iload_n 2, 1) := by decide +kernel
theorem dX12_program_217 : decode cX12_program 217 = .ok (.iconst 3, 1) := by decide +kernel
theorem dX12_program_218 : decode cX12_program 218 = .ok (.if_icmp .ge 17, 3) := by decide +kernel
theorem dX12_program_221 : decode cX12_program 221 = .ok (.aload_n 0, 1) := by decide +kernel
theorem dX12_program_222 : decode cX12_program 222 = .ok (.getfield 70, 3) := by decide +kernel
theorem dX12_program_225 : decode cX12_program 225 = .ok (.iload_n 2, 1) := by decide +kernel
theorem dX12_program_226 : decode cX12_program 226 = .ok (.bipush 6, 2) := by decide +kernel
theorem dX12_program_228 : decode cX12_program 228 = .ok (.iastore, 1) := by decide +kernel
theorem dX12_program_229 : decode cX12_program 229 = .ok (.iinc 2 1, 3) := by decide +kernel
theorem dX12_program_232 : decode cX12_program 232 = .ok (.goto (-16), 3) := by decide +kernel
theorem dX12_program_235 : decode cX12_program 235 = .ok (.aload_n 0, 1) := by decide +kernel
theorem dX12_program_236 : decode cX12_program 236 = .ok (.getfield 70, 3) := by decide +kernel
theorem dX12_program_239 : decode cX12_program 239 = .ok (.iconst 3, 1) := by decide +kernel
theorem dX12_program_240 : decode cX12_program 240 = .ok (.iconst 0, 1) := by decide +kernel
theorem dX12_program_241 : decode cX12_program 241 = .ok (.iastore, 1) := by decide +kernel
theorem dX12_program_242 : decode cX12_program 242 = .ok (.aload_n 0, 1) := by decide +kernel
theorem dX12_program_243 : decode cX12_program 243 = .ok (.iconst 0, 1) := by decide +kernel
theorem dX12_program_244 : decode cX12_program 244 = .ok (.putfield 223, 3) := by decide +kernel
theorem dX12_program_247 : decode cX12_program 247 = .ok (.aload_n 0, 1) := by decide +kernel
theorem dX12_program_248 : decode cX12_program 248 = .ok (.getfield 82, 3) := by decide +kernel
theorem dX12_program_251 : decode cX12_program 251 = .ok (.iconst 0, 1) := by decide +kernel
theorem dX12_program_252 : decode cX12_program 252 = .ok (.iconst 0, 1) := by decide +kernel
theorem dX12_program_253 : decode cX12_program 253 = .ok (.bastore, 1) := by decide +kernel
theorem dX12_program_254 : decode cX12_program 254 = .ok (.aload_n 0, 1) := by decide +kernel
theorem dX12_program_255 : decode cX12_program 255 = .ok (.getfield 82, 3) := by decide +kernel
theorem dX12_program_258 : decode cX12_program 258 = .ok (.iconst 1, 1) := by decide +kernel
theorem dX12_program_259 : decode cX12_program 259 = .ok (.iconst 0, 1) := by decide +kernel
theorem dX12_program_260 : decode cX12_program 260 = .ok (.bastore, 1) := by decide +kernel
theorem dX12_program_261 : decode cX12_program 261 = .ok (.iload_n 1, 1) := by decide +kernel
theorem dX12_program_262 : decode cX12_program 262 = .ok (.ireturn, 1) := by decide +kernel
theorem dX12_isStatement_0 : decode cX12_isStatement 0 = .ok (.iload_n 0, 1) := by decide +kernel
theorem dX12_isStatement_1 : decode cX12_isStatement 1 = .ok (.bipush 7, 2) := by decide +kernel
theorem dX12_isStatement_3 : decode cX12_isStatement 3 = .ok (.if_icmp .eq 19, 3) := by decide +kernel
theorem dX12_isStatement_6 : decode cX12_isStatement 6 = .ok (.iload_n 0, 1) := by decide +kernel
theorem dX12_isStatement_7 : decode cX12_isStatement 7 = .ok (.bipush 9, 2) := by decide +kernel
theorem dX12_isStatement_9 : decode cX12_isStatement 9 = .ok (.if_icmp .eq 13, 3) := by decide +kernel
theorem dX12_isStatement_12 : decode cX12_isStatement 12 = .ok (.iload_n 0, 1) := by decide +kernel
theorem dX12_isStatement_13 : decode cX12_isStatement 13 = .ok (.bipush 10, 2) := by decide +kernel
theorem dX12_isStatement_15 : decode cX12_isStatement 15 = .ok (.if_icmp .eq 7, 3) := by decide +kernel
theorem dX12_isStatement_18 : decode cX12_isStatement 18 = .ok (.iconst 1, 1) := by decide +kernel
theorem dX12_isStatement_19 : decode cX12_isStatement 19 = .ok (.goto 4, 3) := by decide +kernel
theorem dX12_isStatement_22 : decode cX12_isStatement 22 = .ok (.iconst 0, 1) := by decide +kernel
theorem dX12_isStatement_23 : decode cX12_isStatement 23 = .ok (.ireturn, 1) := by decide +kernel
theorem dX12_valueOf_0 : decode cX12_valueOf 0 = .ok (.iload_n 1, 1) := by decide +kernel
theorem dX12_valueOf_1 : decode cX12_valueOf 1 = .ok (.ifCond .ne 10, 3) := by decide +kernel
theorem dX12_valueOf_4 : decode cX12_valueOf 4 = .ok (.iload_n 0, 1) := by decide +kernel
theorem dX12_valueOf_5 : decode cX12_valueOf 5 = .ok (.bipush 36, 2) := by decide +kernel
theorem dX12_valueOf_7 : decode cX12_valueOf 7 = .ok (.idiv, 1) := by decide +kernel
theorem dX12_valueOf_8 : decode cX12_valueOf 8 = .ok (.goto 22, 3) := by decide +kernel
theorem dX12_valueOf_11 : decode cX12_valueOf 11 = .ok (.iload_n 1, 1) := by decide +kernel
theorem dX12_valueOf_12 : decode cX12_valueOf 12 = .ok (.iconst 1, 1) := by decide +kernel
theorem dX12_valueOf_13 : decode cX12_valueOf 13 = .ok (.if_icmp .ne 13, 3) := by decide +kernel
theorem dX12_valueOf_16 : decode cX12_valueOf 16 = .ok (.iload_n 0, 1) := by decide +kernel
theorem dX12_valueOf_17 : decode cX12_valueOf 17 = .ok (.bipush 6, 2) := by decide +kernel
theorem dX12_valueOf_19 : decode cX12_valueOf 19 = .ok (.idiv, 1) := by decide +kernel
theorem dX12_valueOf_20 : decode cX12_valueOf 20 = .ok (.bipush 6, 2) := by decide +kernel
theorem dX12_valueOf_22 : decode cX12_valueOf 22 = .ok (.irem, 1) := by decide +kernel
theorem dX12_valueOf_23 : decode cX12_valueOf 23 = .ok (.goto 7, 3) := by decide +kernel
theorem dX12_valueOf_26 : decode cX12_valueOf 26 = .ok (.iload_n 0, 1) := by decide +kernel
theorem dX12_valueOf_27 : decode cX12_valueOf 27 = .ok (.bipush 6, 2) := by decide +kernel
theorem dX12_valueOf_29 : decode cX12_valueOf 29 = .ok (.irem, 1) := by decide +kernel
theorem dX12_valueOf_30 : decode cX12_valueOf 30 = .ok (.ireturn, 1) := by decide +kernel
theorem dX12_with_0 : decode cX12_with 0 = .ok (.iload_n 1, 1) := by decide +kernel
theorem dX12_with_1 : decode cX12_with 1 = .ok (.ifCond .ne 8, 3) := by decide +kernel
theorem dX12_with_4 : decode cX12_with 4 = .ok (.bipush 36, 2) := by decide +kernel
theorem dX12_with_6 : decode cX12_with 6 = .ok (.goto 14, 3) := by decide +kernel
theorem dX12_with_9 : decode cX12_with 9 = .ok (.iload_n 1, 1) := by decide +kernel
theorem dX12_with_10 : decode cX12_with 10 = .ok (.iconst 1, 1) := by decide +kernel
theorem dX12_with_11 : decode cX12_with 11 = .ok (.if_icmp .ne 8, 3) := by decide +kernel
theorem dX12_with_14 : decode cX12_with 14 = .ok (.bipush 6, 2) := by decide +kernel
theorem dX12_with_16 : decode cX12_with 16 = .ok (.goto 4, 3) := by decide +kernel
theorem dX12_with_19 : decode cX12_with 19 = .ok (.iconst 1, 1) := by decide +kernel
theorem dX12_with_20 : decode cX12_with 20 = .ok (.istore_n 3, 1) := by decide +kernel
theorem dX12_with_21 : decode cX12_with 21 = .ok (.iload_n 0, 1) := by decide +kernel
theorem dX12_with_22 : decode cX12_with 22 = .ok (.iload_n 2, 1) := by decide +kernel
theorem dX12_with_23 : decode cX12_with 23 = .ok (.iload_n 0, 1) := by decide +kernel
theorem dX12_with_24 : decode cX12_with 24 = .ok (.iload_n 1, 1) := by decide +kernel
theorem dX12_with_25 : decode cX12_with 25 = .ok (.invokestatic 226, 3) := by decide +kernel
theorem dX12_with_28 : decode cX12_with 28 = .ok (.isub, 1) := by decide +kernel
theorem dX12_with_29 : decode cX12_with 29 = .ok (.iload_n 3, 1) := by decide +kernel
theorem dX12_with_30 : decode cX12_with 30 = .ok (.imul, 1) := by decide +kernel
theorem dX12_with_31 : decode cX12_with 31 = .ok (.iadd, 1) := by decide +kernel
theorem dX12_with_32 : decode cX12_with 32 = .ok (.ireturn, 1) := by decide +kernel
theorem dX12_told_0 : decode cX12_told 0 = .ok (.bipush 100, 2) := by decide +kernel
theorem dX12_told_2 : decode cX12_told 2 = .ok (.iload_n 0, 1) := by decide +kernel
theorem dX12_told_3 : decode cX12_told 3 = .ok (.bipush 36, 2) := by decide +kernel
theorem dX12_told_5 : decode cX12_told 5 = .ok (.idiv, 1) := by decide +kernel
theorem dX12_told_6 : decode cX12_told 6 = .ok (.imul, 1) := by decide +kernel
theorem dX12_told_7 : decode cX12_told 7 = .ok (.bipush 10, 2) := by decide +kernel
theorem dX12_told_9 : decode cX12_told 9 = .ok (.iload_n 0, 1) := by decide +kernel
theorem dX12_told_10 : decode cX12_told 10 = .ok (.bipush 6, 2) := by decide +kernel
theorem dX12_told_12 : decode cX12_told 12 = .ok (.idiv, 1) := by decide +kernel
theorem dX12_told_13 : decode cX12_told 13 = .ok (.bipush 6, 2) := by decide +kernel
theorem dX12_told_15 : decode cX12_told 15 = .ok (.irem, 1) := by decide +kernel
theorem dX12_told_16 : decode cX12_told 16 = .ok (.imul, 1) := by decide +kernel
theorem dX12_told_17 : decode cX12_told 17 = .ok (.iadd, 1) := by decide +kernel
theorem dX12_told_18 : decode cX12_told 18 = .ok (.iload_n 0, 1) := by decide +kernel
theorem dX12_told_19 : decode cX12_told 19 = .ok (.bipush 6, 2) := by decide +kernel
theorem dX12_told_21 : decode cX12_told 21 = .ok (.irem, 1) := by decide +kernel
theorem dX12_told_22 : decode cX12_told 22 = .ok (.iadd, 1) := by decide +kernel
theorem dX12_told_23 : decode cX12_told 23 = .ok (.ireturn, 1) := by decide +kernel
theorem dX12_termBy_0 : decode cX12_termBy 0 = .ok (.iload_n 1, 1) := by decide +kernel
theorem dX12_termBy_1 : decode cX12_termBy 1 = .ok (.bipush 6, 2) := by decide +kernel
theorem dX12_termBy_3 : decode cX12_termBy 3 = .ok (.if_icmp .ge 7, 3) := by decide +kernel
theorem dX12_termBy_6 : decode cX12_termBy 6 = .ok (.iload_n 1, 1) := by decide +kernel
theorem dX12_termBy_7 : decode cX12_termBy 7 = .ok (.goto 11, 3) := by decide +kernel
theorem dX12_termBy_10 : decode cX12_termBy 10 = .ok (.iload_n 0, 1) := by decide +kernel
theorem dX12_termBy_11 : decode cX12_termBy 11 = .ok (.iload_n 1, 1) := by decide +kernel
theorem dX12_termBy_12 : decode cX12_termBy 12 = .ok (.bipush 6, 2) := by decide +kernel
theorem dX12_termBy_14 : decode cX12_termBy 14 = .ok (.isub, 1) := by decide +kernel
theorem dX12_termBy_15 : decode cX12_termBy 15 = .ok (.invokestatic 226, 3) := by decide +kernel
theorem dX12_termBy_18 : decode cX12_termBy 18 = .ok (.ireturn, 1) := by decide +kernel
theorem dX12_compares_0 : decode cX12_compares 0 = .ok (.iload_n 0, 1) := by decide +kernel
theorem dX12_compares_1 : decode cX12_compares 1 = .ok (.iload_n 1, 1) := by decide +kernel
theorem dX12_compares_2 : decode cX12_compares 2 = .ok (.invokestatic 226, 3) := by decide +kernel
theorem dX12_compares_5 : decode cX12_compares 5 = .ok (.istore 4, 2) := by decide +kernel
theorem dX12_compares_7 : decode cX12_compares 7 = .ok (.iload_n 0, 1) := by decide +kernel
theorem dX12_compares_8 : decode cX12_compares 8 = .ok (.iload_n 3, 1) := by decide +kernel
theorem dX12_compares_9 : decode cX12_compares 9 = .ok (.invokestatic 229, 3) := by decide +kernel
theorem dX12_compares_12 : decode cX12_compares 12 = .ok (.istore 5, 2) := by decide +kernel
theorem dX12_compares_14 : decode cX12_compares 14 = .ok (.iload_n 2, 1) := by decide +kernel
theorem dX12_compares_15 : decode cX12_compares 15 = .ok (.tableswitch 64 60 62 #[25, 38, 51], 25) := by decide +kernel
theorem dX12_compares_40 : decode cX12_compares 40 = .ok (.iload 4, 2) := by decide +kernel
theorem dX12_compares_42 : decode cX12_compares 42 = .ok (.iload 5, 2) := by decide +kernel
theorem dX12_compares_44 : decode cX12_compares 44 = .ok (.if_icmp .ge 7, 3) := by decide +kernel
theorem dX12_compares_47 : decode cX12_compares 47 = .ok (.iconst 1, 1) := by decide +kernel
theorem dX12_compares_48 : decode cX12_compares 48 = .ok (.goto 4, 3) := by decide +kernel
theorem dX12_compares_51 : decode cX12_compares 51 = .ok (.iconst 0, 1) := by decide +kernel
theorem dX12_compares_52 : decode cX12_compares 52 = .ok (.ireturn, 1) := by decide +kernel
theorem dX12_compares_53 : decode cX12_compares 53 = .ok (.iload 4, 2) := by decide +kernel
theorem dX12_compares_55 : decode cX12_compares 55 = .ok (.iload 5, 2) := by decide +kernel
theorem dX12_compares_57 : decode cX12_compares 57 = .ok (.if_icmp .ne 7, 3) := by decide +kernel
theorem dX12_compares_60 : decode cX12_compares 60 = .ok (.iconst 1, 1) := by decide +kernel
theorem dX12_compares_61 : decode cX12_compares 61 = .ok (.goto 4, 3) := by decide +kernel
theorem dX12_compares_64 : decode cX12_compares 64 = .ok (.iconst 0, 1) := by decide +kernel
theorem dX12_compares_65 : decode cX12_compares 65 = .ok (.ireturn, 1) := by decide +kernel
theorem dX12_compares_66 : decode cX12_compares 66 = .ok (.iload 4, 2) := by decide +kernel
theorem dX12_compares_68 : decode cX12_compares 68 = .ok (.iload 5, 2) := by decide +kernel
theorem dX12_compares_70 : decode cX12_compares 70 = .ok (.if_icmp .le 7, 3) := by decide +kernel
theorem dX12_compares_73 : decode cX12_compares 73 = .ok (.iconst 1, 1) := by decide +kernel
theorem dX12_compares_74 : decode cX12_compares 74 = .ok (.goto 4, 3) := by decide +kernel
theorem dX12_compares_77 : decode cX12_compares 77 = .ok (.iconst 0, 1) := by decide +kernel
theorem dX12_compares_78 : decode cX12_compares 78 = .ok (.ireturn, 1) := by decide +kernel
theorem dX12_compares_79 : decode cX12_compares 79 = .ok (.iload 4, 2) := by decide +kernel
theorem dX12_compares_81 : decode cX12_compares 81 = .ok (.iload 5, 2) := by decide +kernel
theorem dX12_compares_83 : decode cX12_compares 83 = .ok (.if_icmp .eq 7, 3) := by decide +kernel
theorem dX12_compares_86 : decode cX12_compares 86 = .ok (.iconst 1, 1) := by decide +kernel
theorem dX12_compares_87 : decode cX12_compares 87 = .ok (.goto 4, 3) := by decide +kernel
theorem dX12_compares_90 : decode cX12_compares 90 = .ok (.iconst 0, 1) := by decide +kernel
theorem dX12_compares_91 : decode cX12_compares 91 = .ok (.ireturn, 1) := by decide +kernel
theorem dX12_isSo_0 : decode cX12_isSo 0 = .ok (.iload_n 2, 1) := by decide +kernel
theorem dX12_isSo_1 : decode cX12_isSo 1 = .ok (.aload_n 0, 1) := by decide +kernel
theorem dX12_isSo_2 : decode cX12_isSo 2 = .ok (.getfield 16, 3) := by decide +kernel
theorem dX12_isSo_5 : decode cX12_isSo 5 = .ok (.iload_n 1, 1) := by decide +kernel
theorem dX12_isSo_6 : decode cX12_isSo 6 = .ok (.iaload, 1) := by decide +kernel
theorem dX12_isSo_7 : decode cX12_isSo 7 = .ok (.aload_n 0, 1) := by decide +kernel
theorem dX12_isSo_8 : decode cX12_isSo 8 = .ok (.getfield 19, 3) := by decide +kernel
theorem dX12_isSo_11 : decode cX12_isSo 11 = .ok (.iload_n 1, 1) := by decide +kernel
theorem dX12_isSo_12 : decode cX12_isSo 12 = .ok (.iaload, 1) := by decide +kernel
theorem dX12_isSo_13 : decode cX12_isSo 13 = .ok (.aload_n 0, 1) := by decide +kernel
theorem dX12_isSo_14 : decode cX12_isSo 14 = .ok (.getfield 22, 3) := by decide +kernel
theorem dX12_isSo_17 : decode cX12_isSo 17 = .ok (.iload_n 1, 1) := by decide +kernel
theorem dX12_isSo_18 : decode cX12_isSo 18 = .ok (.iaload, 1) := by decide +kernel
theorem dX12_isSo_19 : decode cX12_isSo 19 = .ok (.invokestatic 232, 3) := by decide +kernel
theorem dX12_isSo_22 : decode cX12_isSo 22 = .ok (.ireturn, 1) := by decide +kernel
theorem dX12_isGuessed_0 : decode cX12_isGuessed 0 = .ok (.iload_n 2, 1) := by decide +kernel
theorem dX12_isGuessed_1 : decode cX12_isGuessed 1 = .ok (.aload_n 0, 1) := by decide +kernel
theorem dX12_isGuessed_2 : decode cX12_isGuessed 2 = .ok (.getfield 31, 3) := by decide +kernel
theorem dX12_isGuessed_5 : decode cX12_isGuessed 5 = .ok (.iload_n 1, 1) := by decide +kernel
theorem dX12_isGuessed_6 : decode cX12_isGuessed 6 = .ok (.iaload, 1) := by decide +kernel
theorem dX12_isGuessed_7 : decode cX12_isGuessed 7 = .ok (.aload_n 0, 1) := by decide +kernel
theorem dX12_isGuessed_8 : decode cX12_isGuessed 8 = .ok (.getfield 34, 3) := by decide +kernel
theorem dX12_isGuessed_11 : decode cX12_isGuessed 11 = .ok (.iload_n 1, 1) := by decide +kernel
theorem dX12_isGuessed_12 : decode cX12_isGuessed 12 = .ok (.iaload, 1) := by decide +kernel
theorem dX12_isGuessed_13 : decode cX12_isGuessed 13 = .ok (.aload_n 0, 1) := by decide +kernel
theorem dX12_isGuessed_14 : decode cX12_isGuessed 14 = .ok (.getfield 37, 3) := by decide +kernel
theorem dX12_isGuessed_17 : decode cX12_isGuessed 17 = .ok (.iload_n 1, 1) := by decide +kernel
theorem dX12_isGuessed_18 : decode cX12_isGuessed 18 = .ok (.iaload, 1) := by decide +kernel
theorem dX12_isGuessed_19 : decode cX12_isGuessed 19 = .ok (.invokestatic 232, 3) := by decide +kernel
theorem dX12_isGuessed_22 : decode cX12_isGuessed 22 = .ok (.ireturn, 1) := by decide +kernel
theorem dX12_areGuessed_0 : decode cX12_areGuessed 0 = .ok (.iconst 1, 1) := by decide +kernel
theorem dX12_areGuessed_1 : decode cX12_areGuessed 1 = .ok (.istore_n 3, 1) := by decide +kernel
theorem dX12_areGuessed_2 : decode cX12_areGuessed 2 = .ok (.iconst 0, 1) := by decide +kernel
theorem dX12_areGuessed_3 : decode cX12_areGuessed 3 = .ok (.istore 4, 2) := by decide +kernel
theorem dX12_areGuessed_5 : decode cX12_areGuessed 5 = .ok (.iload 4, 2) := by decide +kernel
theorem dX12_areGuessed_7 : decode cX12_areGuessed 7 = .ok (.aload_n 0, 1) := by decide +kernel
theorem dX12_areGuessed_8 : decode cX12_areGuessed 8 = .ok (.getfield 217, 3) := by decide +kernel
theorem dX12_areGuessed_11 : decode cX12_areGuessed 11 = .ok (.if_icmp .ge 38, 3) := by decide +kernel
theorem dX12_areGuessed_14 : decode cX12_areGuessed 14 = .ok (.iload_n 3, 1) := by decide +kernel
theorem dX12_areGuessed_15 : decode cX12_areGuessed 15 = .ok (.ifCond .eq 26, 3) := by decide +kernel
theorem dX12_areGuessed_18 : decode cX12_areGuessed 18 = .ok (.iload_n 1, 1) := by decide +kernel
theorem dX12_areGuessed_19 : decode cX12_areGuessed 19 = .ok (.iload 4, 2) := by decide +kernel
theorem dX12_areGuessed_21 : decode cX12_areGuessed 21 = .ok (.invokestatic 236, 3) := by decide +kernel
theorem dX12_areGuessed_24 : decode cX12_areGuessed 24 = .ok (.ifCond .eq 13, 3) := by decide +kernel
theorem dX12_areGuessed_27 : decode cX12_areGuessed 27 = .ok (.aload_n 0, 1) := by decide +kernel
theorem dX12_areGuessed_28 : decode cX12_areGuessed 28 = .ok (.iload 4, 2) := by decide +kernel
theorem dX12_areGuessed_30 : decode cX12_areGuessed 30 = .ok (.iload_n 2, 1) := by decide +kernel
theorem dX12_areGuessed_31 : decode cX12_areGuessed 31 = .ok (.invokevirtual 239, 3) := by decide +kernel
theorem dX12_areGuessed_34 : decode cX12_areGuessed 34 = .ok (.ifCond .eq 7, 3) := by decide +kernel
theorem dX12_areGuessed_37 : decode cX12_areGuessed 37 = .ok (.iconst 1, 1) := by decide +kernel
theorem dX12_areGuessed_38 : decode cX12_areGuessed 38 = .ok (.goto 4, 3) := by decide +kernel
theorem dX12_areGuessed_41 : decode cX12_areGuessed 41 = .ok (.iconst 0, 1) := by decide +kernel
theorem dX12_areGuessed_42 : decode cX12_areGuessed 42 = .ok (.istore_n 3, 1) := by decide +kernel
theorem dX12_areGuessed_43 : decode cX12_areGuessed 43 = .ok (.iinc 4 1, 3) := by decide +kernel
theorem dX12_areGuessed_46 : decode cX12_areGuessed 46 = .ok (.goto (-41), 3) := by decide +kernel
theorem dX12_areGuessed_49 : decode cX12_areGuessed 49 = .ok (.iload_n 3, 1) := by decide +kernel
theorem dX12_areGuessed_50 : decode cX12_areGuessed 50 = .ok (.ireturn, 1) := by decide +kernel
theorem dX12_mayBegin_0 : decode cX12_mayBegin 0 = .ok (.iconst 1, 1) := by decide +kernel
theorem dX12_mayBegin_1 : decode cX12_mayBegin 1 = .ok (.istore_n 2, 1) := by decide +kernel
theorem dX12_mayBegin_2 : decode cX12_mayBegin 2 = .ok (.iconst 0, 1) := by decide +kernel
theorem dX12_mayBegin_3 : decode cX12_mayBegin 3 = .ok (.istore_n 3, 1) := by decide +kernel
theorem dX12_mayBegin_4 : decode cX12_mayBegin 4 = .ok (.iload_n 3, 1) := by decide +kernel
theorem dX12_mayBegin_5 : decode cX12_mayBegin 5 = .ok (.iconst 3, 1) := by decide +kernel
theorem dX12_mayBegin_6 : decode cX12_mayBegin 6 = .ok (.if_icmp .ge 38, 3) := by decide +kernel
theorem dX12_mayBegin_9 : decode cX12_mayBegin 9 = .ok (.iload_n 2, 1) := by decide +kernel
theorem dX12_mayBegin_10 : decode cX12_mayBegin 10 = .ok (.ifCond .eq 26, 3) := by decide +kernel
theorem dX12_mayBegin_13 : decode cX12_mayBegin 13 = .ok (.aload_n 0, 1) := by decide +kernel
theorem dX12_mayBegin_14 : decode cX12_mayBegin 14 = .ok (.iload_n 3, 1) := by decide +kernel
theorem dX12_mayBegin_15 : decode cX12_mayBegin 15 = .ok (.iaload, 1) := by decide +kernel
theorem dX12_mayBegin_16 : decode cX12_mayBegin 16 = .ok (.bipush 6, 2) := by decide +kernel
theorem dX12_mayBegin_18 : decode cX12_mayBegin 18 = .ok (.if_icmp .eq 14, 3) := by decide +kernel
theorem dX12_mayBegin_21 : decode cX12_mayBegin 21 = .ok (.aload_n 0, 1) := by decide +kernel
theorem dX12_mayBegin_22 : decode cX12_mayBegin 22 = .ok (.iload_n 3, 1) := by decide +kernel
theorem dX12_mayBegin_23 : decode cX12_mayBegin 23 = .ok (.iaload, 1) := by decide +kernel
theorem dX12_mayBegin_24 : decode cX12_mayBegin 24 = .ok (.iload_n 1, 1) := by decide +kernel
theorem dX12_mayBegin_25 : decode cX12_mayBegin 25 = .ok (.iload_n 3, 1) := by decide +kernel
theorem dX12_mayBegin_26 : decode cX12_mayBegin 26 = .ok (.invokestatic 226, 3) := by decide +kernel
theorem dX12_mayBegin_29 : decode cX12_mayBegin 29 = .ok (.if_icmp .ne 7, 3) := by decide +kernel
theorem dX12_mayBegin_32 : decode cX12_mayBegin 32 = .ok (.iconst 1, 1) := by decide +kernel
theorem dX12_mayBegin_33 : decode cX12_mayBegin 33 = .ok (.goto 4, 3) := by decide +kernel
theorem dX12_mayBegin_36 : decode cX12_mayBegin 36 = .ok (.iconst 0, 1) := by decide +kernel
theorem dX12_mayBegin_37 : decode cX12_mayBegin 37 = .ok (.istore_n 2, 1) := by decide +kernel
theorem dX12_mayBegin_38 : decode cX12_mayBegin 38 = .ok (.iinc 3 1, 3) := by decide +kernel
theorem dX12_mayBegin_41 : decode cX12_mayBegin 41 = .ok (.goto (-37), 3) := by decide +kernel
theorem dX12_mayBegin_44 : decode cX12_mayBegin 44 = .ok (.iload_n 2, 1) := by decide +kernel
theorem dX12_mayBegin_45 : decode cX12_mayBegin 45 = .ok (.ireturn, 1) := by decide +kernel
theorem dX12_done_0 : decode cX12_done 0 = .ok (.aload_n 0, 1) := by decide +kernel
theorem dX12_done_1 : decode cX12_done 1 = .ok (.getfield 16, 3) := by decide +kernel
theorem dX12_done_4 : decode cX12_done 4 = .ok (.iload_n 1, 1) := by decide +kernel
theorem dX12_done_5 : decode cX12_done 5 = .ok (.iaload, 1) := by decide +kernel
theorem dX12_done_6 : decode cX12_done 6 = .ok (.istore 4, 2) := by decide +kernel
theorem dX12_done_8 : decode cX12_done 8 = .ok (.iload_n 2, 1) := by decide +kernel
theorem dX12_done_9 : decode cX12_done 9 = .ok (.iload 4, 2) := by decide +kernel
theorem dX12_done_11 : decode cX12_done 11 = .ok (.invokestatic 226, 3) := by decide +kernel
theorem dX12_done_14 : decode cX12_done 14 = .ok (.istore 5, 2) := by decide +kernel
theorem dX12_done_16 : decode cX12_done 16 = .ok (.aload_n 0, 1) := by decide +kernel
theorem dX12_done_17 : decode cX12_done 17 = .ok (.getfield 13, 3) := by decide +kernel
theorem dX12_done_20 : decode cX12_done 20 = .ok (.iload_n 1, 1) := by decide +kernel
theorem dX12_done_21 : decode cX12_done 21 = .ok (.iaload, 1) := by decide +kernel
theorem dX12_done_22 : decode cX12_done 22 = .ok (.tableswitch 84 0 2 #[26, 43, 64], 26) := by decide +kernel
theorem dX12_done_48 : decode cX12_done 48 = .ok (.iload_n 2, 1) := by decide +kernel
theorem dX12_done_49 : decode cX12_done 49 = .ok (.iload 4, 2) := by decide +kernel
theorem dX12_done_51 : decode cX12_done 51 = .ok (.iload_n 2, 1) := by decide +kernel
theorem dX12_done_52 : decode cX12_done 52 = .ok (.aload_n 0, 1) := by decide +kernel
theorem dX12_done_53 : decode cX12_done 53 = .ok (.getfield 22, 3) := by decide +kernel
theorem dX12_done_56 : decode cX12_done 56 = .ok (.iload_n 1, 1) := by decide +kernel
theorem dX12_done_57 : decode cX12_done 57 = .ok (.iaload, 1) := by decide +kernel
theorem dX12_done_58 : decode cX12_done 58 = .ok (.invokestatic 229, 3) := by decide +kernel
theorem dX12_done_61 : decode cX12_done 61 = .ok (.invokestatic 242, 3) := by decide +kernel
theorem dX12_done_64 : decode cX12_done 64 = .ok (.ireturn, 1) := by decide +kernel
theorem dX12_done_65 : decode cX12_done 65 = .ok (.iload_n 2, 1) := by decide +kernel
theorem dX12_done_66 : decode cX12_done 66 = .ok (.iload 4, 2) := by decide +kernel
theorem dX12_done_68 : decode cX12_done 68 = .ok (.iload 5, 2) := by decide +kernel
theorem dX12_done_70 : decode cX12_done 70 = .ok (.iconst 5, 1) := by decide +kernel
theorem dX12_done_71 : decode cX12_done 71 = .ok (.if_icmp .ge 10, 3) := by decide +kernel
theorem dX12_done_74 : decode cX12_done 74 = .ok (.iload 5, 2) := by decide +kernel
theorem dX12_done_76 : decode cX12_done 76 = .ok (.iconst 1, 1) := by decide +kernel
theorem dX12_done_77 : decode cX12_done 77 = .ok (.iadd, 1) := by decide +kernel
theorem dX12_done_78 : decode cX12_done 78 = .ok (.goto 4, 3) := by decide +kernel
theorem dX12_done_81 : decode cX12_done 81 = .ok (.iconst 5, 1) := by decide +kernel
theorem dX12_done_82 : decode cX12_done 82 = .ok (.invokestatic 242, 3) := by decide +kernel
theorem dX12_done_85 : decode cX12_done 85 = .ok (.ireturn, 1) := by decide +kernel
theorem dX12_done_86 : decode cX12_done 86 = .ok (.iload_n 2, 1) := by decide +kernel
theorem dX12_done_87 : decode cX12_done 87 = .ok (.iload 4, 2) := by decide +kernel
theorem dX12_done_89 : decode cX12_done 89 = .ok (.iload 5, 2) := by decide +kernel
theorem dX12_done_91 : decode cX12_done 91 = .ok (.ifCond .le 10, 3) := by decide +kernel
theorem dX12_done_94 : decode cX12_done 94 = .ok (.iload 5, 2) := by decide +kernel
theorem dX12_done_96 : decode cX12_done 96 = .ok (.iconst 1, 1) := by decide +kernel
theorem dX12_done_97 : decode cX12_done 97 = .ok (.isub, 1) := by decide +kernel
theorem dX12_done_98 : decode cX12_done 98 = .ok (.goto 4, 3) := by decide +kernel
theorem dX12_done_101 : decode cX12_done 101 = .ok (.iconst 0, 1) := by decide +kernel
theorem dX12_done_102 : decode cX12_done 102 = .ok (.invokestatic 242, 3) := by decide +kernel
theorem dX12_done_105 : decode cX12_done 105 = .ok (.ireturn, 1) := by decide +kernel
theorem dX12_done_106 : decode cX12_done 106 = .ok (.iload_n 2, 1) := by decide +kernel
theorem dX12_done_107 : decode cX12_done 107 = .ok (.iload 4, 2) := by decide +kernel
theorem dX12_done_109 : decode cX12_done 109 = .ok (.iload_n 3, 1) := by decide +kernel
theorem dX12_done_110 : decode cX12_done 110 = .ok (.invokestatic 242, 3) := by decide +kernel
theorem dX12_done_113 : decode cX12_done 113 = .ok (.ireturn, 1) := by decide +kernel
theorem dX12_isThere_0 : decode cX12_isThere 0 = .ok (.aload_n 0, 1) := by decide +kernel
theorem dX12_isThere_1 : decode cX12_isThere 1 = .ok (.getfield 92, 3) := by decide +kernel
theorem dX12_isThere_4 : decode cX12_isThere 4 = .ok (.iconst 4, 1) := by decide +kernel
theorem dX12_isThere_5 : decode cX12_isThere 5 = .ok (.iload_n 1, 1) := by decide +kernel
theorem dX12_isThere_6 : decode cX12_isThere 6 = .ok (.imul, 1) := by decide +kernel
theorem dX12_isThere_7 : decode cX12_isThere 7 = .ok (.iload_n 2, 1) := by decide +kernel
theorem dX12_isThere_8 : decode cX12_isThere 8 = .ok (.bipush 54, 2) := by decide +kernel
theorem dX12_isThere_10 : decode cX12_isThere 10 = .ok (.idiv, 1) := by decide +kernel
theorem dX12_isThere_11 : decode cX12_isThere 11 = .ok (.iadd, 1) := by decide +kernel
theorem dX12_isThere_12 : decode cX12_isThere 12 = .ok (.laload, 1) := by decide +kernel
theorem dX12_isThere_13 : decode cX12_isThere 13 = .ok (.iload_n 2, 1) := by decide +kernel
theorem dX12_isThere_14 : decode cX12_isThere 14 = .ok (.bipush 54, 2) := by decide +kernel
theorem dX12_isThere_16 : decode cX12_isThere 16 = .ok (.irem, 1) := by decide +kernel
theorem dX12_isThere_17 : decode cX12_isThere 17 = .ok (.lshr, 1) := by decide +kernel
theorem dX12_isThere_18 : decode cX12_isThere 18 = .ok (.lconst 1, 1) := by decide +kernel
theorem dX12_isThere_19 : decode cX12_isThere 19 = .ok (.land, 1) := by decide +kernel
theorem dX12_isThere_20 : decode cX12_isThere 20 = .ok (.lconst 1, 1) := by decide +kernel
theorem dX12_isThere_21 : decode cX12_isThere 21 = .ok (.lcmp, 1) := by decide +kernel
theorem dX12_isThere_22 : decode cX12_isThere 22 = .ok (.ifCond .ne 7, 3) := by decide +kernel
theorem dX12_isThere_25 : decode cX12_isThere 25 = .ok (.iconst 1, 1) := by decide +kernel
theorem dX12_isThere_26 : decode cX12_isThere 26 = .ok (.goto 4, 3) := by decide +kernel
theorem dX12_isThere_29 : decode cX12_isThere 29 = .ok (.iconst 0, 1) := by decide +kernel
theorem dX12_isThere_30 : decode cX12_isThere 30 = .ok (.ireturn, 1) := by decide +kernel
theorem dX12_put_0 : decode cX12_put 0 = .ok (.aload_n 0, 1) := by decide +kernel
theorem dX12_put_1 : decode cX12_put 1 = .ok (.iload_n 1, 1) := by decide +kernel
theorem dX12_put_2 : decode cX12_put 2 = .ok (.iload_n 2, 1) := by decide +kernel
theorem dX12_put_3 : decode cX12_put 3 = .ok (.invokevirtual 246, 3) := by decide +kernel
theorem dX12_put_6 : decode cX12_put 6 = .ok (.ifCond .ne 7, 3) := by decide +kernel
theorem dX12_put_9 : decode cX12_put 9 = .ok (.iconst 1, 1) := by decide +kernel
theorem dX12_put_10 : decode cX12_put 10 = .ok (.goto 4, 3) := by decide +kernel
theorem dX12_put_13 : decode cX12_put 13 = .ok (.iconst 0, 1) := by decide +kernel
theorem dX12_put_14 : decode cX12_put 14 = .ok (.istore_n 3, 1) := by decide +kernel
theorem dX12_put_15 : decode cX12_put 15 = .ok (.aload_n 0, 1) := by decide +kernel
theorem dX12_put_16 : decode cX12_put 16 = .ok (.getfield 92, 3) := by decide +kernel
theorem dX12_put_19 : decode cX12_put 19 = .ok (.iconst 4, 1) := by decide +kernel
theorem dX12_put_20 : decode cX12_put 20 = .ok (.iload_n 1, 1) := by decide +kernel
theorem dX12_put_21 : decode cX12_put 21 = .ok (.imul, 1) := by decide +kernel
theorem dX12_put_22 : decode cX12_put 22 = .ok (.iload_n 2, 1) := by decide +kernel
theorem dX12_put_23 : decode cX12_put 23 = .ok (.bipush 54, 2) := by decide +kernel
theorem dX12_put_25 : decode cX12_put 25 = .ok (.idiv, 1) := by decide +kernel
theorem dX12_put_26 : decode cX12_put 26 = .ok (.iadd, 1) := by decide +kernel
theorem dX12_put_27 : decode cX12_put 27 = .ok (.dup2, 1) := by decide +kernel
theorem dX12_put_28 : decode cX12_put 28 = .ok (.laload, 1) := by decide +kernel
theorem dX12_put_29 : decode cX12_put 29 = .ok (.lconst 1, 1) := by decide +kernel
theorem dX12_put_30 : decode cX12_put 30 = .ok (.iload_n 2, 1) := by decide +kernel
theorem dX12_put_31 : decode cX12_put 31 = .ok (.bipush 54, 2) := by decide +kernel
theorem dX12_put_33 : decode cX12_put 33 = .ok (.irem, 1) := by decide +kernel
theorem dX12_put_34 : decode cX12_put 34 = .ok (.lshl, 1) := by decide +kernel
theorem dX12_put_35 : decode cX12_put 35 = .ok (.lor, 1) := by decide +kernel
theorem dX12_put_36 : decode cX12_put 36 = .ok (.lastore, 1) := by decide +kernel
theorem dX12_put_37 : decode cX12_put 37 = .ok (.aload_n 0, 1) := by decide +kernel
theorem dX12_put_38 : decode cX12_put 38 = .ok (.getfield 96, 3) := by decide +kernel
theorem dX12_put_41 : decode cX12_put 41 = .ok (.iconst 4, 1) := by decide +kernel
theorem dX12_put_42 : decode cX12_put 42 = .ok (.iload_n 1, 1) := by decide +kernel
theorem dX12_put_43 : decode cX12_put 43 = .ok (.imul, 1) := by decide +kernel
theorem dX12_put_44 : decode cX12_put 44 = .ok (.iload_n 2, 1) := by decide +kernel
theorem dX12_put_45 : decode cX12_put 45 = .ok (.bipush 54, 2) := by decide +kernel
theorem dX12_put_47 : decode cX12_put 47 = .ok (.idiv, 1) := by decide +kernel
theorem dX12_put_48 : decode cX12_put 48 = .ok (.iadd, 1) := by decide +kernel
theorem dX12_put_49 : decode cX12_put 49 = .ok (.dup2, 1) := by decide +kernel
theorem dX12_put_50 : decode cX12_put 50 = .ok (.laload, 1) := by decide +kernel
theorem dX12_put_51 : decode cX12_put 51 = .ok (.iload_n 3, 1) := by decide +kernel
theorem dX12_put_52 : decode cX12_put 52 = .ok (.ifCond .eq 12, 3) := by decide +kernel
theorem dX12_put_55 : decode cX12_put 55 = .ok (.lconst 1, 1) := by decide +kernel
theorem dX12_put_56 : decode cX12_put 56 = .ok (.iload_n 2, 1) := by decide +kernel
theorem dX12_put_57 : decode cX12_put 57 = .ok (.bipush 54, 2) := by decide +kernel
theorem dX12_put_59 : decode cX12_put 59 = .ok (.irem, 1) := by decide +kernel
theorem dX12_put_60 : decode cX12_put 60 = .ok (.lshl, 1) := by decide +kernel
theorem dX12_put_61 : decode cX12_put 61 = .ok (.goto 4, 3) := by decide +kernel
theorem dX12_put_64 : decode cX12_put 64 = .ok (.lconst 0, 1) := by decide +kernel
theorem dX12_put_65 : decode cX12_put 65 = .ok (.lor, 1) := by decide +kernel
theorem dX12_put_66 : decode cX12_put 66 = .ok (.lastore, 1) := by decide +kernel
theorem dX12_put_67 : decode cX12_put 67 = .ok (.iload_n 3, 1) := by decide +kernel
theorem dX12_put_68 : decode cX12_put 68 = .ok (.ireturn, 1) := by decide +kernel
theorem dX12_manyAt_0 : decode cX12_manyAt 0 = .ok (.iconst 0, 1) := by decide +kernel
theorem dX12_manyAt_1 : decode cX12_manyAt 1 = .ok (.istore_n 2, 1) := by decide +kernel
theorem dX12_manyAt_2 : decode cX12_manyAt 2 = .ok (.iconst 0, 1) := by decide +kernel
theorem dX12_manyAt_3 : decode cX12_manyAt 3 = .ok (.istore_n 3, 1) := by decide +kernel
theorem dX12_manyAt_4 : decode cX12_manyAt 4 = .ok (.iload_n 3, 1) := by decide +kernel
theorem dX12_manyAt_5 : decode cX12_manyAt 5 = .ok (.sipush 216, 3) := by decide +kernel
theorem dX12_manyAt_8 : decode cX12_manyAt 8 = .ok (.if_icmp .ge 26, 3) := by decide +kernel
theorem dX12_manyAt_11 : decode cX12_manyAt 11 = .ok (.iload_n 2, 1) := by decide +kernel
theorem dX12_manyAt_12 : decode cX12_manyAt 12 = .ok (.aload_n 0, 1) := by decide +kernel
theorem dX12_manyAt_13 : decode cX12_manyAt 13 = .ok (.iload_n 1, 1) := by decide +kernel
theorem dX12_manyAt_14 : decode cX12_manyAt 14 = .ok (.iload_n 3, 1) := by decide +kernel
theorem dX12_manyAt_15 : decode cX12_manyAt 15 = .ok (.invokevirtual 246, 3) := by decide +kernel
theorem dX12_manyAt_18 : decode cX12_manyAt 18 = .ok (.ifCond .eq 7, 3) := by decide +kernel
theorem dX12_manyAt_21 : decode cX12_manyAt 21 = .ok (.iconst 1, 1) := by decide +kernel
theorem dX12_manyAt_22 : decode cX12_manyAt 22 = .ok (.goto 4, 3) := by decide +kernel
theorem dX12_manyAt_25 : decode cX12_manyAt 25 = .ok (.iconst 0, 1) := by decide +kernel
theorem dX12_manyAt_26 : decode cX12_manyAt 26 = .ok (.iadd, 1) := by decide +kernel
theorem dX12_manyAt_27 : decode cX12_manyAt 27 = .ok (.istore_n 2, 1) := by decide +kernel
theorem dX12_manyAt_28 : decode cX12_manyAt 28 = .ok (.iinc 3 1, 3) := by decide +kernel
theorem dX12_manyAt_31 : decode cX12_manyAt 31 = .ok (.goto (-27), 3) := by decide +kernel
theorem dX12_manyAt_34 : decode cX12_manyAt 34 = .ok (.iload_n 2, 1) := by decide +kernel
theorem dX12_manyAt_35 : decode cX12_manyAt 35 = .ok (.ireturn, 1) := by decide +kernel
theorem dX12_goOn_0 : decode cX12_goOn 0 = .ok (.iconst 0, 1) := by decide +kernel
theorem dX12_goOn_1 : decode cX12_goOn 1 = .ok (.istore_n 3, 1) := by decide +kernel
theorem dX12_goOn_2 : decode cX12_goOn 2 = .ok (.aload_n 0, 1) := by decide +kernel
theorem dX12_goOn_3 : decode cX12_goOn 3 = .ok (.getfield 13, 3) := by decide +kernel
theorem dX12_goOn_6 : decode cX12_goOn 6 = .ok (.iload_n 1, 1) := by decide +kernel
theorem dX12_goOn_7 : decode cX12_goOn 7 = .ok (.iaload, 1) := by decide +kernel
theorem dX12_goOn_8 : decode cX12_goOn 8 = .ok (.tableswitch 216 0 10 #[60, 60, 60, 75, 121, 121, 147, 216, 174, 216, 207], 60) := by decide +kernel
theorem dX12_goOn_68 : decode cX12_goOn 68 = .ok (.aload_n 0, 1) := by decide +kernel
theorem dX12_goOn_69 : decode cX12_goOn 69 = .ok (.iload_n 1, 1) := by decide +kernel
theorem dX12_goOn_70 : decode cX12_goOn 70 = .ok (.iconst 1, 1) := by decide +kernel
theorem dX12_goOn_71 : decode cX12_goOn 71 = .ok (.iadd, 1) := by decide +kernel
theorem dX12_goOn_72 : decode cX12_goOn 72 = .ok (.aload_n 0, 1) := by decide +kernel
theorem dX12_goOn_73 : decode cX12_goOn 73 = .ok (.iload_n 1, 1) := by decide +kernel
theorem dX12_goOn_74 : decode cX12_goOn 74 = .ok (.iload_n 2, 1) := by decide +kernel
theorem dX12_goOn_75 : decode cX12_goOn 75 = .ok (.iconst 0, 1) := by decide +kernel
theorem dX12_goOn_76 : decode cX12_goOn 76 = .ok (.invokevirtual 249, 3) := by decide +kernel
theorem dX12_goOn_79 : decode cX12_goOn 79 = .ok (.invokevirtual 252, 3) := by decide +kernel
theorem dX12_goOn_82 : decode cX12_goOn 82 = .ok (.ireturn, 1) := by decide +kernel
theorem dX12_goOn_83 : decode cX12_goOn 83 = .ok (.iconst 0, 1) := by decide +kernel
theorem dX12_goOn_84 : decode cX12_goOn 84 = .ok (.istore 4, 2) := by decide +kernel
theorem dX12_goOn_86 : decode cX12_goOn 86 = .ok (.iload 4, 2) := by decide +kernel
theorem dX12_goOn_88 : decode cX12_goOn 88 = .ok (.bipush 6, 2) := by decide +kernel
theorem dX12_goOn_90 : decode cX12_goOn 90 = .ok (.if_icmp .ge 37, 3) := by decide +kernel
theorem dX12_goOn_93 : decode cX12_goOn 93 = .ok (.aload_n 0, 1) := by decide +kernel
theorem dX12_goOn_94 : decode cX12_goOn 94 = .ok (.iload_n 1, 1) := by decide +kernel
theorem dX12_goOn_95 : decode cX12_goOn 95 = .ok (.iconst 1, 1) := by decide +kernel
theorem dX12_goOn_96 : decode cX12_goOn 96 = .ok (.iadd, 1) := by decide +kernel
theorem dX12_goOn_97 : decode cX12_goOn 97 = .ok (.aload_n 0, 1) := by decide +kernel
theorem dX12_goOn_98 : decode cX12_goOn 98 = .ok (.iload_n 1, 1) := by decide +kernel
theorem dX12_goOn_99 : decode cX12_goOn 99 = .ok (.iload_n 2, 1) := by decide +kernel
theorem dX12_goOn_100 : decode cX12_goOn 100 = .ok (.iload 4, 2) := by decide +kernel
theorem dX12_goOn_102 : decode cX12_goOn 102 = .ok (.invokevirtual 249, 3) := by decide +kernel
theorem dX12_goOn_105 : decode cX12_goOn 105 = .ok (.invokevirtual 252, 3) := by decide +kernel
theorem dX12_goOn_108 : decode cX12_goOn 108 = .ok (.ifCond .ne 7, 3) := by decide +kernel
theorem dX12_goOn_111 : decode cX12_goOn 111 = .ok (.iload_n 3, 1) := by decide +kernel
theorem dX12_goOn_112 : decode cX12_goOn 112 = .ok (.ifCond .eq 7, 3) := by decide +kernel
theorem dX12_goOn_115 : decode cX12_goOn 115 = .ok (.iconst 1, 1) := by decide +kernel
theorem dX12_goOn_116 : decode cX12_goOn 116 = .ok (.goto 4, 3) := by decide +kernel
theorem dX12_goOn_119 : decode cX12_goOn 119 = .ok (.iconst 0, 1) := by decide +kernel
theorem dX12_goOn_120 : decode cX12_goOn 120 = .ok (.istore_n 3, 1) := by decide +kernel
theorem dX12_goOn_121 : decode cX12_goOn 121 = .ok (.iinc 4 1, 3) := by decide +kernel
theorem dX12_goOn_124 : decode cX12_goOn 124 = .ok (.goto (-38), 3) := by decide +kernel
theorem dX12_goOn_127 : decode cX12_goOn 127 = .ok (.iload_n 3, 1) := by decide +kernel
theorem dX12_goOn_128 : decode cX12_goOn 128 = .ok (.ireturn, 1) := by decide +kernel
theorem dX12_goOn_129 : decode cX12_goOn 129 = .ok (.aload_n 0, 1) := by decide +kernel
theorem dX12_goOn_130 : decode cX12_goOn 130 = .ok (.iload_n 1, 1) := by decide +kernel
theorem dX12_goOn_131 : decode cX12_goOn 131 = .ok (.iload_n 2, 1) := by decide +kernel
theorem dX12_goOn_132 : decode cX12_goOn 132 = .ok (.invokevirtual 255, 3) := by decide +kernel
theorem dX12_goOn_135 : decode cX12_goOn 135 = .ok (.ifCond .eq 18, 3) := by decide +kernel
theorem dX12_goOn_138 : decode cX12_goOn 138 = .ok (.aload_n 0, 1) := by decide +kernel
theorem dX12_goOn_139 : decode cX12_goOn 139 = .ok (.iload_n 1, 1) := by decide +kernel
theorem dX12_goOn_140 : decode cX12_goOn 140 = .ok (.iconst 1, 1) := by decide +kernel
theorem dX12_goOn_141 : decode cX12_goOn 141 = .ok (.iadd, 1) := by decide +kernel
theorem dX12_goOn_142 : decode cX12_goOn 142 = .ok (.iload_n 2, 1) := by decide +kernel
theorem dX12_goOn_143 : decode cX12_goOn 143 = .ok (.invokevirtual 252, 3) := by decide +kernel
theorem dX12_goOn_146 : decode cX12_goOn 146 = .ok (.ifCond .eq 7, 3) := by decide +kernel
theorem dX12_goOn_149 : decode cX12_goOn 149 = .ok (.iconst 1, 1) := by decide +kernel
theorem dX12_goOn_150 : decode cX12_goOn 150 = .ok (.goto 4, 3) := by decide +kernel
theorem dX12_goOn_153 : decode cX12_goOn 153 = .ok (.iconst 0, 1) := by decide +kernel
theorem dX12_goOn_154 : decode cX12_goOn 154 = .ok (.ireturn, 1) := by decide +kernel
theorem dX12_goOn_155 : decode cX12_goOn 155 = .ok (.aload_n 0, 1) := by decide +kernel
theorem dX12_goOn_156 : decode cX12_goOn 156 = .ok (.aload_n 0, 1) := by decide +kernel
theorem dX12_goOn_157 : decode cX12_goOn 157 = .ok (.iload_n 1, 1) := by decide +kernel
theorem dX12_goOn_158 : decode cX12_goOn 158 = .ok (.iload_n 2, 1) := by decide +kernel
theorem dX12_goOn_159 : decode cX12_goOn 159 = .ok (.invokevirtual 255, 3) := by decide +kernel
theorem dX12_goOn_162 : decode cX12_goOn 162 = .ok (.ifCond .eq 9, 3) := by decide +kernel
theorem dX12_goOn_165 : decode cX12_goOn 165 = .ok (.iload_n 1, 1) := by decide +kernel
theorem dX12_goOn_166 : decode cX12_goOn 166 = .ok (.iconst 1, 1) := by decide +kernel
theorem dX12_goOn_167 : decode cX12_goOn 167 = .ok (.iadd, 1) := by decide +kernel
theorem dX12_goOn_168 : decode cX12_goOn 168 = .ok (.goto 9, 3) := by decide +kernel
theorem dX12_goOn_171 : decode cX12_goOn 171 = .ok (.aload_n 0, 1) := by decide +kernel
theorem dX12_goOn_172 : decode cX12_goOn 172 = .ok (.getfield 28, 3) := by decide +kernel
theorem dX12_goOn_175 : decode cX12_goOn 175 = .ok (.iload_n 1, 1) := by decide +kernel
theorem dX12_goOn_176 : decode cX12_goOn 176 = .ok (.iaload, 1) := by decide +kernel
theorem dX12_goOn_177 : decode cX12_goOn 177 = .ok (.iload_n 2, 1) := by decide +kernel
theorem dX12_goOn_178 : decode cX12_goOn 178 = .ok (.invokevirtual 252, 3) := by decide +kernel
theorem dX12_goOn_181 : decode cX12_goOn 181 = .ok (.ireturn, 1) := by decide +kernel
theorem dX12_goOn_182 : decode cX12_goOn 182 = .ok (.aload_n 0, 1) := by decide +kernel
theorem dX12_goOn_183 : decode cX12_goOn 183 = .ok (.iload_n 1, 1) := by decide +kernel
theorem dX12_goOn_184 : decode cX12_goOn 184 = .ok (.iconst 1, 1) := by decide +kernel
theorem dX12_goOn_185 : decode cX12_goOn 185 = .ok (.iadd, 1) := by decide +kernel
theorem dX12_goOn_186 : decode cX12_goOn 186 = .ok (.iload_n 2, 1) := by decide +kernel
theorem dX12_goOn_187 : decode cX12_goOn 187 = .ok (.invokevirtual 252, 3) := by decide +kernel
theorem dX12_goOn_190 : decode cX12_goOn 190 = .ok (.istore_n 3, 1) := by decide +kernel
theorem dX12_goOn_191 : decode cX12_goOn 191 = .ok (.aload_n 0, 1) := by decide +kernel
theorem dX12_goOn_192 : decode cX12_goOn 192 = .ok (.aload_n 0, 1) := by decide +kernel
theorem dX12_goOn_193 : decode cX12_goOn 193 = .ok (.getfield 28, 3) := by decide +kernel
theorem dX12_goOn_196 : decode cX12_goOn 196 = .ok (.iload_n 1, 1) := by decide +kernel
theorem dX12_goOn_197 : decode cX12_goOn 197 = .ok (.iaload, 1) := by decide +kernel
theorem dX12_goOn_198 : decode cX12_goOn 198 = .ok (.iload_n 2, 1) := by decide +kernel
theorem dX12_goOn_199 : decode cX12_goOn 199 = .ok (.invokevirtual 252, 3) := by decide +kernel
theorem dX12_goOn_202 : decode cX12_goOn 202 = .ok (.ifCond .ne 7, 3) := by decide +kernel
theorem dX12_goOn_205 : decode cX12_goOn 205 = .ok (.iload_n 3, 1) := by decide +kernel
theorem dX12_goOn_206 : decode cX12_goOn 206 = .ok (.ifCond .eq 7, 3) := by decide +kernel
theorem dX12_goOn_209 : decode cX12_goOn 209 = .ok (.iconst 1, 1) := by decide +kernel
theorem dX12_goOn_210 : decode cX12_goOn 210 = .ok (.goto 4, 3) := by decide +kernel
theorem dX12_goOn_213 : decode cX12_goOn 213 = .ok (.iconst 0, 1) := by decide +kernel
theorem dX12_goOn_214 : decode cX12_goOn 214 = .ok (.ireturn, 1) := by decide +kernel
theorem dX12_goOn_215 : decode cX12_goOn 215 = .ok (.aload_n 0, 1) := by decide +kernel
theorem dX12_goOn_216 : decode cX12_goOn 216 = .ok (.iload_n 1, 1) := by decide +kernel
theorem dX12_goOn_217 : decode cX12_goOn 217 = .ok (.iconst 1, 1) := by decide +kernel
theorem dX12_goOn_218 : decode cX12_goOn 218 = .ok (.iadd, 1) := by decide +kernel
theorem dX12_goOn_219 : decode cX12_goOn 219 = .ok (.iload_n 2, 1) := by decide +kernel
theorem dX12_goOn_220 : decode cX12_goOn 220 = .ok (.invokevirtual 252, 3) := by decide +kernel
theorem dX12_goOn_223 : decode cX12_goOn 223 = .ok (.ireturn, 1) := by decide +kernel
theorem dX12_goOn_224 : decode cX12_goOn 224 = .ok (.aload_n 0, 1) := by decide +kernel
theorem dX12_goOn_225 : decode cX12_goOn 225 = .ok (.aload_n 0, 1) := by decide +kernel
theorem dX12_goOn_226 : decode cX12_goOn 226 = .ok (.getfield 28, 3) := by decide +kernel
theorem dX12_goOn_229 : decode cX12_goOn 229 = .ok (.iload_n 1, 1) := by decide +kernel
theorem dX12_goOn_230 : decode cX12_goOn 230 = .ok (.iaload, 1) := by decide +kernel
theorem dX12_goOn_231 : decode cX12_goOn 231 = .ok (.iload_n 2, 1) := by decide +kernel
theorem dX12_goOn_232 : decode cX12_goOn 232 = .ok (.invokevirtual 252, 3) := by decide +kernel
theorem dX12_goOn_235 : decode cX12_goOn 235 = .ok (.ireturn, 1) := by decide +kernel
theorem dX12_beginAt_0 : decode cX12_beginAt 0 = .ok (.iconst 0, 1) := by decide +kernel
theorem dX12_beginAt_1 : decode cX12_beginAt 1 = .ok (.istore_n 2, 1) := by decide +kernel
theorem dX12_beginAt_2 : decode cX12_beginAt 2 = .ok (.iload_n 2, 1) := by decide +kernel
theorem dX12_beginAt_3 : decode cX12_beginAt 3 = .ok (.sipush 248, 3) := by decide +kernel
theorem dX12_beginAt_6 : decode cX12_beginAt 6 = .ok (.if_icmp .ge 23, 3) := by decide +kernel
theorem dX12_beginAt_9 : decode cX12_beginAt 9 = .ok (.aload_n 0, 1) := by decide +kernel
theorem dX12_beginAt_10 : decode cX12_beginAt 10 = .ok (.getfield 92, 3) := by decide +kernel
theorem dX12_beginAt_13 : decode cX12_beginAt 13 = .ok (.iload_n 2, 1) := by decide +kernel
theorem dX12_beginAt_14 : decode cX12_beginAt 14 = .ok (.lconst 0, 1) := by decide +kernel
theorem dX12_beginAt_15 : decode cX12_beginAt 15 = .ok (.lastore, 1) := by decide +kernel
theorem dX12_beginAt_16 : decode cX12_beginAt 16 = .ok (.aload_n 0, 1) := by decide +kernel
theorem dX12_beginAt_17 : decode cX12_beginAt 17 = .ok (.getfield 96, 3) := by decide +kernel
theorem dX12_beginAt_20 : decode cX12_beginAt 20 = .ok (.iload_n 2, 1) := by decide +kernel
theorem dX12_beginAt_21 : decode cX12_beginAt 21 = .ok (.lconst 0, 1) := by decide +kernel
theorem dX12_beginAt_22 : decode cX12_beginAt 22 = .ok (.lastore, 1) := by decide +kernel
theorem dX12_beginAt_23 : decode cX12_beginAt 23 = .ok (.iinc 2 1, 3) := by decide +kernel
theorem dX12_beginAt_26 : decode cX12_beginAt 26 = .ok (.goto (-24), 3) := by decide +kernel
theorem dX12_beginAt_29 : decode cX12_beginAt 29 = .ok (.iconst 0, 1) := by decide +kernel
theorem dX12_beginAt_30 : decode cX12_beginAt 30 = .ok (.istore_n 2, 1) := by decide +kernel
theorem dX12_beginAt_31 : decode cX12_beginAt 31 = .ok (.iload_n 2, 1) := by decide +kernel
theorem dX12_beginAt_32 : decode cX12_beginAt 32 = .ok (.sipush 216, 3) := by decide +kernel
theorem dX12_beginAt_35 : decode cX12_beginAt 35 = .ok (.if_icmp .ge 24, 3) := by decide +kernel
theorem dX12_beginAt_38 : decode cX12_beginAt 38 = .ok (.aload_n 1, 1) := by decide +kernel
theorem dX12_beginAt_39 : decode cX12_beginAt 39 = .ok (.iload_n 2, 1) := by decide +kernel
theorem dX12_beginAt_40 : decode cX12_beginAt 40 = .ok (.invokestatic 258, 3) := by decide +kernel
theorem dX12_beginAt_43 : decode cX12_beginAt 43 = .ok (.ifCond .eq 10, 3) := by decide +kernel
theorem dX12_beginAt_46 : decode cX12_beginAt 46 = .ok (.aload_n 0, 1) := by decide +kernel
theorem dX12_beginAt_47 : decode cX12_beginAt 47 = .ok (.iconst 0, 1) := by decide +kernel
theorem dX12_beginAt_48 : decode cX12_beginAt 48 = .ok (.iload_n 2, 1) := by decide +kernel
theorem dX12_beginAt_49 : decode cX12_beginAt 49 = .ok (.invokevirtual 252, 3) := by decide +kernel
theorem dX12_beginAt_52 : decode cX12_beginAt 52 = .ok (.pop, 1) := by decide +kernel
theorem dX12_beginAt_53 : decode cX12_beginAt 53 = .ok (.iinc 2 1, 3) := by decide +kernel
theorem dX12_beginAt_56 : decode cX12_beginAt 56 = .ok (.goto (-25), 3) := by decide +kernel
theorem dX12_beginAt_59 : decode cX12_beginAt 59 = .ok (.return_, 1) := by decide +kernel
theorem dX12_layComes_0 : decode cX12_layComes 0 = .ok (.aload_n 0, 1) := by decide +kernel
theorem dX12_layComes_1 : decode cX12_layComes 1 = .ok (.aload_n 1, 1) := by decide +kernel
theorem dX12_layComes_2 : decode cX12_layComes 2 = .ok (.invokevirtual 262, 3) := by decide +kernel
theorem dX12_layComes_5 : decode cX12_layComes 5 = .ok (.iconst 0, 1) := by decide +kernel
theorem dX12_layComes_6 : decode cX12_layComes 6 = .ok (.istore_n 2, 1) := by decide +kernel
theorem dX12_layComes_7 : decode cX12_layComes 7 = .ok (.iload_n 2, 1) := by decide +kernel
theorem dX12_layComes_8 : decode cX12_layComes 8 = .ok (.aload_n 0, 1) := by decide +kernel
theorem dX12_layComes_9 : decode cX12_layComes 9 = .ok (.getfield 205, 3) := by decide +kernel
theorem dX12_layComes_12 : decode cX12_layComes 12 = .ok (.if_icmp .ge 74, 3) := by decide +kernel
theorem dX12_layComes_15 : decode cX12_layComes 15 = .ok (.iconst 0, 1) := by decide +kernel
theorem dX12_layComes_16 : decode cX12_layComes 16 = .ok (.istore_n 3, 1) := by decide +kernel
theorem dX12_layComes_17 : decode cX12_layComes 17 = .ok (.iload_n 3, 1) := by decide +kernel
theorem dX12_layComes_18 : decode cX12_layComes 18 = .ok (.sipush 216, 3) := by decide +kernel
theorem dX12_layComes_21 : decode cX12_layComes 21 = .ok (.if_icmp .ge 59, 3) := by decide +kernel
theorem dX12_layComes_24 : decode cX12_layComes 24 = .ok (.aload_n 0, 1) := by decide +kernel
theorem dX12_layComes_25 : decode cX12_layComes 25 = .ok (.getfield 13, 3) := by decide +kernel
theorem dX12_layComes_28 : decode cX12_layComes 28 = .ok (.iload_n 2, 1) := by decide +kernel
theorem dX12_layComes_29 : decode cX12_layComes 29 = .ok (.iaload, 1) := by decide +kernel
theorem dX12_layComes_30 : decode cX12_layComes 30 = .ok (.bipush 6, 2) := by decide +kernel
theorem dX12_layComes_32 : decode cX12_layComes 32 = .ok (.if_icmp .ne 22, 3) := by decide +kernel
theorem dX12_layComes_35 : decode cX12_layComes 35 = .ok (.aload_n 0, 1) := by decide +kernel
theorem dX12_layComes_36 : decode cX12_layComes 36 = .ok (.aload_n 0, 1) := by decide +kernel
theorem dX12_layComes_37 : decode cX12_layComes 37 = .ok (.getfield 99, 3) := by decide +kernel
theorem dX12_layComes_40 : decode cX12_layComes 40 = .ok (.aload_n 0, 1) := by decide +kernel
theorem dX12_layComes_41 : decode cX12_layComes 41 = .ok (.getfield 25, 3) := by decide +kernel
theorem dX12_layComes_44 : decode cX12_layComes 44 = .ok (.iload_n 2, 1) := by decide +kernel
theorem dX12_layComes_45 : decode cX12_layComes 45 = .ok (.iaload, 1) := by decide +kernel
theorem dX12_layComes_46 : decode cX12_layComes 46 = .ok (.iaload, 1) := by decide +kernel
theorem dX12_layComes_47 : decode cX12_layComes 47 = .ok (.iload_n 3, 1) := by decide +kernel
theorem dX12_layComes_48 : decode cX12_layComes 48 = .ok (.invokevirtual 266, 3) := by decide +kernel
