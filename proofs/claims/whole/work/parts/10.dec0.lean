theorem d_Ma_floorDiv_III_0 : decode b_Ma_floorDiv_III 0 = .ok (.iload_n 0, 1) := by decide +kernel
theorem d_Ma_floorDiv_III_1 : decode b_Ma_floorDiv_III 1 = .ok (.iload_n 1, 1) := by decide +kernel
theorem d_Ma_floorDiv_III_2 : decode b_Ma_floorDiv_III 2 = .ok (.idiv, 1) := by decide +kernel
theorem d_Ma_floorDiv_III_3 : decode b_Ma_floorDiv_III 3 = .ok (.istore_n 2, 1) := by decide +kernel
theorem d_Ma_floorDiv_III_4 : decode b_Ma_floorDiv_III 4 = .ok (.iload_n 0, 1) := by decide +kernel
theorem d_Ma_floorDiv_III_5 : decode b_Ma_floorDiv_III 5 = .ok (.iload_n 1, 1) := by decide +kernel
theorem d_Ma_floorDiv_III_6 : decode b_Ma_floorDiv_III 6 = .ok (.ixor, 1) := by decide +kernel
theorem d_Ma_floorDiv_III_7 : decode b_Ma_floorDiv_III 7 = .ok (.ifCond .ge 14, 3) := by decide +kernel
theorem d_Ma_floorDiv_III_10 : decode b_Ma_floorDiv_III 10 = .ok (.iload_n 2, 1) := by decide +kernel
theorem d_Ma_floorDiv_III_11 : decode b_Ma_floorDiv_III 11 = .ok (.iload_n 1, 1) := by decide +kernel
theorem d_Ma_floorDiv_III_12 : decode b_Ma_floorDiv_III 12 = .ok (.imul, 1) := by decide +kernel
theorem d_Ma_floorDiv_III_13 : decode b_Ma_floorDiv_III 13 = .ok (.iload_n 0, 1) := by decide +kernel
theorem d_Ma_floorDiv_III_14 : decode b_Ma_floorDiv_III 14 = .ok (.if_icmp .eq 7, 3) := by decide +kernel
theorem d_Ma_floorDiv_III_17 : decode b_Ma_floorDiv_III 17 = .ok (.iload_n 2, 1) := by decide +kernel
theorem d_Ma_floorDiv_III_18 : decode b_Ma_floorDiv_III 18 = .ok (.iconst 1, 1) := by decide +kernel
theorem d_Ma_floorDiv_III_19 : decode b_Ma_floorDiv_III 19 = .ok (.isub, 1) := by decide +kernel
theorem d_Ma_floorDiv_III_20 : decode b_Ma_floorDiv_III 20 = .ok (.ireturn, 1) := by decide +kernel
theorem d_Ma_floorDiv_III_21 : decode b_Ma_floorDiv_III 21 = .ok (.iload_n 2, 1) := by decide +kernel
theorem d_Ma_floorDiv_III_22 : decode b_Ma_floorDiv_III 22 = .ok (.ireturn, 1) := by decide +kernel
theorem d_Ma_floorMod_III_0 : decode b_Ma_floorMod_III 0 = .ok (.iload_n 0, 1) := by decide +kernel
theorem d_Ma_floorMod_III_1 : decode b_Ma_floorMod_III 1 = .ok (.iload_n 1, 1) := by decide +kernel
theorem d_Ma_floorMod_III_2 : decode b_Ma_floorMod_III 2 = .ok (.irem, 1) := by decide +kernel
theorem d_Ma_floorMod_III_3 : decode b_Ma_floorMod_III 3 = .ok (.istore_n 2, 1) := by decide +kernel
theorem d_Ma_floorMod_III_4 : decode b_Ma_floorMod_III 4 = .ok (.iload_n 0, 1) := by decide +kernel
theorem d_Ma_floorMod_III_5 : decode b_Ma_floorMod_III 5 = .ok (.iload_n 1, 1) := by decide +kernel
theorem d_Ma_floorMod_III_6 : decode b_Ma_floorMod_III 6 = .ok (.ixor, 1) := by decide +kernel
theorem d_Ma_floorMod_III_7 : decode b_Ma_floorMod_III 7 = .ok (.ifCond .ge 11, 3) := by decide +kernel
theorem d_Ma_floorMod_III_10 : decode b_Ma_floorMod_III 10 = .ok (.iload_n 2, 1) := by decide +kernel
theorem d_Ma_floorMod_III_11 : decode b_Ma_floorMod_III 11 = .ok (.ifCond .eq 7, 3) := by decide +kernel
theorem d_Ma_floorMod_III_14 : decode b_Ma_floorMod_III 14 = .ok (.iload_n 2, 1) := by decide +kernel
theorem d_Ma_floorMod_III_15 : decode b_Ma_floorMod_III 15 = .ok (.iload_n 1, 1) := by decide +kernel
theorem d_Ma_floorMod_III_16 : decode b_Ma_floorMod_III 16 = .ok (.iadd, 1) := by decide +kernel
theorem d_Ma_floorMod_III_17 : decode b_Ma_floorMod_III 17 = .ok (.ireturn, 1) := by decide +kernel
theorem d_Ma_floorMod_III_18 : decode b_Ma_floorMod_III 18 = .ok (.iload_n 2, 1) := by decide +kernel
theorem d_Ma_floorMod_III_19 : decode b_Ma_floorMod_III 19 = .ok (.ireturn, 1) := by decide +kernel
theorem d_Ma_max_III_0 : decode b_Ma_max_III 0 = .ok (.iload_n 0, 1) := by decide +kernel
theorem d_Ma_max_III_1 : decode b_Ma_max_III 1 = .ok (.iload_n 1, 1) := by decide +kernel
theorem d_Ma_max_III_2 : decode b_Ma_max_III 2 = .ok (.if_icmp .lt 7, 3) := by decide +kernel
theorem d_Ma_max_III_5 : decode b_Ma_max_III 5 = .ok (.iload_n 0, 1) := by decide +kernel
theorem d_Ma_max_III_6 : decode b_Ma_max_III 6 = .ok (.goto 4, 3) := by decide +kernel
theorem d_Ma_max_III_9 : decode b_Ma_max_III 9 = .ok (.iload_n 1, 1) := by decide +kernel
theorem d_Ma_max_III_10 : decode b_Ma_max_III 10 = .ok (.ireturn, 1) := by decide +kernel
theorem d_Ma_abs_II_0 : decode b_Ma_abs_II 0 = .ok (.iload_n 0, 1) := by decide +kernel
theorem d_Ma_abs_II_1 : decode b_Ma_abs_II 1 = .ok (.ifCond .ge 8, 3) := by decide +kernel
theorem d_Ma_abs_II_4 : decode b_Ma_abs_II 4 = .ok (.iload_n 0, 1) := by decide +kernel
theorem d_Ma_abs_II_5 : decode b_Ma_abs_II 5 = .ok (.ineg, 1) := by decide +kernel
theorem d_Ma_abs_II_6 : decode b_Ma_abs_II 6 = .ok (.goto 4, 3) := by decide +kernel
theorem d_Ma_abs_II_9 : decode b_Ma_abs_II 9 = .ok (.iload_n 0, 1) := by decide +kernel
theorem d_Ma_abs_II_10 : decode b_Ma_abs_II 10 = .ok (.ireturn, 1) := by decide +kernel
theorem d_Ma_abs_JJ_0 : decode b_Ma_abs_JJ 0 = .ok (.lload_n 0, 1) := by decide +kernel
theorem d_Ma_abs_JJ_1 : decode b_Ma_abs_JJ 1 = .ok (.lconst 0, 1) := by decide +kernel
theorem d_Ma_abs_JJ_2 : decode b_Ma_abs_JJ 2 = .ok (.lcmp, 1) := by decide +kernel
theorem d_Ma_abs_JJ_3 : decode b_Ma_abs_JJ 3 = .ok (.ifCond .ge 8, 3) := by decide +kernel
theorem d_Ma_abs_JJ_6 : decode b_Ma_abs_JJ 6 = .ok (.lload_n 0, 1) := by decide +kernel
theorem d_Ma_abs_JJ_7 : decode b_Ma_abs_JJ 7 = .ok (.lneg, 1) := by decide +kernel
theorem d_Ma_abs_JJ_8 : decode b_Ma_abs_JJ 8 = .ok (.goto 4, 3) := by decide +kernel
theorem d_Ma_abs_JJ_11 : decode b_Ma_abs_JJ 11 = .ok (.lload_n 0, 1) := by decide +kernel
theorem d_Ma_abs_JJ_12 : decode b_Ma_abs_JJ 12 = .ok (.lreturn, 1) := by decide +kernel
theorem d_Lo_compare_0 : decode b_Lo_compare 0 = .ok (.lload_n 0, 1) := by decide +kernel
theorem d_Lo_compare_1 : decode b_Lo_compare 1 = .ok (.lload_n 2, 1) := by decide +kernel
theorem d_Lo_compare_2 : decode b_Lo_compare 2 = .ok (.lcmp, 1) := by decide +kernel
theorem d_Lo_compare_3 : decode b_Lo_compare 3 = .ok (.ifCond .ge 7, 3) := by decide +kernel
theorem d_Lo_compare_6 : decode b_Lo_compare 6 = .ok (.iconst (-1), 1) := by decide +kernel
theorem d_Lo_compare_7 : decode b_Lo_compare 7 = .ok (.goto 14, 3) := by decide +kernel
theorem d_Lo_compare_10 : decode b_Lo_compare 10 = .ok (.lload_n 0, 1) := by decide +kernel
theorem d_Lo_compare_11 : decode b_Lo_compare 11 = .ok (.lload_n 2, 1) := by decide +kernel
theorem d_Lo_compare_12 : decode b_Lo_compare 12 = .ok (.lcmp, 1) := by decide +kernel
theorem d_Lo_compare_13 : decode b_Lo_compare 13 = .ok (.ifCond .ne 7, 3) := by decide +kernel
theorem d_Lo_compare_16 : decode b_Lo_compare 16 = .ok (.iconst 0, 1) := by decide +kernel
theorem d_Lo_compare_17 : decode b_Lo_compare 17 = .ok (.goto 4, 3) := by decide +kernel
theorem d_Lo_compare_20 : decode b_Lo_compare 20 = .ok (.iconst 1, 1) := by decide +kernel
theorem d_Lo_compare_21 : decode b_Lo_compare 21 = .ok (.ireturn, 1) := by decide +kernel
theorem d_In_numberOfLeadingZeros_0 : decode b_In_numberOfLeadingZeros 0 = .ok (.iload_n 0, 1) := by decide +kernel
theorem d_In_numberOfLeadingZeros_1 : decode b_In_numberOfLeadingZeros 1 = .ok (.ifCond .gt 14, 3) := by decide +kernel
theorem d_In_numberOfLeadingZeros_4 : decode b_In_numberOfLeadingZeros 4 = .ok (.iload_n 0, 1) := by decide +kernel
theorem d_In_numberOfLeadingZeros_5 : decode b_In_numberOfLeadingZeros 5 = .ok (.ifCond .ne 8, 3) := by decide +kernel
theorem d_In_numberOfLeadingZeros_8 : decode b_In_numberOfLeadingZeros 8 = .ok (.bipush 32, 2) := by decide +kernel
theorem d_In_numberOfLeadingZeros_10 : decode b_In_numberOfLeadingZeros 10 = .ok (.goto 4, 3) := by decide +kernel
theorem d_In_numberOfLeadingZeros_13 : decode b_In_numberOfLeadingZeros 13 = .ok (.iconst 0, 1) := by decide +kernel
theorem d_In_numberOfLeadingZeros_14 : decode b_In_numberOfLeadingZeros 14 = .ok (.ireturn, 1) := by decide +kernel
theorem d_In_numberOfLeadingZeros_15 : decode b_In_numberOfLeadingZeros 15 = .ok (.bipush 31, 2) := by decide +kernel
theorem d_In_numberOfLeadingZeros_17 : decode b_In_numberOfLeadingZeros 17 = .ok (.istore_n 1, 1) := by decide +kernel
theorem d_In_numberOfLeadingZeros_18 : decode b_In_numberOfLeadingZeros 18 = .ok (.iload_n 0, 1) := by decide +kernel
theorem d_In_numberOfLeadingZeros_19 : decode b_In_numberOfLeadingZeros 19 = .ok (.ldc_w 264, 3) := by decide +kernel
theorem d_In_numberOfLeadingZeros_22 : decode b_In_numberOfLeadingZeros 22 = .ok (.if_icmp .lt 11, 3) := by decide +kernel
theorem d_In_numberOfLeadingZeros_25 : decode b_In_numberOfLeadingZeros 25 = .ok (.iinc 1 (-16), 3) := by decide +kernel
theorem d_In_numberOfLeadingZeros_28 : decode b_In_numberOfLeadingZeros 28 = .ok (.iload_n 0, 1) := by decide +kernel
theorem d_In_numberOfLeadingZeros_29 : decode b_In_numberOfLeadingZeros 29 = .ok (.bipush 16, 2) := by decide +kernel
theorem d_In_numberOfLeadingZeros_31 : decode b_In_numberOfLeadingZeros 31 = .ok (.iushr, 1) := by decide +kernel
theorem d_In_numberOfLeadingZeros_32 : decode b_In_numberOfLeadingZeros 32 = .ok (.istore_n 0, 1) := by decide +kernel
theorem d_In_numberOfLeadingZeros_33 : decode b_In_numberOfLeadingZeros 33 = .ok (.iload_n 0, 1) := by decide +kernel
theorem d_In_numberOfLeadingZeros_34 : decode b_In_numberOfLeadingZeros 34 = .ok (.sipush 256, 3) := by decide +kernel
theorem d_In_numberOfLeadingZeros_37 : decode b_In_numberOfLeadingZeros 37 = .ok (.if_icmp .lt 11, 3) := by decide +kernel
theorem d_In_numberOfLeadingZeros_40 : decode b_In_numberOfLeadingZeros 40 = .ok (.iinc 1 (-8), 3) := by decide +kernel
theorem d_In_numberOfLeadingZeros_43 : decode b_In_numberOfLeadingZeros 43 = .ok (.iload_n 0, 1) := by decide +kernel
theorem d_In_numberOfLeadingZeros_44 : decode b_In_numberOfLeadingZeros 44 = .ok (.bipush 8, 2) := by decide +kernel
theorem d_In_numberOfLeadingZeros_46 : decode b_In_numberOfLeadingZeros 46 = .ok (.iushr, 1) := by decide +kernel
theorem d_In_numberOfLeadingZeros_47 : decode b_In_numberOfLeadingZeros 47 = .ok (.istore_n 0, 1) := by decide +kernel
theorem d_In_numberOfLeadingZeros_48 : decode b_In_numberOfLeadingZeros 48 = .ok (.iload_n 0, 1) := by decide +kernel
theorem d_In_numberOfLeadingZeros_49 : decode b_In_numberOfLeadingZeros 49 = .ok (.bipush 16, 2) := by decide +kernel
theorem d_In_numberOfLeadingZeros_51 : decode b_In_numberOfLeadingZeros 51 = .ok (.if_icmp .lt 10, 3) := by decide +kernel
theorem d_In_numberOfLeadingZeros_54 : decode b_In_numberOfLeadingZeros 54 = .ok (.iinc 1 (-4), 3) := by decide +kernel
theorem d_In_numberOfLeadingZeros_57 : decode b_In_numberOfLeadingZeros 57 = .ok (.iload_n 0, 1) := by decide +kernel
theorem d_In_numberOfLeadingZeros_58 : decode b_In_numberOfLeadingZeros 58 = .ok (.iconst 4, 1) := by decide +kernel
theorem d_In_numberOfLeadingZeros_59 : decode b_In_numberOfLeadingZeros 59 = .ok (.iushr, 1) := by decide +kernel
theorem d_In_numberOfLeadingZeros_60 : decode b_In_numberOfLeadingZeros 60 = .ok (.istore_n 0, 1) := by decide +kernel
theorem d_In_numberOfLeadingZeros_61 : decode b_In_numberOfLeadingZeros 61 = .ok (.iload_n 0, 1) := by decide +kernel
theorem d_In_numberOfLeadingZeros_62 : decode b_In_numberOfLeadingZeros 62 = .ok (.iconst 4, 1) := by decide +kernel
theorem d_In_numberOfLeadingZeros_63 : decode b_In_numberOfLeadingZeros 63 = .ok (.if_icmp .lt 10, 3) := by decide +kernel
theorem d_In_numberOfLeadingZeros_66 : decode b_In_numberOfLeadingZeros 66 = .ok (.iinc 1 (-2), 3) := by decide +kernel
theorem d_In_numberOfLeadingZeros_69 : decode b_In_numberOfLeadingZeros 69 = .ok (.iload_n 0, 1) := by decide +kernel
theorem d_In_numberOfLeadingZeros_70 : decode b_In_numberOfLeadingZeros 70 = .ok (.iconst 2, 1) := by decide +kernel
theorem d_In_numberOfLeadingZeros_71 : decode b_In_numberOfLeadingZeros 71 = .ok (.iushr, 1) := by decide +kernel
theorem d_In_numberOfLeadingZeros_72 : decode b_In_numberOfLeadingZeros 72 = .ok (.istore_n 0, 1) := by decide +kernel
theorem d_In_numberOfLeadingZeros_73 : decode b_In_numberOfLeadingZeros 73 = .ok (.iload_n 1, 1) := by decide +kernel
theorem d_In_numberOfLeadingZeros_74 : decode b_In_numberOfLeadingZeros 74 = .ok (.iload_n 0, 1) := by decide +kernel
theorem d_In_numberOfLeadingZeros_75 : decode b_In_numberOfLeadingZeros 75 = .ok (.iconst 1, 1) := by decide +kernel
theorem d_In_numberOfLeadingZeros_76 : decode b_In_numberOfLeadingZeros 76 = .ok (.iushr, 1) := by decide +kernel
theorem d_In_numberOfLeadingZeros_77 : decode b_In_numberOfLeadingZeros 77 = .ok (.isub, 1) := by decide +kernel
theorem d_In_numberOfLeadingZeros_78 : decode b_In_numberOfLeadingZeros 78 = .ok (.ireturn, 1) := by decide +kernel
theorem d_Lo_numberOfLeadingZeros_0 : decode b_Lo_numberOfLeadingZeros 0 = .ok (.lload_n 0, 1) := by decide +kernel
theorem d_Lo_numberOfLeadingZeros_1 : decode b_Lo_numberOfLeadingZeros 1 = .ok (.bipush 32, 2) := by decide +kernel
theorem d_Lo_numberOfLeadingZeros_3 : decode b_Lo_numberOfLeadingZeros 3 = .ok (.lushr, 1) := by decide +kernel
theorem d_Lo_numberOfLeadingZeros_4 : decode b_Lo_numberOfLeadingZeros 4 = .ok (.l2i, 1) := by decide +kernel
theorem d_Lo_numberOfLeadingZeros_5 : decode b_Lo_numberOfLeadingZeros 5 = .ok (.istore_n 2, 1) := by decide +kernel
theorem d_Lo_numberOfLeadingZeros_6 : decode b_Lo_numberOfLeadingZeros 6 = .ok (.iload_n 2, 1) := by decide +kernel
theorem d_Lo_numberOfLeadingZeros_7 : decode b_Lo_numberOfLeadingZeros 7 = .ok (.ifCond .ne 14, 3) := by decide +kernel
theorem d_Lo_numberOfLeadingZeros_10 : decode b_Lo_numberOfLeadingZeros 10 = .ok (.bipush 32, 2) := by decide +kernel
theorem d_Lo_numberOfLeadingZeros_12 : decode b_Lo_numberOfLeadingZeros 12 = .ok (.lload_n 0, 1) := by decide +kernel
theorem d_Lo_numberOfLeadingZeros_13 : decode b_Lo_numberOfLeadingZeros 13 = .ok (.l2i, 1) := by decide +kernel
theorem d_Lo_numberOfLeadingZeros_14 : decode b_Lo_numberOfLeadingZeros 14 = .ok (.invokestatic 308, 3) := by decide +kernel
theorem d_Lo_numberOfLeadingZeros_17 : decode b_Lo_numberOfLeadingZeros 17 = .ok (.iadd, 1) := by decide +kernel
theorem d_Lo_numberOfLeadingZeros_18 : decode b_Lo_numberOfLeadingZeros 18 = .ok (.goto 7, 3) := by decide +kernel
theorem d_Lo_numberOfLeadingZeros_21 : decode b_Lo_numberOfLeadingZeros 21 = .ok (.iload_n 2, 1) := by decide +kernel
theorem d_Lo_numberOfLeadingZeros_22 : decode b_Lo_numberOfLeadingZeros 22 = .ok (.invokestatic 308, 3) := by decide +kernel
theorem d_Lo_numberOfLeadingZeros_25 : decode b_Lo_numberOfLeadingZeros 25 = .ok (.ireturn, 1) := by decide +kernel
theorem d_Ar_fill_JJV_0 : decode b_Ar_fill_JJV 0 = .ok (.iconst 0, 1) := by decide +kernel
theorem d_Ar_fill_JJV_1 : decode b_Ar_fill_JJV 1 = .ok (.istore_n 3, 1) := by decide +kernel
theorem d_Ar_fill_JJV_2 : decode b_Ar_fill_JJV 2 = .ok (.aload_n 0, 1) := by decide +kernel
theorem d_Ar_fill_JJV_3 : decode b_Ar_fill_JJV 3 = .ok (.arraylength, 1) := by decide +kernel
theorem d_Ar_fill_JJV_4 : decode b_Ar_fill_JJV 4 = .ok (.istore 4, 2) := by decide +kernel
theorem d_Ar_fill_JJV_6 : decode b_Ar_fill_JJV 6 = .ok (.iload_n 3, 1) := by decide +kernel
theorem d_Ar_fill_JJV_7 : decode b_Ar_fill_JJV 7 = .ok (.iload 4, 2) := by decide +kernel
theorem d_Ar_fill_JJV_9 : decode b_Ar_fill_JJV 9 = .ok (.if_icmp .ge 13, 3) := by decide +kernel
theorem d_Ar_fill_JJV_12 : decode b_Ar_fill_JJV 12 = .ok (.aload_n 0, 1) := by decide +kernel
theorem d_Ar_fill_JJV_13 : decode b_Ar_fill_JJV 13 = .ok (.iload_n 3, 1) := by decide +kernel
theorem d_Ar_fill_JJV_14 : decode b_Ar_fill_JJV 14 = .ok (.lload_n 1, 1) := by decide +kernel
theorem d_Ar_fill_JJV_15 : decode b_Ar_fill_JJV 15 = .ok (.lastore, 1) := by decide +kernel
theorem d_Ar_fill_JJV_16 : decode b_Ar_fill_JJV 16 = .ok (.iinc 3 1, 3) := by decide +kernel
theorem d_Ar_fill_JJV_19 : decode b_Ar_fill_JJV 19 = .ok (.goto (-13), 3) := by decide +kernel
theorem d_Ar_fill_JJV_22 : decode b_Ar_fill_JJV 22 = .ok (.return_, 1) := by decide +kernel
theorem d_Nu_mantissa_0 : decode b_Nu_mantissa 0 = .ok (.iload_n 1, 1) := by decide +kernel
theorem d_Nu_mantissa_1 : decode b_Nu_mantissa 1 = .ok (.ifCond .lt 21, 3) := by decide +kernel
theorem d_Nu_mantissa_4 : decode b_Nu_mantissa 4 = .ok (.iload_n 1, 1) := by decide +kernel
theorem d_Nu_mantissa_5 : decode b_Nu_mantissa 5 = .ok (.aload_n 0, 1) := by decide +kernel
theorem d_Nu_mantissa_6 : decode b_Nu_mantissa 6 = .ok (.getfield 13, 3) := by decide +kernel
theorem d_Nu_mantissa_9 : decode b_Nu_mantissa 9 = .ok (.arraylength, 1) := by decide +kernel
theorem d_Nu_mantissa_10 : decode b_Nu_mantissa 10 = .ok (.if_icmp .ge 12, 3) := by decide +kernel
theorem d_Nu_mantissa_13 : decode b_Nu_mantissa 13 = .ok (.aload_n 0, 1) := by decide +kernel
theorem d_Nu_mantissa_14 : decode b_Nu_mantissa 14 = .ok (.getfield 13, 3) := by decide +kernel
theorem d_Nu_mantissa_17 : decode b_Nu_mantissa 17 = .ok (.iload_n 1, 1) := by decide +kernel
theorem d_Nu_mantissa_18 : decode b_Nu_mantissa 18 = .ok (.laload, 1) := by decide +kernel
theorem d_Nu_mantissa_19 : decode b_Nu_mantissa 19 = .ok (.goto 4, 3) := by decide +kernel
theorem d_Nu_mantissa_22 : decode b_Nu_mantissa 22 = .ok (.lconst 0, 1) := by decide +kernel
theorem d_Nu_mantissa_23 : decode b_Nu_mantissa 23 = .ok (.lreturn, 1) := by decide +kernel
theorem d_Nu_exponent_0 : decode b_Nu_exponent 0 = .ok (.iload_n 1, 1) := by decide +kernel
theorem d_Nu_exponent_1 : decode b_Nu_exponent 1 = .ok (.ifCond .lt 21, 3) := by decide +kernel
theorem d_Nu_exponent_4 : decode b_Nu_exponent 4 = .ok (.iload_n 1, 1) := by decide +kernel
theorem d_Nu_exponent_5 : decode b_Nu_exponent 5 = .ok (.aload_n 0, 1) := by decide +kernel
theorem d_Nu_exponent_6 : decode b_Nu_exponent 6 = .ok (.getfield 19, 3) := by decide +kernel
theorem d_Nu_exponent_9 : decode b_Nu_exponent 9 = .ok (.arraylength, 1) := by decide +kernel
theorem d_Nu_exponent_10 : decode b_Nu_exponent 10 = .ok (.if_icmp .ge 12, 3) := by decide +kernel
theorem d_Nu_exponent_13 : decode b_Nu_exponent 13 = .ok (.aload_n 0, 1) := by decide +kernel
theorem d_Nu_exponent_14 : decode b_Nu_exponent 14 = .ok (.getfield 19, 3) := by decide +kernel
theorem d_Nu_exponent_17 : decode b_Nu_exponent 17 = .ok (.iload_n 1, 1) := by decide +kernel
theorem d_Nu_exponent_18 : decode b_Nu_exponent 18 = .ok (.iaload, 1) := by decide +kernel
theorem d_Nu_exponent_19 : decode b_Nu_exponent 19 = .ok (.goto 4, 3) := by decide +kernel
theorem d_Nu_exponent_22 : decode b_Nu_exponent 22 = .ok (.iconst 0, 1) := by decide +kernel
theorem d_Nu_exponent_23 : decode b_Nu_exponent 23 = .ok (.ireturn, 1) := by decide +kernel
theorem d_Nu_allows_0 : decode b_Nu_allows 0 = .ok (.ldc2_w 23, 3) := by decide +kernel
theorem d_Nu_allows_3 : decode b_Nu_allows 3 = .ok (.dstore_n 2, 1) := by decide +kernel
theorem d_Nu_allows_4 : decode b_Nu_allows 4 = .ok (.dload_n 0, 1) := by decide +kernel
theorem d_Nu_allows_5 : decode b_Nu_allows 5 = .ok (.dload_n 2, 1) := by decide +kernel
theorem d_Nu_allows_6 : decode b_Nu_allows 6 = .ok (.dneg, 1) := by decide +kernel
theorem d_Nu_allows_7 : decode b_Nu_allows 7 = .ok (.dcmp .l, 1) := by decide +kernel
theorem d_Nu_allows_8 : decode b_Nu_allows 8 = .ok (.ifCond .lt 9, 3) := by decide +kernel
theorem d_Nu_allows_11 : decode b_Nu_allows 11 = .ok (.dload_n 0, 1) := by decide +kernel
theorem d_Nu_allows_12 : decode b_Nu_allows 12 = .ok (.dload_n 2, 1) := by decide +kernel
theorem d_Nu_allows_13 : decode b_Nu_allows 13 = .ok (.dcmp .g, 1) := by decide +kernel
theorem d_Nu_allows_14 : decode b_Nu_allows 14 = .ok (.ifCond .le 5, 3) := by decide +kernel
theorem d_Nu_allows_17 : decode b_Nu_allows 17 = .ok (.iconst 0, 1) := by decide +kernel
theorem d_Nu_allows_18 : decode b_Nu_allows 18 = .ok (.ireturn, 1) := by decide +kernel
theorem d_Nu_allows_19 : decode b_Nu_allows 19 = .ok (.dload_n 0, 1) := by decide +kernel
theorem d_Nu_allows_20 : decode b_Nu_allows 20 = .ok (.dconst 0, 1) := by decide +kernel
theorem d_Nu_allows_21 : decode b_Nu_allows 21 = .ok (.dcmp .g, 1) := by decide +kernel
theorem d_Nu_allows_22 : decode b_Nu_allows 22 = .ok (.ifCond .ge 8, 3) := by decide +kernel
theorem d_Nu_allows_25 : decode b_Nu_allows 25 = .ok (.dload_n 0, 1) := by decide +kernel
theorem d_Nu_allows_26 : decode b_Nu_allows 26 = .ok (.dneg, 1) := by decide +kernel
theorem d_Nu_allows_27 : decode b_Nu_allows 27 = .ok (.goto 4, 3) := by decide +kernel
theorem d_Nu_allows_30 : decode b_Nu_allows 30 = .ok (.dload_n 0, 1) := by decide +kernel
theorem d_Nu_allows_31 : decode b_Nu_allows 31 = .ok (.dstore 4, 2) := by decide +kernel
theorem d_Nu_allows_33 : decode b_Nu_allows 33 = .ok (.dload 4, 2) := by decide +kernel
theorem d_Nu_allows_35 : decode b_Nu_allows 35 = .ok (.dconst 0, 1) := by decide +kernel
theorem d_Nu_allows_36 : decode b_Nu_allows 36 = .ok (.dcmp .l, 1) := by decide +kernel
theorem d_Nu_allows_37 : decode b_Nu_allows 37 = .ok (.ifCond .eq 12, 3) := by decide +kernel
theorem d_Nu_allows_40 : decode b_Nu_allows 40 = .ok (.dload 4, 2) := by decide +kernel
theorem d_Nu_allows_42 : decode b_Nu_allows 42 = .ok (.dload_n 2, 1) := by decide +kernel
theorem d_Nu_allows_43 : decode b_Nu_allows 43 = .ok (.dmul, 1) := by decide +kernel
theorem d_Nu_allows_44 : decode b_Nu_allows 44 = .ok (.dconst 1, 1) := by decide +kernel
theorem d_Nu_allows_45 : decode b_Nu_allows 45 = .ok (.dcmp .l, 1) := by decide +kernel
theorem d_Nu_allows_46 : decode b_Nu_allows 46 = .ok (.ifCond .lt 7, 3) := by decide +kernel
theorem d_Nu_allows_49 : decode b_Nu_allows 49 = .ok (.iconst 1, 1) := by decide +kernel
theorem d_Nu_allows_50 : decode b_Nu_allows 50 = .ok (.goto 4, 3) := by decide +kernel
theorem d_Nu_allows_53 : decode b_Nu_allows 53 = .ok (.iconst 0, 1) := by decide +kernel
theorem d_Nu_allows_54 : decode b_Nu_allows 54 = .ok (.ireturn, 1) := by decide +kernel
theorem d_Nu_put_0 : decode b_Nu_put 0 = .ok (.iload_n 1, 1) := by decide +kernel
theorem d_Nu_put_1 : decode b_Nu_put 1 = .ok (.ifCond .lt 12, 3) := by decide +kernel
theorem d_Nu_put_4 : decode b_Nu_put 4 = .ok (.iload_n 1, 1) := by decide +kernel
theorem d_Nu_put_5 : decode b_Nu_put 5 = .ok (.aload_n 0, 1) := by decide +kernel
theorem d_Nu_put_6 : decode b_Nu_put 6 = .ok (.getfield 13, 3) := by decide +kernel
theorem d_Nu_put_9 : decode b_Nu_put 9 = .ok (.arraylength, 1) := by decide +kernel
theorem d_Nu_put_10 : decode b_Nu_put 10 = .ok (.if_icmp .lt 4, 3) := by decide +kernel
theorem d_Nu_put_13 : decode b_Nu_put 13 = .ok (.return_, 1) := by decide +kernel
theorem d_Nu_put_14 : decode b_Nu_put 14 = .ok (.dload_n 2, 1) := by decide +kernel
theorem d_Nu_put_15 : decode b_Nu_put 15 = .ok (.dconst 0, 1) := by decide +kernel
theorem d_Nu_put_16 : decode b_Nu_put 16 = .ok (.dcmp .g, 1) := by decide +kernel
theorem d_Nu_put_17 : decode b_Nu_put 17 = .ok (.ifCond .ge 8, 3) := by decide +kernel
theorem d_Nu_put_20 : decode b_Nu_put 20 = .ok (.dload_n 2, 1) := by decide +kernel
theorem d_Nu_put_21 : decode b_Nu_put 21 = .ok (.dneg, 1) := by decide +kernel
theorem d_Nu_put_22 : decode b_Nu_put 22 = .ok (.goto 4, 3) := by decide +kernel
theorem d_Nu_put_25 : decode b_Nu_put 25 = .ok (.dload_n 2, 1) := by decide +kernel
theorem d_Nu_put_26 : decode b_Nu_put 26 = .ok (.dstore 5, 2) := by decide +kernel
theorem d_Nu_put_28 : decode b_Nu_put 28 = .ok (.ldc2_w 25, 3) := by decide +kernel
theorem d_Nu_put_31 : decode b_Nu_put 31 = .ok (.dstore 7, 2) := by decide +kernel
theorem d_Nu_put_33 : decode b_Nu_put 33 = .ok (.ldc2_w 27, 3) := by decide +kernel
theorem d_Nu_put_36 : decode b_Nu_put 36 = .ok (.dstore 9, 2) := by decide +kernel
theorem d_Nu_put_38 : decode b_Nu_put 38 = .ok (.iload 4, 2) := by decide +kernel
theorem d_Nu_put_40 : decode b_Nu_put 40 = .ok (.istore 11, 2) := by decide +kernel
theorem d_Nu_put_42 : decode b_Nu_put 42 = .ok (.iconst 0, 1) := by decide +kernel
theorem d_Nu_put_43 : decode b_Nu_put 43 = .ok (.istore 12, 2) := by decide +kernel
theorem d_Nu_put_45 : decode b_Nu_put 45 = .ok (.iload 12, 2) := by decide +kernel
theorem d_Nu_put_47 : decode b_Nu_put 47 = .ok (.bipush 120, 2) := by decide +kernel
theorem d_Nu_put_49 : decode b_Nu_put 49 = .ok (.if_icmp .ge 35, 3) := by decide +kernel
theorem d_Nu_put_52 : decode b_Nu_put 52 = .ok (.dload 5, 2) := by decide +kernel
theorem d_Nu_put_54 : decode b_Nu_put 54 = .ok (.dconst 0, 1) := by decide +kernel
theorem d_Nu_put_55 : decode b_Nu_put 55 = .ok (.dcmp .l, 1) := by decide +kernel
theorem d_Nu_put_56 : decode b_Nu_put 56 = .ok (.ifCond .le 28, 3) := by decide +kernel
theorem d_Nu_put_59 : decode b_Nu_put 59 = .ok (.dload 5, 2) := by decide +kernel
theorem d_Nu_put_61 : decode b_Nu_put 61 = .ok (.dload 7, 2) := by decide +kernel
theorem d_Nu_put_63 : decode b_Nu_put 63 = .ok (.dcmp .g, 1) := by decide +kernel
theorem d_Nu_put_64 : decode b_Nu_put 64 = .ok (.ifCond .ge 20, 3) := by decide +kernel
theorem d_Nu_put_67 : decode b_Nu_put 67 = .ok (.dload 5, 2) := by decide +kernel
theorem d_Nu_put_69 : decode b_Nu_put 69 = .ok (.ldc2_w 29, 3) := by decide +kernel
theorem d_Nu_put_72 : decode b_Nu_put 72 = .ok (.dmul, 1) := by decide +kernel
theorem d_Nu_put_73 : decode b_Nu_put 73 = .ok (.dstore 5, 2) := by decide +kernel
theorem d_Nu_put_75 : decode b_Nu_put 75 = .ok (.iinc 11 (-1), 3) := by decide +kernel
theorem d_Nu_put_78 : decode b_Nu_put 78 = .ok (.iinc 12 1, 3) := by decide +kernel
theorem d_Nu_put_81 : decode b_Nu_put 81 = .ok (.goto (-36), 3) := by decide +kernel
theorem d_Nu_put_84 : decode b_Nu_put 84 = .ok (.iconst 0, 1) := by decide +kernel
theorem d_Nu_put_85 : decode b_Nu_put 85 = .ok (.istore 12, 2) := by decide +kernel
theorem d_Nu_put_87 : decode b_Nu_put 87 = .ok (.iload 12, 2) := by decide +kernel
theorem d_Nu_put_89 : decode b_Nu_put 89 = .ok (.bipush 120, 2) := by decide +kernel
theorem d_Nu_put_91 : decode b_Nu_put 91 = .ok (.if_icmp .ge 28, 3) := by decide +kernel
theorem d_Nu_put_94 : decode b_Nu_put 94 = .ok (.dload 5, 2) := by decide +kernel
theorem d_Nu_put_96 : decode b_Nu_put 96 = .ok (.dload 9, 2) := by decide +kernel
theorem d_Nu_put_98 : decode b_Nu_put 98 = .ok (.dcmp .l, 1) := by decide +kernel
theorem d_Nu_put_99 : decode b_Nu_put 99 = .ok (.ifCond .lt 20, 3) := by decide +kernel
theorem d_Nu_put_102 : decode b_Nu_put 102 = .ok (.dload 5, 2) := by decide +kernel
theorem d_Nu_put_104 : decode b_Nu_put 104 = .ok (.ldc2_w 29, 3) := by decide +kernel
theorem d_Nu_put_107 : decode b_Nu_put 107 = .ok (.ddiv, 1) := by decide +kernel
theorem d_Nu_put_108 : decode b_Nu_put 108 = .ok (.dstore 5, 2) := by decide +kernel
theorem d_Nu_put_110 : decode b_Nu_put 110 = .ok (.iinc 11 1, 3) := by decide +kernel
theorem d_Nu_put_113 : decode b_Nu_put 113 = .ok (.iinc 12 1, 3) := by decide +kernel
theorem d_Nu_put_116 : decode b_Nu_put 116 = .ok (.goto (-29), 3) := by decide +kernel
theorem d_Nu_put_119 : decode b_Nu_put 119 = .ok (.dload 5, 2) := by decide +kernel
theorem d_Nu_put_121 : decode b_Nu_put 121 = .ok (.d2l, 1) := by decide +kernel
theorem d_Nu_put_122 : decode b_Nu_put 122 = .ok (.lstore 12, 2) := by decide +kernel
theorem d_Nu_put_124 : decode b_Nu_put 124 = .ok (.aload_n 0, 1) := by decide +kernel
theorem d_Nu_put_125 : decode b_Nu_put 125 = .ok (.getfield 13, 3) := by decide +kernel
theorem d_Nu_put_128 : decode b_Nu_put 128 = .ok (.iload_n 1, 1) := by decide +kernel
theorem d_Nu_put_129 : decode b_Nu_put 129 = .ok (.dload_n 2, 1) := by decide +kernel
theorem d_Nu_put_130 : decode b_Nu_put 130 = .ok (.dconst 0, 1) := by decide +kernel
theorem d_Nu_put_131 : decode b_Nu_put 131 = .ok (.dcmp .g, 1) := by decide +kernel
theorem d_Nu_put_132 : decode b_Nu_put 132 = .ok (.ifCond .ge 9, 3) := by decide +kernel
theorem d_Nu_put_135 : decode b_Nu_put 135 = .ok (.lload 12, 2) := by decide +kernel
theorem d_Nu_put_137 : decode b_Nu_put 137 = .ok (.lneg, 1) := by decide +kernel
theorem d_Nu_put_138 : decode b_Nu_put 138 = .ok (.goto 5, 3) := by decide +kernel
theorem d_Nu_put_141 : decode b_Nu_put 141 = .ok (.lload 12, 2) := by decide +kernel
theorem d_Nu_put_143 : decode b_Nu_put 143 = .ok (.lastore, 1) := by decide +kernel
theorem d_Nu_put_144 : decode b_Nu_put 144 = .ok (.aload_n 0, 1) := by decide +kernel
theorem d_Nu_put_145 : decode b_Nu_put 145 = .ok (.getfield 19, 3) := by decide +kernel
theorem d_Nu_put_148 : decode b_Nu_put 148 = .ok (.iload_n 1, 1) := by decide +kernel
theorem d_Nu_put_149 : decode b_Nu_put 149 = .ok (.iload 11, 2) := by decide +kernel
theorem d_Nu_put_151 : decode b_Nu_put 151 = .ok (.iastore, 1) := by decide +kernel
theorem d_Nu_put_152 : decode b_Nu_put 152 = .ok (.return_, 1) := by decide +kernel
theorem d_Pr_start_0 : decode b_Pr_start 0 = .ok (.aload_n 0, 1) := by decide +kernel
theorem d_Pr_start_1 : decode b_Pr_start 1 = .ok (.getfield 9, 3) := by decide +kernel
theorem d_Pr_start_4 : decode b_Pr_start 4 = .ok (.lconst 0, 1) := by decide +kernel
theorem d_Pr_start_5 : decode b_Pr_start 5 = .ok (.invokestatic 13, 3) := by decide +kernel
theorem d_Pr_start_8 : decode b_Pr_start 8 = .ok (.aload_n 0, 1) := by decide +kernel
theorem d_Pr_start_9 : decode b_Pr_start 9 = .ok (.getfield 9, 3) := by decide +kernel
theorem d_Pr_start_12 : decode b_Pr_start 12 = .ok (.iconst 0, 1) := by decide +kernel
theorem d_Pr_start_13 : decode b_Pr_start 13 = .ok (.lconst 1, 1) := by decide +kernel
theorem d_Pr_start_14 : decode b_Pr_start 14 = .ok (.lastore, 1) := by decide +kernel
theorem d_Pr_start_15 : decode b_Pr_start 15 = .ok (.aload_n 0, 1) := by decide +kernel
theorem d_Pr_start_16 : decode b_Pr_start 16 = .ok (.iload_n 2, 1) := by decide +kernel
theorem d_Pr_start_17 : decode b_Pr_start 17 = .ok (.putfield 19, 3) := by decide +kernel
theorem d_Pr_start_20 : decode b_Pr_start 20 = .ok (.aload_n 0, 1) := by decide +kernel
theorem d_Pr_start_21 : decode b_Pr_start 21 = .ok (.iload_n 1, 1) := by decide +kernel
theorem d_Pr_start_22 : decode b_Pr_start 22 = .ok (.putfield 23, 3) := by decide +kernel
theorem d_Pr_start_25 : decode b_Pr_start 25 = .ok (.aload_n 0, 1) := by decide +kernel
theorem d_Pr_start_26 : decode b_Pr_start 26 = .ok (.areturn, 1) := by decide +kernel
theorem d_Pr_times_0 : decode b_Pr_times 0 = .ok (.aload_n 1, 1) := by decide +kernel
theorem d_Pr_times_1 : decode b_Pr_times 1 = .ok (.iload_n 2, 1) := by decide +kernel
theorem d_Pr_times_2 : decode b_Pr_times 2 = .ok (.invokevirtual 27, 3) := by decide +kernel
theorem d_Pr_times_5 : decode b_Pr_times 5 = .ok (.lstore_n 3, 1) := by decide +kernel
theorem d_Pr_times_6 : decode b_Pr_times 6 = .ok (.lload_n 3, 1) := by decide +kernel
theorem d_Pr_times_7 : decode b_Pr_times 7 = .ok (.invokestatic 33, 3) := by decide +kernel
theorem d_Pr_times_10 : decode b_Pr_times 10 = .ok (.lstore 5, 2) := by decide +kernel
theorem d_Pr_times_12 : decode b_Pr_times 12 = .ok (.lload 5, 2) := by decide +kernel
theorem d_Pr_times_14 : decode b_Pr_times 14 = .ok (.ldc2_w 41, 3) := by decide +kernel
theorem d_Pr_times_17 : decode b_Pr_times 17 = .ok (.land, 1) := by decide +kernel
theorem d_Pr_times_18 : decode b_Pr_times 18 = .ok (.lstore 7, 2) := by decide +kernel
theorem d_Pr_times_20 : decode b_Pr_times 20 = .ok (.lload 5, 2) := by decide +kernel
theorem d_Pr_times_22 : decode b_Pr_times 22 = .ok (.bipush 27, 2) := by decide +kernel
theorem d_Pr_times_24 : decode b_Pr_times 24 = .ok (.lushr, 1) := by decide +kernel
theorem d_Pr_times_25 : decode b_Pr_times 25 = .ok (.lstore 9, 2) := by decide +kernel
theorem d_Pr_times_27 : decode b_Pr_times 27 = .ok (.lconst 0, 1) := by decide +kernel
theorem d_Pr_times_28 : decode b_Pr_times 28 = .ok (.lstore 11, 2) := by decide +kernel
theorem d_Pr_times_30 : decode b_Pr_times 30 = .ok (.lconst 0, 1) := by decide +kernel
theorem d_Pr_times_31 : decode b_Pr_times 31 = .ok (.lstore 13, 2) := by decide +kernel
theorem d_Pr_times_33 : decode b_Pr_times 33 = .ok (.iconst 0, 1) := by decide +kernel
theorem d_Pr_times_34 : decode b_Pr_times 34 = .ok (.istore 15, 2) := by decide +kernel
theorem d_Pr_times_36 : decode b_Pr_times 36 = .ok (.iload 15, 2) := by decide +kernel
theorem d_Pr_times_38 : decode b_Pr_times 38 = .ok (.bipush 6, 2) := by decide +kernel
theorem d_Pr_times_40 : decode b_Pr_times 40 = .ok (.if_icmp .ge 58, 3) := by decide +kernel
theorem d_Pr_times_43 : decode b_Pr_times 43 = .ok (.aload_n 0, 1) := by decide +kernel
theorem d_Pr_times_44 : decode b_Pr_times 44 = .ok (.getfield 9, 3) := by decide +kernel
theorem d_Pr_times_47 : decode b_Pr_times 47 = .ok (.iload 15, 2) := by decide +kernel
theorem d_Pr_times_49 : decode b_Pr_times 49 = .ok (.laload, 1) := by decide +kernel
theorem d_Pr_times_50 : decode b_Pr_times 50 = .ok (.lstore 16, 2) := by decide +kernel
theorem d_Pr_times_52 : decode b_Pr_times 52 = .ok (.lload 16, 2) := by decide +kernel
theorem d_Pr_times_54 : decode b_Pr_times 54 = .ok (.lload 7, 2) := by decide +kernel
theorem d_Pr_times_56 : decode b_Pr_times 56 = .ok (.lmul, 1) := by decide +kernel
theorem d_Pr_times_57 : decode b_Pr_times 57 = .ok (.lload 13, 2) := by decide +kernel
theorem d_Pr_times_59 : decode b_Pr_times 59 = .ok (.lload 9, 2) := by decide +kernel
theorem d_Pr_times_61 : decode b_Pr_times 61 = .ok (.lmul, 1) := by decide +kernel
theorem d_Pr_times_62 : decode b_Pr_times 62 = .ok (.ladd, 1) := by decide +kernel
theorem d_Pr_times_63 : decode b_Pr_times 63 = .ok (.lload 11, 2) := by decide +kernel
theorem d_Pr_times_65 : decode b_Pr_times 65 = .ok (.ladd, 1) := by decide +kernel
theorem d_Pr_times_66 : decode b_Pr_times 66 = .ok (.lstore 18, 2) := by decide +kernel
theorem d_Pr_times_68 : decode b_Pr_times 68 = .ok (.aload_n 0, 1) := by decide +kernel
theorem d_Pr_times_69 : decode b_Pr_times 69 = .ok (.getfield 9, 3) := by decide +kernel
theorem d_Pr_times_72 : decode b_Pr_times 72 = .ok (.iload 15, 2) := by decide +kernel
theorem d_Pr_times_74 : decode b_Pr_times 74 = .ok (.lload 18, 2) := by decide +kernel
theorem d_Pr_times_76 : decode b_Pr_times 76 = .ok (.ldc2_w 41, 3) := by decide +kernel
theorem d_Pr_times_79 : decode b_Pr_times 79 = .ok (.land, 1) := by decide +kernel
theorem d_Pr_times_80 : decode b_Pr_times 80 = .ok (.lastore, 1) := by decide +kernel
theorem d_Pr_times_81 : decode b_Pr_times 81 = .ok (.lload 18, 2) := by decide +kernel
theorem d_Pr_times_83 : decode b_Pr_times 83 = .ok (.bipush 27, 2) := by decide +kernel
theorem d_Pr_times_85 : decode b_Pr_times 85 = .ok (.lushr, 1) := by decide +kernel
theorem d_Pr_times_86 : decode b_Pr_times 86 = .ok (.lstore 11, 2) := by decide +kernel
theorem d_Pr_times_88 : decode b_Pr_times 88 = .ok (.lload 16, 2) := by decide +kernel
theorem d_Pr_times_90 : decode b_Pr_times 90 = .ok (.lstore 13, 2) := by decide +kernel
theorem d_Pr_times_92 : decode b_Pr_times 92 = .ok (.iinc 15 1, 3) := by decide +kernel
theorem d_Pr_times_95 : decode b_Pr_times 95 = .ok (.goto (-59), 3) := by decide +kernel
theorem d_Pr_times_98 : decode b_Pr_times 98 = .ok (.aload_n 0, 1) := by decide +kernel
theorem d_Pr_times_99 : decode b_Pr_times 99 = .ok (.dup, 1) := by decide +kernel
theorem d_Pr_times_100 : decode b_Pr_times 100 = .ok (.getfield 19, 3) := by decide +kernel
theorem d_Pr_times_103 : decode b_Pr_times 103 = .ok (.aload_n 1, 1) := by decide +kernel
theorem d_Pr_times_104 : decode b_Pr_times 104 = .ok (.iload_n 2, 1) := by decide +kernel
theorem d_Pr_times_105 : decode b_Pr_times 105 = .ok (.invokevirtual 43, 3) := by decide +kernel
theorem d_Pr_times_108 : decode b_Pr_times 108 = .ok (.iadd, 1) := by decide +kernel
theorem d_Pr_times_109 : decode b_Pr_times 109 = .ok (.putfield 19, 3) := by decide +kernel
theorem d_Pr_times_112 : decode b_Pr_times 112 = .ok (.aload_n 0, 1) := by decide +kernel
theorem d_Pr_times_113 : decode b_Pr_times 113 = .ok (.aload_n 0, 1) := by decide +kernel
theorem d_Pr_times_114 : decode b_Pr_times 114 = .ok (.getfield 23, 3) := by decide +kernel
theorem d_Pr_times_117 : decode b_Pr_times 117 = .ok (.lload_n 3, 1) := by decide +kernel
theorem d_Pr_times_118 : decode b_Pr_times 118 = .ok (.lconst 0, 1) := by decide +kernel
theorem d_Pr_times_119 : decode b_Pr_times 119 = .ok (.lcmp, 1) := by decide +kernel
theorem d_Pr_times_120 : decode b_Pr_times 120 = .ok (.ifCond .ge 7, 3) := by decide +kernel
theorem d_Pr_times_123 : decode b_Pr_times 123 = .ok (.iconst 1, 1) := by decide +kernel
theorem d_Pr_times_124 : decode b_Pr_times 124 = .ok (.goto 4, 3) := by decide +kernel
theorem d_Pr_times_127 : decode b_Pr_times 127 = .ok (.iconst 0, 1) := by decide +kernel
theorem d_Pr_times_128 : decode b_Pr_times 128 = .ok (.if_icmp .eq 7, 3) := by decide +kernel
theorem d_Pr_times_131 : decode b_Pr_times 131 = .ok (.iconst 1, 1) := by decide +kernel
theorem d_Pr_times_132 : decode b_Pr_times 132 = .ok (.goto 4, 3) := by decide +kernel
theorem d_Pr_times_135 : decode b_Pr_times 135 = .ok (.iconst 0, 1) := by decide +kernel
theorem d_Pr_times_136 : decode b_Pr_times 136 = .ok (.putfield 23, 3) := by decide +kernel
theorem d_Pr_times_139 : decode b_Pr_times 139 = .ok (.aload_n 0, 1) := by decide +kernel
theorem d_Pr_times_140 : decode b_Pr_times 140 = .ok (.areturn, 1) := by decide +kernel
theorem d_Ex_clear_0 : decode b_Ex_clear 0 = .ok (.aload_n 0, 1) := by decide +kernel
theorem d_Ex_clear_1 : decode b_Ex_clear 1 = .ok (.getfield 9, 3) := by decide +kernel
theorem d_Ex_clear_4 : decode b_Ex_clear 4 = .ok (.lconst 0, 1) := by decide +kernel
theorem d_Ex_clear_5 : decode b_Ex_clear 5 = .ok (.invokestatic 13, 3) := by decide +kernel
theorem d_Ex_clear_8 : decode b_Ex_clear 8 = .ok (.return_, 1) := by decide +kernel
theorem d_Ex_addAt_0 : decode b_Ex_addAt 0 = .ok (.iload_n 1, 1) := by decide +kernel
theorem d_Ex_addAt_1 : decode b_Ex_addAt 1 = .ok (.ifCond .lt 19, 3) := by decide +kernel
theorem d_Ex_addAt_4 : decode b_Ex_addAt 4 = .ok (.iload_n 1, 1) := by decide +kernel
theorem d_Ex_addAt_5 : decode b_Ex_addAt 5 = .ok (.bipush 112, 2) := by decide +kernel
theorem d_Ex_addAt_7 : decode b_Ex_addAt 7 = .ok (.if_icmp .ge 13, 3) := by decide +kernel
theorem d_Ex_addAt_10 : decode b_Ex_addAt 10 = .ok (.aload_n 0, 1) := by decide +kernel
theorem d_Ex_addAt_11 : decode b_Ex_addAt 11 = .ok (.getfield 9, 3) := by decide +kernel
theorem d_Ex_addAt_14 : decode b_Ex_addAt 14 = .ok (.iload_n 1, 1) := by decide +kernel
theorem d_Ex_addAt_15 : decode b_Ex_addAt 15 = .ok (.dup2, 1) := by decide +kernel
theorem d_Ex_addAt_16 : decode b_Ex_addAt 16 = .ok (.laload, 1) := by decide +kernel
theorem d_Ex_addAt_17 : decode b_Ex_addAt 17 = .ok (.lload_n 2, 1) := by decide +kernel
theorem d_Ex_addAt_18 : decode b_Ex_addAt 18 = .ok (.ladd, 1) := by decide +kernel
theorem d_Ex_addAt_19 : decode b_Ex_addAt 19 = .ok (.lastore, 1) := by decide +kernel
theorem d_Ex_addAt_20 : decode b_Ex_addAt 20 = .ok (.return_, 1) := by decide +kernel
theorem d_Ex_add_0 : decode b_Ex_add 0 = .ok (.aload_n 1, 1) := by decide +kernel
theorem d_Ex_add_1 : decode b_Ex_add 1 = .ok (.getfield 19, 3) := by decide +kernel
theorem d_Ex_add_4 : decode b_Ex_add 4 = .ok (.sipush 1539, 3) := by decide +kernel
theorem d_Ex_add_7 : decode b_Ex_add 7 = .ok (.iadd, 1) := by decide +kernel
theorem d_Ex_add_8 : decode b_Ex_add 8 = .ok (.istore_n 2, 1) := by decide +kernel
theorem d_Ex_add_9 : decode b_Ex_add 9 = .ok (.iload_n 2, 1) := by decide +kernel
theorem d_Ex_add_10 : decode b_Ex_add 10 = .ok (.bipush 27, 2) := by decide +kernel
theorem d_Ex_add_12 : decode b_Ex_add 12 = .ok (.invokestatic 25, 3) := by decide +kernel
theorem d_Ex_add_15 : decode b_Ex_add 15 = .ok (.istore_n 3, 1) := by decide +kernel
theorem d_Ex_add_16 : decode b_Ex_add 16 = .ok (.iload_n 2, 1) := by decide +kernel
theorem d_Ex_add_17 : decode b_Ex_add 17 = .ok (.bipush 27, 2) := by decide +kernel
theorem d_Ex_add_19 : decode b_Ex_add 19 = .ok (.invokestatic 31, 3) := by decide +kernel
theorem d_Ex_add_22 : decode b_Ex_add 22 = .ok (.istore 4, 2) := by decide +kernel
theorem d_Ex_add_24 : decode b_Ex_add 24 = .ok (.iconst 0, 1) := by decide +kernel
theorem d_Ex_add_25 : decode b_Ex_add 25 = .ok (.istore 5, 2) := by decide +kernel
theorem d_Ex_add_27 : decode b_Ex_add 27 = .ok (.iload 5, 2) := by decide +kernel
theorem d_Ex_add_29 : decode b_Ex_add 29 = .ok (.bipush 6, 2) := by decide +kernel
theorem d_Ex_add_31 : decode b_Ex_add 31 = .ok (.if_icmp .ge 84, 3) := by decide +kernel
theorem d_Ex_add_34 : decode b_Ex_add 34 = .ok (.aload_n 1, 1) := by decide +kernel
theorem d_Ex_add_35 : decode b_Ex_add 35 = .ok (.getfield 34, 3) := by decide +kernel
theorem d_Ex_add_38 : decode b_Ex_add 38 = .ok (.iload 5, 2) := by decide +kernel
theorem d_Ex_add_40 : decode b_Ex_add 40 = .ok (.laload, 1) := by decide +kernel
theorem d_Ex_add_41 : decode b_Ex_add 41 = .ok (.iload 4, 2) := by decide +kernel
theorem d_Ex_add_43 : decode b_Ex_add 43 = .ok (.lshl, 1) := by decide +kernel
theorem d_Ex_add_44 : decode b_Ex_add 44 = .ok (.lstore 6, 2) := by decide +kernel
theorem d_Ex_add_46 : decode b_Ex_add 46 = .ok (.lload 6, 2) := by decide +kernel
theorem d_Ex_add_48 : decode b_Ex_add 48 = .ok (.ldc2_w 35, 3) := by decide +kernel
theorem d_Ex_add_51 : decode b_Ex_add 51 = .ok (.land, 1) := by decide +kernel
theorem d_Ex_add_52 : decode b_Ex_add 52 = .ok (.lstore 8, 2) := by decide +kernel
theorem d_Ex_add_54 : decode b_Ex_add 54 = .ok (.lload 6, 2) := by decide +kernel
theorem d_Ex_add_56 : decode b_Ex_add 56 = .ok (.bipush 27, 2) := by decide +kernel
theorem d_Ex_add_58 : decode b_Ex_add 58 = .ok (.lushr, 1) := by decide +kernel
theorem d_Ex_add_59 : decode b_Ex_add 59 = .ok (.lstore 10, 2) := by decide +kernel
theorem d_Ex_add_61 : decode b_Ex_add 61 = .ok (.aload_n 0, 1) := by decide +kernel
theorem d_Ex_add_62 : decode b_Ex_add 62 = .ok (.iload_n 3, 1) := by decide +kernel
theorem d_Ex_add_63 : decode b_Ex_add 63 = .ok (.iload 5, 2) := by decide +kernel
theorem d_Ex_add_65 : decode b_Ex_add 65 = .ok (.iadd, 1) := by decide +kernel
theorem d_Ex_add_66 : decode b_Ex_add 66 = .ok (.aload_n 1, 1) := by decide +kernel
theorem d_Ex_add_67 : decode b_Ex_add 67 = .ok (.getfield 37, 3) := by decide +kernel
theorem d_Ex_add_70 : decode b_Ex_add 70 = .ok (.ifCond .eq 9, 3) := by decide +kernel
theorem d_Ex_add_73 : decode b_Ex_add 73 = .ok (.lload 8, 2) := by decide +kernel
theorem d_Ex_add_75 : decode b_Ex_add 75 = .ok (.lneg, 1) := by decide +kernel
theorem d_Ex_add_76 : decode b_Ex_add 76 = .ok (.goto 5, 3) := by decide +kernel
theorem d_Ex_add_79 : decode b_Ex_add 79 = .ok (.lload 8, 2) := by decide +kernel
theorem d_Ex_add_81 : decode b_Ex_add 81 = .ok (.invokevirtual 41, 3) := by decide +kernel
theorem d_Ex_add_84 : decode b_Ex_add 84 = .ok (.aload_n 0, 1) := by decide +kernel
theorem d_Ex_add_85 : decode b_Ex_add 85 = .ok (.iload_n 3, 1) := by decide +kernel
theorem d_Ex_add_86 : decode b_Ex_add 86 = .ok (.iload 5, 2) := by decide +kernel
theorem d_Ex_add_88 : decode b_Ex_add 88 = .ok (.iadd, 1) := by decide +kernel
theorem d_Ex_add_89 : decode b_Ex_add 89 = .ok (.iconst 1, 1) := by decide +kernel
theorem d_Ex_add_90 : decode b_Ex_add 90 = .ok (.iadd, 1) := by decide +kernel
theorem d_Ex_add_91 : decode b_Ex_add 91 = .ok (.aload_n 1, 1) := by decide +kernel
theorem d_Ex_add_92 : decode b_Ex_add 92 = .ok (.getfield 37, 3) := by decide +kernel
theorem d_Ex_add_95 : decode b_Ex_add 95 = .ok (.ifCond .eq 9, 3) := by decide +kernel
theorem d_Ex_add_98 : decode b_Ex_add 98 = .ok (.lload 10, 2) := by decide +kernel
theorem d_Ex_add_100 : decode b_Ex_add 100 = .ok (.lneg, 1) := by decide +kernel
theorem d_Ex_add_101 : decode b_Ex_add 101 = .ok (.goto 5, 3) := by decide +kernel
theorem d_Ex_add_104 : decode b_Ex_add 104 = .ok (.lload 10, 2) := by decide +kernel
theorem d_Ex_add_106 : decode b_Ex_add 106 = .ok (.invokevirtual 41, 3) := by decide +kernel
theorem d_Ex_add_109 : decode b_Ex_add 109 = .ok (.iinc 5 1, 3) := by decide +kernel
theorem d_Ex_add_112 : decode b_Ex_add 112 = .ok (.goto (-85), 3) := by decide +kernel
theorem d_Ex_add_115 : decode b_Ex_add 115 = .ok (.return_, 1) := by decide +kernel
theorem d_Ex_settle_0 : decode b_Ex_settle 0 = .ok (.lconst 0, 1) := by decide +kernel
theorem d_Ex_settle_1 : decode b_Ex_settle 1 = .ok (.lstore_n 1, 1) := by decide +kernel
theorem d_Ex_settle_2 : decode b_Ex_settle 2 = .ok (.iconst 0, 1) := by decide +kernel
theorem d_Ex_settle_3 : decode b_Ex_settle 3 = .ok (.istore_n 3, 1) := by decide +kernel
theorem d_Ex_settle_4 : decode b_Ex_settle 4 = .ok (.iload_n 3, 1) := by decide +kernel
theorem d_Ex_settle_5 : decode b_Ex_settle 5 = .ok (.bipush 111, 2) := by decide +kernel
theorem d_Ex_settle_7 : decode b_Ex_settle 7 = .ok (.if_icmp .ge 37, 3) := by decide +kernel
theorem d_Ex_settle_10 : decode b_Ex_settle 10 = .ok (.aload_n 0, 1) := by decide +kernel
theorem d_Ex_settle_11 : decode b_Ex_settle 11 = .ok (.getfield 9, 3) := by decide +kernel
theorem d_Ex_settle_14 : decode b_Ex_settle 14 = .ok (.iload_n 3, 1) := by decide +kernel
theorem d_Ex_settle_15 : decode b_Ex_settle 15 = .ok (.laload, 1) := by decide +kernel
theorem d_Ex_settle_16 : decode b_Ex_settle 16 = .ok (.lload_n 1, 1) := by decide +kernel
theorem d_Ex_settle_17 : decode b_Ex_settle 17 = .ok (.ladd, 1) := by decide +kernel
theorem d_Ex_settle_18 : decode b_Ex_settle 18 = .ok (.lstore 4, 2) := by decide +kernel
theorem d_Ex_settle_20 : decode b_Ex_settle 20 = .ok (.aload_n 0, 1) := by decide +kernel
theorem d_Ex_settle_21 : decode b_Ex_settle 21 = .ok (.getfield 9, 3) := by decide +kernel
theorem d_Ex_settle_24 : decode b_Ex_settle 24 = .ok (.iload_n 3, 1) := by decide +kernel
theorem d_Ex_settle_25 : decode b_Ex_settle 25 = .ok (.lload 4, 2) := by decide +kernel
theorem d_Ex_settle_27 : decode b_Ex_settle 27 = .ok (.ldc2_w 35, 3) := by decide +kernel
theorem d_Ex_settle_30 : decode b_Ex_settle 30 = .ok (.land, 1) := by decide +kernel
theorem d_Ex_settle_31 : decode b_Ex_settle 31 = .ok (.lastore, 1) := by decide +kernel
theorem d_Ex_settle_32 : decode b_Ex_settle 32 = .ok (.lload 4, 2) := by decide +kernel
theorem d_Ex_settle_34 : decode b_Ex_settle 34 = .ok (.bipush 27, 2) := by decide +kernel
theorem d_Ex_settle_36 : decode b_Ex_settle 36 = .ok (.lshr, 1) := by decide +kernel
theorem d_Ex_settle_37 : decode b_Ex_settle 37 = .ok (.lstore_n 1, 1) := by decide +kernel
theorem d_Ex_settle_38 : decode b_Ex_settle 38 = .ok (.iinc 3 1, 3) := by decide +kernel
theorem d_Ex_settle_41 : decode b_Ex_settle 41 = .ok (.goto (-37), 3) := by decide +kernel
theorem d_Ex_settle_44 : decode b_Ex_settle 44 = .ok (.aload_n 0, 1) := by decide +kernel
theorem d_Ex_settle_45 : decode b_Ex_settle 45 = .ok (.getfield 9, 3) := by decide +kernel
theorem d_Ex_settle_48 : decode b_Ex_settle 48 = .ok (.bipush 111, 2) := by decide +kernel
theorem d_Ex_settle_50 : decode b_Ex_settle 50 = .ok (.dup2, 1) := by decide +kernel
theorem d_Ex_settle_51 : decode b_Ex_settle 51 = .ok (.laload, 1) := by decide +kernel
theorem d_Ex_settle_52 : decode b_Ex_settle 52 = .ok (.lload_n 1, 1) := by decide +kernel
theorem d_Ex_settle_53 : decode b_Ex_settle 53 = .ok (.ladd, 1) := by decide +kernel
theorem d_Ex_settle_54 : decode b_Ex_settle 54 = .ok (.lastore, 1) := by decide +kernel
theorem d_Ex_settle_55 : decode b_Ex_settle 55 = .ok (.return_, 1) := by decide +kernel
theorem d_Ex_isBelow_0 : decode b_Ex_isBelow 0 = .ok (.bipush 111, 2) := by decide +kernel
theorem d_Ex_isBelow_2 : decode b_Ex_isBelow 2 = .ok (.istore_n 2, 1) := by decide +kernel
theorem d_Ex_isBelow_3 : decode b_Ex_isBelow 3 = .ok (.iload_n 2, 1) := by decide +kernel
theorem d_Ex_isBelow_4 : decode b_Ex_isBelow 4 = .ok (.ifCond .lt 47, 3) := by decide +kernel
theorem d_Ex_isBelow_7 : decode b_Ex_isBelow 7 = .ok (.aload_n 0, 1) := by decide +kernel
theorem d_Ex_isBelow_8 : decode b_Ex_isBelow 8 = .ok (.getfield 9, 3) := by decide +kernel
theorem d_Ex_isBelow_11 : decode b_Ex_isBelow 11 = .ok (.iload_n 2, 1) := by decide +kernel
theorem d_Ex_isBelow_12 : decode b_Ex_isBelow 12 = .ok (.laload, 1) := by decide +kernel
theorem d_Ex_isBelow_13 : decode b_Ex_isBelow 13 = .ok (.aload_n 1, 1) := by decide +kernel
theorem d_Ex_isBelow_14 : decode b_Ex_isBelow 14 = .ok (.getfield 9, 3) := by decide +kernel
theorem d_Ex_isBelow_17 : decode b_Ex_isBelow 17 = .ok (.iload_n 2, 1) := by decide +kernel
theorem d_Ex_isBelow_18 : decode b_Ex_isBelow 18 = .ok (.laload, 1) := by decide +kernel
theorem d_Ex_isBelow_19 : decode b_Ex_isBelow 19 = .ok (.lcmp, 1) := by decide +kernel
theorem d_Ex_isBelow_20 : decode b_Ex_isBelow 20 = .ok (.ifCond .eq 25, 3) := by decide +kernel
theorem d_Ex_isBelow_23 : decode b_Ex_isBelow 23 = .ok (.aload_n 0, 1) := by decide +kernel
theorem d_Ex_isBelow_24 : decode b_Ex_isBelow 24 = .ok (.getfield 9, 3) := by decide +kernel
theorem d_Ex_isBelow_27 : decode b_Ex_isBelow 27 = .ok (.iload_n 2, 1) := by decide +kernel
theorem d_Ex_isBelow_28 : decode b_Ex_isBelow 28 = .ok (.laload, 1) := by decide +kernel
theorem d_Ex_isBelow_29 : decode b_Ex_isBelow 29 = .ok (.aload_n 1, 1) := by decide +kernel
theorem d_Ex_isBelow_30 : decode b_Ex_isBelow 30 = .ok (.getfield 9, 3) := by decide +kernel
theorem d_Ex_isBelow_33 : decode b_Ex_isBelow 33 = .ok (.iload_n 2, 1) := by decide +kernel
theorem d_Ex_isBelow_34 : decode b_Ex_isBelow 34 = .ok (.laload, 1) := by decide +kernel
theorem d_Ex_isBelow_35 : decode b_Ex_isBelow 35 = .ok (.lcmp, 1) := by decide +kernel
theorem d_Ex_isBelow_36 : decode b_Ex_isBelow 36 = .ok (.ifCond .ge 7, 3) := by decide +kernel
theorem d_Ex_isBelow_39 : decode b_Ex_isBelow 39 = .ok (.iconst 1, 1) := by decide +kernel
theorem d_Ex_isBelow_40 : decode b_Ex_isBelow 40 = .ok (.goto 4, 3) := by decide +kernel
theorem d_Ex_isBelow_43 : decode b_Ex_isBelow 43 = .ok (.iconst 0, 1) := by decide +kernel
theorem d_Ex_isBelow_44 : decode b_Ex_isBelow 44 = .ok (.ireturn, 1) := by decide +kernel
theorem d_Ex_isBelow_45 : decode b_Ex_isBelow 45 = .ok (.iinc 2 (-1), 3) := by decide +kernel
theorem d_Ex_isBelow_48 : decode b_Ex_isBelow 48 = .ok (.goto (-45), 3) := by decide +kernel
theorem d_Ex_isBelow_51 : decode b_Ex_isBelow 51 = .ok (.iconst 0, 1) := by decide +kernel
theorem d_Ex_isBelow_52 : decode b_Ex_isBelow 52 = .ok (.ireturn, 1) := by decide +kernel
theorem d_Ex_topPlace_0 : decode b_Ex_topPlace 0 = .ok (.bipush 111, 2) := by decide +kernel
theorem d_Ex_topPlace_2 : decode b_Ex_topPlace 2 = .ok (.istore_n 1, 1) := by decide +kernel
theorem d_Ex_topPlace_3 : decode b_Ex_topPlace 3 = .ok (.iload_n 1, 1) := by decide +kernel
theorem d_Ex_topPlace_4 : decode b_Ex_topPlace 4 = .ok (.ifCond .lt 38, 3) := by decide +kernel
theorem d_Ex_topPlace_7 : decode b_Ex_topPlace 7 = .ok (.aload_n 0, 1) := by decide +kernel
theorem d_Ex_topPlace_8 : decode b_Ex_topPlace 8 = .ok (.getfield 9, 3) := by decide +kernel
theorem d_Ex_topPlace_11 : decode b_Ex_topPlace 11 = .ok (.iload_n 1, 1) := by decide +kernel
theorem d_Ex_topPlace_12 : decode b_Ex_topPlace 12 = .ok (.laload, 1) := by decide +kernel
theorem d_Ex_topPlace_13 : decode b_Ex_topPlace 13 = .ok (.lconst 0, 1) := by decide +kernel
theorem d_Ex_topPlace_14 : decode b_Ex_topPlace 14 = .ok (.lcmp, 1) := by decide +kernel
theorem d_Ex_topPlace_15 : decode b_Ex_topPlace 15 = .ok (.ifCond .eq 21, 3) := by decide +kernel
theorem d_Ex_topPlace_18 : decode b_Ex_topPlace 18 = .ok (.iload_n 1, 1) := by decide +kernel
theorem d_Ex_topPlace_19 : decode b_Ex_topPlace 19 = .ok (.bipush 27, 2) := by decide +kernel
theorem d_Ex_topPlace_21 : decode b_Ex_topPlace 21 = .ok (.imul, 1) := by decide +kernel
theorem d_Ex_topPlace_22 : decode b_Ex_topPlace 22 = .ok (.bipush 63, 2) := by decide +kernel
theorem d_Ex_topPlace_24 : decode b_Ex_topPlace 24 = .ok (.iadd, 1) := by decide +kernel
theorem d_Ex_topPlace_25 : decode b_Ex_topPlace 25 = .ok (.aload_n 0, 1) := by decide +kernel
theorem d_Ex_topPlace_26 : decode b_Ex_topPlace 26 = .ok (.getfield 9, 3) := by decide +kernel
theorem d_Ex_topPlace_29 : decode b_Ex_topPlace 29 = .ok (.iload_n 1, 1) := by decide +kernel
theorem d_Ex_topPlace_30 : decode b_Ex_topPlace 30 = .ok (.laload, 1) := by decide +kernel
theorem d_Ex_topPlace_31 : decode b_Ex_topPlace 31 = .ok (.invokestatic 100, 3) := by decide +kernel
theorem d_Ex_topPlace_34 : decode b_Ex_topPlace 34 = .ok (.isub, 1) := by decide +kernel
theorem d_Ex_topPlace_35 : decode b_Ex_topPlace 35 = .ok (.ireturn, 1) := by decide +kernel
theorem d_Ex_topPlace_36 : decode b_Ex_topPlace 36 = .ok (.iinc 1 (-1), 3) := by decide +kernel
theorem d_Ex_topPlace_39 : decode b_Ex_topPlace 39 = .ok (.goto (-36), 3) := by decide +kernel
theorem d_Ex_topPlace_42 : decode b_Ex_topPlace 42 = .ok (.iconst (-1), 1) := by decide +kernel
theorem d_Ex_topPlace_43 : decode b_Ex_topPlace 43 = .ok (.ireturn, 1) := by decide +kernel
theorem d_Ex_bitAt_0 : decode b_Ex_bitAt 0 = .ok (.iload_n 1, 1) := by decide +kernel
theorem d_Ex_bitAt_1 : decode b_Ex_bitAt 1 = .ok (.bipush 27, 2) := by decide +kernel
theorem d_Ex_bitAt_3 : decode b_Ex_bitAt 3 = .ok (.invokestatic 25, 3) := by decide +kernel
theorem d_Ex_bitAt_6 : decode b_Ex_bitAt 6 = .ok (.istore_n 2, 1) := by decide +kernel
theorem d_Ex_bitAt_7 : decode b_Ex_bitAt 7 = .ok (.iload_n 2, 1) := by decide +kernel
theorem d_Ex_bitAt_8 : decode b_Ex_bitAt 8 = .ok (.ifCond .lt 9, 3) := by decide +kernel
theorem d_Ex_bitAt_11 : decode b_Ex_bitAt 11 = .ok (.iload_n 2, 1) := by decide +kernel
theorem d_Ex_bitAt_12 : decode b_Ex_bitAt 12 = .ok (.bipush 112, 2) := by decide +kernel
theorem d_Ex_bitAt_14 : decode b_Ex_bitAt 14 = .ok (.if_icmp .lt 5, 3) := by decide +kernel
theorem d_Ex_bitAt_17 : decode b_Ex_bitAt 17 = .ok (.lconst 0, 1) := by decide +kernel
theorem d_Ex_bitAt_18 : decode b_Ex_bitAt 18 = .ok (.lreturn, 1) := by decide +kernel
theorem d_Ex_bitAt_19 : decode b_Ex_bitAt 19 = .ok (.aload_n 0, 1) := by decide +kernel
theorem d_Ex_bitAt_20 : decode b_Ex_bitAt 20 = .ok (.getfield 9, 3) := by decide +kernel
theorem d_Ex_bitAt_23 : decode b_Ex_bitAt 23 = .ok (.iload_n 2, 1) := by decide +kernel
theorem d_Ex_bitAt_24 : decode b_Ex_bitAt 24 = .ok (.laload, 1) := by decide +kernel
theorem d_Ex_bitAt_25 : decode b_Ex_bitAt 25 = .ok (.iload_n 1, 1) := by decide +kernel
theorem d_Ex_bitAt_26 : decode b_Ex_bitAt 26 = .ok (.bipush 27, 2) := by decide +kernel
theorem d_Ex_bitAt_28 : decode b_Ex_bitAt 28 = .ok (.invokestatic 31, 3) := by decide +kernel
theorem d_Ex_bitAt_31 : decode b_Ex_bitAt 31 = .ok (.lshr, 1) := by decide +kernel
theorem d_Ex_bitAt_32 : decode b_Ex_bitAt 32 = .ok (.lconst 1, 1) := by decide +kernel
theorem d_Ex_bitAt_33 : decode b_Ex_bitAt 33 = .ok (.land, 1) := by decide +kernel
theorem d_Ex_bitAt_34 : decode b_Ex_bitAt 34 = .ok (.lreturn, 1) := by decide +kernel
theorem d_Ex_mantissaFrom_0 : decode b_Ex_mantissaFrom 0 = .ok (.lconst 0, 1) := by decide +kernel
theorem d_Ex_mantissaFrom_1 : decode b_Ex_mantissaFrom 1 = .ok (.lstore_n 2, 1) := by decide +kernel
theorem d_Ex_mantissaFrom_2 : decode b_Ex_mantissaFrom 2 = .ok (.iload_n 1, 1) := by decide +kernel
theorem d_Ex_mantissaFrom_3 : decode b_Ex_mantissaFrom 3 = .ok (.bipush 53, 2) := by decide +kernel
theorem d_Ex_mantissaFrom_5 : decode b_Ex_mantissaFrom 5 = .ok (.iadd, 1) := by decide +kernel
theorem d_Ex_mantissaFrom_6 : decode b_Ex_mantissaFrom 6 = .ok (.iconst 1, 1) := by decide +kernel
theorem d_Ex_mantissaFrom_7 : decode b_Ex_mantissaFrom 7 = .ok (.isub, 1) := by decide +kernel
theorem d_Ex_mantissaFrom_8 : decode b_Ex_mantissaFrom 8 = .ok (.istore 4, 2) := by decide +kernel
theorem d_Ex_mantissaFrom_10 : decode b_Ex_mantissaFrom 10 = .ok (.iload 4, 2) := by decide +kernel
theorem d_Ex_mantissaFrom_12 : decode b_Ex_mantissaFrom 12 = .ok (.iload_n 1, 1) := by decide +kernel
theorem d_Ex_mantissaFrom_13 : decode b_Ex_mantissaFrom 13 = .ok (.if_icmp .lt 22, 3) := by decide +kernel
theorem d_Ex_mantissaFrom_16 : decode b_Ex_mantissaFrom 16 = .ok (.lload_n 2, 1) := by decide +kernel
theorem d_Ex_mantissaFrom_17 : decode b_Ex_mantissaFrom 17 = .ok (.ldc2_w 106, 3) := by decide +kernel
theorem d_Ex_mantissaFrom_20 : decode b_Ex_mantissaFrom 20 = .ok (.lmul, 1) := by decide +kernel
theorem d_Ex_mantissaFrom_21 : decode b_Ex_mantissaFrom 21 = .ok (.aload_n 0, 1) := by decide +kernel
theorem d_Ex_mantissaFrom_22 : decode b_Ex_mantissaFrom 22 = .ok (.iload 4, 2) := by decide +kernel
theorem d_Ex_mantissaFrom_24 : decode b_Ex_mantissaFrom 24 = .ok (.invokevirtual 108, 3) := by decide +kernel
theorem d_Ex_mantissaFrom_27 : decode b_Ex_mantissaFrom 27 = .ok (.ladd, 1) := by decide +kernel
theorem d_Ex_mantissaFrom_28 : decode b_Ex_mantissaFrom 28 = .ok (.lstore_n 2, 1) := by decide +kernel
theorem d_Ex_mantissaFrom_29 : decode b_Ex_mantissaFrom 29 = .ok (.iinc 4 (-1), 3) := by decide +kernel
theorem d_Ex_mantissaFrom_32 : decode b_Ex_mantissaFrom 32 = .ok (.goto (-22), 3) := by decide +kernel
theorem d_Ex_mantissaFrom_35 : decode b_Ex_mantissaFrom 35 = .ok (.lload_n 2, 1) := by decide +kernel
theorem d_Ex_mantissaFrom_36 : decode b_Ex_mantissaFrom 36 = .ok (.lreturn, 1) := by decide +kernel
