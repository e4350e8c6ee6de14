theorem d_Nu_signum_0 : decode b_Nu_signum 0 = .ok (.aload_n 0, 1) := by decide +kernel
theorem d_Nu_signum_1 : decode b_Nu_signum 1 = .ok (.iload_n 1, 1) := by decide +kernel
theorem d_Nu_signum_2 : decode b_Nu_signum 2 = .ok (.invokevirtual 31, 3) := by decide +kernel
theorem d_Nu_signum_5 : decode b_Nu_signum 5 = .ok (.lconst 0, 1) := by decide +kernel
theorem d_Nu_signum_6 : decode b_Nu_signum 6 = .ok (.invokestatic 35, 3) := by decide +kernel
theorem d_Nu_signum_9 : decode b_Nu_signum 9 = .ok (.ireturn, 1) := by decide +kernel
theorem d_Pr_init_0 : decode b_Pr_init 0 = .ok (.aload_n 0, 1) := by decide +kernel
theorem d_Pr_init_1 : decode b_Pr_init 1 = .ok (.invokespecial 1, 3) := by decide +kernel
theorem d_Pr_init_4 : decode b_Pr_init 4 = .ok (.aload_n 0, 1) := by decide +kernel
theorem d_Pr_init_5 : decode b_Pr_init 5 = .ok (.bipush 6, 2) := by decide +kernel
theorem d_Pr_init_7 : decode b_Pr_init 7 = .ok (.newarray .long, 2) := by decide +kernel
theorem d_Pr_init_9 : decode b_Pr_init 9 = .ok (.putfield 9, 3) := by decide +kernel
theorem d_Pr_init_12 : decode b_Pr_init 12 = .ok (.return_, 1) := by decide +kernel
theorem d_Pr_start_0 : decode b_Pr_start 0 = .ok (.aload_n 0, 1) := by decide +kernel
theorem d_Pr_start_1 : decode b_Pr_start 1 = .ok (.getfield 9, 3) := by decide +kernel
theorem d_Pr_start_4 : decode b_Pr_start 4 = .ok (.lconst 0, 1) := by decide +kernel
theorem d_Pr_start_5 : decode b_Pr_start 5 = .ok (.invokestatic 13, 3) := by decide +kernel
theorem d_Pr_start_8 : decode b_Pr_start 8 = .ok (.aload_n 0, 1) := by decide +kernel
theorem d_Pr_start_9 : decode b_Pr_start 9 = .ok (.getfield 9, 3) := by decide +kernel
theorem d_Pr_start_12 : decode b_Pr_start 12 = .ok (.iconst 0, 1) := by decide +kernel
theorem d_Pr_start_13 : decode b_Pr_start 13 = .ok (.lconst 1, 1) := by decide +kernel
theorem d_Pr_start_14 : decode b_Pr_start 14 = .ok (.lastore, 1) := by decide +kernel
theorem d_Pr_start_15 : decode b_Pr_start 15 = .ok (.aload_n 0, 1) := by decide +kernel
theorem d_Pr_start_16 : decode b_Pr_start 16 = .ok (.iload_n 2, 1) := by decide +kernel
theorem d_Pr_start_17 : decode b_Pr_start 17 = .ok (.putfield 19, 3) := by decide +kernel
theorem d_Pr_start_20 : decode b_Pr_start 20 = .ok (.aload_n 0, 1) := by decide +kernel
theorem d_Pr_start_21 : decode b_Pr_start 21 = .ok (.iload_n 1, 1) := by decide +kernel
theorem d_Pr_start_22 : decode b_Pr_start 22 = .ok (.putfield 23, 3) := by decide +kernel
theorem d_Pr_start_25 : decode b_Pr_start 25 = .ok (.aload_n 0, 1) := by decide +kernel
theorem d_Pr_start_26 : decode b_Pr_start 26 = .ok (.areturn, 1) := by decide +kernel
theorem d_Pr_times_0 : decode b_Pr_times 0 = .ok (.aload_n 1, 1) := by decide +kernel
theorem d_Pr_times_1 : decode b_Pr_times 1 = .ok (.iload_n 2, 1) := by decide +kernel
theorem d_Pr_times_2 : decode b_Pr_times 2 = .ok (.invokevirtual 27, 3) := by decide +kernel
theorem d_Pr_times_5 : decode b_Pr_times 5 = .ok (.lstore_n 3, 1) := by decide +kernel
theorem d_Pr_times_6 : decode b_Pr_times 6 = .ok (.lload_n 3, 1) := by decide +kernel
theorem d_Pr_times_7 : decode b_Pr_times 7 = .ok (.invokestatic 33, 3) := by decide +kernel
theorem d_Pr_times_10 : decode b_Pr_times 10 = .ok (.lstore 5, 2) := by decide +kernel
theorem d_Pr_times_12 : decode b_Pr_times 12 = .ok (.lload 5, 2) := by decide +kernel
theorem d_Pr_times_14 : decode b_Pr_times 14 = .ok (.ldc2_w 41, 3) := by decide +kernel
theorem d_Pr_times_17 : decode b_Pr_times 17 = .ok (.land, 1) := by decide +kernel
theorem d_Pr_times_18 : decode b_Pr_times 18 = .ok (.lstore 7, 2) := by decide +kernel
theorem d_Pr_times_20 : decode b_Pr_times 20 = .ok (.lload 5, 2) := by decide +kernel
theorem d_Pr_times_22 : decode b_Pr_times 22 = .ok (.bipush 27, 2) := by decide +kernel
theorem d_Pr_times_24 : decode b_Pr_times 24 = .ok (.lushr, 1) := by decide +kernel
theorem d_Pr_times_25 : decode b_Pr_times 25 = .ok (.lstore 9, 2) := by decide +kernel
theorem d_Pr_times_27 : decode b_Pr_times 27 = .ok (.lconst 0, 1) := by decide +kernel
theorem d_Pr_times_28 : decode b_Pr_times 28 = .ok (.lstore 11, 2) := by decide +kernel
theorem d_Pr_times_30 : decode b_Pr_times 30 = .ok (.lconst 0, 1) := by decide +kernel
theorem d_Pr_times_31 : decode b_Pr_times 31 = .ok (.lstore 13, 2) := by decide +kernel
theorem d_Pr_times_33 : decode b_Pr_times 33 = .ok (.iconst 0, 1) := by decide +kernel
theorem d_Pr_times_34 : decode b_Pr_times 34 = .ok (.istore 15, 2) := by decide +kernel
theorem d_Pr_times_36 : decode b_Pr_times 36 = .ok (.iload 15, 2) := by decide +kernel
theorem d_Pr_times_38 : decode b_Pr_times 38 = .ok (.bipush 6, 2) := by decide +kernel
theorem d_Pr_times_40 : decode b_Pr_times 40 = .ok (.if_icmp .ge 58, 3) := by decide +kernel
theorem d_Pr_times_43 : decode b_Pr_times 43 = .ok (.aload_n 0, 1) := by decide +kernel
theorem d_Pr_times_44 : decode b_Pr_times 44 = .ok (.getfield 9, 3) := by decide +kernel
theorem d_Pr_times_47 : decode b_Pr_times 47 = .ok (.iload 15, 2) := by decide +kernel
theorem d_Pr_times_49 : decode b_Pr_times 49 = .ok (.laload, 1) := by decide +kernel
theorem d_Pr_times_50 : decode b_Pr_times 50 = .ok (.lstore 16, 2) := by decide +kernel
theorem d_Pr_times_52 : decode b_Pr_times 52 = .ok (.lload 16, 2) := by decide +kernel
theorem d_Pr_times_54 : decode b_Pr_times 54 = .ok (.lload 7, 2) := by decide +kernel
theorem d_Pr_times_56 : decode b_Pr_times 56 = .ok (.lmul, 1) := by decide +kernel
theorem d_Pr_times_57 : decode b_Pr_times 57 = .ok (.lload 13, 2) := by decide +kernel
theorem d_Pr_times_59 : decode b_Pr_times 59 = .ok (.lload 9, 2) := by decide +kernel
theorem d_Pr_times_61 : decode b_Pr_times 61 = .ok (.lmul, 1) := by decide +kernel
theorem d_Pr_times_62 : decode b_Pr_times 62 = .ok (.ladd, 1) := by decide +kernel
theorem d_Pr_times_63 : decode b_Pr_times 63 = .ok (.lload 11, 2) := by decide +kernel
theorem d_Pr_times_65 : decode b_Pr_times 65 = .ok (.ladd, 1) := by decide +kernel
theorem d_Pr_times_66 : decode b_Pr_times 66 = .ok (.lstore 18, 2) := by decide +kernel
theorem d_Pr_times_68 : decode b_Pr_times 68 = .ok (.aload_n 0, 1) := by decide +kernel
theorem d_Pr_times_69 : decode b_Pr_times 69 = .ok (.getfield 9, 3) := by decide +kernel
theorem d_Pr_times_72 : decode b_Pr_times 72 = .ok (.iload 15, 2) := by decide +kernel
theorem d_Pr_times_74 : decode b_Pr_times 74 = .ok (.lload 18, 2) := by decide +kernel
theorem d_Pr_times_76 : decode b_Pr_times 76 = .ok (.ldc2_w 41, 3) := by decide +kernel
theorem d_Pr_times_79 : decode b_Pr_times 79 = .ok (.land, 1) := by decide +kernel
theorem d_Pr_times_80 : decode b_Pr_times 80 = .ok (.lastore, 1) := by decide +kernel
theorem d_Pr_times_81 : decode b_Pr_times 81 = .ok (.lload 18, 2) := by decide +kernel
theorem d_Pr_times_83 : decode b_Pr_times 83 = .ok (.bipush 27, 2) := by decide +kernel
theorem d_Pr_times_85 : decode b_Pr_times 85 = .ok (.lushr, 1) := by decide +kernel
theorem d_Pr_times_86 : decode b_Pr_times 86 = .ok (.lstore 11, 2) := by decide +kernel
theorem d_Pr_times_88 : decode b_Pr_times 88 = .ok (.lload 16, 2) := by decide +kernel
theorem d_Pr_times_90 : decode b_Pr_times 90 = .ok (.lstore 13, 2) := by decide +kernel
theorem d_Pr_times_92 : decode b_Pr_times 92 = .ok (.iinc 15 1, 3) := by decide +kernel
theorem d_Pr_times_95 : decode b_Pr_times 95 = .ok (.goto (-59), 3) := by decide +kernel
theorem d_Pr_times_98 : decode b_Pr_times 98 = .ok (.aload_n 0, 1) := by decide +kernel
theorem d_Pr_times_99 : decode b_Pr_times 99 = .ok (.dup, 1) := by decide +kernel
theorem d_Pr_times_100 : decode b_Pr_times 100 = .ok (.getfield 19, 3) := by decide +kernel
theorem d_Pr_times_103 : decode b_Pr_times 103 = .ok (.aload_n 1, 1) := by decide +kernel
theorem d_Pr_times_104 : decode b_Pr_times 104 = .ok (.iload_n 2, 1) := by decide +kernel
theorem d_Pr_times_105 : decode b_Pr_times 105 = .ok (.invokevirtual 43, 3) := by decide +kernel
theorem d_Pr_times_108 : decode b_Pr_times 108 = .ok (.iadd, 1) := by decide +kernel
theorem d_Pr_times_109 : decode b_Pr_times 109 = .ok (.putfield 19, 3) := by decide +kernel
theorem d_Pr_times_112 : decode b_Pr_times 112 = .ok (.aload_n 0, 1) := by decide +kernel
theorem d_Pr_times_113 : decode b_Pr_times 113 = .ok (.aload_n 0, 1) := by decide +kernel
theorem d_Pr_times_114 : decode b_Pr_times 114 = .ok (.getfield 23, 3) := by decide +kernel
theorem d_Pr_times_117 : decode b_Pr_times 117 = .ok (.lload_n 3, 1) := by decide +kernel
theorem d_Pr_times_118 : decode b_Pr_times 118 = .ok (.lconst 0, 1) := by decide +kernel
theorem d_Pr_times_119 : decode b_Pr_times 119 = .ok (.lcmp, 1) := by decide +kernel
theorem d_Pr_times_120 : decode b_Pr_times 120 = .ok (.ifCond .ge 7, 3) := by decide +kernel
theorem d_Pr_times_123 : decode b_Pr_times 123 = .ok (.iconst 1, 1) := by decide +kernel
theorem d_Pr_times_124 : decode b_Pr_times 124 = .ok (.goto 4, 3) := by decide +kernel
theorem d_Pr_times_127 : decode b_Pr_times 127 = .ok (.iconst 0, 1) := by decide +kernel
theorem d_Pr_times_128 : decode b_Pr_times 128 = .ok (.if_icmp .eq 7, 3) := by decide +kernel
theorem d_Pr_times_131 : decode b_Pr_times 131 = .ok (.iconst 1, 1) := by decide +kernel
theorem d_Pr_times_132 : decode b_Pr_times 132 = .ok (.goto 4, 3) := by decide +kernel
theorem d_Pr_times_135 : decode b_Pr_times 135 = .ok (.iconst 0, 1) := by decide +kernel
theorem d_Pr_times_136 : decode b_Pr_times 136 = .ok (.putfield 23, 3) := by decide +kernel
theorem d_Pr_times_139 : decode b_Pr_times 139 = .ok (.aload_n 0, 1) := by decide +kernel
theorem d_Pr_times_140 : decode b_Pr_times 140 = .ok (.areturn, 1) := by decide +kernel
theorem d_La_certify_0 : decode b_La_certify 0 = .ok (.aload_n 3, 1) := by decide +kernel
theorem d_La_certify_1 : decode b_La_certify 1 = .ok (.iconst 0, 1) := by decide +kernel
theorem d_La_certify_2 : decode b_La_certify 2 = .ok (.aload_n 0, 1) := by decide +kernel
theorem d_La_certify_3 : decode b_La_certify 3 = .ok (.iload_n 1, 1) := by decide +kernel
theorem d_La_certify_4 : decode b_La_certify 4 = .ok (.iload_n 2, 1) := by decide +kernel
theorem d_La_certify_5 : decode b_La_certify 5 = .ok (.invokevirtual 41, 3) := by decide +kernel
theorem d_La_certify_8 : decode b_La_certify 8 = .ok (.dastore, 1) := by decide +kernel
theorem d_La_certify_9 : decode b_La_certify 9 = .ok (.goto 15, 3) := by decide +kernel
theorem d_La_certify_12 : decode b_La_certify 12 = .ok (.astore 4, 2) := by decide +kernel
theorem d_La_certify_14 : decode b_La_certify 14 = .ok (.iconst 1, 1) := by decide +kernel
theorem d_La_certify_15 : decode b_La_certify 15 = .ok (.ireturn, 1) := by decide +kernel
theorem d_La_certify_16 : decode b_La_certify 16 = .ok (.astore 4, 2) := by decide +kernel
theorem d_La_certify_18 : decode b_La_certify 18 = .ok (.iconst 2, 1) := by decide +kernel
theorem d_La_certify_19 : decode b_La_certify 19 = .ok (.ireturn, 1) := by decide +kernel
theorem d_La_certify_20 : decode b_La_certify 20 = .ok (.astore 4, 2) := by decide +kernel
theorem d_La_certify_22 : decode b_La_certify 22 = .ok (.iconst 3, 1) := by decide +kernel
theorem d_La_certify_23 : decode b_La_certify 23 = .ok (.ireturn, 1) := by decide +kernel
theorem d_La_certify_24 : decode b_La_certify 24 = .ok (.iconst 0, 1) := by decide +kernel
theorem d_La_certify_25 : decode b_La_certify 25 = .ok (.ireturn, 1) := by decide +kernel
theorem d_La_column_0 : decode b_La_column 0 = .ok (.aload 8, 2) := by decide +kernel
theorem d_La_column_2 : decode b_La_column 2 = .ok (.iconst 0, 1) := by decide +kernel
theorem d_La_column_3 : decode b_La_column 3 = .ok (.aload_n 0, 1) := by decide +kernel
theorem d_La_column_4 : decode b_La_column 4 = .ok (.dload_n 1, 1) := by decide +kernel
theorem d_La_column_5 : decode b_La_column 5 = .ok (.iload_n 3, 1) := by decide +kernel
theorem d_La_column_6 : decode b_La_column 6 = .ok (.dload 4, 2) := by decide +kernel
theorem d_La_column_8 : decode b_La_column 8 = .ok (.dload 6, 2) := by decide +kernel
theorem d_La_column_10 : decode b_La_column 10 = .ok (.invokevirtual 21, 3) := by decide +kernel
theorem d_La_column_13 : decode b_La_column 13 = .ok (.i2l, 1) := by decide +kernel
theorem d_La_column_14 : decode b_La_column 14 = .ok (.lastore, 1) := by decide +kernel
theorem d_La_column_15 : decode b_La_column 15 = .ok (.goto 11, 3) := by decide +kernel
theorem d_La_column_18 : decode b_La_column 18 = .ok (.astore 9, 2) := by decide +kernel
theorem d_La_column_20 : decode b_La_column 20 = .ok (.iconst 1, 1) := by decide +kernel
theorem d_La_column_21 : decode b_La_column 21 = .ok (.ireturn, 1) := by decide +kernel
theorem d_La_column_22 : decode b_La_column 22 = .ok (.astore 9, 2) := by decide +kernel
theorem d_La_column_24 : decode b_La_column 24 = .ok (.iconst 2, 1) := by decide +kernel
theorem d_La_column_25 : decode b_La_column 25 = .ok (.ireturn, 1) := by decide +kernel
theorem d_La_column_26 : decode b_La_column 26 = .ok (.iconst 0, 1) := by decide +kernel
theorem d_La_column_27 : decode b_La_column 27 = .ok (.ireturn, 1) := by decide +kernel
theorem d_La_constant_0 : decode b_La_constant 0 = .ok (.aload_n 0, 1) := by decide +kernel
theorem d_La_constant_1 : decode b_La_constant 1 = .ok (.dload_n 1, 1) := by decide +kernel
theorem d_La_constant_2 : decode b_La_constant 2 = .ok (.invokevirtual 7, 3) := by decide +kernel
theorem d_La_constant_5 : decode b_La_constant 5 = .ok (.goto 6, 3) := by decide +kernel
theorem d_La_constant_8 : decode b_La_constant 8 = .ok (.astore_n 3, 1) := by decide +kernel
theorem d_La_constant_9 : decode b_La_constant 9 = .ok (.iconst 1, 1) := by decide +kernel
theorem d_La_constant_10 : decode b_La_constant 10 = .ok (.ireturn, 1) := by decide +kernel
theorem d_La_constant_11 : decode b_La_constant 11 = .ok (.iconst 0, 1) := by decide +kernel
theorem d_La_constant_12 : decode b_La_constant 12 = .ok (.ireturn, 1) := by decide +kernel
theorem d_La_entry_0 : decode b_La_entry 0 = .ok (.aload 5, 2) := by decide +kernel
theorem d_La_entry_2 : decode b_La_entry 2 = .ok (.iconst 0, 1) := by decide +kernel
theorem d_La_entry_3 : decode b_La_entry 3 = .ok (.aload_n 0, 1) := by decide +kernel
theorem d_La_entry_4 : decode b_La_entry 4 = .ok (.iload_n 1, 1) := by decide +kernel
theorem d_La_entry_5 : decode b_La_entry 5 = .ok (.iload_n 2, 1) := by decide +kernel
theorem d_La_entry_6 : decode b_La_entry 6 = .ok (.dload_n 3, 1) := by decide +kernel
theorem d_La_entry_7 : decode b_La_entry 7 = .ok (.invokevirtual 25, 3) := by decide +kernel
theorem d_La_entry_10 : decode b_La_entry 10 = .ok (.i2l, 1) := by decide +kernel
theorem d_La_entry_11 : decode b_La_entry 11 = .ok (.lastore, 1) := by decide +kernel
theorem d_La_entry_12 : decode b_La_entry 12 = .ok (.goto 15, 3) := by decide +kernel
theorem d_La_entry_15 : decode b_La_entry 15 = .ok (.astore 6, 2) := by decide +kernel
theorem d_La_entry_17 : decode b_La_entry 17 = .ok (.iconst 1, 1) := by decide +kernel
theorem d_La_entry_18 : decode b_La_entry 18 = .ok (.ireturn, 1) := by decide +kernel
theorem d_La_entry_19 : decode b_La_entry 19 = .ok (.astore 6, 2) := by decide +kernel
theorem d_La_entry_21 : decode b_La_entry 21 = .ok (.iconst 2, 1) := by decide +kernel
theorem d_La_entry_22 : decode b_La_entry 22 = .ok (.ireturn, 1) := by decide +kernel
theorem d_La_entry_23 : decode b_La_entry 23 = .ok (.astore 6, 2) := by decide +kernel
theorem d_La_entry_25 : decode b_La_entry 25 = .ok (.iconst 3, 1) := by decide +kernel
theorem d_La_entry_26 : decode b_La_entry 26 = .ok (.ireturn, 1) := by decide +kernel
theorem d_La_entry_27 : decode b_La_entry 27 = .ok (.iconst 0, 1) := by decide +kernel
theorem d_La_entry_28 : decode b_La_entry 28 = .ok (.ireturn, 1) := by decide +kernel
theorem d_La_law_0 : decode b_La_law 0 = .ok (.new 8, 3) := by decide +kernel
theorem d_La_law_3 : decode b_La_law 3 = .ok (.dup, 1) := by decide +kernel
theorem d_La_law_4 : decode b_La_law 4 = .ok (.invokespecial 51, 3) := by decide +kernel
theorem d_La_law_7 : decode b_La_law 7 = .ok (.astore_n 1, 1) := by decide +kernel
theorem d_La_law_8 : decode b_La_law 8 = .ok (.new 52, 3) := by decide +kernel
theorem d_La_law_11 : decode b_La_law 11 = .ok (.dup, 1) := by decide +kernel
theorem d_La_law_12 : decode b_La_law 12 = .ok (.invokespecial 54, 3) := by decide +kernel
theorem d_La_law_15 : decode b_La_law 15 = .ok (.astore_n 2, 1) := by decide +kernel
theorem d_La_law_16 : decode b_La_law 16 = .ok (.iconst 1, 1) := by decide +kernel
theorem d_La_law_17 : decode b_La_law 17 = .ok (.newarray .long, 2) := by decide +kernel
theorem d_La_law_19 : decode b_La_law 19 = .ok (.astore_n 3, 1) := by decide +kernel
theorem d_La_law_20 : decode b_La_law 20 = .ok (.iconst 1, 1) := by decide +kernel
theorem d_La_law_21 : decode b_La_law 21 = .ok (.newarray .double, 2) := by decide +kernel
theorem d_La_law_23 : decode b_La_law 23 = .ok (.astore 4, 2) := by decide +kernel
theorem d_La_law_25 : decode b_La_law 25 = .ok (.iconst 0, 1) := by decide +kernel
theorem d_La_law_26 : decode b_La_law 26 = .ok (.istore 5, 2) := by decide +kernel
theorem d_La_law_28 : decode b_La_law 28 = .ok (.iload 5, 2) := by decide +kernel
theorem d_La_law_30 : decode b_La_law 30 = .ok (.aload_n 0, 1) := by decide +kernel
theorem d_La_law_31 : decode b_La_law 31 = .ok (.arraylength, 1) := by decide +kernel
theorem d_La_law_32 : decode b_La_law 32 = .ok (.iconst 5, 1) := by decide +kernel
theorem d_La_law_33 : decode b_La_law 33 = .ok (.isub, 1) := by decide +kernel
theorem d_La_law_34 : decode b_La_law 34 = .ok (.if_icmp .gt 813, 3) := by decide +kernel
theorem d_La_law_37 : decode b_La_law 37 = .ok (.aload_n 0, 1) := by decide +kernel
theorem d_La_law_38 : decode b_La_law 38 = .ok (.iload 5, 2) := by decide +kernel
theorem d_La_law_40 : decode b_La_law 40 = .ok (.iaload, 1) := by decide +kernel
theorem d_La_law_41 : decode b_La_law 41 = .ok (.bipush 15, 2) := by decide +kernel
theorem d_La_law_43 : decode b_La_law 43 = .ok (.iand, 1) := by decide +kernel
theorem d_La_law_44 : decode b_La_law 44 = .ok (.tableswitch 797 0 8 #[52, 98, 198, 320, 410, 500, 570, 640, 729], 52) := by decide +kernel
theorem d_La_law_96 : decode b_La_law 96 = .ok (.aload_n 1, 1) := by decide +kernel
theorem d_La_law_97 : decode b_La_law 97 = .ok (.aload_n 0, 1) := by decide +kernel
theorem d_La_law_98 : decode b_La_law 98 = .ok (.iload 5, 2) := by decide +kernel
theorem d_La_law_100 : decode b_La_law 100 = .ok (.iconst 1, 1) := by decide +kernel
theorem d_La_law_101 : decode b_La_law 101 = .ok (.iadd, 1) := by decide +kernel
theorem d_La_law_102 : decode b_La_law 102 = .ok (.iaload, 1) := by decide +kernel
theorem d_La_law_103 : decode b_La_law 103 = .ok (.i2d, 1) := by decide +kernel
theorem d_La_law_104 : decode b_La_law 104 = .ok (.ldc2_w 55, 3) := by decide +kernel
theorem d_La_law_107 : decode b_La_law 107 = .ok (.dmul, 1) := by decide +kernel
theorem d_La_law_108 : decode b_La_law 108 = .ok (.invokestatic 57, 3) := by decide +kernel
theorem d_La_law_111 : decode b_La_law 111 = .ok (.istore 6, 2) := by decide +kernel
theorem d_La_law_113 : decode b_La_law 113 = .ok (.aload_n 2, 1) := by decide +kernel
theorem d_La_law_114 : decode b_La_law 114 = .ok (.aload_n 0, 1) := by decide +kernel
theorem d_La_law_115 : decode b_La_law 115 = .ok (.iload 5, 2) := by decide +kernel
theorem d_La_law_117 : decode b_La_law 117 = .ok (.iconst 1, 1) := by decide +kernel
theorem d_La_law_118 : decode b_La_law 118 = .ok (.iadd, 1) := by decide +kernel
theorem d_La_law_119 : decode b_La_law 119 = .ok (.iaload, 1) := by decide +kernel
theorem d_La_law_120 : decode b_La_law 120 = .ok (.i2d, 1) := by decide +kernel
theorem d_La_law_121 : decode b_La_law 121 = .ok (.ldc2_w 55, 3) := by decide +kernel
theorem d_La_law_124 : decode b_La_law 124 = .ok (.dmul, 1) := by decide +kernel
theorem d_La_law_125 : decode b_La_law 125 = .ok (.invokevirtual 62, 3) := by decide +kernel
theorem d_La_law_128 : decode b_La_law 128 = .ok (.aload_n 2, 1) := by decide +kernel
theorem d_La_law_129 : decode b_La_law 129 = .ok (.invokevirtual 63, 3) := by decide +kernel
theorem d_La_law_132 : decode b_La_law 132 = .ok (.iload 6, 2) := by decide +kernel
theorem d_La_law_134 : decode b_La_law 134 = .ok (.if_icmp .eq 5, 3) := by decide +kernel
theorem d_La_law_137 : decode b_La_law 137 = .ok (.iconst 0, 1) := by decide +kernel
theorem d_La_law_138 : decode b_La_law 138 = .ok (.ireturn, 1) := by decide +kernel
theorem d_La_law_139 : decode b_La_law 139 = .ok (.goto 702, 3) := by decide +kernel
theorem d_La_law_142 : decode b_La_law 142 = .ok (.aload_n 1, 1) := by decide +kernel
theorem d_La_law_143 : decode b_La_law 143 = .ok (.aload_n 0, 1) := by decide +kernel
theorem d_La_law_144 : decode b_La_law 144 = .ok (.iload 5, 2) := by decide +kernel
theorem d_La_law_146 : decode b_La_law 146 = .ok (.iconst 1, 1) := by decide +kernel
theorem d_La_law_147 : decode b_La_law 147 = .ok (.iadd, 1) := by decide +kernel
theorem d_La_law_148 : decode b_La_law 148 = .ok (.iaload, 1) := by decide +kernel
theorem d_La_law_149 : decode b_La_law 149 = .ok (.aload_n 0, 1) := by decide +kernel
theorem d_La_law_150 : decode b_La_law 150 = .ok (.iload 5, 2) := by decide +kernel
theorem d_La_law_152 : decode b_La_law 152 = .ok (.iconst 2, 1) := by decide +kernel
theorem d_La_law_153 : decode b_La_law 153 = .ok (.iadd, 1) := by decide +kernel
theorem d_La_law_154 : decode b_La_law 154 = .ok (.iaload, 1) := by decide +kernel
theorem d_La_law_155 : decode b_La_law 155 = .ok (.i2d, 1) := by decide +kernel
theorem d_La_law_156 : decode b_La_law 156 = .ok (.ldc2_w 55, 3) := by decide +kernel
theorem d_La_law_159 : decode b_La_law 159 = .ok (.dmul, 1) := by decide +kernel
theorem d_La_law_160 : decode b_La_law 160 = .ok (.aload_n 0, 1) := by decide +kernel
theorem d_La_law_161 : decode b_La_law 161 = .ok (.iload 5, 2) := by decide +kernel
theorem d_La_law_163 : decode b_La_law 163 = .ok (.iconst 3, 1) := by decide +kernel
theorem d_La_law_164 : decode b_La_law 164 = .ok (.iadd, 1) := by decide +kernel
theorem d_La_law_165 : decode b_La_law 165 = .ok (.iaload, 1) := by decide +kernel
theorem d_La_law_166 : decode b_La_law 166 = .ok (.i2d, 1) := by decide +kernel
theorem d_La_law_167 : decode b_La_law 167 = .ok (.ldc2_w 55, 3) := by decide +kernel
theorem d_La_law_170 : decode b_La_law 170 = .ok (.dmul, 1) := by decide +kernel
theorem d_La_law_171 : decode b_La_law 171 = .ok (.aload_n 3, 1) := by decide +kernel
theorem d_La_law_172 : decode b_La_law 172 = .ok (.invokestatic 67, 3) := by decide +kernel
theorem d_La_law_175 : decode b_La_law 175 = .ok (.istore 6, 2) := by decide +kernel
theorem d_La_law_177 : decode b_La_law 177 = .ok (.aload_n 2, 1) := by decide +kernel
theorem d_La_law_178 : decode b_La_law 178 = .ok (.aload_n 0, 1) := by decide +kernel
theorem d_La_law_179 : decode b_La_law 179 = .ok (.iload 5, 2) := by decide +kernel
theorem d_La_law_181 : decode b_La_law 181 = .ok (.iconst 1, 1) := by decide +kernel
theorem d_La_law_182 : decode b_La_law 182 = .ok (.iadd, 1) := by decide +kernel
theorem d_La_law_183 : decode b_La_law 183 = .ok (.iaload, 1) := by decide +kernel
theorem d_La_law_184 : decode b_La_law 184 = .ok (.aload_n 0, 1) := by decide +kernel
theorem d_La_law_185 : decode b_La_law 185 = .ok (.iload 5, 2) := by decide +kernel
theorem d_La_law_187 : decode b_La_law 187 = .ok (.iconst 2, 1) := by decide +kernel
theorem d_La_law_188 : decode b_La_law 188 = .ok (.iadd, 1) := by decide +kernel
theorem d_La_law_189 : decode b_La_law 189 = .ok (.iaload, 1) := by decide +kernel
theorem d_La_law_190 : decode b_La_law 190 = .ok (.i2d, 1) := by decide +kernel
theorem d_La_law_191 : decode b_La_law 191 = .ok (.ldc2_w 55, 3) := by decide +kernel
theorem d_La_law_194 : decode b_La_law 194 = .ok (.dmul, 1) := by decide +kernel
theorem d_La_law_195 : decode b_La_law 195 = .ok (.aload_n 0, 1) := by decide +kernel
theorem d_La_law_196 : decode b_La_law 196 = .ok (.iload 5, 2) := by decide +kernel
theorem d_La_law_198 : decode b_La_law 198 = .ok (.iconst 3, 1) := by decide +kernel
theorem d_La_law_199 : decode b_La_law 199 = .ok (.iadd, 1) := by decide +kernel
theorem d_La_law_200 : decode b_La_law 200 = .ok (.iaload, 1) := by decide +kernel
theorem d_La_law_201 : decode b_La_law 201 = .ok (.i2d, 1) := by decide +kernel
theorem d_La_law_202 : decode b_La_law 202 = .ok (.ldc2_w 55, 3) := by decide +kernel
theorem d_La_law_205 : decode b_La_law 205 = .ok (.dmul, 1) := by decide +kernel
theorem d_La_law_206 : decode b_La_law 206 = .ok (.invokevirtual 70, 3) := by decide +kernel
theorem d_La_law_209 : decode b_La_law 209 = .ok (.istore 7, 2) := by decide +kernel
theorem d_La_law_211 : decode b_La_law 211 = .ok (.aload_n 2, 1) := by decide +kernel
theorem d_La_law_212 : decode b_La_law 212 = .ok (.invokevirtual 63, 3) := by decide +kernel
theorem d_La_law_215 : decode b_La_law 215 = .ok (.iload 6, 2) := by decide +kernel
theorem d_La_law_217 : decode b_La_law 217 = .ok (.if_icmp .eq 5, 3) := by decide +kernel
theorem d_La_law_220 : decode b_La_law 220 = .ok (.iconst 0, 1) := by decide +kernel
theorem d_La_law_221 : decode b_La_law 221 = .ok (.ireturn, 1) := by decide +kernel
theorem d_La_law_222 : decode b_La_law 222 = .ok (.iload 6, 2) := by decide +kernel
theorem d_La_law_224 : decode b_La_law 224 = .ok (.ifCond .ne 15, 3) := by decide +kernel
theorem d_La_law_227 : decode b_La_law 227 = .ok (.aload_n 3, 1) := by decide +kernel
theorem d_La_law_228 : decode b_La_law 228 = .ok (.iconst 0, 1) := by decide +kernel
theorem d_La_law_229 : decode b_La_law 229 = .ok (.laload, 1) := by decide +kernel
theorem d_La_law_230 : decode b_La_law 230 = .ok (.iload 7, 2) := by decide +kernel
theorem d_La_law_232 : decode b_La_law 232 = .ok (.i2l, 1) := by decide +kernel
theorem d_La_law_233 : decode b_La_law 233 = .ok (.lcmp, 1) := by decide +kernel
theorem d_La_law_234 : decode b_La_law 234 = .ok (.ifCond .eq 5, 3) := by decide +kernel
theorem d_La_law_237 : decode b_La_law 237 = .ok (.iconst 0, 1) := by decide +kernel
theorem d_La_law_238 : decode b_La_law 238 = .ok (.ireturn, 1) := by decide +kernel
theorem d_La_law_239 : decode b_La_law 239 = .ok (.goto 602, 3) := by decide +kernel
theorem d_La_law_242 : decode b_La_law 242 = .ok (.aload_n 1, 1) := by decide +kernel
theorem d_La_law_243 : decode b_La_law 243 = .ok (.aload_n 0, 1) := by decide +kernel
theorem d_La_law_244 : decode b_La_law 244 = .ok (.iload 5, 2) := by decide +kernel
theorem d_La_law_246 : decode b_La_law 246 = .ok (.iconst 1, 1) := by decide +kernel
theorem d_La_law_247 : decode b_La_law 247 = .ok (.iadd, 1) := by decide +kernel
theorem d_La_law_248 : decode b_La_law 248 = .ok (.iaload, 1) := by decide +kernel
theorem d_La_law_249 : decode b_La_law 249 = .ok (.i2d, 1) := by decide +kernel
theorem d_La_law_250 : decode b_La_law 250 = .ok (.ldc2_w 55, 3) := by decide +kernel
theorem d_La_law_253 : decode b_La_law 253 = .ok (.dmul, 1) := by decide +kernel
theorem d_La_law_254 : decode b_La_law 254 = .ok (.aload_n 0, 1) := by decide +kernel
theorem d_La_law_255 : decode b_La_law 255 = .ok (.iload 5, 2) := by decide +kernel
theorem d_La_law_257 : decode b_La_law 257 = .ok (.iconst 2, 1) := by decide +kernel
theorem d_La_law_258 : decode b_La_law 258 = .ok (.iadd, 1) := by decide +kernel
theorem d_La_law_259 : decode b_La_law 259 = .ok (.iaload, 1) := by decide +kernel
theorem d_La_law_260 : decode b_La_law 260 = .ok (.aload_n 0, 1) := by decide +kernel
theorem d_La_law_261 : decode b_La_law 261 = .ok (.iload 5, 2) := by decide +kernel
theorem d_La_law_263 : decode b_La_law 263 = .ok (.iconst 3, 1) := by decide +kernel
theorem d_La_law_264 : decode b_La_law 264 = .ok (.iadd, 1) := by decide +kernel
theorem d_La_law_265 : decode b_La_law 265 = .ok (.iaload, 1) := by decide +kernel
theorem d_La_law_266 : decode b_La_law 266 = .ok (.i2d, 1) := by decide +kernel
theorem d_La_law_267 : decode b_La_law 267 = .ok (.ldc2_w 55, 3) := by decide +kernel
theorem d_La_law_270 : decode b_La_law 270 = .ok (.dmul, 1) := by decide +kernel
theorem d_La_law_271 : decode b_La_law 271 = .ok (.aload_n 0, 1) := by decide +kernel
theorem d_La_law_272 : decode b_La_law 272 = .ok (.iload 5, 2) := by decide +kernel
theorem d_La_law_274 : decode b_La_law 274 = .ok (.iconst 4, 1) := by decide +kernel
theorem d_La_law_275 : decode b_La_law 275 = .ok (.iadd, 1) := by decide +kernel
theorem d_La_law_276 : decode b_La_law 276 = .ok (.iaload, 1) := by decide +kernel
theorem d_La_law_277 : decode b_La_law 277 = .ok (.i2d, 1) := by decide +kernel
theorem d_La_law_278 : decode b_La_law 278 = .ok (.ldc2_w 55, 3) := by decide +kernel
theorem d_La_law_281 : decode b_La_law 281 = .ok (.dmul, 1) := by decide +kernel
theorem d_La_law_282 : decode b_La_law 282 = .ok (.aload_n 3, 1) := by decide +kernel
theorem d_La_law_283 : decode b_La_law 283 = .ok (.invokestatic 71, 3) := by decide +kernel
theorem d_La_law_286 : decode b_La_law 286 = .ok (.istore 6, 2) := by decide +kernel
theorem d_La_law_288 : decode b_La_law 288 = .ok (.aload_n 2, 1) := by decide +kernel
theorem d_La_law_289 : decode b_La_law 289 = .ok (.aload_n 0, 1) := by decide +kernel
theorem d_La_law_290 : decode b_La_law 290 = .ok (.iload 5, 2) := by decide +kernel
theorem d_La_law_292 : decode b_La_law 292 = .ok (.iconst 1, 1) := by decide +kernel
theorem d_La_law_293 : decode b_La_law 293 = .ok (.iadd, 1) := by decide +kernel
theorem d_La_law_294 : decode b_La_law 294 = .ok (.iaload, 1) := by decide +kernel
theorem d_La_law_295 : decode b_La_law 295 = .ok (.i2d, 1) := by decide +kernel
theorem d_La_law_296 : decode b_La_law 296 = .ok (.ldc2_w 55, 3) := by decide +kernel
theorem d_La_law_299 : decode b_La_law 299 = .ok (.dmul, 1) := by decide +kernel
theorem d_La_law_300 : decode b_La_law 300 = .ok (.aload_n 0, 1) := by decide +kernel
theorem d_La_law_301 : decode b_La_law 301 = .ok (.iload 5, 2) := by decide +kernel
theorem d_La_law_303 : decode b_La_law 303 = .ok (.iconst 2, 1) := by decide +kernel
theorem d_La_law_304 : decode b_La_law 304 = .ok (.iadd, 1) := by decide +kernel
theorem d_La_law_305 : decode b_La_law 305 = .ok (.iaload, 1) := by decide +kernel
theorem d_La_law_306 : decode b_La_law 306 = .ok (.aload_n 0, 1) := by decide +kernel
theorem d_La_law_307 : decode b_La_law 307 = .ok (.iload 5, 2) := by decide +kernel
theorem d_La_law_309 : decode b_La_law 309 = .ok (.iconst 3, 1) := by decide +kernel
theorem d_La_law_310 : decode b_La_law 310 = .ok (.iadd, 1) := by decide +kernel
theorem d_La_law_311 : decode b_La_law 311 = .ok (.iaload, 1) := by decide +kernel
theorem d_La_law_312 : decode b_La_law 312 = .ok (.i2d, 1) := by decide +kernel
theorem d_La_law_313 : decode b_La_law 313 = .ok (.ldc2_w 55, 3) := by decide +kernel
theorem d_La_law_316 : decode b_La_law 316 = .ok (.dmul, 1) := by decide +kernel
theorem d_La_law_317 : decode b_La_law 317 = .ok (.aload_n 0, 1) := by decide +kernel
theorem d_La_law_318 : decode b_La_law 318 = .ok (.iload 5, 2) := by decide +kernel
theorem d_La_law_320 : decode b_La_law 320 = .ok (.iconst 4, 1) := by decide +kernel
theorem d_La_law_321 : decode b_La_law 321 = .ok (.iadd, 1) := by decide +kernel
theorem d_La_law_322 : decode b_La_law 322 = .ok (.iaload, 1) := by decide +kernel
theorem d_La_law_323 : decode b_La_law 323 = .ok (.i2d, 1) := by decide +kernel
theorem d_La_law_324 : decode b_La_law 324 = .ok (.ldc2_w 55, 3) := by decide +kernel
theorem d_La_law_327 : decode b_La_law 327 = .ok (.dmul, 1) := by decide +kernel
theorem d_La_law_328 : decode b_La_law 328 = .ok (.invokevirtual 74, 3) := by decide +kernel
theorem d_La_law_331 : decode b_La_law 331 = .ok (.istore 7, 2) := by decide +kernel
theorem d_La_law_333 : decode b_La_law 333 = .ok (.aload_n 2, 1) := by decide +kernel
theorem d_La_law_334 : decode b_La_law 334 = .ok (.invokevirtual 63, 3) := by decide +kernel
theorem d_La_law_337 : decode b_La_law 337 = .ok (.iload 6, 2) := by decide +kernel
theorem d_La_law_339 : decode b_La_law 339 = .ok (.if_icmp .eq 5, 3) := by decide +kernel
theorem d_La_law_342 : decode b_La_law 342 = .ok (.iconst 0, 1) := by decide +kernel
theorem d_La_law_343 : decode b_La_law 343 = .ok (.ireturn, 1) := by decide +kernel
theorem d_La_law_344 : decode b_La_law 344 = .ok (.iload 6, 2) := by decide +kernel
theorem d_La_law_346 : decode b_La_law 346 = .ok (.ifCond .ne 15, 3) := by decide +kernel
theorem d_La_law_349 : decode b_La_law 349 = .ok (.aload_n 3, 1) := by decide +kernel
theorem d_La_law_350 : decode b_La_law 350 = .ok (.iconst 0, 1) := by decide +kernel
theorem d_La_law_351 : decode b_La_law 351 = .ok (.laload, 1) := by decide +kernel
theorem d_La_law_352 : decode b_La_law 352 = .ok (.iload 7, 2) := by decide +kernel
theorem d_La_law_354 : decode b_La_law 354 = .ok (.i2l, 1) := by decide +kernel
theorem d_La_law_355 : decode b_La_law 355 = .ok (.lcmp, 1) := by decide +kernel
theorem d_La_law_356 : decode b_La_law 356 = .ok (.ifCond .eq 5, 3) := by decide +kernel
theorem d_La_law_359 : decode b_La_law 359 = .ok (.iconst 0, 1) := by decide +kernel
theorem d_La_law_360 : decode b_La_law 360 = .ok (.ireturn, 1) := by decide +kernel
theorem d_La_law_361 : decode b_La_law 361 = .ok (.goto 480, 3) := by decide +kernel
theorem d_La_law_364 : decode b_La_law 364 = .ok (.aload_n 1, 1) := by decide +kernel
theorem d_La_law_365 : decode b_La_law 365 = .ok (.aload_n 0, 1) := by decide +kernel
theorem d_La_law_366 : decode b_La_law 366 = .ok (.iload 5, 2) := by decide +kernel
theorem d_La_law_368 : decode b_La_law 368 = .ok (.iconst 1, 1) := by decide +kernel
theorem d_La_law_369 : decode b_La_law 369 = .ok (.iadd, 1) := by decide +kernel
theorem d_La_law_370 : decode b_La_law 370 = .ok (.iaload, 1) := by decide +kernel
theorem d_La_law_371 : decode b_La_law 371 = .ok (.aload_n 0, 1) := by decide +kernel
theorem d_La_law_372 : decode b_La_law 372 = .ok (.iload 5, 2) := by decide +kernel
theorem d_La_law_374 : decode b_La_law 374 = .ok (.iconst 2, 1) := by decide +kernel
theorem d_La_law_375 : decode b_La_law 375 = .ok (.iadd, 1) := by decide +kernel
theorem d_La_law_376 : decode b_La_law 376 = .ok (.iaload, 1) := by decide +kernel
theorem d_La_law_377 : decode b_La_law 377 = .ok (.aload_n 0, 1) := by decide +kernel
theorem d_La_law_378 : decode b_La_law 378 = .ok (.iload 5, 2) := by decide +kernel
theorem d_La_law_380 : decode b_La_law 380 = .ok (.iconst 3, 1) := by decide +kernel
theorem d_La_law_381 : decode b_La_law 381 = .ok (.iadd, 1) := by decide +kernel
theorem d_La_law_382 : decode b_La_law 382 = .ok (.iaload, 1) := by decide +kernel
theorem d_La_law_383 : decode b_La_law 383 = .ok (.i2d, 1) := by decide +kernel
theorem d_La_law_384 : decode b_La_law 384 = .ok (.ldc2_w 55, 3) := by decide +kernel
theorem d_La_law_387 : decode b_La_law 387 = .ok (.dmul, 1) := by decide +kernel
theorem d_La_law_388 : decode b_La_law 388 = .ok (.aload_n 3, 1) := by decide +kernel
theorem d_La_law_389 : decode b_La_law 389 = .ok (.invokestatic 75, 3) := by decide +kernel
theorem d_La_law_392 : decode b_La_law 392 = .ok (.istore 6, 2) := by decide +kernel
theorem d_La_law_394 : decode b_La_law 394 = .ok (.aload_n 2, 1) := by decide +kernel
theorem d_La_law_395 : decode b_La_law 395 = .ok (.aload_n 0, 1) := by decide +kernel
theorem d_La_law_396 : decode b_La_law 396 = .ok (.iload 5, 2) := by decide +kernel
theorem d_La_law_398 : decode b_La_law 398 = .ok (.iconst 1, 1) := by decide +kernel
theorem d_La_law_399 : decode b_La_law 399 = .ok (.iadd, 1) := by decide +kernel
theorem d_La_law_400 : decode b_La_law 400 = .ok (.iaload, 1) := by decide +kernel
theorem d_La_law_401 : decode b_La_law 401 = .ok (.aload_n 0, 1) := by decide +kernel
theorem d_La_law_402 : decode b_La_law 402 = .ok (.iload 5, 2) := by decide +kernel
theorem d_La_law_404 : decode b_La_law 404 = .ok (.iconst 2, 1) := by decide +kernel
theorem d_La_law_405 : decode b_La_law 405 = .ok (.iadd, 1) := by decide +kernel
theorem d_La_law_406 : decode b_La_law 406 = .ok (.iaload, 1) := by decide +kernel
theorem d_La_law_407 : decode b_La_law 407 = .ok (.aload_n 0, 1) := by decide +kernel
theorem d_La_law_408 : decode b_La_law 408 = .ok (.iload 5, 2) := by decide +kernel
theorem d_La_law_410 : decode b_La_law 410 = .ok (.iconst 3, 1) := by decide +kernel
theorem d_La_law_411 : decode b_La_law 411 = .ok (.iadd, 1) := by decide +kernel
theorem d_La_law_412 : decode b_La_law 412 = .ok (.iaload, 1) := by decide +kernel
theorem d_La_law_413 : decode b_La_law 413 = .ok (.i2d, 1) := by decide +kernel
theorem d_La_law_414 : decode b_La_law 414 = .ok (.ldc2_w 55, 3) := by decide +kernel
theorem d_La_law_417 : decode b_La_law 417 = .ok (.dmul, 1) := by decide +kernel
theorem d_La_law_418 : decode b_La_law 418 = .ok (.invokevirtual 78, 3) := by decide +kernel
theorem d_La_law_421 : decode b_La_law 421 = .ok (.istore 7, 2) := by decide +kernel
theorem d_La_law_423 : decode b_La_law 423 = .ok (.aload_n 2, 1) := by decide +kernel
theorem d_La_law_424 : decode b_La_law 424 = .ok (.invokevirtual 63, 3) := by decide +kernel
theorem d_La_law_427 : decode b_La_law 427 = .ok (.iload 6, 2) := by decide +kernel
theorem d_La_law_429 : decode b_La_law 429 = .ok (.if_icmp .eq 5, 3) := by decide +kernel
theorem d_La_law_432 : decode b_La_law 432 = .ok (.iconst 0, 1) := by decide +kernel
theorem d_La_law_433 : decode b_La_law 433 = .ok (.ireturn, 1) := by decide +kernel
theorem d_La_law_434 : decode b_La_law 434 = .ok (.iload 6, 2) := by decide +kernel
theorem d_La_law_436 : decode b_La_law 436 = .ok (.ifCond .ne 15, 3) := by decide +kernel
theorem d_La_law_439 : decode b_La_law 439 = .ok (.aload_n 3, 1) := by decide +kernel
theorem d_La_law_440 : decode b_La_law 440 = .ok (.iconst 0, 1) := by decide +kernel
theorem d_La_law_441 : decode b_La_law 441 = .ok (.laload, 1) := by decide +kernel
theorem d_La_law_442 : decode b_La_law 442 = .ok (.iload 7, 2) := by decide +kernel
theorem d_La_law_444 : decode b_La_law 444 = .ok (.i2l, 1) := by decide +kernel
theorem d_La_law_445 : decode b_La_law 445 = .ok (.lcmp, 1) := by decide +kernel
theorem d_La_law_446 : decode b_La_law 446 = .ok (.ifCond .eq 5, 3) := by decide +kernel
theorem d_La_law_449 : decode b_La_law 449 = .ok (.iconst 0, 1) := by decide +kernel
theorem d_La_law_450 : decode b_La_law 450 = .ok (.ireturn, 1) := by decide +kernel
theorem d_La_law_451 : decode b_La_law 451 = .ok (.goto 390, 3) := by decide +kernel
theorem d_La_law_454 : decode b_La_law 454 = .ok (.aload_n 1, 1) := by decide +kernel
theorem d_La_law_455 : decode b_La_law 455 = .ok (.aload_n 0, 1) := by decide +kernel
theorem d_La_law_456 : decode b_La_law 456 = .ok (.iload 5, 2) := by decide +kernel
theorem d_La_law_458 : decode b_La_law 458 = .ok (.iconst 1, 1) := by decide +kernel
theorem d_La_law_459 : decode b_La_law 459 = .ok (.iadd, 1) := by decide +kernel
theorem d_La_law_460 : decode b_La_law 460 = .ok (.iaload, 1) := by decide +kernel
theorem d_La_law_461 : decode b_La_law 461 = .ok (.aload_n 0, 1) := by decide +kernel
theorem d_La_law_462 : decode b_La_law 462 = .ok (.iload 5, 2) := by decide +kernel
theorem d_La_law_464 : decode b_La_law 464 = .ok (.iconst 2, 1) := by decide +kernel
theorem d_La_law_465 : decode b_La_law 465 = .ok (.iadd, 1) := by decide +kernel
theorem d_La_law_466 : decode b_La_law 466 = .ok (.iaload, 1) := by decide +kernel
theorem d_La_law_467 : decode b_La_law 467 = .ok (.aload_n 0, 1) := by decide +kernel
theorem d_La_law_468 : decode b_La_law 468 = .ok (.iload 5, 2) := by decide +kernel
theorem d_La_law_470 : decode b_La_law 470 = .ok (.iconst 3, 1) := by decide +kernel
theorem d_La_law_471 : decode b_La_law 471 = .ok (.iadd, 1) := by decide +kernel
theorem d_La_law_472 : decode b_La_law 472 = .ok (.iaload, 1) := by decide +kernel
theorem d_La_law_473 : decode b_La_law 473 = .ok (.i2d, 1) := by decide +kernel
theorem d_La_law_474 : decode b_La_law 474 = .ok (.ldc2_w 55, 3) := by decide +kernel
theorem d_La_law_477 : decode b_La_law 477 = .ok (.dmul, 1) := by decide +kernel
theorem d_La_law_478 : decode b_La_law 478 = .ok (.aload_n 3, 1) := by decide +kernel
theorem d_La_law_479 : decode b_La_law 479 = .ok (.invokestatic 79, 3) := by decide +kernel
theorem d_La_law_482 : decode b_La_law 482 = .ok (.istore 6, 2) := by decide +kernel
theorem d_La_law_484 : decode b_La_law 484 = .ok (.aload_n 2, 1) := by decide +kernel
theorem d_La_law_485 : decode b_La_law 485 = .ok (.aload_n 0, 1) := by decide +kernel
theorem d_La_law_486 : decode b_La_law 486 = .ok (.iload 5, 2) := by decide +kernel
theorem d_La_law_488 : decode b_La_law 488 = .ok (.iconst 1, 1) := by decide +kernel
theorem d_La_law_489 : decode b_La_law 489 = .ok (.iadd, 1) := by decide +kernel
theorem d_La_law_490 : decode b_La_law 490 = .ok (.iaload, 1) := by decide +kernel
theorem d_La_law_491 : decode b_La_law 491 = .ok (.aload_n 0, 1) := by decide +kernel
theorem d_La_law_492 : decode b_La_law 492 = .ok (.iload 5, 2) := by decide +kernel
theorem d_La_law_494 : decode b_La_law 494 = .ok (.iconst 2, 1) := by decide +kernel
theorem d_La_law_495 : decode b_La_law 495 = .ok (.iadd, 1) := by decide +kernel
theorem d_La_law_496 : decode b_La_law 496 = .ok (.iaload, 1) := by decide +kernel
theorem d_La_law_497 : decode b_La_law 497 = .ok (.aload_n 0, 1) := by decide +kernel
theorem d_La_law_498 : decode b_La_law 498 = .ok (.iload 5, 2) := by decide +kernel
theorem d_La_law_500 : decode b_La_law 500 = .ok (.iconst 3, 1) := by decide +kernel
theorem d_La_law_501 : decode b_La_law 501 = .ok (.iadd, 1) := by decide +kernel
theorem d_La_law_502 : decode b_La_law 502 = .ok (.iaload, 1) := by decide +kernel
theorem d_La_law_503 : decode b_La_law 503 = .ok (.i2d, 1) := by decide +kernel
theorem d_La_law_504 : decode b_La_law 504 = .ok (.ldc2_w 55, 3) := by decide +kernel
theorem d_La_law_507 : decode b_La_law 507 = .ok (.dmul, 1) := by decide +kernel
theorem d_La_law_508 : decode b_La_law 508 = .ok (.invokevirtual 81, 3) := by decide +kernel
theorem d_La_law_511 : decode b_La_law 511 = .ok (.istore 7, 2) := by decide +kernel
theorem d_La_law_513 : decode b_La_law 513 = .ok (.aload_n 2, 1) := by decide +kernel
theorem d_La_law_514 : decode b_La_law 514 = .ok (.invokevirtual 63, 3) := by decide +kernel
theorem d_La_law_517 : decode b_La_law 517 = .ok (.iload 6, 2) := by decide +kernel
theorem d_La_law_519 : decode b_La_law 519 = .ok (.if_icmp .eq 5, 3) := by decide +kernel
theorem d_La_law_522 : decode b_La_law 522 = .ok (.iconst 0, 1) := by decide +kernel
theorem d_La_law_523 : decode b_La_law 523 = .ok (.ireturn, 1) := by decide +kernel
theorem d_La_law_524 : decode b_La_law 524 = .ok (.iload 6, 2) := by decide +kernel
theorem d_La_law_526 : decode b_La_law 526 = .ok (.ifCond .ne 15, 3) := by decide +kernel
theorem d_La_law_529 : decode b_La_law 529 = .ok (.aload_n 3, 1) := by decide +kernel
theorem d_La_law_530 : decode b_La_law 530 = .ok (.iconst 0, 1) := by decide +kernel
theorem d_La_law_531 : decode b_La_law 531 = .ok (.laload, 1) := by decide +kernel
theorem d_La_law_532 : decode b_La_law 532 = .ok (.iload 7, 2) := by decide +kernel
theorem d_La_law_534 : decode b_La_law 534 = .ok (.i2l, 1) := by decide +kernel
theorem d_La_law_535 : decode b_La_law 535 = .ok (.lcmp, 1) := by decide +kernel
theorem d_La_law_536 : decode b_La_law 536 = .ok (.ifCond .eq 5, 3) := by decide +kernel
theorem d_La_law_539 : decode b_La_law 539 = .ok (.iconst 0, 1) := by decide +kernel
theorem d_La_law_540 : decode b_La_law 540 = .ok (.ireturn, 1) := by decide +kernel
theorem d_La_law_541 : decode b_La_law 541 = .ok (.goto 300, 3) := by decide +kernel
theorem d_La_law_544 : decode b_La_law 544 = .ok (.aload_n 1, 1) := by decide +kernel
theorem d_La_law_545 : decode b_La_law 545 = .ok (.aload_n 0, 1) := by decide +kernel
theorem d_La_law_546 : decode b_La_law 546 = .ok (.iload 5, 2) := by decide +kernel
theorem d_La_law_548 : decode b_La_law 548 = .ok (.iconst 1, 1) := by decide +kernel
theorem d_La_law_549 : decode b_La_law 549 = .ok (.iadd, 1) := by decide +kernel
theorem d_La_law_550 : decode b_La_law 550 = .ok (.iaload, 1) := by decide +kernel
theorem d_La_law_551 : decode b_La_law 551 = .ok (.aload_n 0, 1) := by decide +kernel
theorem d_La_law_552 : decode b_La_law 552 = .ok (.iload 5, 2) := by decide +kernel
theorem d_La_law_554 : decode b_La_law 554 = .ok (.iconst 2, 1) := by decide +kernel
theorem d_La_law_555 : decode b_La_law 555 = .ok (.iadd, 1) := by decide +kernel
theorem d_La_law_556 : decode b_La_law 556 = .ok (.iaload, 1) := by decide +kernel
theorem d_La_law_557 : decode b_La_law 557 = .ok (.i2d, 1) := by decide +kernel
theorem d_La_law_558 : decode b_La_law 558 = .ok (.ldc2_w 55, 3) := by decide +kernel
theorem d_La_law_561 : decode b_La_law 561 = .ok (.dmul, 1) := by decide +kernel
theorem d_La_law_562 : decode b_La_law 562 = .ok (.aload_n 0, 1) := by decide +kernel
theorem d_La_law_563 : decode b_La_law 563 = .ok (.iload 5, 2) := by decide +kernel
theorem d_La_law_565 : decode b_La_law 565 = .ok (.iconst 3, 1) := by decide +kernel
theorem d_La_law_566 : decode b_La_law 566 = .ok (.iadd, 1) := by decide +kernel
theorem d_La_law_567 : decode b_La_law 567 = .ok (.iaload, 1) := by decide +kernel
theorem d_La_law_568 : decode b_La_law 568 = .ok (.invokestatic 82, 3) := by decide +kernel
theorem d_La_law_571 : decode b_La_law 571 = .ok (.istore 6, 2) := by decide +kernel
theorem d_La_law_573 : decode b_La_law 573 = .ok (.aload_n 2, 1) := by decide +kernel
theorem d_La_law_574 : decode b_La_law 574 = .ok (.aload_n 0, 1) := by decide +kernel
theorem d_La_law_575 : decode b_La_law 575 = .ok (.iload 5, 2) := by decide +kernel
theorem d_La_law_577 : decode b_La_law 577 = .ok (.iconst 1, 1) := by decide +kernel
theorem d_La_law_578 : decode b_La_law 578 = .ok (.iadd, 1) := by decide +kernel
theorem d_La_law_579 : decode b_La_law 579 = .ok (.iaload, 1) := by decide +kernel
theorem d_La_law_580 : decode b_La_law 580 = .ok (.aload_n 0, 1) := by decide +kernel
theorem d_La_law_581 : decode b_La_law 581 = .ok (.iload 5, 2) := by decide +kernel
theorem d_La_law_583 : decode b_La_law 583 = .ok (.iconst 2, 1) := by decide +kernel
theorem d_La_law_584 : decode b_La_law 584 = .ok (.iadd, 1) := by decide +kernel
theorem d_La_law_585 : decode b_La_law 585 = .ok (.iaload, 1) := by decide +kernel
theorem d_La_law_586 : decode b_La_law 586 = .ok (.i2d, 1) := by decide +kernel
theorem d_La_law_587 : decode b_La_law 587 = .ok (.ldc2_w 55, 3) := by decide +kernel
theorem d_La_law_590 : decode b_La_law 590 = .ok (.dmul, 1) := by decide +kernel
theorem d_La_law_591 : decode b_La_law 591 = .ok (.aload_n 0, 1) := by decide +kernel
theorem d_La_law_592 : decode b_La_law 592 = .ok (.iload 5, 2) := by decide +kernel
theorem d_La_law_594 : decode b_La_law 594 = .ok (.iconst 3, 1) := by decide +kernel
theorem d_La_law_595 : decode b_La_law 595 = .ok (.iadd, 1) := by decide +kernel
theorem d_La_law_596 : decode b_La_law 596 = .ok (.iaload, 1) := by decide +kernel
theorem d_La_law_597 : decode b_La_law 597 = .ok (.invokevirtual 85, 3) := by decide +kernel
theorem d_La_law_600 : decode b_La_law 600 = .ok (.aload_n 2, 1) := by decide +kernel
theorem d_La_law_601 : decode b_La_law 601 = .ok (.invokevirtual 63, 3) := by decide +kernel
theorem d_La_law_604 : decode b_La_law 604 = .ok (.iload 6, 2) := by decide +kernel
theorem d_La_law_606 : decode b_La_law 606 = .ok (.if_icmp .eq 5, 3) := by decide +kernel
theorem d_La_law_609 : decode b_La_law 609 = .ok (.iconst 0, 1) := by decide +kernel
theorem d_La_law_610 : decode b_La_law 610 = .ok (.ireturn, 1) := by decide +kernel
theorem d_La_law_611 : decode b_La_law 611 = .ok (.goto 230, 3) := by decide +kernel
theorem d_La_law_614 : decode b_La_law 614 = .ok (.aload_n 1, 1) := by decide +kernel
theorem d_La_law_615 : decode b_La_law 615 = .ok (.aload_n 0, 1) := by decide +kernel
theorem d_La_law_616 : decode b_La_law 616 = .ok (.iload 5, 2) := by decide +kernel
theorem d_La_law_618 : decode b_La_law 618 = .ok (.iconst 1, 1) := by decide +kernel
theorem d_La_law_619 : decode b_La_law 619 = .ok (.iadd, 1) := by decide +kernel
theorem d_La_law_620 : decode b_La_law 620 = .ok (.iaload, 1) := by decide +kernel
theorem d_La_law_621 : decode b_La_law 621 = .ok (.aload_n 0, 1) := by decide +kernel
theorem d_La_law_622 : decode b_La_law 622 = .ok (.iload 5, 2) := by decide +kernel
theorem d_La_law_624 : decode b_La_law 624 = .ok (.iconst 2, 1) := by decide +kernel
theorem d_La_law_625 : decode b_La_law 625 = .ok (.iadd, 1) := by decide +kernel
theorem d_La_law_626 : decode b_La_law 626 = .ok (.iaload, 1) := by decide +kernel
theorem d_La_law_627 : decode b_La_law 627 = .ok (.i2d, 1) := by decide +kernel
theorem d_La_law_628 : decode b_La_law 628 = .ok (.ldc2_w 55, 3) := by decide +kernel
theorem d_La_law_631 : decode b_La_law 631 = .ok (.dmul, 1) := by decide +kernel
theorem d_La_law_632 : decode b_La_law 632 = .ok (.aload_n 0, 1) := by decide +kernel
theorem d_La_law_633 : decode b_La_law 633 = .ok (.iload 5, 2) := by decide +kernel
theorem d_La_law_635 : decode b_La_law 635 = .ok (.iconst 3, 1) := by decide +kernel
theorem d_La_law_636 : decode b_La_law 636 = .ok (.iadd, 1) := by decide +kernel
theorem d_La_law_637 : decode b_La_law 637 = .ok (.iaload, 1) := by decide +kernel
theorem d_La_law_638 : decode b_La_law 638 = .ok (.invokestatic 86, 3) := by decide +kernel
theorem d_La_law_641 : decode b_La_law 641 = .ok (.istore 6, 2) := by decide +kernel
theorem d_La_law_643 : decode b_La_law 643 = .ok (.aload_n 2, 1) := by decide +kernel
theorem d_La_law_644 : decode b_La_law 644 = .ok (.aload_n 0, 1) := by decide +kernel
theorem d_La_law_645 : decode b_La_law 645 = .ok (.iload 5, 2) := by decide +kernel
theorem d_La_law_647 : decode b_La_law 647 = .ok (.iconst 1, 1) := by decide +kernel
theorem d_La_law_648 : decode b_La_law 648 = .ok (.iadd, 1) := by decide +kernel
theorem d_La_law_649 : decode b_La_law 649 = .ok (.iaload, 1) := by decide +kernel
theorem d_La_law_650 : decode b_La_law 650 = .ok (.aload_n 0, 1) := by decide +kernel
theorem d_La_law_651 : decode b_La_law 651 = .ok (.iload 5, 2) := by decide +kernel
theorem d_La_law_653 : decode b_La_law 653 = .ok (.iconst 2, 1) := by decide +kernel
theorem d_La_law_654 : decode b_La_law 654 = .ok (.iadd, 1) := by decide +kernel
theorem d_La_law_655 : decode b_La_law 655 = .ok (.iaload, 1) := by decide +kernel
theorem d_La_law_656 : decode b_La_law 656 = .ok (.i2d, 1) := by decide +kernel
theorem d_La_law_657 : decode b_La_law 657 = .ok (.ldc2_w 55, 3) := by decide +kernel
theorem d_La_law_660 : decode b_La_law 660 = .ok (.dmul, 1) := by decide +kernel
theorem d_La_law_661 : decode b_La_law 661 = .ok (.aload_n 0, 1) := by decide +kernel
theorem d_La_law_662 : decode b_La_law 662 = .ok (.iload 5, 2) := by decide +kernel
theorem d_La_law_664 : decode b_La_law 664 = .ok (.iconst 3, 1) := by decide +kernel
theorem d_La_law_665 : decode b_La_law 665 = .ok (.iadd, 1) := by decide +kernel
theorem d_La_law_666 : decode b_La_law 666 = .ok (.iaload, 1) := by decide +kernel
theorem d_La_law_667 : decode b_La_law 667 = .ok (.invokevirtual 88, 3) := by decide +kernel
theorem d_La_law_670 : decode b_La_law 670 = .ok (.aload_n 2, 1) := by decide +kernel
theorem d_La_law_671 : decode b_La_law 671 = .ok (.invokevirtual 63, 3) := by decide +kernel
theorem d_La_law_674 : decode b_La_law 674 = .ok (.iload 6, 2) := by decide +kernel
theorem d_La_law_676 : decode b_La_law 676 = .ok (.if_icmp .eq 5, 3) := by decide +kernel
theorem d_La_law_679 : decode b_La_law 679 = .ok (.iconst 0, 1) := by decide +kernel
theorem d_La_law_680 : decode b_La_law 680 = .ok (.ireturn, 1) := by decide +kernel
theorem d_La_law_681 : decode b_La_law 681 = .ok (.goto 160, 3) := by decide +kernel
theorem d_La_law_684 : decode b_La_law 684 = .ok (.aload_n 1, 1) := by decide +kernel
theorem d_La_law_685 : decode b_La_law 685 = .ok (.aload_n 0, 1) := by decide +kernel
theorem d_La_law_686 : decode b_La_law 686 = .ok (.iload 5, 2) := by decide +kernel
theorem d_La_law_688 : decode b_La_law 688 = .ok (.iconst 1, 1) := by decide +kernel
theorem d_La_law_689 : decode b_La_law 689 = .ok (.iadd, 1) := by decide +kernel
theorem d_La_law_690 : decode b_La_law 690 = .ok (.iaload, 1) := by decide +kernel
theorem d_La_law_691 : decode b_La_law 691 = .ok (.aload_n 0, 1) := by decide +kernel
theorem d_La_law_692 : decode b_La_law 692 = .ok (.iload 5, 2) := by decide +kernel
theorem d_La_law_694 : decode b_La_law 694 = .ok (.iconst 2, 1) := by decide +kernel
theorem d_La_law_695 : decode b_La_law 695 = .ok (.iadd, 1) := by decide +kernel
theorem d_La_law_696 : decode b_La_law 696 = .ok (.iaload, 1) := by decide +kernel
theorem d_La_law_697 : decode b_La_law 697 = .ok (.aload 4, 2) := by decide +kernel
theorem d_La_law_699 : decode b_La_law 699 = .ok (.invokestatic 89, 3) := by decide +kernel
theorem d_La_law_702 : decode b_La_law 702 = .ok (.istore 6, 2) := by decide +kernel
theorem d_La_law_704 : decode b_La_law 704 = .ok (.aload_n 2, 1) := by decide +kernel
theorem d_La_law_705 : decode b_La_law 705 = .ok (.aload_n 0, 1) := by decide +kernel
theorem d_La_law_706 : decode b_La_law 706 = .ok (.iload 5, 2) := by decide +kernel
theorem d_La_law_708 : decode b_La_law 708 = .ok (.iconst 1, 1) := by decide +kernel
theorem d_La_law_709 : decode b_La_law 709 = .ok (.iadd, 1) := by decide +kernel
theorem d_La_law_710 : decode b_La_law 710 = .ok (.iaload, 1) := by decide +kernel
theorem d_La_law_711 : decode b_La_law 711 = .ok (.aload_n 0, 1) := by decide +kernel
theorem d_La_law_712 : decode b_La_law 712 = .ok (.iload 5, 2) := by decide +kernel
theorem d_La_law_714 : decode b_La_law 714 = .ok (.iconst 2, 1) := by decide +kernel
theorem d_La_law_715 : decode b_La_law 715 = .ok (.iadd, 1) := by decide +kernel
theorem d_La_law_716 : decode b_La_law 716 = .ok (.iaload, 1) := by decide +kernel
theorem d_La_law_717 : decode b_La_law 717 = .ok (.invokevirtual 92, 3) := by decide +kernel
theorem d_La_law_720 : decode b_La_law 720 = .ok (.dstore 7, 2) := by decide +kernel
theorem d_La_law_722 : decode b_La_law 722 = .ok (.aload_n 2, 1) := by decide +kernel
theorem d_La_law_723 : decode b_La_law 723 = .ok (.invokevirtual 63, 3) := by decide +kernel
theorem d_La_law_726 : decode b_La_law 726 = .ok (.iload 6, 2) := by decide +kernel
theorem d_La_law_728 : decode b_La_law 728 = .ok (.if_icmp .eq 5, 3) := by decide +kernel
theorem d_La_law_731 : decode b_La_law 731 = .ok (.iconst 0, 1) := by decide +kernel
theorem d_La_law_732 : decode b_La_law 732 = .ok (.ireturn, 1) := by decide +kernel
theorem d_La_law_733 : decode b_La_law 733 = .ok (.iload 6, 2) := by decide +kernel
theorem d_La_law_735 : decode b_La_law 735 = .ok (.ifCond .ne 35, 3) := by decide +kernel
theorem d_La_law_738 : decode b_La_law 738 = .ok (.aload 4, 2) := by decide +kernel
theorem d_La_law_740 : decode b_La_law 740 = .ok (.iconst 0, 1) := by decide +kernel
theorem d_La_law_741 : decode b_La_law 741 = .ok (.daload, 1) := by decide +kernel
theorem d_La_law_742 : decode b_La_law 742 = .ok (.dload 7, 2) := by decide +kernel
theorem d_La_law_744 : decode b_La_law 744 = .ok (.dcmp .l, 1) := by decide +kernel
theorem d_La_law_745 : decode b_La_law 745 = .ok (.ifCond .eq 25, 3) := by decide +kernel
theorem d_La_law_748 : decode b_La_law 748 = .ok (.aload 4, 2) := by decide +kernel
theorem d_La_law_750 : decode b_La_law 750 = .ok (.iconst 0, 1) := by decide +kernel
theorem d_La_law_751 : decode b_La_law 751 = .ok (.daload, 1) := by decide +kernel
theorem d_La_law_752 : decode b_La_law 752 = .ok (.aload 4, 2) := by decide +kernel
theorem d_La_law_754 : decode b_La_law 754 = .ok (.iconst 0, 1) := by decide +kernel
theorem d_La_law_755 : decode b_La_law 755 = .ok (.daload, 1) := by decide +kernel
theorem d_La_law_756 : decode b_La_law 756 = .ok (.dcmp .l, 1) := by decide +kernel
theorem d_La_law_757 : decode b_La_law 757 = .ok (.ifCond .eq 11, 3) := by decide +kernel
theorem d_La_law_760 : decode b_La_law 760 = .ok (.dload 7, 2) := by decide +kernel
theorem d_La_law_762 : decode b_La_law 762 = .ok (.dload 7, 2) := by decide +kernel
theorem d_La_law_764 : decode b_La_law 764 = .ok (.dcmp .l, 1) := by decide +kernel
theorem d_La_law_765 : decode b_La_law 765 = .ok (.ifCond .ne 5, 3) := by decide +kernel
theorem d_La_law_768 : decode b_La_law 768 = .ok (.iconst 0, 1) := by decide +kernel
theorem d_La_law_769 : decode b_La_law 769 = .ok (.ireturn, 1) := by decide +kernel
theorem d_La_law_770 : decode b_La_law 770 = .ok (.goto 71, 3) := by decide +kernel
theorem d_La_law_773 : decode b_La_law 773 = .ok (.aload_n 1, 1) := by decide +kernel
theorem d_La_law_774 : decode b_La_law 774 = .ok (.aload_n 0, 1) := by decide +kernel
theorem d_La_law_775 : decode b_La_law 775 = .ok (.iload 5, 2) := by decide +kernel
theorem d_La_law_777 : decode b_La_law 777 = .ok (.iconst 1, 1) := by decide +kernel
theorem d_La_law_778 : decode b_La_law 778 = .ok (.iadd, 1) := by decide +kernel
theorem d_La_law_779 : decode b_La_law 779 = .ok (.iaload, 1) := by decide +kernel
theorem d_La_law_780 : decode b_La_law 780 = .ok (.aload_n 0, 1) := by decide +kernel
theorem d_La_law_781 : decode b_La_law 781 = .ok (.iload 5, 2) := by decide +kernel
theorem d_La_law_783 : decode b_La_law 783 = .ok (.iconst 2, 1) := by decide +kernel
theorem d_La_law_784 : decode b_La_law 784 = .ok (.iadd, 1) := by decide +kernel
theorem d_La_law_785 : decode b_La_law 785 = .ok (.iaload, 1) := by decide +kernel
theorem d_La_law_786 : decode b_La_law 786 = .ok (.aload_n 3, 1) := by decide +kernel
theorem d_La_law_787 : decode b_La_law 787 = .ok (.invokestatic 93, 3) := by decide +kernel
theorem d_La_law_790 : decode b_La_law 790 = .ok (.istore 6, 2) := by decide +kernel
theorem d_La_law_792 : decode b_La_law 792 = .ok (.aload_n 2, 1) := by decide +kernel
theorem d_La_law_793 : decode b_La_law 793 = .ok (.aload_n 0, 1) := by decide +kernel
theorem d_La_law_794 : decode b_La_law 794 = .ok (.iload 5, 2) := by decide +kernel
theorem d_La_law_796 : decode b_La_law 796 = .ok (.iconst 1, 1) := by decide +kernel
theorem d_La_law_797 : decode b_La_law 797 = .ok (.iadd, 1) := by decide +kernel
theorem d_La_law_798 : decode b_La_law 798 = .ok (.iaload, 1) := by decide +kernel
theorem d_La_law_799 : decode b_La_law 799 = .ok (.aload_n 0, 1) := by decide +kernel
theorem d_La_law_800 : decode b_La_law 800 = .ok (.iload 5, 2) := by decide +kernel
theorem d_La_law_802 : decode b_La_law 802 = .ok (.iconst 2, 1) := by decide +kernel
theorem d_La_law_803 : decode b_La_law 803 = .ok (.iadd, 1) := by decide +kernel
theorem d_La_law_804 : decode b_La_law 804 = .ok (.iaload, 1) := by decide +kernel
theorem d_La_law_805 : decode b_La_law 805 = .ok (.invokevirtual 96, 3) := by decide +kernel
theorem d_La_law_808 : decode b_La_law 808 = .ok (.istore 7, 2) := by decide +kernel
theorem d_La_law_810 : decode b_La_law 810 = .ok (.aload_n 2, 1) := by decide +kernel
theorem d_La_law_811 : decode b_La_law 811 = .ok (.invokevirtual 63, 3) := by decide +kernel
theorem d_La_law_814 : decode b_La_law 814 = .ok (.iload 6, 2) := by decide +kernel
theorem d_La_law_816 : decode b_La_law 816 = .ok (.if_icmp .eq 5, 3) := by decide +kernel
theorem d_La_law_819 : decode b_La_law 819 = .ok (.iconst 0, 1) := by decide +kernel
theorem d_La_law_820 : decode b_La_law 820 = .ok (.ireturn, 1) := by decide +kernel
theorem d_La_law_821 : decode b_La_law 821 = .ok (.iload 6, 2) := by decide +kernel
theorem d_La_law_823 : decode b_La_law 823 = .ok (.ifCond .ne 15, 3) := by decide +kernel
theorem d_La_law_826 : decode b_La_law 826 = .ok (.aload_n 3, 1) := by decide +kernel
theorem d_La_law_827 : decode b_La_law 827 = .ok (.iconst 0, 1) := by decide +kernel
theorem d_La_law_828 : decode b_La_law 828 = .ok (.laload, 1) := by decide +kernel
theorem d_La_law_829 : decode b_La_law 829 = .ok (.iload 7, 2) := by decide +kernel
theorem d_La_law_831 : decode b_La_law 831 = .ok (.i2l, 1) := by decide +kernel
theorem d_La_law_832 : decode b_La_law 832 = .ok (.lcmp, 1) := by decide +kernel
theorem d_La_law_833 : decode b_La_law 833 = .ok (.ifCond .eq 5, 3) := by decide +kernel
theorem d_La_law_836 : decode b_La_law 836 = .ok (.iconst 0, 1) := by decide +kernel
theorem d_La_law_837 : decode b_La_law 837 = .ok (.ireturn, 1) := by decide +kernel
theorem d_La_law_838 : decode b_La_law 838 = .ok (.goto 3, 3) := by decide +kernel
theorem d_La_law_841 : decode b_La_law 841 = .ok (.iinc 5 5, 3) := by decide +kernel
theorem d_La_law_844 : decode b_La_law 844 = .ok (.goto (-816), 3) := by decide +kernel
theorem d_La_law_847 : decode b_La_law 847 = .ok (.iconst 1, 1) := by decide +kernel
theorem d_La_law_848 : decode b_La_law 848 = .ok (.ireturn, 1) := by decide +kernel
