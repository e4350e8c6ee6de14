theorem d_Mo_in_0 : decode b_Mo_in 0 = .ok (.iload_n 0, 1) := by decide +kernel
theorem d_Mo_in_1 : decode b_Mo_in 1 = .ok (.iload_n 1, 1) := by decide +kernel
theorem d_Mo_in_2 : decode b_Mo_in 2 = .ok (.if_icmp .lt 12, 3) := by decide +kernel
theorem d_Mo_in_5 : decode b_Mo_in 5 = .ok (.iload_n 0, 1) := by decide +kernel
theorem d_Mo_in_6 : decode b_Mo_in 6 = .ok (.iload_n 2, 1) := by decide +kernel
theorem d_Mo_in_7 : decode b_Mo_in 7 = .ok (.if_icmp .gt 7, 3) := by decide +kernel
theorem d_Mo_in_10 : decode b_Mo_in 10 = .ok (.iconst 1, 1) := by decide +kernel
theorem d_Mo_in_11 : decode b_Mo_in 11 = .ok (.goto 4, 3) := by decide +kernel
theorem d_Mo_in_14 : decode b_Mo_in 14 = .ok (.iconst 0, 1) := by decide +kernel
theorem d_Mo_in_15 : decode b_Mo_in 15 = .ok (.ireturn, 1) := by decide +kernel
theorem d_Mo_isNumber_0 : decode b_Mo_isNumber 0 = .ok (.dload_n 0, 1) := by decide +kernel
theorem d_Mo_isNumber_1 : decode b_Mo_isNumber 1 = .ok (.dconst 0, 1) := by decide +kernel
theorem d_Mo_isNumber_2 : decode b_Mo_isNumber 2 = .ok (.dcmp .l, 1) := by decide +kernel
theorem d_Mo_isNumber_3 : decode b_Mo_isNumber 3 = .ok (.ifCond .eq 29, 3) := by decide +kernel
theorem d_Mo_isNumber_6 : decode b_Mo_isNumber 6 = .ok (.dload_n 0, 1) := by decide +kernel
theorem d_Mo_isNumber_7 : decode b_Mo_isNumber 7 = .ok (.invokestatic 100, 3) := by decide +kernel
theorem d_Mo_isNumber_10 : decode b_Mo_isNumber 10 = .ok (.bipush (-60), 2) := by decide +kernel
theorem d_Mo_isNumber_12 : decode b_Mo_isNumber 12 = .ok (.invokestatic 104, 3) := by decide +kernel
theorem d_Mo_isNumber_15 : decode b_Mo_isNumber 15 = .ok (.dcmp .l, 1) := by decide +kernel
theorem d_Mo_isNumber_16 : decode b_Mo_isNumber 16 = .ok (.ifCond .lt 20, 3) := by decide +kernel
theorem d_Mo_isNumber_19 : decode b_Mo_isNumber 19 = .ok (.dload_n 0, 1) := by decide +kernel
theorem d_Mo_isNumber_20 : decode b_Mo_isNumber 20 = .ok (.invokestatic 100, 3) := by decide +kernel
theorem d_Mo_isNumber_23 : decode b_Mo_isNumber 23 = .ok (.bipush 60, 2) := by decide +kernel
theorem d_Mo_isNumber_25 : decode b_Mo_isNumber 25 = .ok (.invokestatic 104, 3) := by decide +kernel
theorem d_Mo_isNumber_28 : decode b_Mo_isNumber 28 = .ok (.dcmp .g, 1) := by decide +kernel
theorem d_Mo_isNumber_29 : decode b_Mo_isNumber 29 = .ok (.ifCond .gt 7, 3) := by decide +kernel
theorem d_Mo_isNumber_32 : decode b_Mo_isNumber 32 = .ok (.iconst 1, 1) := by decide +kernel
theorem d_Mo_isNumber_33 : decode b_Mo_isNumber 33 = .ok (.goto 4, 3) := by decide +kernel
theorem d_Mo_isNumber_36 : decode b_Mo_isNumber 36 = .ok (.iconst 0, 1) := by decide +kernel
theorem d_Mo_isNumber_37 : decode b_Mo_isNumber 37 = .ok (.ireturn, 1) := by decide +kernel
theorem d_Mo_most_0 : decode b_Mo_most 0 = .ok (.dload_n 2, 1) := by decide +kernel
theorem d_Mo_most_1 : decode b_Mo_most 1 = .ok (.dload_n 0, 1) := by decide +kernel
theorem d_Mo_most_2 : decode b_Mo_most 2 = .ok (.dcmp .l, 1) := by decide +kernel
theorem d_Mo_most_3 : decode b_Mo_most 3 = .ok (.ifCond .le 7, 3) := by decide +kernel
theorem d_Mo_most_6 : decode b_Mo_most 6 = .ok (.dload_n 2, 1) := by decide +kernel
theorem d_Mo_most_7 : decode b_Mo_most 7 = .ok (.goto 4, 3) := by decide +kernel
theorem d_Mo_most_10 : decode b_Mo_most 10 = .ok (.dload_n 0, 1) := by decide +kernel
theorem d_Mo_most_11 : decode b_Mo_most 11 = .ok (.dreturn, 1) := by decide +kernel
theorem d_Mo_negate_0 : decode b_Mo_negate 0 = .ok (.iconst 1, 1) := by decide +kernel
theorem d_Mo_negate_1 : decode b_Mo_negate 1 = .ok (.istore_n 1, 1) := by decide +kernel
theorem d_Mo_negate_2 : decode b_Mo_negate 2 = .ok (.iconst 0, 1) := by decide +kernel
theorem d_Mo_negate_3 : decode b_Mo_negate 3 = .ok (.istore_n 2, 1) := by decide +kernel
theorem d_Mo_negate_4 : decode b_Mo_negate 4 = .ok (.iload_n 2, 1) := by decide +kernel
theorem d_Mo_negate_5 : decode b_Mo_negate 5 = .ok (.sipush 440, 3) := by decide +kernel
theorem d_Mo_negate_8 : decode b_Mo_negate 8 = .ok (.if_icmp .ge 38, 3) := by decide +kernel
theorem d_Mo_negate_11 : decode b_Mo_negate 11 = .ok (.iload_n 1, 1) := by decide +kernel
theorem d_Mo_negate_12 : decode b_Mo_negate 12 = .ok (.aload_n 0, 1) := by decide +kernel
theorem d_Mo_negate_13 : decode b_Mo_negate 13 = .ok (.getfield 56, 3) := by decide +kernel
theorem d_Mo_negate_16 : decode b_Mo_negate 16 = .ok (.iload_n 2, 1) := by decide +kernel
theorem d_Mo_negate_17 : decode b_Mo_negate 17 = .ok (.iaload, 1) := by decide +kernel
theorem d_Mo_negate_18 : decode b_Mo_negate 18 = .ok (.iconst (-1), 1) := by decide +kernel
theorem d_Mo_negate_19 : decode b_Mo_negate 19 = .ok (.ixor, 1) := by decide +kernel
theorem d_Mo_negate_20 : decode b_Mo_negate 20 = .ok (.ldc 88, 2) := by decide +kernel
theorem d_Mo_negate_22 : decode b_Mo_negate 22 = .ok (.iand, 1) := by decide +kernel
theorem d_Mo_negate_23 : decode b_Mo_negate 23 = .ok (.iadd, 1) := by decide +kernel
theorem d_Mo_negate_24 : decode b_Mo_negate 24 = .ok (.istore_n 1, 1) := by decide +kernel
theorem d_Mo_negate_25 : decode b_Mo_negate 25 = .ok (.aload_n 0, 1) := by decide +kernel
theorem d_Mo_negate_26 : decode b_Mo_negate 26 = .ok (.getfield 56, 3) := by decide +kernel
theorem d_Mo_negate_29 : decode b_Mo_negate 29 = .ok (.iload_n 2, 1) := by decide +kernel
theorem d_Mo_negate_30 : decode b_Mo_negate 30 = .ok (.iload_n 1, 1) := by decide +kernel
theorem d_Mo_negate_31 : decode b_Mo_negate 31 = .ok (.ldc 88, 2) := by decide +kernel
theorem d_Mo_negate_33 : decode b_Mo_negate 33 = .ok (.iand, 1) := by decide +kernel
theorem d_Mo_negate_34 : decode b_Mo_negate 34 = .ok (.iastore, 1) := by decide +kernel
theorem d_Mo_negate_35 : decode b_Mo_negate 35 = .ok (.iload_n 1, 1) := by decide +kernel
theorem d_Mo_negate_36 : decode b_Mo_negate 36 = .ok (.bipush 16, 2) := by decide +kernel
theorem d_Mo_negate_38 : decode b_Mo_negate 38 = .ok (.ishr, 1) := by decide +kernel
theorem d_Mo_negate_39 : decode b_Mo_negate 39 = .ok (.istore_n 1, 1) := by decide +kernel
theorem d_Mo_negate_40 : decode b_Mo_negate 40 = .ok (.iinc 2 1, 3) := by decide +kernel
theorem d_Mo_negate_43 : decode b_Mo_negate 43 = .ok (.goto (-39), 3) := by decide +kernel
theorem d_Mo_negate_46 : decode b_Mo_negate 46 = .ok (.return_, 1) := by decide +kernel
theorem d_Mo_pair_0 : decode b_Mo_pair 0 = .ok (.aload_n 0, 1) := by decide +kernel
theorem d_Mo_pair_1 : decode b_Mo_pair 1 = .ok (.iconst 0, 1) := by decide +kernel
theorem d_Mo_pair_2 : decode b_Mo_pair 2 = .ok (.putfield 78, 3) := by decide +kernel
theorem d_Mo_pair_5 : decode b_Mo_pair 5 = .ok (.aload_n 0, 1) := by decide +kernel
theorem d_Mo_pair_6 : decode b_Mo_pair 6 = .ok (.iload_n 1, 1) := by decide +kernel
theorem d_Mo_pair_7 : decode b_Mo_pair 7 = .ok (.iconst 0, 1) := by decide +kernel
theorem d_Mo_pair_8 : decode b_Mo_pair 8 = .ok (.aload_n 0, 1) := by decide +kernel
theorem d_Mo_pair_9 : decode b_Mo_pair 9 = .ok (.getfield 130, 3) := by decide +kernel
theorem d_Mo_pair_12 : decode b_Mo_pair 12 = .ok (.iconst 1, 1) := by decide +kernel
theorem d_Mo_pair_13 : decode b_Mo_pair 13 = .ok (.isub, 1) := by decide +kernel
theorem d_Mo_pair_14 : decode b_Mo_pair 14 = .ok (.invokestatic 123, 3) := by decide +kernel
theorem d_Mo_pair_17 : decode b_Mo_pair 17 = .ok (.ifCond .eq 24, 3) := by decide +kernel
theorem d_Mo_pair_20 : decode b_Mo_pair 20 = .ok (.iload_n 2, 1) := by decide +kernel
theorem d_Mo_pair_21 : decode b_Mo_pair 21 = .ok (.iconst 0, 1) := by decide +kernel
theorem d_Mo_pair_22 : decode b_Mo_pair 22 = .ok (.aload_n 0, 1) := by decide +kernel
theorem d_Mo_pair_23 : decode b_Mo_pair 23 = .ok (.getfield 130, 3) := by decide +kernel
theorem d_Mo_pair_26 : decode b_Mo_pair 26 = .ok (.iconst 1, 1) := by decide +kernel
theorem d_Mo_pair_27 : decode b_Mo_pair 27 = .ok (.isub, 1) := by decide +kernel
theorem d_Mo_pair_28 : decode b_Mo_pair 28 = .ok (.invokestatic 123, 3) := by decide +kernel
theorem d_Mo_pair_31 : decode b_Mo_pair 31 = .ok (.ifCond .eq 10, 3) := by decide +kernel
theorem d_Mo_pair_34 : decode b_Mo_pair 34 = .ok (.dload_n 3, 1) := by decide +kernel
theorem d_Mo_pair_35 : decode b_Mo_pair 35 = .ok (.invokestatic 108, 3) := by decide +kernel
theorem d_Mo_pair_38 : decode b_Mo_pair 38 = .ok (.ifCond .ne 7, 3) := by decide +kernel
theorem d_Mo_pair_41 : decode b_Mo_pair 41 = .ok (.iconst 1, 1) := by decide +kernel
theorem d_Mo_pair_42 : decode b_Mo_pair 42 = .ok (.goto 4, 3) := by decide +kernel
theorem d_Mo_pair_45 : decode b_Mo_pair 45 = .ok (.iconst 0, 1) := by decide +kernel
theorem d_Mo_pair_46 : decode b_Mo_pair 46 = .ok (.iconst 1, 1) := by decide +kernel
theorem d_Mo_pair_47 : decode b_Mo_pair 47 = .ok (.invokevirtual 112, 3) := by decide +kernel
theorem d_Mo_pair_50 : decode b_Mo_pair 50 = .ok (.ifCond .ne 44, 3) := by decide +kernel
theorem d_Mo_pair_53 : decode b_Mo_pair 53 = .ok (.aload_n 0, 1) := by decide +kernel
theorem d_Mo_pair_54 : decode b_Mo_pair 54 = .ok (.aload_n 0, 1) := by decide +kernel
theorem d_Mo_pair_55 : decode b_Mo_pair 55 = .ok (.getfield 41, 3) := by decide +kernel
theorem d_Mo_pair_58 : decode b_Mo_pair 58 = .ok (.iload_n 1, 1) := by decide +kernel
theorem d_Mo_pair_59 : decode b_Mo_pair 59 = .ok (.bipush 16, 2) := by decide +kernel
theorem d_Mo_pair_61 : decode b_Mo_pair 61 = .ok (.imul, 1) := by decide +kernel
theorem d_Mo_pair_62 : decode b_Mo_pair 62 = .ok (.iload_n 2, 1) := by decide +kernel
theorem d_Mo_pair_63 : decode b_Mo_pair 63 = .ok (.iadd, 1) := by decide +kernel
theorem d_Mo_pair_64 : decode b_Mo_pair 64 = .ok (.baload, 1) := by decide +kernel
theorem d_Mo_pair_65 : decode b_Mo_pair 65 = .ok (.iconst 2, 1) := by decide +kernel
theorem d_Mo_pair_66 : decode b_Mo_pair 66 = .ok (.invokevirtual 112, 3) := by decide +kernel
theorem d_Mo_pair_69 : decode b_Mo_pair 69 = .ok (.ifCond .ne 25, 3) := by decide +kernel
theorem d_Mo_pair_72 : decode b_Mo_pair 72 = .ok (.aload_n 0, 1) := by decide +kernel
theorem d_Mo_pair_73 : decode b_Mo_pair 73 = .ok (.aload_n 0, 1) := by decide +kernel
theorem d_Mo_pair_74 : decode b_Mo_pair 74 = .ok (.getfield 136, 3) := by decide +kernel
theorem d_Mo_pair_77 : decode b_Mo_pair 77 = .ok (.bipush 60, 2) := by decide +kernel
theorem d_Mo_pair_79 : decode b_Mo_pair 79 = .ok (.if_icmp .ne 7, 3) := by decide +kernel
theorem d_Mo_pair_82 : decode b_Mo_pair 82 = .ok (.iconst 1, 1) := by decide +kernel
theorem d_Mo_pair_83 : decode b_Mo_pair 83 = .ok (.goto 4, 3) := by decide +kernel
theorem d_Mo_pair_86 : decode b_Mo_pair 86 = .ok (.iconst 0, 1) := by decide +kernel
theorem d_Mo_pair_87 : decode b_Mo_pair 87 = .ok (.iconst 3, 1) := by decide +kernel
theorem d_Mo_pair_88 : decode b_Mo_pair 88 = .ok (.invokevirtual 112, 3) := by decide +kernel
theorem d_Mo_pair_91 : decode b_Mo_pair 91 = .ok (.ifCond .eq 5, 3) := by decide +kernel
theorem d_Mo_pair_94 : decode b_Mo_pair 94 = .ok (.iconst 0, 1) := by decide +kernel
theorem d_Mo_pair_95 : decode b_Mo_pair 95 = .ok (.ireturn, 1) := by decide +kernel
theorem d_Mo_pair_96 : decode b_Mo_pair 96 = .ok (.aload_n 0, 1) := by decide +kernel
theorem d_Mo_pair_97 : decode b_Mo_pair 97 = .ok (.getfield 16, 3) := by decide +kernel
theorem d_Mo_pair_100 : decode b_Mo_pair 100 = .ok (.iload_n 1, 1) := by decide +kernel
theorem d_Mo_pair_101 : decode b_Mo_pair 101 = .ok (.bipush 16, 2) := by decide +kernel
theorem d_Mo_pair_103 : decode b_Mo_pair 103 = .ok (.imul, 1) := by decide +kernel
theorem d_Mo_pair_104 : decode b_Mo_pair 104 = .ok (.iload_n 2, 1) := by decide +kernel
theorem d_Mo_pair_105 : decode b_Mo_pair 105 = .ok (.iadd, 1) := by decide +kernel
theorem d_Mo_pair_106 : decode b_Mo_pair 106 = .ok (.dload_n 3, 1) := by decide +kernel
theorem d_Mo_pair_107 : decode b_Mo_pair 107 = .ok (.invokestatic 116, 3) := by decide +kernel
theorem d_Mo_pair_110 : decode b_Mo_pair 110 = .ok (.dastore, 1) := by decide +kernel
theorem d_Mo_pair_111 : decode b_Mo_pair 111 = .ok (.aload_n 0, 1) := by decide +kernel
theorem d_Mo_pair_112 : decode b_Mo_pair 112 = .ok (.getfield 16, 3) := by decide +kernel
theorem d_Mo_pair_115 : decode b_Mo_pair 115 = .ok (.iload_n 2, 1) := by decide +kernel
theorem d_Mo_pair_116 : decode b_Mo_pair 116 = .ok (.bipush 16, 2) := by decide +kernel
theorem d_Mo_pair_118 : decode b_Mo_pair 118 = .ok (.imul, 1) := by decide +kernel
theorem d_Mo_pair_119 : decode b_Mo_pair 119 = .ok (.iload_n 1, 1) := by decide +kernel
theorem d_Mo_pair_120 : decode b_Mo_pair 120 = .ok (.iadd, 1) := by decide +kernel
theorem d_Mo_pair_121 : decode b_Mo_pair 121 = .ok (.dload_n 3, 1) := by decide +kernel
theorem d_Mo_pair_122 : decode b_Mo_pair 122 = .ok (.invokestatic 116, 3) := by decide +kernel
theorem d_Mo_pair_125 : decode b_Mo_pair 125 = .ok (.dastore, 1) := by decide +kernel
theorem d_Mo_pair_126 : decode b_Mo_pair 126 = .ok (.aload_n 0, 1) := by decide +kernel
theorem d_Mo_pair_127 : decode b_Mo_pair 127 = .ok (.getfield 41, 3) := by decide +kernel
theorem d_Mo_pair_130 : decode b_Mo_pair 130 = .ok (.iload_n 1, 1) := by decide +kernel
theorem d_Mo_pair_131 : decode b_Mo_pair 131 = .ok (.bipush 16, 2) := by decide +kernel
theorem d_Mo_pair_133 : decode b_Mo_pair 133 = .ok (.imul, 1) := by decide +kernel
theorem d_Mo_pair_134 : decode b_Mo_pair 134 = .ok (.iload_n 2, 1) := by decide +kernel
theorem d_Mo_pair_135 : decode b_Mo_pair 135 = .ok (.iadd, 1) := by decide +kernel
theorem d_Mo_pair_136 : decode b_Mo_pair 136 = .ok (.iconst 1, 1) := by decide +kernel
theorem d_Mo_pair_137 : decode b_Mo_pair 137 = .ok (.bastore, 1) := by decide +kernel
theorem d_Mo_pair_138 : decode b_Mo_pair 138 = .ok (.aload_n 0, 1) := by decide +kernel
theorem d_Mo_pair_139 : decode b_Mo_pair 139 = .ok (.getfield 41, 3) := by decide +kernel
theorem d_Mo_pair_142 : decode b_Mo_pair 142 = .ok (.iload_n 2, 1) := by decide +kernel
theorem d_Mo_pair_143 : decode b_Mo_pair 143 = .ok (.bipush 16, 2) := by decide +kernel
theorem d_Mo_pair_145 : decode b_Mo_pair 145 = .ok (.imul, 1) := by decide +kernel
theorem d_Mo_pair_146 : decode b_Mo_pair 146 = .ok (.iload_n 1, 1) := by decide +kernel
theorem d_Mo_pair_147 : decode b_Mo_pair 147 = .ok (.iadd, 1) := by decide +kernel
theorem d_Mo_pair_148 : decode b_Mo_pair 148 = .ok (.iconst 1, 1) := by decide +kernel
theorem d_Mo_pair_149 : decode b_Mo_pair 149 = .ok (.bastore, 1) := by decide +kernel
theorem d_Mo_pair_150 : decode b_Mo_pair 150 = .ok (.aload_n 0, 1) := by decide +kernel
theorem d_Mo_pair_151 : decode b_Mo_pair 151 = .ok (.dup, 1) := by decide +kernel
theorem d_Mo_pair_152 : decode b_Mo_pair 152 = .ok (.getfield 136, 3) := by decide +kernel
theorem d_Mo_pair_155 : decode b_Mo_pair 155 = .ok (.iconst 1, 1) := by decide +kernel
theorem d_Mo_pair_156 : decode b_Mo_pair 156 = .ok (.iadd, 1) := by decide +kernel
theorem d_Mo_pair_157 : decode b_Mo_pair 157 = .ok (.dup_x1, 1) := by decide +kernel
theorem d_Mo_pair_158 : decode b_Mo_pair 158 = .ok (.putfield 136, 3) := by decide +kernel
theorem d_Mo_pair_161 : decode b_Mo_pair 161 = .ok (.ireturn, 1) := by decide +kernel
theorem d_Mo_power_0 : decode b_Mo_power 0 = .ok (.dconst 1, 1) := by decide +kernel
theorem d_Mo_power_1 : decode b_Mo_power 1 = .ok (.dstore_n 1, 1) := by decide +kernel
theorem d_Mo_power_2 : decode b_Mo_power 2 = .ok (.iconst 0, 1) := by decide +kernel
theorem d_Mo_power_3 : decode b_Mo_power 3 = .ok (.istore_n 3, 1) := by decide +kernel
theorem d_Mo_power_4 : decode b_Mo_power 4 = .ok (.iload_n 3, 1) := by decide +kernel
theorem d_Mo_power_5 : decode b_Mo_power 5 = .ok (.iload_n 0, 1) := by decide +kernel
theorem d_Mo_power_6 : decode b_Mo_power 6 = .ok (.if_icmp .ge 15, 3) := by decide +kernel
theorem d_Mo_power_9 : decode b_Mo_power 9 = .ok (.dload_n 1, 1) := by decide +kernel
theorem d_Mo_power_10 : decode b_Mo_power 10 = .ok (.ldc2_w 98, 3) := by decide +kernel
theorem d_Mo_power_13 : decode b_Mo_power 13 = .ok (.dmul, 1) := by decide +kernel
theorem d_Mo_power_14 : decode b_Mo_power 14 = .ok (.dstore_n 1, 1) := by decide +kernel
theorem d_Mo_power_15 : decode b_Mo_power 15 = .ok (.iinc 3 1, 3) := by decide +kernel
theorem d_Mo_power_18 : decode b_Mo_power 18 = .ok (.goto (-14), 3) := by decide +kernel
theorem d_Mo_power_21 : decode b_Mo_power 21 = .ok (.iconst 0, 1) := by decide +kernel
theorem d_Mo_power_22 : decode b_Mo_power 22 = .ok (.istore_n 3, 1) := by decide +kernel
theorem d_Mo_power_23 : decode b_Mo_power 23 = .ok (.iload_n 3, 1) := by decide +kernel
theorem d_Mo_power_24 : decode b_Mo_power 24 = .ok (.iload_n 0, 1) := by decide +kernel
theorem d_Mo_power_25 : decode b_Mo_power 25 = .ok (.if_icmp .le 15, 3) := by decide +kernel
theorem d_Mo_power_28 : decode b_Mo_power 28 = .ok (.dload_n 1, 1) := by decide +kernel
theorem d_Mo_power_29 : decode b_Mo_power 29 = .ok (.ldc2_w 94, 3) := by decide +kernel
theorem d_Mo_power_32 : decode b_Mo_power 32 = .ok (.dmul, 1) := by decide +kernel
theorem d_Mo_power_33 : decode b_Mo_power 33 = .ok (.dstore_n 1, 1) := by decide +kernel
theorem d_Mo_power_34 : decode b_Mo_power 34 = .ok (.iinc 3 (-1), 3) := by decide +kernel
theorem d_Mo_power_37 : decode b_Mo_power 37 = .ok (.goto (-14), 3) := by decide +kernel
theorem d_Mo_power_40 : decode b_Mo_power 40 = .ok (.dload_n 1, 1) := by decide +kernel
theorem d_Mo_power_41 : decode b_Mo_power 41 = .ok (.dreturn, 1) := by decide +kernel
theorem d_Mo_priceFault_0 : decode b_Mo_priceFault 0 = .ok (.aload_n 0, 1) := by decide +kernel
theorem d_Mo_priceFault_1 : decode b_Mo_priceFault 1 = .ok (.getfield 34, 3) := by decide +kernel
theorem d_Mo_priceFault_4 : decode b_Mo_priceFault 4 = .ok (.iload_n 1, 1) := by decide +kernel
theorem d_Mo_priceFault_5 : decode b_Mo_priceFault 5 = .ok (.daload, 1) := by decide +kernel
theorem d_Mo_priceFault_6 : decode b_Mo_priceFault 6 = .ok (.dconst 0, 1) := by decide +kernel
theorem d_Mo_priceFault_7 : decode b_Mo_priceFault 7 = .ok (.dcmp .l, 1) := by decide +kernel
theorem d_Mo_priceFault_8 : decode b_Mo_priceFault 8 = .ok (.ifCond .le 21, 3) := by decide +kernel
theorem d_Mo_priceFault_11 : decode b_Mo_priceFault 11 = .ok (.aload_n 0, 1) := by decide +kernel
theorem d_Mo_priceFault_12 : decode b_Mo_priceFault 12 = .ok (.getfield 50, 3) := by decide +kernel
theorem d_Mo_priceFault_15 : decode b_Mo_priceFault 15 = .ok (.iload_n 1, 1) := by decide +kernel
theorem d_Mo_priceFault_16 : decode b_Mo_priceFault 16 = .ok (.baload, 1) := by decide +kernel
theorem d_Mo_priceFault_17 : decode b_Mo_priceFault 17 = .ok (.ifCond .ne 12, 3) := by decide +kernel
theorem d_Mo_priceFault_20 : decode b_Mo_priceFault 20 = .ok (.aload_n 0, 1) := by decide +kernel
theorem d_Mo_priceFault_21 : decode b_Mo_priceFault 21 = .ok (.getfield 34, 3) := by decide +kernel
theorem d_Mo_priceFault_24 : decode b_Mo_priceFault 24 = .ok (.iload_n 1, 1) := by decide +kernel
theorem d_Mo_priceFault_25 : decode b_Mo_priceFault 25 = .ok (.daload, 1) := by decide +kernel
theorem d_Mo_priceFault_26 : decode b_Mo_priceFault 26 = .ok (.goto 35, 3) := by decide +kernel
theorem d_Mo_priceFault_29 : decode b_Mo_priceFault 29 = .ok (.aload_n 0, 1) := by decide +kernel
theorem d_Mo_priceFault_30 : decode b_Mo_priceFault 30 = .ok (.getfield 34, 3) := by decide +kernel
theorem d_Mo_priceFault_33 : decode b_Mo_priceFault 33 = .ok (.iload_n 1, 1) := by decide +kernel
theorem d_Mo_priceFault_34 : decode b_Mo_priceFault 34 = .ok (.daload, 1) := by decide +kernel
theorem d_Mo_priceFault_35 : decode b_Mo_priceFault 35 = .ok (.dconst 0, 1) := by decide +kernel
theorem d_Mo_priceFault_36 : decode b_Mo_priceFault 36 = .ok (.dcmp .g, 1) := by decide +kernel
theorem d_Mo_priceFault_37 : decode b_Mo_priceFault 37 = .ok (.ifCond .ge 23, 3) := by decide +kernel
theorem d_Mo_priceFault_40 : decode b_Mo_priceFault 40 = .ok (.aload_n 0, 1) := by decide +kernel
theorem d_Mo_priceFault_41 : decode b_Mo_priceFault 41 = .ok (.getfield 53, 3) := by decide +kernel
theorem d_Mo_priceFault_44 : decode b_Mo_priceFault 44 = .ok (.iload_n 1, 1) := by decide +kernel
theorem d_Mo_priceFault_45 : decode b_Mo_priceFault 45 = .ok (.baload, 1) := by decide +kernel
theorem d_Mo_priceFault_46 : decode b_Mo_priceFault 46 = .ok (.ifCond .ne 14, 3) := by decide +kernel
theorem d_Mo_priceFault_49 : decode b_Mo_priceFault 49 = .ok (.dconst 0, 1) := by decide +kernel
theorem d_Mo_priceFault_50 : decode b_Mo_priceFault 50 = .ok (.aload_n 0, 1) := by decide +kernel
theorem d_Mo_priceFault_51 : decode b_Mo_priceFault 51 = .ok (.getfield 34, 3) := by decide +kernel
theorem d_Mo_priceFault_54 : decode b_Mo_priceFault 54 = .ok (.iload_n 1, 1) := by decide +kernel
theorem d_Mo_priceFault_55 : decode b_Mo_priceFault 55 = .ok (.daload, 1) := by decide +kernel
theorem d_Mo_priceFault_56 : decode b_Mo_priceFault 56 = .ok (.dsub, 1) := by decide +kernel
theorem d_Mo_priceFault_57 : decode b_Mo_priceFault 57 = .ok (.goto 4, 3) := by decide +kernel
theorem d_Mo_priceFault_60 : decode b_Mo_priceFault 60 = .ok (.dconst 0, 1) := by decide +kernel
theorem d_Mo_priceFault_61 : decode b_Mo_priceFault 61 = .ok (.dreturn, 1) := by decide +kernel
theorem d_Mo_reduced_0 : decode b_Mo_reduced 0 = .ok (.aload_n 0, 1) := by decide +kernel
theorem d_Mo_reduced_1 : decode b_Mo_reduced 1 = .ok (.invokevirtual 165, 3) := by decide +kernel
theorem d_Mo_reduced_4 : decode b_Mo_reduced 4 = .ok (.aload_n 0, 1) := by decide +kernel
theorem d_Mo_reduced_5 : decode b_Mo_reduced 5 = .ok (.aload_n 0, 1) := by decide +kernel
theorem d_Mo_reduced_6 : decode b_Mo_reduced 6 = .ok (.getfield 13, 3) := by decide +kernel
theorem d_Mo_reduced_9 : decode b_Mo_reduced 9 = .ok (.iload_n 1, 1) := by decide +kernel
theorem d_Mo_reduced_10 : decode b_Mo_reduced 10 = .ok (.daload, 1) := by decide +kernel
theorem d_Mo_reduced_11 : decode b_Mo_reduced 11 = .ok (.dconst 1, 1) := by decide +kernel
theorem d_Mo_reduced_12 : decode b_Mo_reduced 12 = .ok (.dconst 1, 1) := by decide +kernel
theorem d_Mo_reduced_13 : decode b_Mo_reduced 13 = .ok (.iconst 0, 1) := by decide +kernel
theorem d_Mo_reduced_14 : decode b_Mo_reduced 14 = .ok (.iconst 0, 1) := by decide +kernel
theorem d_Mo_reduced_15 : decode b_Mo_reduced 15 = .ok (.invokevirtual 168, 3) := by decide +kernel
theorem d_Mo_reduced_18 : decode b_Mo_reduced 18 = .ok (.iconst 0, 1) := by decide +kernel
theorem d_Mo_reduced_19 : decode b_Mo_reduced 19 = .ok (.istore_n 2, 1) := by decide +kernel
theorem d_Mo_reduced_20 : decode b_Mo_reduced 20 = .ok (.iload_n 2, 1) := by decide +kernel
theorem d_Mo_reduced_21 : decode b_Mo_reduced 21 = .ok (.aload_n 0, 1) := by decide +kernel
theorem d_Mo_reduced_22 : decode b_Mo_reduced 22 = .ok (.getfield 130, 3) := by decide +kernel
theorem d_Mo_reduced_25 : decode b_Mo_reduced 25 = .ok (.if_icmp .ge 47, 3) := by decide +kernel
theorem d_Mo_reduced_28 : decode b_Mo_reduced 28 = .ok (.aload_n 0, 1) := by decide +kernel
theorem d_Mo_reduced_29 : decode b_Mo_reduced 29 = .ok (.getfield 41, 3) := by decide +kernel
theorem d_Mo_reduced_32 : decode b_Mo_reduced 32 = .ok (.bipush 16, 2) := by decide +kernel
theorem d_Mo_reduced_34 : decode b_Mo_reduced 34 = .ok (.iload_n 2, 1) := by decide +kernel
theorem d_Mo_reduced_35 : decode b_Mo_reduced 35 = .ok (.imul, 1) := by decide +kernel
theorem d_Mo_reduced_36 : decode b_Mo_reduced 36 = .ok (.iload_n 1, 1) := by decide +kernel
theorem d_Mo_reduced_37 : decode b_Mo_reduced 37 = .ok (.iadd, 1) := by decide +kernel
theorem d_Mo_reduced_38 : decode b_Mo_reduced 38 = .ok (.baload, 1) := by decide +kernel
theorem d_Mo_reduced_39 : decode b_Mo_reduced 39 = .ok (.ifCond .eq 27, 3) := by decide +kernel
theorem d_Mo_reduced_42 : decode b_Mo_reduced 42 = .ok (.aload_n 0, 1) := by decide +kernel
theorem d_Mo_reduced_43 : decode b_Mo_reduced 43 = .ok (.aload_n 0, 1) := by decide +kernel
theorem d_Mo_reduced_44 : decode b_Mo_reduced 44 = .ok (.getfield 16, 3) := by decide +kernel
theorem d_Mo_reduced_47 : decode b_Mo_reduced 47 = .ok (.bipush 16, 2) := by decide +kernel
theorem d_Mo_reduced_49 : decode b_Mo_reduced 49 = .ok (.iload_n 2, 1) := by decide +kernel
theorem d_Mo_reduced_50 : decode b_Mo_reduced 50 = .ok (.imul, 1) := by decide +kernel
theorem d_Mo_reduced_51 : decode b_Mo_reduced 51 = .ok (.iload_n 1, 1) := by decide +kernel
theorem d_Mo_reduced_52 : decode b_Mo_reduced 52 = .ok (.iadd, 1) := by decide +kernel
theorem d_Mo_reduced_53 : decode b_Mo_reduced 53 = .ok (.daload, 1) := by decide +kernel
theorem d_Mo_reduced_54 : decode b_Mo_reduced 54 = .ok (.aload_n 0, 1) := by decide +kernel
theorem d_Mo_reduced_55 : decode b_Mo_reduced 55 = .ok (.getfield 31, 3) := by decide +kernel
theorem d_Mo_reduced_58 : decode b_Mo_reduced 58 = .ok (.iload_n 2, 1) := by decide +kernel
theorem d_Mo_reduced_59 : decode b_Mo_reduced 59 = .ok (.daload, 1) := by decide +kernel
theorem d_Mo_reduced_60 : decode b_Mo_reduced 60 = .ok (.dconst 1, 1) := by decide +kernel
theorem d_Mo_reduced_61 : decode b_Mo_reduced 61 = .ok (.iconst 0, 1) := by decide +kernel
theorem d_Mo_reduced_62 : decode b_Mo_reduced 62 = .ok (.iconst 0, 1) := by decide +kernel
theorem d_Mo_reduced_63 : decode b_Mo_reduced 63 = .ok (.invokevirtual 168, 3) := by decide +kernel
theorem d_Mo_reduced_66 : decode b_Mo_reduced 66 = .ok (.iinc 2 1, 3) := by decide +kernel
theorem d_Mo_reduced_69 : decode b_Mo_reduced 69 = .ok (.goto (-49), 3) := by decide +kernel
theorem d_Mo_reduced_72 : decode b_Mo_reduced 72 = .ok (.iconst 0, 1) := by decide +kernel
theorem d_Mo_reduced_73 : decode b_Mo_reduced 73 = .ok (.istore_n 2, 1) := by decide +kernel
theorem d_Mo_reduced_74 : decode b_Mo_reduced 74 = .ok (.iload_n 2, 1) := by decide +kernel
theorem d_Mo_reduced_75 : decode b_Mo_reduced 75 = .ok (.aload_n 0, 1) := by decide +kernel
theorem d_Mo_reduced_76 : decode b_Mo_reduced 76 = .ok (.getfield 127, 3) := by decide +kernel
theorem d_Mo_reduced_79 : decode b_Mo_reduced 79 = .ok (.if_icmp .ge 47, 3) := by decide +kernel
theorem d_Mo_reduced_82 : decode b_Mo_reduced 82 = .ok (.aload_n 0, 1) := by decide +kernel
theorem d_Mo_reduced_83 : decode b_Mo_reduced 83 = .ok (.getfield 37, 3) := by decide +kernel
theorem d_Mo_reduced_86 : decode b_Mo_reduced 86 = .ok (.bipush 16, 2) := by decide +kernel
theorem d_Mo_reduced_88 : decode b_Mo_reduced 88 = .ok (.iload_n 2, 1) := by decide +kernel
theorem d_Mo_reduced_89 : decode b_Mo_reduced 89 = .ok (.imul, 1) := by decide +kernel
theorem d_Mo_reduced_90 : decode b_Mo_reduced 90 = .ok (.iload_n 1, 1) := by decide +kernel
theorem d_Mo_reduced_91 : decode b_Mo_reduced 91 = .ok (.iadd, 1) := by decide +kernel
theorem d_Mo_reduced_92 : decode b_Mo_reduced 92 = .ok (.baload, 1) := by decide +kernel
theorem d_Mo_reduced_93 : decode b_Mo_reduced 93 = .ok (.ifCond .eq 27, 3) := by decide +kernel
theorem d_Mo_reduced_96 : decode b_Mo_reduced 96 = .ok (.aload_n 0, 1) := by decide +kernel
theorem d_Mo_reduced_97 : decode b_Mo_reduced 97 = .ok (.aload_n 0, 1) := by decide +kernel
theorem d_Mo_reduced_98 : decode b_Mo_reduced 98 = .ok (.getfield 9, 3) := by decide +kernel
theorem d_Mo_reduced_101 : decode b_Mo_reduced 101 = .ok (.bipush 16, 2) := by decide +kernel
theorem d_Mo_reduced_103 : decode b_Mo_reduced 103 = .ok (.iload_n 2, 1) := by decide +kernel
theorem d_Mo_reduced_104 : decode b_Mo_reduced 104 = .ok (.imul, 1) := by decide +kernel
theorem d_Mo_reduced_105 : decode b_Mo_reduced 105 = .ok (.iload_n 1, 1) := by decide +kernel
theorem d_Mo_reduced_106 : decode b_Mo_reduced 106 = .ok (.iadd, 1) := by decide +kernel
theorem d_Mo_reduced_107 : decode b_Mo_reduced 107 = .ok (.daload, 1) := by decide +kernel
theorem d_Mo_reduced_108 : decode b_Mo_reduced 108 = .ok (.aload_n 0, 1) := by decide +kernel
theorem d_Mo_reduced_109 : decode b_Mo_reduced 109 = .ok (.getfield 34, 3) := by decide +kernel
theorem d_Mo_reduced_112 : decode b_Mo_reduced 112 = .ok (.iload_n 2, 1) := by decide +kernel
theorem d_Mo_reduced_113 : decode b_Mo_reduced 113 = .ok (.daload, 1) := by decide +kernel
theorem d_Mo_reduced_114 : decode b_Mo_reduced 114 = .ok (.dconst 1, 1) := by decide +kernel
theorem d_Mo_reduced_115 : decode b_Mo_reduced 115 = .ok (.iconst 0, 1) := by decide +kernel
theorem d_Mo_reduced_116 : decode b_Mo_reduced 116 = .ok (.iconst 1, 1) := by decide +kernel
theorem d_Mo_reduced_117 : decode b_Mo_reduced 117 = .ok (.invokevirtual 168, 3) := by decide +kernel
theorem d_Mo_reduced_120 : decode b_Mo_reduced 120 = .ok (.iinc 2 1, 3) := by decide +kernel
theorem d_Mo_reduced_123 : decode b_Mo_reduced 123 = .ok (.goto (-49), 3) := by decide +kernel
theorem d_Mo_reduced_126 : decode b_Mo_reduced 126 = .ok (.return_, 1) := by decide +kernel
theorem d_Mo_row_0 : decode b_Mo_row 0 = .ok (.aload_n 0, 1) := by decide +kernel
theorem d_Mo_row_1 : decode b_Mo_row 1 = .ok (.iconst 0, 1) := by decide +kernel
theorem d_Mo_row_2 : decode b_Mo_row 2 = .ok (.putfield 78, 3) := by decide +kernel
theorem d_Mo_row_5 : decode b_Mo_row 5 = .ok (.aload_n 0, 1) := by decide +kernel
theorem d_Mo_row_6 : decode b_Mo_row 6 = .ok (.iload_n 1, 1) := by decide +kernel
theorem d_Mo_row_7 : decode b_Mo_row 7 = .ok (.iconst 0, 1) := by decide +kernel
theorem d_Mo_row_8 : decode b_Mo_row 8 = .ok (.iconst 3, 1) := by decide +kernel
theorem d_Mo_row_9 : decode b_Mo_row 9 = .ok (.invokestatic 123, 3) := by decide +kernel
theorem d_Mo_row_12 : decode b_Mo_row 12 = .ok (.ifCond .eq 30, 3) := by decide +kernel
theorem d_Mo_row_15 : decode b_Mo_row 15 = .ok (.iload_n 1, 1) := by decide +kernel
theorem d_Mo_row_16 : decode b_Mo_row 16 = .ok (.iconst 1, 1) := by decide +kernel
theorem d_Mo_row_17 : decode b_Mo_row 17 = .ok (.iand, 1) := by decide +kernel
theorem d_Mo_row_18 : decode b_Mo_row 18 = .ok (.ifCond .eq 10, 3) := by decide +kernel
theorem d_Mo_row_21 : decode b_Mo_row 21 = .ok (.dload_n 2, 1) := by decide +kernel
theorem d_Mo_row_22 : decode b_Mo_row 22 = .ok (.invokestatic 108, 3) := by decide +kernel
theorem d_Mo_row_25 : decode b_Mo_row 25 = .ok (.ifCond .eq 17, 3) := by decide +kernel
theorem d_Mo_row_28 : decode b_Mo_row 28 = .ok (.iload_n 1, 1) := by decide +kernel
theorem d_Mo_row_29 : decode b_Mo_row 29 = .ok (.iconst 2, 1) := by decide +kernel
theorem d_Mo_row_30 : decode b_Mo_row 30 = .ok (.iand, 1) := by decide +kernel
theorem d_Mo_row_31 : decode b_Mo_row 31 = .ok (.ifCond .eq 15, 3) := by decide +kernel
theorem d_Mo_row_34 : decode b_Mo_row 34 = .ok (.dload 4, 2) := by decide +kernel
theorem d_Mo_row_36 : decode b_Mo_row 36 = .ok (.invokestatic 108, 3) := by decide +kernel
theorem d_Mo_row_39 : decode b_Mo_row 39 = .ok (.ifCond .ne 7, 3) := by decide +kernel
theorem d_Mo_row_42 : decode b_Mo_row 42 = .ok (.iconst 1, 1) := by decide +kernel
theorem d_Mo_row_43 : decode b_Mo_row 43 = .ok (.goto 4, 3) := by decide +kernel
theorem d_Mo_row_46 : decode b_Mo_row 46 = .ok (.iconst 0, 1) := by decide +kernel
theorem d_Mo_row_47 : decode b_Mo_row 47 = .ok (.iconst 1, 1) := by decide +kernel
theorem d_Mo_row_48 : decode b_Mo_row 48 = .ok (.invokevirtual 112, 3) := by decide +kernel
theorem d_Mo_row_51 : decode b_Mo_row 51 = .ok (.ifCond .ne 25, 3) := by decide +kernel
theorem d_Mo_row_54 : decode b_Mo_row 54 = .ok (.aload_n 0, 1) := by decide +kernel
theorem d_Mo_row_55 : decode b_Mo_row 55 = .ok (.aload_n 0, 1) := by decide +kernel
theorem d_Mo_row_56 : decode b_Mo_row 56 = .ok (.getfield 127, 3) := by decide +kernel
theorem d_Mo_row_59 : decode b_Mo_row 59 = .ok (.bipush 12, 2) := by decide +kernel
theorem d_Mo_row_61 : decode b_Mo_row 61 = .ok (.if_icmp .ne 7, 3) := by decide +kernel
theorem d_Mo_row_64 : decode b_Mo_row 64 = .ok (.iconst 1, 1) := by decide +kernel
theorem d_Mo_row_65 : decode b_Mo_row 65 = .ok (.goto 4, 3) := by decide +kernel
theorem d_Mo_row_68 : decode b_Mo_row 68 = .ok (.iconst 0, 1) := by decide +kernel
theorem d_Mo_row_69 : decode b_Mo_row 69 = .ok (.iconst 2, 1) := by decide +kernel
theorem d_Mo_row_70 : decode b_Mo_row 70 = .ok (.invokevirtual 112, 3) := by decide +kernel
theorem d_Mo_row_73 : decode b_Mo_row 73 = .ok (.ifCond .eq 5, 3) := by decide +kernel
theorem d_Mo_row_76 : decode b_Mo_row 76 = .ok (.iconst 0, 1) := by decide +kernel
theorem d_Mo_row_77 : decode b_Mo_row 77 = .ok (.ireturn, 1) := by decide +kernel
theorem d_Mo_row_78 : decode b_Mo_row 78 = .ok (.aload_n 0, 1) := by decide +kernel
theorem d_Mo_row_79 : decode b_Mo_row 79 = .ok (.getfield 50, 3) := by decide +kernel
theorem d_Mo_row_82 : decode b_Mo_row 82 = .ok (.aload_n 0, 1) := by decide +kernel
theorem d_Mo_row_83 : decode b_Mo_row 83 = .ok (.getfield 127, 3) := by decide +kernel
theorem d_Mo_row_86 : decode b_Mo_row 86 = .ok (.iload_n 1, 1) := by decide +kernel
theorem d_Mo_row_87 : decode b_Mo_row 87 = .ok (.iconst 1, 1) := by decide +kernel
theorem d_Mo_row_88 : decode b_Mo_row 88 = .ok (.iand, 1) := by decide +kernel
theorem d_Mo_row_89 : decode b_Mo_row 89 = .ok (.ifCond .eq 7, 3) := by decide +kernel
theorem d_Mo_row_92 : decode b_Mo_row 92 = .ok (.iconst 1, 1) := by decide +kernel
theorem d_Mo_row_93 : decode b_Mo_row 93 = .ok (.goto 4, 3) := by decide +kernel
theorem d_Mo_row_96 : decode b_Mo_row 96 = .ok (.iconst 0, 1) := by decide +kernel
theorem d_Mo_row_97 : decode b_Mo_row 97 = .ok (.bastore, 1) := by decide +kernel
theorem d_Mo_row_98 : decode b_Mo_row 98 = .ok (.aload_n 0, 1) := by decide +kernel
theorem d_Mo_row_99 : decode b_Mo_row 99 = .ok (.getfield 53, 3) := by decide +kernel
theorem d_Mo_row_102 : decode b_Mo_row 102 = .ok (.aload_n 0, 1) := by decide +kernel
theorem d_Mo_row_103 : decode b_Mo_row 103 = .ok (.getfield 127, 3) := by decide +kernel
theorem d_Mo_row_106 : decode b_Mo_row 106 = .ok (.iload_n 1, 1) := by decide +kernel
theorem d_Mo_row_107 : decode b_Mo_row 107 = .ok (.iconst 2, 1) := by decide +kernel
theorem d_Mo_row_108 : decode b_Mo_row 108 = .ok (.iand, 1) := by decide +kernel
theorem d_Mo_row_109 : decode b_Mo_row 109 = .ok (.ifCond .eq 7, 3) := by decide +kernel
theorem d_Mo_row_112 : decode b_Mo_row 112 = .ok (.iconst 1, 1) := by decide +kernel
theorem d_Mo_row_113 : decode b_Mo_row 113 = .ok (.goto 4, 3) := by decide +kernel
theorem d_Mo_row_116 : decode b_Mo_row 116 = .ok (.iconst 0, 1) := by decide +kernel
theorem d_Mo_row_117 : decode b_Mo_row 117 = .ok (.bastore, 1) := by decide +kernel
theorem d_Mo_row_118 : decode b_Mo_row 118 = .ok (.aload_n 0, 1) := by decide +kernel
theorem d_Mo_row_119 : decode b_Mo_row 119 = .ok (.getfield 25, 3) := by decide +kernel
theorem d_Mo_row_122 : decode b_Mo_row 122 = .ok (.aload_n 0, 1) := by decide +kernel
theorem d_Mo_row_123 : decode b_Mo_row 123 = .ok (.getfield 127, 3) := by decide +kernel
theorem d_Mo_row_126 : decode b_Mo_row 126 = .ok (.dload_n 2, 1) := by decide +kernel
theorem d_Mo_row_127 : decode b_Mo_row 127 = .ok (.invokestatic 116, 3) := by decide +kernel
theorem d_Mo_row_130 : decode b_Mo_row 130 = .ok (.dastore, 1) := by decide +kernel
theorem d_Mo_row_131 : decode b_Mo_row 131 = .ok (.aload_n 0, 1) := by decide +kernel
theorem d_Mo_row_132 : decode b_Mo_row 132 = .ok (.getfield 28, 3) := by decide +kernel
theorem d_Mo_row_135 : decode b_Mo_row 135 = .ok (.aload_n 0, 1) := by decide +kernel
theorem d_Mo_row_136 : decode b_Mo_row 136 = .ok (.getfield 127, 3) := by decide +kernel
theorem d_Mo_row_139 : decode b_Mo_row 139 = .ok (.dload 4, 2) := by decide +kernel
theorem d_Mo_row_141 : decode b_Mo_row 141 = .ok (.invokestatic 116, 3) := by decide +kernel
theorem d_Mo_row_144 : decode b_Mo_row 144 = .ok (.dastore, 1) := by decide +kernel
theorem d_Mo_row_145 : decode b_Mo_row 145 = .ok (.aload_n 0, 1) := by decide +kernel
theorem d_Mo_row_146 : decode b_Mo_row 146 = .ok (.dup, 1) := by decide +kernel
theorem d_Mo_row_147 : decode b_Mo_row 147 = .ok (.getfield 127, 3) := by decide +kernel
theorem d_Mo_row_150 : decode b_Mo_row 150 = .ok (.dup_x1, 1) := by decide +kernel
theorem d_Mo_row_151 : decode b_Mo_row 151 = .ok (.iconst 1, 1) := by decide +kernel
theorem d_Mo_row_152 : decode b_Mo_row 152 = .ok (.iadd, 1) := by decide +kernel
theorem d_Mo_row_153 : decode b_Mo_row 153 = .ok (.putfield 127, 3) := by decide +kernel
theorem d_Mo_row_156 : decode b_Mo_row 156 = .ok (.ireturn, 1) := by decide +kernel
theorem d_Mo_rowFault_0 : decode b_Mo_rowFault 0 = .ok (.dconst 0, 1) := by decide +kernel
theorem d_Mo_rowFault_1 : decode b_Mo_rowFault 1 = .ok (.dstore_n 2, 1) := by decide +kernel
theorem d_Mo_rowFault_2 : decode b_Mo_rowFault 2 = .ok (.aload_n 0, 1) := by decide +kernel
theorem d_Mo_rowFault_3 : decode b_Mo_rowFault 3 = .ok (.getfield 50, 3) := by decide +kernel
theorem d_Mo_rowFault_6 : decode b_Mo_rowFault 6 = .ok (.iload_n 1, 1) := by decide +kernel
theorem d_Mo_rowFault_7 : decode b_Mo_rowFault 7 = .ok (.baload, 1) := by decide +kernel
theorem d_Mo_rowFault_8 : decode b_Mo_rowFault 8 = .ok (.ifCond .eq 28, 3) := by decide +kernel
theorem d_Mo_rowFault_11 : decode b_Mo_rowFault 11 = .ok (.aload_n 0, 1) := by decide +kernel
theorem d_Mo_rowFault_12 : decode b_Mo_rowFault 12 = .ok (.iload_n 1, 1) := by decide +kernel
theorem d_Mo_rowFault_13 : decode b_Mo_rowFault 13 = .ok (.invokevirtual 179, 3) := by decide +kernel
theorem d_Mo_rowFault_16 : decode b_Mo_rowFault 16 = .ok (.aload_n 0, 1) := by decide +kernel
theorem d_Mo_rowFault_17 : decode b_Mo_rowFault 17 = .ok (.aload_n 0, 1) := by decide +kernel
theorem d_Mo_rowFault_18 : decode b_Mo_rowFault 18 = .ok (.getfield 25, 3) := by decide +kernel
theorem d_Mo_rowFault_21 : decode b_Mo_rowFault 21 = .ok (.iload_n 1, 1) := by decide +kernel
theorem d_Mo_rowFault_22 : decode b_Mo_rowFault 22 = .ok (.daload, 1) := by decide +kernel
theorem d_Mo_rowFault_23 : decode b_Mo_rowFault 23 = .ok (.dconst 1, 1) := by decide +kernel
theorem d_Mo_rowFault_24 : decode b_Mo_rowFault 24 = .ok (.dconst 1, 1) := by decide +kernel
theorem d_Mo_rowFault_25 : decode b_Mo_rowFault 25 = .ok (.iconst 0, 1) := by decide +kernel
theorem d_Mo_rowFault_26 : decode b_Mo_rowFault 26 = .ok (.iconst 1, 1) := by decide +kernel
theorem d_Mo_rowFault_27 : decode b_Mo_rowFault 27 = .ok (.invokevirtual 168, 3) := by decide +kernel
theorem d_Mo_rowFault_30 : decode b_Mo_rowFault 30 = .ok (.aload_n 0, 1) := by decide +kernel
theorem d_Mo_rowFault_31 : decode b_Mo_rowFault 31 = .ok (.iconst 1, 1) := by decide +kernel
theorem d_Mo_rowFault_32 : decode b_Mo_rowFault 32 = .ok (.invokevirtual 183, 3) := by decide +kernel
theorem d_Mo_rowFault_35 : decode b_Mo_rowFault 35 = .ok (.dstore_n 2, 1) := by decide +kernel
theorem d_Mo_rowFault_36 : decode b_Mo_rowFault 36 = .ok (.aload_n 0, 1) := by decide +kernel
theorem d_Mo_rowFault_37 : decode b_Mo_rowFault 37 = .ok (.getfield 53, 3) := by decide +kernel
theorem d_Mo_rowFault_40 : decode b_Mo_rowFault 40 = .ok (.iload_n 1, 1) := by decide +kernel
theorem d_Mo_rowFault_41 : decode b_Mo_rowFault 41 = .ok (.baload, 1) := by decide +kernel
theorem d_Mo_rowFault_42 : decode b_Mo_rowFault 42 = .ok (.ifCond .eq 39, 3) := by decide +kernel
theorem d_Mo_rowFault_45 : decode b_Mo_rowFault 45 = .ok (.aload_n 0, 1) := by decide +kernel
theorem d_Mo_rowFault_46 : decode b_Mo_rowFault 46 = .ok (.iload_n 1, 1) := by decide +kernel
theorem d_Mo_rowFault_47 : decode b_Mo_rowFault 47 = .ok (.invokevirtual 179, 3) := by decide +kernel
theorem d_Mo_rowFault_50 : decode b_Mo_rowFault 50 = .ok (.aload_n 0, 1) := by decide +kernel
theorem d_Mo_rowFault_51 : decode b_Mo_rowFault 51 = .ok (.aload_n 0, 1) := by decide +kernel
theorem d_Mo_rowFault_52 : decode b_Mo_rowFault 52 = .ok (.getfield 28, 3) := by decide +kernel
theorem d_Mo_rowFault_55 : decode b_Mo_rowFault 55 = .ok (.iload_n 1, 1) := by decide +kernel
theorem d_Mo_rowFault_56 : decode b_Mo_rowFault 56 = .ok (.daload, 1) := by decide +kernel
theorem d_Mo_rowFault_57 : decode b_Mo_rowFault 57 = .ok (.dconst 1, 1) := by decide +kernel
theorem d_Mo_rowFault_58 : decode b_Mo_rowFault 58 = .ok (.dconst 1, 1) := by decide +kernel
theorem d_Mo_rowFault_59 : decode b_Mo_rowFault 59 = .ok (.iconst 0, 1) := by decide +kernel
theorem d_Mo_rowFault_60 : decode b_Mo_rowFault 60 = .ok (.iconst 1, 1) := by decide +kernel
theorem d_Mo_rowFault_61 : decode b_Mo_rowFault 61 = .ok (.invokevirtual 168, 3) := by decide +kernel
theorem d_Mo_rowFault_64 : decode b_Mo_rowFault 64 = .ok (.aload_n 0, 1) := by decide +kernel
theorem d_Mo_rowFault_65 : decode b_Mo_rowFault 65 = .ok (.iconst 0, 1) := by decide +kernel
theorem d_Mo_rowFault_66 : decode b_Mo_rowFault 66 = .ok (.invokevirtual 183, 3) := by decide +kernel
theorem d_Mo_rowFault_69 : decode b_Mo_rowFault 69 = .ok (.dstore 4, 2) := by decide +kernel
theorem d_Mo_rowFault_71 : decode b_Mo_rowFault 71 = .ok (.dload 4, 2) := by decide +kernel
theorem d_Mo_rowFault_73 : decode b_Mo_rowFault 73 = .ok (.dload_n 2, 1) := by decide +kernel
theorem d_Mo_rowFault_74 : decode b_Mo_rowFault 74 = .ok (.dcmp .l, 1) := by decide +kernel
theorem d_Mo_rowFault_75 : decode b_Mo_rowFault 75 = .ok (.ifCond .le 6, 3) := by decide +kernel
theorem d_Mo_rowFault_78 : decode b_Mo_rowFault 78 = .ok (.dload 4, 2) := by decide +kernel
theorem d_Mo_rowFault_80 : decode b_Mo_rowFault 80 = .ok (.dstore_n 2, 1) := by decide +kernel
theorem d_Mo_rowFault_81 : decode b_Mo_rowFault 81 = .ok (.dload_n 2, 1) := by decide +kernel
theorem d_Mo_rowFault_82 : decode b_Mo_rowFault 82 = .ok (.dreturn, 1) := by decide +kernel
theorem d_Mo_shiftedLeft_0 : decode b_Mo_shiftedLeft 0 = .ok (.iload_n 2, 1) := by decide +kernel
theorem d_Mo_shiftedLeft_1 : decode b_Mo_shiftedLeft 1 = .ok (.iconst 4, 1) := by decide +kernel
theorem d_Mo_shiftedLeft_2 : decode b_Mo_shiftedLeft 2 = .ok (.ishr, 1) := by decide +kernel
theorem d_Mo_shiftedLeft_3 : decode b_Mo_shiftedLeft 3 = .ok (.istore 4, 2) := by decide +kernel
theorem d_Mo_shiftedLeft_5 : decode b_Mo_shiftedLeft 5 = .ok (.iload_n 2, 1) := by decide +kernel
theorem d_Mo_shiftedLeft_6 : decode b_Mo_shiftedLeft 6 = .ok (.bipush 15, 2) := by decide +kernel
theorem d_Mo_shiftedLeft_8 : decode b_Mo_shiftedLeft 8 = .ok (.iand, 1) := by decide +kernel
theorem d_Mo_shiftedLeft_9 : decode b_Mo_shiftedLeft 9 = .ok (.istore 5, 2) := by decide +kernel
theorem d_Mo_shiftedLeft_11 : decode b_Mo_shiftedLeft 11 = .ok (.aload_n 3, 1) := by decide +kernel
theorem d_Mo_shiftedLeft_12 : decode b_Mo_shiftedLeft 12 = .ok (.iload_n 1, 1) := by decide +kernel
theorem d_Mo_shiftedLeft_13 : decode b_Mo_shiftedLeft 13 = .ok (.iload 4, 2) := by decide +kernel
theorem d_Mo_shiftedLeft_15 : decode b_Mo_shiftedLeft 15 = .ok (.iadd, 1) := by decide +kernel
theorem d_Mo_shiftedLeft_16 : decode b_Mo_shiftedLeft 16 = .ok (.iconst 0, 1) := by decide +kernel
theorem d_Mo_shiftedLeft_17 : decode b_Mo_shiftedLeft 17 = .ok (.iastore, 1) := by decide +kernel
theorem d_Mo_shiftedLeft_18 : decode b_Mo_shiftedLeft 18 = .ok (.iload_n 1, 1) := by decide +kernel
theorem d_Mo_shiftedLeft_19 : decode b_Mo_shiftedLeft 19 = .ok (.istore 6, 2) := by decide +kernel
theorem d_Mo_shiftedLeft_21 : decode b_Mo_shiftedLeft 21 = .ok (.iload 6, 2) := by decide +kernel
theorem d_Mo_shiftedLeft_23 : decode b_Mo_shiftedLeft 23 = .ok (.ifCond .lt 58, 3) := by decide +kernel
theorem d_Mo_shiftedLeft_26 : decode b_Mo_shiftedLeft 26 = .ok (.aload_n 3, 1) := by decide +kernel
theorem d_Mo_shiftedLeft_27 : decode b_Mo_shiftedLeft 27 = .ok (.iload 6, 2) := by decide +kernel
theorem d_Mo_shiftedLeft_29 : decode b_Mo_shiftedLeft 29 = .ok (.iload 4, 2) := by decide +kernel
theorem d_Mo_shiftedLeft_31 : decode b_Mo_shiftedLeft 31 = .ok (.iadd, 1) := by decide +kernel
theorem d_Mo_shiftedLeft_32 : decode b_Mo_shiftedLeft 32 = .ok (.iload 6, 2) := by decide +kernel
theorem d_Mo_shiftedLeft_34 : decode b_Mo_shiftedLeft 34 = .ok (.iload_n 1, 1) := by decide +kernel
theorem d_Mo_shiftedLeft_35 : decode b_Mo_shiftedLeft 35 = .ok (.if_icmp .ge 13, 3) := by decide +kernel
theorem d_Mo_shiftedLeft_38 : decode b_Mo_shiftedLeft 38 = .ok (.aload_n 0, 1) := by decide +kernel
theorem d_Mo_shiftedLeft_39 : decode b_Mo_shiftedLeft 39 = .ok (.iload 6, 2) := by decide +kernel
theorem d_Mo_shiftedLeft_41 : decode b_Mo_shiftedLeft 41 = .ok (.iaload, 1) := by decide +kernel
theorem d_Mo_shiftedLeft_42 : decode b_Mo_shiftedLeft 42 = .ok (.iload 5, 2) := by decide +kernel
theorem d_Mo_shiftedLeft_44 : decode b_Mo_shiftedLeft 44 = .ok (.ishl, 1) := by decide +kernel
theorem d_Mo_shiftedLeft_45 : decode b_Mo_shiftedLeft 45 = .ok (.goto 4, 3) := by decide +kernel
theorem d_Mo_shiftedLeft_48 : decode b_Mo_shiftedLeft 48 = .ok (.iconst 0, 1) := by decide +kernel
theorem d_Mo_shiftedLeft_49 : decode b_Mo_shiftedLeft 49 = .ok (.iload 6, 2) := by decide +kernel
theorem d_Mo_shiftedLeft_51 : decode b_Mo_shiftedLeft 51 = .ok (.ifCond .le 18, 3) := by decide +kernel
theorem d_Mo_shiftedLeft_54 : decode b_Mo_shiftedLeft 54 = .ok (.aload_n 0, 1) := by decide +kernel
theorem d_Mo_shiftedLeft_55 : decode b_Mo_shiftedLeft 55 = .ok (.iload 6, 2) := by decide +kernel
theorem d_Mo_shiftedLeft_57 : decode b_Mo_shiftedLeft 57 = .ok (.iconst 1, 1) := by decide +kernel
theorem d_Mo_shiftedLeft_58 : decode b_Mo_shiftedLeft 58 = .ok (.isub, 1) := by decide +kernel
theorem d_Mo_shiftedLeft_59 : decode b_Mo_shiftedLeft 59 = .ok (.iaload, 1) := by decide +kernel
theorem d_Mo_shiftedLeft_60 : decode b_Mo_shiftedLeft 60 = .ok (.bipush 16, 2) := by decide +kernel
theorem d_Mo_shiftedLeft_62 : decode b_Mo_shiftedLeft 62 = .ok (.iload 5, 2) := by decide +kernel
theorem d_Mo_shiftedLeft_64 : decode b_Mo_shiftedLeft 64 = .ok (.isub, 1) := by decide +kernel
theorem d_Mo_shiftedLeft_65 : decode b_Mo_shiftedLeft 65 = .ok (.ishr, 1) := by decide +kernel
theorem d_Mo_shiftedLeft_66 : decode b_Mo_shiftedLeft 66 = .ok (.goto 4, 3) := by decide +kernel
theorem d_Mo_shiftedLeft_69 : decode b_Mo_shiftedLeft 69 = .ok (.iconst 0, 1) := by decide +kernel
theorem d_Mo_shiftedLeft_70 : decode b_Mo_shiftedLeft 70 = .ok (.ior, 1) := by decide +kernel
theorem d_Mo_shiftedLeft_71 : decode b_Mo_shiftedLeft 71 = .ok (.ldc 88, 2) := by decide +kernel
theorem d_Mo_shiftedLeft_73 : decode b_Mo_shiftedLeft 73 = .ok (.iand, 1) := by decide +kernel
theorem d_Mo_shiftedLeft_74 : decode b_Mo_shiftedLeft 74 = .ok (.iastore, 1) := by decide +kernel
theorem d_Mo_shiftedLeft_75 : decode b_Mo_shiftedLeft 75 = .ok (.iinc 6 (-1), 3) := by decide +kernel
theorem d_Mo_shiftedLeft_78 : decode b_Mo_shiftedLeft 78 = .ok (.goto (-57), 3) := by decide +kernel
theorem d_Mo_shiftedLeft_81 : decode b_Mo_shiftedLeft 81 = .ok (.iconst 0, 1) := by decide +kernel
theorem d_Mo_shiftedLeft_82 : decode b_Mo_shiftedLeft 82 = .ok (.istore 6, 2) := by decide +kernel
theorem d_Mo_shiftedLeft_84 : decode b_Mo_shiftedLeft 84 = .ok (.iload 6, 2) := by decide +kernel
theorem d_Mo_shiftedLeft_86 : decode b_Mo_shiftedLeft 86 = .ok (.iload 4, 2) := by decide +kernel
theorem d_Mo_shiftedLeft_88 : decode b_Mo_shiftedLeft 88 = .ok (.if_icmp .ge 14, 3) := by decide +kernel
theorem d_Mo_shiftedLeft_91 : decode b_Mo_shiftedLeft 91 = .ok (.aload_n 3, 1) := by decide +kernel
theorem d_Mo_shiftedLeft_92 : decode b_Mo_shiftedLeft 92 = .ok (.iload 6, 2) := by decide +kernel
theorem d_Mo_shiftedLeft_94 : decode b_Mo_shiftedLeft 94 = .ok (.iconst 0, 1) := by decide +kernel
theorem d_Mo_shiftedLeft_95 : decode b_Mo_shiftedLeft 95 = .ok (.iastore, 1) := by decide +kernel
theorem d_Mo_shiftedLeft_96 : decode b_Mo_shiftedLeft 96 = .ok (.iinc 6 1, 3) := by decide +kernel
theorem d_Mo_shiftedLeft_99 : decode b_Mo_shiftedLeft 99 = .ok (.goto (-15), 3) := by decide +kernel
theorem d_Mo_shiftedLeft_102 : decode b_Mo_shiftedLeft 102 = .ok (.aload_n 3, 1) := by decide +kernel
theorem d_Mo_shiftedLeft_103 : decode b_Mo_shiftedLeft 103 = .ok (.iload_n 1, 1) := by decide +kernel
theorem d_Mo_shiftedLeft_104 : decode b_Mo_shiftedLeft 104 = .ok (.iload 4, 2) := by decide +kernel
theorem d_Mo_shiftedLeft_106 : decode b_Mo_shiftedLeft 106 = .ok (.iadd, 1) := by decide +kernel
theorem d_Mo_shiftedLeft_107 : decode b_Mo_shiftedLeft 107 = .ok (.iconst 1, 1) := by decide +kernel
theorem d_Mo_shiftedLeft_108 : decode b_Mo_shiftedLeft 108 = .ok (.iadd, 1) := by decide +kernel
theorem d_Mo_shiftedLeft_109 : decode b_Mo_shiftedLeft 109 = .ok (.invokestatic 84, 3) := by decide +kernel
theorem d_Mo_shiftedLeft_112 : decode b_Mo_shiftedLeft 112 = .ok (.ireturn, 1) := by decide +kernel
theorem d_Mo_sign_0 : decode b_Mo_sign 0 = .ok (.aload_n 0, 1) := by decide +kernel
theorem d_Mo_sign_1 : decode b_Mo_sign 1 = .ok (.iconst 0, 1) := by decide +kernel
theorem d_Mo_sign_2 : decode b_Mo_sign 2 = .ok (.putfield 78, 3) := by decide +kernel
theorem d_Mo_sign_5 : decode b_Mo_sign 5 = .ok (.aload_n 0, 1) := by decide +kernel
theorem d_Mo_sign_6 : decode b_Mo_sign 6 = .ok (.iload_n 1, 1) := by decide +kernel
theorem d_Mo_sign_7 : decode b_Mo_sign 7 = .ok (.iload_n 2, 1) := by decide +kernel
theorem d_Mo_sign_8 : decode b_Mo_sign 8 = .ok (.invokevirtual 193, 3) := by decide +kernel
theorem d_Mo_sign_11 : decode b_Mo_sign 11 = .ok (.ifCond .ne 5, 3) := by decide +kernel
theorem d_Mo_sign_14 : decode b_Mo_sign 14 = .ok (.iconst 0, 1) := by decide +kernel
theorem d_Mo_sign_15 : decode b_Mo_sign 15 = .ok (.ireturn, 1) := by decide +kernel
theorem d_Mo_sign_16 : decode b_Mo_sign 16 = .ok (.iload_n 1, 1) := by decide +kernel
theorem d_Mo_sign_17 : decode b_Mo_sign 17 = .ok (.iconst 3, 1) := by decide +kernel
theorem d_Mo_sign_18 : decode b_Mo_sign 18 = .ok (.if_icmp .eq 14, 3) := by decide +kernel
theorem d_Mo_sign_21 : decode b_Mo_sign 21 = .ok (.iload_n 1, 1) := by decide +kernel
theorem d_Mo_sign_22 : decode b_Mo_sign 22 = .ok (.iconst 4, 1) := by decide +kernel
theorem d_Mo_sign_23 : decode b_Mo_sign 23 = .ok (.if_icmp .eq 9, 3) := by decide +kernel
theorem d_Mo_sign_26 : decode b_Mo_sign 26 = .ok (.iload_n 1, 1) := by decide +kernel
theorem d_Mo_sign_27 : decode b_Mo_sign 27 = .ok (.bipush 7, 2) := by decide +kernel
theorem d_Mo_sign_29 : decode b_Mo_sign 29 = .ok (.if_icmp .ne 43, 3) := by decide +kernel
theorem d_Mo_sign_32 : decode b_Mo_sign 32 = .ok (.iload_n 1, 1) := by decide +kernel
theorem d_Mo_sign_33 : decode b_Mo_sign 33 = .ok (.iconst 3, 1) := by decide +kernel
theorem d_Mo_sign_34 : decode b_Mo_sign 34 = .ok (.if_icmp .ne 11, 3) := by decide +kernel
theorem d_Mo_sign_37 : decode b_Mo_sign 37 = .ok (.aload_n 0, 1) := by decide +kernel
theorem d_Mo_sign_38 : decode b_Mo_sign 38 = .ok (.invokevirtual 213, 3) := by decide +kernel
theorem d_Mo_sign_41 : decode b_Mo_sign 41 = .ok (.pop2, 1) := by decide +kernel
theorem d_Mo_sign_42 : decode b_Mo_sign 42 = .ok (.goto 20, 3) := by decide +kernel
theorem d_Mo_sign_45 : decode b_Mo_sign 45 = .ok (.iload_n 1, 1) := by decide +kernel
theorem d_Mo_sign_46 : decode b_Mo_sign 46 = .ok (.iconst 4, 1) := by decide +kernel
theorem d_Mo_sign_47 : decode b_Mo_sign 47 = .ok (.if_icmp .ne 10, 3) := by decide +kernel
theorem d_Mo_sign_50 : decode b_Mo_sign 50 = .ok (.aload_n 0, 1) := by decide +kernel
theorem d_Mo_sign_51 : decode b_Mo_sign 51 = .ok (.invokevirtual 216, 3) := by decide +kernel
theorem d_Mo_sign_54 : decode b_Mo_sign 54 = .ok (.goto 8, 3) := by decide +kernel
theorem d_Mo_sign_57 : decode b_Mo_sign 57 = .ok (.aload_n 0, 1) := by decide +kernel
theorem d_Mo_sign_58 : decode b_Mo_sign 58 = .ok (.iload_n 2, 1) := by decide +kernel
theorem d_Mo_sign_59 : decode b_Mo_sign 59 = .ok (.invokevirtual 187, 3) := by decide +kernel
theorem d_Mo_sign_62 : decode b_Mo_sign 62 = .ok (.aload_n 0, 1) := by decide +kernel
theorem d_Mo_sign_63 : decode b_Mo_sign 63 = .ok (.iconst 0, 1) := by decide +kernel
theorem d_Mo_sign_64 : decode b_Mo_sign 64 = .ok (.putfield 78, 3) := by decide +kernel
theorem d_Mo_sign_67 : decode b_Mo_sign 67 = .ok (.aload_n 0, 1) := by decide +kernel
theorem d_Mo_sign_68 : decode b_Mo_sign 68 = .ok (.invokevirtual 152, 3) := by decide +kernel
theorem d_Mo_sign_71 : decode b_Mo_sign 71 = .ok (.ireturn, 1) := by decide +kernel
theorem d_Mo_sign_72 : decode b_Mo_sign 72 = .ok (.aload_n 0, 1) := by decide +kernel
theorem d_Mo_sign_73 : decode b_Mo_sign 73 = .ok (.iload_n 1, 1) := by decide +kernel
theorem d_Mo_sign_74 : decode b_Mo_sign 74 = .ok (.iload_n 2, 1) := by decide +kernel
theorem d_Mo_sign_75 : decode b_Mo_sign 75 = .ok (.invokevirtual 219, 3) := by decide +kernel
theorem d_Mo_sign_78 : decode b_Mo_sign 78 = .ok (.dstore_n 3, 1) := by decide +kernel
theorem d_Mo_sign_79 : decode b_Mo_sign 79 = .ok (.aload_n 0, 1) := by decide +kernel
theorem d_Mo_sign_80 : decode b_Mo_sign 80 = .ok (.getfield 78, 3) := by decide +kernel
theorem d_Mo_sign_83 : decode b_Mo_sign 83 = .ok (.ifCond .ne 9, 3) := by decide +kernel
theorem d_Mo_sign_86 : decode b_Mo_sign 86 = .ok (.dload_n 3, 1) := by decide +kernel
theorem d_Mo_sign_87 : decode b_Mo_sign 87 = .ok (.dconst 0, 1) := by decide +kernel
theorem d_Mo_sign_88 : decode b_Mo_sign 88 = .ok (.dcmp .l, 1) := by decide +kernel
theorem d_Mo_sign_89 : decode b_Mo_sign 89 = .ok (.ifCond .le 7, 3) := by decide +kernel
theorem d_Mo_sign_92 : decode b_Mo_sign 92 = .ok (.iconst 1, 1) := by decide +kernel
theorem d_Mo_sign_93 : decode b_Mo_sign 93 = .ok (.goto 4, 3) := by decide +kernel
theorem d_Mo_sign_96 : decode b_Mo_sign 96 = .ok (.iconst 0, 1) := by decide +kernel
theorem d_Mo_sign_97 : decode b_Mo_sign 97 = .ok (.istore 5, 2) := by decide +kernel
theorem d_Mo_sign_99 : decode b_Mo_sign 99 = .ok (.aload_n 0, 1) := by decide +kernel
theorem d_Mo_sign_100 : decode b_Mo_sign 100 = .ok (.iconst 0, 1) := by decide +kernel
theorem d_Mo_sign_101 : decode b_Mo_sign 101 = .ok (.putfield 78, 3) := by decide +kernel
theorem d_Mo_sign_104 : decode b_Mo_sign 104 = .ok (.iload 5, 2) := by decide +kernel
theorem d_Mo_sign_106 : decode b_Mo_sign 106 = .ok (.ireturn, 1) := by decide +kernel
theorem d_Mo_signOfSum_0 : decode b_Mo_signOfSum 0 = .ok (.aload_n 0, 1) := by decide +kernel
theorem d_Mo_signOfSum_1 : decode b_Mo_signOfSum 1 = .ok (.getfield 56, 3) := by decide +kernel
theorem d_Mo_signOfSum_4 : decode b_Mo_signOfSum 4 = .ok (.sipush 439, 3) := by decide +kernel
theorem d_Mo_signOfSum_7 : decode b_Mo_signOfSum 7 = .ok (.iaload, 1) := by decide +kernel
theorem d_Mo_signOfSum_8 : decode b_Mo_signOfSum 8 = .ok (.ldc 151, 2) := by decide +kernel
theorem d_Mo_signOfSum_10 : decode b_Mo_signOfSum 10 = .ok (.iand, 1) := by decide +kernel
theorem d_Mo_signOfSum_11 : decode b_Mo_signOfSum 11 = .ok (.ifCond .eq 5, 3) := by decide +kernel
theorem d_Mo_signOfSum_14 : decode b_Mo_signOfSum 14 = .ok (.iconst (-1), 1) := by decide +kernel
theorem d_Mo_signOfSum_15 : decode b_Mo_signOfSum 15 = .ok (.ireturn, 1) := by decide +kernel
theorem d_Mo_signOfSum_16 : decode b_Mo_signOfSum 16 = .ok (.iconst 0, 1) := by decide +kernel
theorem d_Mo_signOfSum_17 : decode b_Mo_signOfSum 17 = .ok (.istore_n 1, 1) := by decide +kernel
theorem d_Mo_signOfSum_18 : decode b_Mo_signOfSum 18 = .ok (.iload_n 1, 1) := by decide +kernel
theorem d_Mo_signOfSum_19 : decode b_Mo_signOfSum 19 = .ok (.sipush 440, 3) := by decide +kernel
theorem d_Mo_signOfSum_22 : decode b_Mo_signOfSum 22 = .ok (.if_icmp .ge 20, 3) := by decide +kernel
theorem d_Mo_signOfSum_25 : decode b_Mo_signOfSum 25 = .ok (.aload_n 0, 1) := by decide +kernel
theorem d_Mo_signOfSum_26 : decode b_Mo_signOfSum 26 = .ok (.getfield 56, 3) := by decide +kernel
theorem d_Mo_signOfSum_29 : decode b_Mo_signOfSum 29 = .ok (.iload_n 1, 1) := by decide +kernel
theorem d_Mo_signOfSum_30 : decode b_Mo_signOfSum 30 = .ok (.iaload, 1) := by decide +kernel
theorem d_Mo_signOfSum_31 : decode b_Mo_signOfSum 31 = .ok (.ifCond .eq 5, 3) := by decide +kernel
theorem d_Mo_signOfSum_34 : decode b_Mo_signOfSum 34 = .ok (.iconst 1, 1) := by decide +kernel
theorem d_Mo_signOfSum_35 : decode b_Mo_signOfSum 35 = .ok (.ireturn, 1) := by decide +kernel
theorem d_Mo_signOfSum_36 : decode b_Mo_signOfSum 36 = .ok (.iinc 1 1, 3) := by decide +kernel
theorem d_Mo_signOfSum_39 : decode b_Mo_signOfSum 39 = .ok (.goto (-21), 3) := by decide +kernel
theorem d_Mo_signOfSum_42 : decode b_Mo_signOfSum 42 = .ok (.iconst 0, 1) := by decide +kernel
theorem d_Mo_signOfSum_43 : decode b_Mo_signOfSum 43 = .ok (.ireturn, 1) := by decide +kernel
