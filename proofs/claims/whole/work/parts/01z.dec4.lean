theorem d_La_pair_0 : decode b_La_pair 0 = .ok (.aload 5, 2) := by decide +kernel
theorem d_La_pair_2 : decode b_La_pair 2 = .ok (.iconst 0, 1) := by decide +kernel
theorem d_La_pair_3 : decode b_La_pair 3 = .ok (.aload_n 0, 1) := by decide +kernel
theorem d_La_pair_4 : decode b_La_pair 4 = .ok (.iload_n 1, 1) := by decide +kernel
theorem d_La_pair_5 : decode b_La_pair 5 = .ok (.iload_n 2, 1) := by decide +kernel
theorem d_La_pair_6 : decode b_La_pair 6 = .ok (.dload_n 3, 1) := by decide +kernel
theorem d_La_pair_7 : decode b_La_pair 7 = .ok (.invokevirtual 31, 3) := by decide +kernel
theorem d_La_pair_10 : decode b_La_pair 10 = .ok (.i2l, 1) := by decide +kernel
theorem d_La_pair_11 : decode b_La_pair 11 = .ok (.lastore, 1) := by decide +kernel
theorem d_La_pair_12 : decode b_La_pair 12 = .ok (.goto 15, 3) := by decide +kernel
theorem d_La_pair_15 : decode b_La_pair 15 = .ok (.astore 6, 2) := by decide +kernel
theorem d_La_pair_17 : decode b_La_pair 17 = .ok (.iconst 1, 1) := by decide +kernel
theorem d_La_pair_18 : decode b_La_pair 18 = .ok (.ireturn, 1) := by decide +kernel
theorem d_La_pair_19 : decode b_La_pair 19 = .ok (.astore 6, 2) := by decide +kernel
theorem d_La_pair_21 : decode b_La_pair 21 = .ok (.iconst 2, 1) := by decide +kernel
theorem d_La_pair_22 : decode b_La_pair 22 = .ok (.ireturn, 1) := by decide +kernel
theorem d_La_pair_23 : decode b_La_pair 23 = .ok (.astore 6, 2) := by decide +kernel
theorem d_La_pair_25 : decode b_La_pair 25 = .ok (.iconst 3, 1) := by decide +kernel
theorem d_La_pair_26 : decode b_La_pair 26 = .ok (.ireturn, 1) := by decide +kernel
theorem d_La_pair_27 : decode b_La_pair 27 = .ok (.iconst 0, 1) := by decide +kernel
theorem d_La_pair_28 : decode b_La_pair 28 = .ok (.ireturn, 1) := by decide +kernel
theorem d_La_row_0 : decode b_La_row 0 = .ok (.aload 6, 2) := by decide +kernel
theorem d_La_row_2 : decode b_La_row 2 = .ok (.iconst 0, 1) := by decide +kernel
theorem d_La_row_3 : decode b_La_row 3 = .ok (.aload_n 0, 1) := by decide +kernel
theorem d_La_row_4 : decode b_La_row 4 = .ok (.iload_n 1, 1) := by decide +kernel
theorem d_La_row_5 : decode b_La_row 5 = .ok (.dload_n 2, 1) := by decide +kernel
theorem d_La_row_6 : decode b_La_row 6 = .ok (.dload 4, 2) := by decide +kernel
theorem d_La_row_8 : decode b_La_row 8 = .ok (.invokevirtual 15, 3) := by decide +kernel
theorem d_La_row_11 : decode b_La_row 11 = .ok (.i2l, 1) := by decide +kernel
theorem d_La_row_12 : decode b_La_row 12 = .ok (.lastore, 1) := by decide +kernel
theorem d_La_row_13 : decode b_La_row 13 = .ok (.goto 11, 3) := by decide +kernel
theorem d_La_row_16 : decode b_La_row 16 = .ok (.astore 7, 2) := by decide +kernel
theorem d_La_row_18 : decode b_La_row 18 = .ok (.iconst 1, 1) := by decide +kernel
theorem d_La_row_19 : decode b_La_row 19 = .ok (.ireturn, 1) := by decide +kernel
theorem d_La_row_20 : decode b_La_row 20 = .ok (.astore 7, 2) := by decide +kernel
theorem d_La_row_22 : decode b_La_row 22 = .ok (.iconst 2, 1) := by decide +kernel
theorem d_La_row_23 : decode b_La_row 23 = .ok (.ireturn, 1) := by decide +kernel
theorem d_La_row_24 : decode b_La_row 24 = .ok (.iconst 0, 1) := by decide +kernel
theorem d_La_row_25 : decode b_La_row 25 = .ok (.ireturn, 1) := by decide +kernel
theorem d_La_sign_0 : decode b_La_sign 0 = .ok (.aload_n 3, 1) := by decide +kernel
theorem d_La_sign_1 : decode b_La_sign 1 = .ok (.iconst 0, 1) := by decide +kernel
theorem d_La_sign_2 : decode b_La_sign 2 = .ok (.aload_n 0, 1) := by decide +kernel
theorem d_La_sign_3 : decode b_La_sign 3 = .ok (.iload_n 1, 1) := by decide +kernel
theorem d_La_sign_4 : decode b_La_sign 4 = .ok (.iload_n 2, 1) := by decide +kernel
theorem d_La_sign_5 : decode b_La_sign 5 = .ok (.invokevirtual 47, 3) := by decide +kernel
theorem d_La_sign_8 : decode b_La_sign 8 = .ok (.i2l, 1) := by decide +kernel
theorem d_La_sign_9 : decode b_La_sign 9 = .ok (.lastore, 1) := by decide +kernel
theorem d_La_sign_10 : decode b_La_sign 10 = .ok (.goto 11, 3) := by decide +kernel
theorem d_La_sign_13 : decode b_La_sign 13 = .ok (.astore 4, 2) := by decide +kernel
theorem d_La_sign_15 : decode b_La_sign 15 = .ok (.iconst 1, 1) := by decide +kernel
theorem d_La_sign_16 : decode b_La_sign 16 = .ok (.ireturn, 1) := by decide +kernel
theorem d_La_sign_17 : decode b_La_sign 17 = .ok (.astore 4, 2) := by decide +kernel
theorem d_La_sign_19 : decode b_La_sign 19 = .ok (.iconst 2, 1) := by decide +kernel
theorem d_La_sign_20 : decode b_La_sign 20 = .ok (.ireturn, 1) := by decide +kernel
theorem d_La_sign_21 : decode b_La_sign 21 = .ok (.iconst 0, 1) := by decide +kernel
theorem d_La_sign_22 : decode b_La_sign 22 = .ok (.ireturn, 1) := by decide +kernel
theorem d_La_x_0 : decode b_La_x 0 = .ok (.aload_n 0, 1) := by decide +kernel
theorem d_La_x_1 : decode b_La_x 1 = .ok (.iload_n 1, 1) := by decide +kernel
theorem d_La_x_2 : decode b_La_x 2 = .ok (.dload_n 2, 1) := by decide +kernel
theorem d_La_x_3 : decode b_La_x 3 = .ok (.iload 4, 2) := by decide +kernel
theorem d_La_x_5 : decode b_La_x 5 = .ok (.invokevirtual 34, 3) := by decide +kernel
theorem d_La_x_8 : decode b_La_x 8 = .ok (.goto 11, 3) := by decide +kernel
theorem d_La_x_11 : decode b_La_x 11 = .ok (.astore 5, 2) := by decide +kernel
theorem d_La_x_13 : decode b_La_x 13 = .ok (.iconst 1, 1) := by decide +kernel
theorem d_La_x_14 : decode b_La_x 14 = .ok (.ireturn, 1) := by decide +kernel
theorem d_La_x_15 : decode b_La_x 15 = .ok (.astore 5, 2) := by decide +kernel
theorem d_La_x_17 : decode b_La_x 17 = .ok (.iconst 2, 1) := by decide +kernel
theorem d_La_x_18 : decode b_La_x 18 = .ok (.ireturn, 1) := by decide +kernel
theorem d_La_x_19 : decode b_La_x 19 = .ok (.iconst 0, 1) := by decide +kernel
theorem d_La_x_20 : decode b_La_x 20 = .ok (.ireturn, 1) := by decide +kernel
theorem d_La_y_0 : decode b_La_y 0 = .ok (.aload_n 0, 1) := by decide +kernel
theorem d_La_y_1 : decode b_La_y 1 = .ok (.iload_n 1, 1) := by decide +kernel
theorem d_La_y_2 : decode b_La_y 2 = .ok (.dload_n 2, 1) := by decide +kernel
theorem d_La_y_3 : decode b_La_y 3 = .ok (.iload 4, 2) := by decide +kernel
theorem d_La_y_5 : decode b_La_y 5 = .ok (.invokevirtual 38, 3) := by decide +kernel
theorem d_La_y_8 : decode b_La_y 8 = .ok (.goto 11, 3) := by decide +kernel
theorem d_La_y_11 : decode b_La_y 11 = .ok (.astore 5, 2) := by decide +kernel
theorem d_La_y_13 : decode b_La_y 13 = .ok (.iconst 1, 1) := by decide +kernel
theorem d_La_y_14 : decode b_La_y 14 = .ok (.ireturn, 1) := by decide +kernel
theorem d_La_y_15 : decode b_La_y 15 = .ok (.astore 5, 2) := by decide +kernel
theorem d_La_y_17 : decode b_La_y 17 = .ok (.iconst 2, 1) := by decide +kernel
theorem d_La_y_18 : decode b_La_y 18 = .ok (.ireturn, 1) := by decide +kernel
theorem d_La_y_19 : decode b_La_y 19 = .ok (.iconst 0, 1) := by decide +kernel
theorem d_La_y_20 : decode b_La_y 20 = .ok (.ireturn, 1) := by decide +kernel
theorem d_Mo_init_0 : decode b_Mo_init 0 = .ok (.aload_n 0, 1) := by decide +kernel
theorem d_Mo_init_1 : decode b_Mo_init 1 = .ok (.invokespecial 1, 3) := by decide +kernel
theorem d_Mo_init_4 : decode b_Mo_init 4 = .ok (.aload_n 0, 1) := by decide +kernel
theorem d_Mo_init_5 : decode b_Mo_init 5 = .ok (.sipush 192, 3) := by decide +kernel
theorem d_Mo_init_8 : decode b_Mo_init 8 = .ok (.newarray .double, 2) := by decide +kernel
theorem d_Mo_init_10 : decode b_Mo_init 10 = .ok (.putfield 9, 3) := by decide +kernel
theorem d_Mo_init_13 : decode b_Mo_init 13 = .ok (.aload_n 0, 1) := by decide +kernel
theorem d_Mo_init_14 : decode b_Mo_init 14 = .ok (.bipush 16, 2) := by decide +kernel
theorem d_Mo_init_16 : decode b_Mo_init 16 = .ok (.newarray .double, 2) := by decide +kernel
theorem d_Mo_init_18 : decode b_Mo_init 18 = .ok (.putfield 13, 3) := by decide +kernel
theorem d_Mo_init_21 : decode b_Mo_init 21 = .ok (.aload_n 0, 1) := by decide +kernel
theorem d_Mo_init_22 : decode b_Mo_init 22 = .ok (.sipush 256, 3) := by decide +kernel
theorem d_Mo_init_25 : decode b_Mo_init 25 = .ok (.newarray .double, 2) := by decide +kernel
theorem d_Mo_init_27 : decode b_Mo_init 27 = .ok (.putfield 16, 3) := by decide +kernel
theorem d_Mo_init_30 : decode b_Mo_init 30 = .ok (.aload_n 0, 1) := by decide +kernel
theorem d_Mo_init_31 : decode b_Mo_init 31 = .ok (.bipush 16, 2) := by decide +kernel
theorem d_Mo_init_33 : decode b_Mo_init 33 = .ok (.newarray .double, 2) := by decide +kernel
theorem d_Mo_init_35 : decode b_Mo_init 35 = .ok (.putfield 19, 3) := by decide +kernel
theorem d_Mo_init_38 : decode b_Mo_init 38 = .ok (.aload_n 0, 1) := by decide +kernel
theorem d_Mo_init_39 : decode b_Mo_init 39 = .ok (.bipush 16, 2) := by decide +kernel
theorem d_Mo_init_41 : decode b_Mo_init 41 = .ok (.newarray .double, 2) := by decide +kernel
theorem d_Mo_init_43 : decode b_Mo_init 43 = .ok (.putfield 22, 3) := by decide +kernel
theorem d_Mo_init_46 : decode b_Mo_init 46 = .ok (.aload_n 0, 1) := by decide +kernel
theorem d_Mo_init_47 : decode b_Mo_init 47 = .ok (.bipush 12, 2) := by decide +kernel
theorem d_Mo_init_49 : decode b_Mo_init 49 = .ok (.newarray .double, 2) := by decide +kernel
theorem d_Mo_init_51 : decode b_Mo_init 51 = .ok (.putfield 25, 3) := by decide +kernel
theorem d_Mo_init_54 : decode b_Mo_init 54 = .ok (.aload_n 0, 1) := by decide +kernel
theorem d_Mo_init_55 : decode b_Mo_init 55 = .ok (.bipush 12, 2) := by decide +kernel
theorem d_Mo_init_57 : decode b_Mo_init 57 = .ok (.newarray .double, 2) := by decide +kernel
theorem d_Mo_init_59 : decode b_Mo_init 59 = .ok (.putfield 28, 3) := by decide +kernel
theorem d_Mo_init_62 : decode b_Mo_init 62 = .ok (.aload_n 0, 1) := by decide +kernel
theorem d_Mo_init_63 : decode b_Mo_init 63 = .ok (.bipush 16, 2) := by decide +kernel
theorem d_Mo_init_65 : decode b_Mo_init 65 = .ok (.newarray .double, 2) := by decide +kernel
theorem d_Mo_init_67 : decode b_Mo_init 67 = .ok (.putfield 31, 3) := by decide +kernel
theorem d_Mo_init_70 : decode b_Mo_init 70 = .ok (.aload_n 0, 1) := by decide +kernel
theorem d_Mo_init_71 : decode b_Mo_init 71 = .ok (.bipush 12, 2) := by decide +kernel
theorem d_Mo_init_73 : decode b_Mo_init 73 = .ok (.newarray .double, 2) := by decide +kernel
theorem d_Mo_init_75 : decode b_Mo_init 75 = .ok (.putfield 34, 3) := by decide +kernel
theorem d_Mo_init_78 : decode b_Mo_init 78 = .ok (.aload_n 0, 1) := by decide +kernel
theorem d_Mo_init_79 : decode b_Mo_init 79 = .ok (.sipush 192, 3) := by decide +kernel
theorem d_Mo_init_82 : decode b_Mo_init 82 = .ok (.newarray .boolean, 2) := by decide +kernel
theorem d_Mo_init_84 : decode b_Mo_init 84 = .ok (.putfield 37, 3) := by decide +kernel
theorem d_Mo_init_87 : decode b_Mo_init 87 = .ok (.aload_n 0, 1) := by decide +kernel
theorem d_Mo_init_88 : decode b_Mo_init 88 = .ok (.sipush 256, 3) := by decide +kernel
theorem d_Mo_init_91 : decode b_Mo_init 91 = .ok (.newarray .boolean, 2) := by decide +kernel
theorem d_Mo_init_93 : decode b_Mo_init 93 = .ok (.putfield 41, 3) := by decide +kernel
theorem d_Mo_init_96 : decode b_Mo_init 96 = .ok (.aload_n 0, 1) := by decide +kernel
theorem d_Mo_init_97 : decode b_Mo_init 97 = .ok (.bipush 16, 2) := by decide +kernel
theorem d_Mo_init_99 : decode b_Mo_init 99 = .ok (.newarray .boolean, 2) := by decide +kernel
theorem d_Mo_init_101 : decode b_Mo_init 101 = .ok (.putfield 44, 3) := by decide +kernel
theorem d_Mo_init_104 : decode b_Mo_init 104 = .ok (.aload_n 0, 1) := by decide +kernel
theorem d_Mo_init_105 : decode b_Mo_init 105 = .ok (.bipush 16, 2) := by decide +kernel
theorem d_Mo_init_107 : decode b_Mo_init 107 = .ok (.newarray .boolean, 2) := by decide +kernel
theorem d_Mo_init_109 : decode b_Mo_init 109 = .ok (.putfield 47, 3) := by decide +kernel
theorem d_Mo_init_112 : decode b_Mo_init 112 = .ok (.aload_n 0, 1) := by decide +kernel
theorem d_Mo_init_113 : decode b_Mo_init 113 = .ok (.bipush 12, 2) := by decide +kernel
theorem d_Mo_init_115 : decode b_Mo_init 115 = .ok (.newarray .boolean, 2) := by decide +kernel
theorem d_Mo_init_117 : decode b_Mo_init 117 = .ok (.putfield 50, 3) := by decide +kernel
theorem d_Mo_init_120 : decode b_Mo_init 120 = .ok (.aload_n 0, 1) := by decide +kernel
theorem d_Mo_init_121 : decode b_Mo_init 121 = .ok (.bipush 12, 2) := by decide +kernel
theorem d_Mo_init_123 : decode b_Mo_init 123 = .ok (.newarray .boolean, 2) := by decide +kernel
theorem d_Mo_init_125 : decode b_Mo_init 125 = .ok (.putfield 53, 3) := by decide +kernel
theorem d_Mo_init_128 : decode b_Mo_init 128 = .ok (.aload_n 0, 1) := by decide +kernel
theorem d_Mo_init_129 : decode b_Mo_init 129 = .ok (.sipush 440, 3) := by decide +kernel
theorem d_Mo_init_132 : decode b_Mo_init 132 = .ok (.newarray .int, 2) := by decide +kernel
theorem d_Mo_init_134 : decode b_Mo_init 134 = .ok (.putfield 56, 3) := by decide +kernel
theorem d_Mo_init_137 : decode b_Mo_init 137 = .ok (.aload_n 0, 1) := by decide +kernel
theorem d_Mo_init_138 : decode b_Mo_init 138 = .ok (.sipush 440, 3) := by decide +kernel
theorem d_Mo_init_141 : decode b_Mo_init 141 = .ok (.newarray .int, 2) := by decide +kernel
theorem d_Mo_init_143 : decode b_Mo_init 143 = .ok (.putfield 60, 3) := by decide +kernel
theorem d_Mo_init_146 : decode b_Mo_init 146 = .ok (.aload_n 0, 1) := by decide +kernel
theorem d_Mo_init_147 : decode b_Mo_init 147 = .ok (.sipush 1200, 3) := by decide +kernel
theorem d_Mo_init_150 : decode b_Mo_init 150 = .ok (.newarray .int, 2) := by decide +kernel
theorem d_Mo_init_152 : decode b_Mo_init 152 = .ok (.putfield 63, 3) := by decide +kernel
theorem d_Mo_init_155 : decode b_Mo_init 155 = .ok (.aload_n 0, 1) := by decide +kernel
theorem d_Mo_init_156 : decode b_Mo_init 156 = .ok (.sipush 1200, 3) := by decide +kernel
theorem d_Mo_init_159 : decode b_Mo_init 159 = .ok (.newarray .int, 2) := by decide +kernel
theorem d_Mo_init_161 : decode b_Mo_init 161 = .ok (.putfield 66, 3) := by decide +kernel
theorem d_Mo_init_164 : decode b_Mo_init 164 = .ok (.aload_n 0, 1) := by decide +kernel
theorem d_Mo_init_165 : decode b_Mo_init 165 = .ok (.sipush 1200, 3) := by decide +kernel
theorem d_Mo_init_168 : decode b_Mo_init 168 = .ok (.newarray .int, 2) := by decide +kernel
theorem d_Mo_init_170 : decode b_Mo_init 170 = .ok (.putfield 69, 3) := by decide +kernel
theorem d_Mo_init_173 : decode b_Mo_init 173 = .ok (.aload_n 0, 1) := by decide +kernel
theorem d_Mo_init_174 : decode b_Mo_init 174 = .ok (.sipush 1200, 3) := by decide +kernel
theorem d_Mo_init_177 : decode b_Mo_init 177 = .ok (.newarray .int, 2) := by decide +kernel
theorem d_Mo_init_179 : decode b_Mo_init 179 = .ok (.putfield 72, 3) := by decide +kernel
theorem d_Mo_init_182 : decode b_Mo_init 182 = .ok (.aload_n 0, 1) := by decide +kernel
theorem d_Mo_init_183 : decode b_Mo_init 183 = .ok (.sipush 1200, 3) := by decide +kernel
theorem d_Mo_init_186 : decode b_Mo_init 186 = .ok (.newarray .int, 2) := by decide +kernel
theorem d_Mo_init_188 : decode b_Mo_init 188 = .ok (.putfield 75, 3) := by decide +kernel
theorem d_Mo_init_191 : decode b_Mo_init 191 = .ok (.return_, 1) := by decide +kernel
theorem d_Mo_abs_0 : decode b_Mo_abs 0 = .ok (.dload_n 0, 1) := by decide +kernel
theorem d_Mo_abs_1 : decode b_Mo_abs 1 = .ok (.dconst 0, 1) := by decide +kernel
theorem d_Mo_abs_2 : decode b_Mo_abs 2 = .ok (.dcmp .g, 1) := by decide +kernel
theorem d_Mo_abs_3 : decode b_Mo_abs 3 = .ok (.ifCond .ge 9, 3) := by decide +kernel
theorem d_Mo_abs_6 : decode b_Mo_abs 6 = .ok (.dconst 0, 1) := by decide +kernel
theorem d_Mo_abs_7 : decode b_Mo_abs 7 = .ok (.dload_n 0, 1) := by decide +kernel
theorem d_Mo_abs_8 : decode b_Mo_abs 8 = .ok (.dsub, 1) := by decide +kernel
theorem d_Mo_abs_9 : decode b_Mo_abs 9 = .ok (.goto 4, 3) := by decide +kernel
theorem d_Mo_abs_12 : decode b_Mo_abs 12 = .ok (.dload_n 0, 1) := by decide +kernel
theorem d_Mo_abs_13 : decode b_Mo_abs 13 = .ok (.dreturn, 1) := by decide +kernel
theorem d_Mo_activity_0 : decode b_Mo_activity 0 = .ok (.aload_n 0, 1) := by decide +kernel
theorem d_Mo_activity_1 : decode b_Mo_activity 1 = .ok (.invokevirtual 165, 3) := by decide +kernel
theorem d_Mo_activity_4 : decode b_Mo_activity 4 = .ok (.iconst 0, 1) := by decide +kernel
theorem d_Mo_activity_5 : decode b_Mo_activity 5 = .ok (.istore_n 2, 1) := by decide +kernel
theorem d_Mo_activity_6 : decode b_Mo_activity 6 = .ok (.iload_n 2, 1) := by decide +kernel
theorem d_Mo_activity_7 : decode b_Mo_activity 7 = .ok (.aload_n 0, 1) := by decide +kernel
theorem d_Mo_activity_8 : decode b_Mo_activity 8 = .ok (.getfield 130, 3) := by decide +kernel
theorem d_Mo_activity_11 : decode b_Mo_activity 11 = .ok (.if_icmp .ge 47, 3) := by decide +kernel
theorem d_Mo_activity_14 : decode b_Mo_activity 14 = .ok (.aload_n 0, 1) := by decide +kernel
theorem d_Mo_activity_15 : decode b_Mo_activity 15 = .ok (.getfield 37, 3) := by decide +kernel
theorem d_Mo_activity_18 : decode b_Mo_activity 18 = .ok (.bipush 16, 2) := by decide +kernel
theorem d_Mo_activity_20 : decode b_Mo_activity 20 = .ok (.iload_n 1, 1) := by decide +kernel
theorem d_Mo_activity_21 : decode b_Mo_activity 21 = .ok (.imul, 1) := by decide +kernel
theorem d_Mo_activity_22 : decode b_Mo_activity 22 = .ok (.iload_n 2, 1) := by decide +kernel
theorem d_Mo_activity_23 : decode b_Mo_activity 23 = .ok (.iadd, 1) := by decide +kernel
theorem d_Mo_activity_24 : decode b_Mo_activity 24 = .ok (.baload, 1) := by decide +kernel
theorem d_Mo_activity_25 : decode b_Mo_activity 25 = .ok (.ifCond .eq 27, 3) := by decide +kernel
theorem d_Mo_activity_28 : decode b_Mo_activity 28 = .ok (.aload_n 0, 1) := by decide +kernel
theorem d_Mo_activity_29 : decode b_Mo_activity 29 = .ok (.aload_n 0, 1) := by decide +kernel
theorem d_Mo_activity_30 : decode b_Mo_activity 30 = .ok (.getfield 9, 3) := by decide +kernel
theorem d_Mo_activity_33 : decode b_Mo_activity 33 = .ok (.bipush 16, 2) := by decide +kernel
theorem d_Mo_activity_35 : decode b_Mo_activity 35 = .ok (.iload_n 1, 1) := by decide +kernel
theorem d_Mo_activity_36 : decode b_Mo_activity 36 = .ok (.imul, 1) := by decide +kernel
theorem d_Mo_activity_37 : decode b_Mo_activity 37 = .ok (.iload_n 2, 1) := by decide +kernel
theorem d_Mo_activity_38 : decode b_Mo_activity 38 = .ok (.iadd, 1) := by decide +kernel
theorem d_Mo_activity_39 : decode b_Mo_activity 39 = .ok (.daload, 1) := by decide +kernel
theorem d_Mo_activity_40 : decode b_Mo_activity 40 = .ok (.aload_n 0, 1) := by decide +kernel
theorem d_Mo_activity_41 : decode b_Mo_activity 41 = .ok (.getfield 31, 3) := by decide +kernel
theorem d_Mo_activity_44 : decode b_Mo_activity 44 = .ok (.iload_n 2, 1) := by decide +kernel
theorem d_Mo_activity_45 : decode b_Mo_activity 45 = .ok (.daload, 1) := by decide +kernel
theorem d_Mo_activity_46 : decode b_Mo_activity 46 = .ok (.dconst 1, 1) := by decide +kernel
theorem d_Mo_activity_47 : decode b_Mo_activity 47 = .ok (.iconst 0, 1) := by decide +kernel
theorem d_Mo_activity_48 : decode b_Mo_activity 48 = .ok (.iconst 0, 1) := by decide +kernel
theorem d_Mo_activity_49 : decode b_Mo_activity 49 = .ok (.invokevirtual 168, 3) := by decide +kernel
theorem d_Mo_activity_52 : decode b_Mo_activity 52 = .ok (.iinc 2 1, 3) := by decide +kernel
theorem d_Mo_activity_55 : decode b_Mo_activity 55 = .ok (.goto (-49), 3) := by decide +kernel
theorem d_Mo_activity_58 : decode b_Mo_activity 58 = .ok (.return_, 1) := by decide +kernel
theorem d_Mo_add_0 : decode b_Mo_add 0 = .ok (.dload_n 1, 1) := by decide +kernel
theorem d_Mo_add_1 : decode b_Mo_add 1 = .ok (.dconst 0, 1) := by decide +kernel
theorem d_Mo_add_2 : decode b_Mo_add 2 = .ok (.dcmp .g, 1) := by decide +kernel
theorem d_Mo_add_3 : decode b_Mo_add 3 = .ok (.ifCond .ge 7, 3) := by decide +kernel
theorem d_Mo_add_6 : decode b_Mo_add 6 = .ok (.iconst 1, 1) := by decide +kernel
theorem d_Mo_add_7 : decode b_Mo_add 7 = .ok (.goto 4, 3) := by decide +kernel
theorem d_Mo_add_10 : decode b_Mo_add 10 = .ok (.iconst 0, 1) := by decide +kernel
theorem d_Mo_add_11 : decode b_Mo_add 11 = .ok (.dload_n 3, 1) := by decide +kernel
theorem d_Mo_add_12 : decode b_Mo_add 12 = .ok (.dconst 0, 1) := by decide +kernel
theorem d_Mo_add_13 : decode b_Mo_add 13 = .ok (.dcmp .g, 1) := by decide +kernel
theorem d_Mo_add_14 : decode b_Mo_add 14 = .ok (.ifCond .ge 7, 3) := by decide +kernel
theorem d_Mo_add_17 : decode b_Mo_add 17 = .ok (.iconst 1, 1) := by decide +kernel
theorem d_Mo_add_18 : decode b_Mo_add 18 = .ok (.goto 4, 3) := by decide +kernel
theorem d_Mo_add_21 : decode b_Mo_add 21 = .ok (.iconst 0, 1) := by decide +kernel
theorem d_Mo_add_22 : decode b_Mo_add 22 = .ok (.if_icmp .eq 7, 3) := by decide +kernel
theorem d_Mo_add_25 : decode b_Mo_add 25 = .ok (.iconst 1, 1) := by decide +kernel
theorem d_Mo_add_26 : decode b_Mo_add 26 = .ok (.goto 4, 3) := by decide +kernel
theorem d_Mo_add_29 : decode b_Mo_add 29 = .ok (.iconst 0, 1) := by decide +kernel
theorem d_Mo_add_30 : decode b_Mo_add 30 = .ok (.dload 5, 2) := by decide +kernel
theorem d_Mo_add_32 : decode b_Mo_add 32 = .ok (.dconst 0, 1) := by decide +kernel
theorem d_Mo_add_33 : decode b_Mo_add 33 = .ok (.dcmp .g, 1) := by decide +kernel
theorem d_Mo_add_34 : decode b_Mo_add 34 = .ok (.ifCond .ge 7, 3) := by decide +kernel
theorem d_Mo_add_37 : decode b_Mo_add 37 = .ok (.iconst 1, 1) := by decide +kernel
theorem d_Mo_add_38 : decode b_Mo_add 38 = .ok (.goto 4, 3) := by decide +kernel
theorem d_Mo_add_41 : decode b_Mo_add 41 = .ok (.iconst 0, 1) := by decide +kernel
theorem d_Mo_add_42 : decode b_Mo_add 42 = .ok (.if_icmp .eq 7, 3) := by decide +kernel
theorem d_Mo_add_45 : decode b_Mo_add 45 = .ok (.iconst 1, 1) := by decide +kernel
theorem d_Mo_add_46 : decode b_Mo_add 46 = .ok (.goto 4, 3) := by decide +kernel
theorem d_Mo_add_49 : decode b_Mo_add 49 = .ok (.iconst 0, 1) := by decide +kernel
theorem d_Mo_add_50 : decode b_Mo_add 50 = .ok (.iload 8, 2) := by decide +kernel
theorem d_Mo_add_52 : decode b_Mo_add 52 = .ok (.if_icmp .eq 7, 3) := by decide +kernel
theorem d_Mo_add_55 : decode b_Mo_add 55 = .ok (.iconst 1, 1) := by decide +kernel
theorem d_Mo_add_56 : decode b_Mo_add 56 = .ok (.goto 4, 3) := by decide +kernel
theorem d_Mo_add_59 : decode b_Mo_add 59 = .ok (.iconst 0, 1) := by decide +kernel
theorem d_Mo_add_60 : decode b_Mo_add 60 = .ok (.istore 9, 2) := by decide +kernel
theorem d_Mo_add_62 : decode b_Mo_add 62 = .ok (.aload_n 0, 1) := by decide +kernel
theorem d_Mo_add_63 : decode b_Mo_add 63 = .ok (.dload_n 1, 1) := by decide +kernel
theorem d_Mo_add_64 : decode b_Mo_add 64 = .ok (.aload_n 0, 1) := by decide +kernel
theorem d_Mo_add_65 : decode b_Mo_add 65 = .ok (.getfield 63, 3) := by decide +kernel
theorem d_Mo_add_68 : decode b_Mo_add 68 = .ok (.invokevirtual 139, 3) := by decide +kernel
theorem d_Mo_add_71 : decode b_Mo_add 71 = .ok (.istore 10, 2) := by decide +kernel
theorem d_Mo_add_73 : decode b_Mo_add 73 = .ok (.aload_n 0, 1) := by decide +kernel
theorem d_Mo_add_74 : decode b_Mo_add 74 = .ok (.getfield 89, 3) := by decide +kernel
theorem d_Mo_add_77 : decode b_Mo_add 77 = .ok (.istore 11, 2) := by decide +kernel
theorem d_Mo_add_79 : decode b_Mo_add 79 = .ok (.aload_n 0, 1) := by decide +kernel
theorem d_Mo_add_80 : decode b_Mo_add 80 = .ok (.dload_n 3, 1) := by decide +kernel
theorem d_Mo_add_81 : decode b_Mo_add 81 = .ok (.aload_n 0, 1) := by decide +kernel
theorem d_Mo_add_82 : decode b_Mo_add 82 = .ok (.getfield 66, 3) := by decide +kernel
theorem d_Mo_add_85 : decode b_Mo_add 85 = .ok (.invokevirtual 139, 3) := by decide +kernel
theorem d_Mo_add_88 : decode b_Mo_add 88 = .ok (.istore 12, 2) := by decide +kernel
theorem d_Mo_add_90 : decode b_Mo_add 90 = .ok (.iload 11, 2) := by decide +kernel
theorem d_Mo_add_92 : decode b_Mo_add 92 = .ok (.aload_n 0, 1) := by decide +kernel
theorem d_Mo_add_93 : decode b_Mo_add 93 = .ok (.getfield 89, 3) := by decide +kernel
theorem d_Mo_add_96 : decode b_Mo_add 96 = .ok (.iadd, 1) := by decide +kernel
theorem d_Mo_add_97 : decode b_Mo_add 97 = .ok (.istore 11, 2) := by decide +kernel
theorem d_Mo_add_99 : decode b_Mo_add 99 = .ok (.aload_n 0, 1) := by decide +kernel
theorem d_Mo_add_100 : decode b_Mo_add 100 = .ok (.dload 5, 2) := by decide +kernel
theorem d_Mo_add_102 : decode b_Mo_add 102 = .ok (.aload_n 0, 1) := by decide +kernel
theorem d_Mo_add_103 : decode b_Mo_add 103 = .ok (.getfield 69, 3) := by decide +kernel
theorem d_Mo_add_106 : decode b_Mo_add 106 = .ok (.invokevirtual 139, 3) := by decide +kernel
theorem d_Mo_add_109 : decode b_Mo_add 109 = .ok (.istore 13, 2) := by decide +kernel
theorem d_Mo_add_111 : decode b_Mo_add 111 = .ok (.iload 11, 2) := by decide +kernel
theorem d_Mo_add_113 : decode b_Mo_add 113 = .ok (.aload_n 0, 1) := by decide +kernel
theorem d_Mo_add_114 : decode b_Mo_add 114 = .ok (.getfield 89, 3) := by decide +kernel
theorem d_Mo_add_117 : decode b_Mo_add 117 = .ok (.iload 7, 2) := by decide +kernel
theorem d_Mo_add_119 : decode b_Mo_add 119 = .ok (.iadd, 1) := by decide +kernel
theorem d_Mo_add_120 : decode b_Mo_add 120 = .ok (.sipush (-3400), 3) := by decide +kernel
theorem d_Mo_add_123 : decode b_Mo_add 123 = .ok (.isub, 1) := by decide +kernel
theorem d_Mo_add_124 : decode b_Mo_add 124 = .ok (.iadd, 1) := by decide +kernel
theorem d_Mo_add_125 : decode b_Mo_add 125 = .ok (.istore 11, 2) := by decide +kernel
theorem d_Mo_add_127 : decode b_Mo_add 127 = .ok (.aload_n 0, 1) := by decide +kernel
theorem d_Mo_add_128 : decode b_Mo_add 128 = .ok (.getfield 63, 3) := by decide +kernel
theorem d_Mo_add_131 : decode b_Mo_add 131 = .ok (.iload 10, 2) := by decide +kernel
theorem d_Mo_add_133 : decode b_Mo_add 133 = .ok (.aload_n 0, 1) := by decide +kernel
theorem d_Mo_add_134 : decode b_Mo_add 134 = .ok (.getfield 66, 3) := by decide +kernel
theorem d_Mo_add_137 : decode b_Mo_add 137 = .ok (.iload 12, 2) := by decide +kernel
theorem d_Mo_add_139 : decode b_Mo_add 139 = .ok (.aload_n 0, 1) := by decide +kernel
theorem d_Mo_add_140 : decode b_Mo_add 140 = .ok (.getfield 72, 3) := by decide +kernel
theorem d_Mo_add_143 : decode b_Mo_add 143 = .ok (.invokestatic 143, 3) := by decide +kernel
theorem d_Mo_add_146 : decode b_Mo_add 146 = .ok (.istore 10, 2) := by decide +kernel
theorem d_Mo_add_148 : decode b_Mo_add 148 = .ok (.aload_n 0, 1) := by decide +kernel
theorem d_Mo_add_149 : decode b_Mo_add 149 = .ok (.getfield 72, 3) := by decide +kernel
theorem d_Mo_add_152 : decode b_Mo_add 152 = .ok (.iload 10, 2) := by decide +kernel
theorem d_Mo_add_154 : decode b_Mo_add 154 = .ok (.aload_n 0, 1) := by decide +kernel
theorem d_Mo_add_155 : decode b_Mo_add 155 = .ok (.getfield 69, 3) := by decide +kernel
theorem d_Mo_add_158 : decode b_Mo_add 158 = .ok (.iload 13, 2) := by decide +kernel
theorem d_Mo_add_160 : decode b_Mo_add 160 = .ok (.aload_n 0, 1) := by decide +kernel
theorem d_Mo_add_161 : decode b_Mo_add 161 = .ok (.getfield 75, 3) := by decide +kernel
theorem d_Mo_add_164 : decode b_Mo_add 164 = .ok (.invokestatic 143, 3) := by decide +kernel
theorem d_Mo_add_167 : decode b_Mo_add 167 = .ok (.istore 10, 2) := by decide +kernel
theorem d_Mo_add_169 : decode b_Mo_add 169 = .ok (.iload 10, 2) := by decide +kernel
theorem d_Mo_add_171 : decode b_Mo_add 171 = .ok (.ifCond .ne 4, 3) := by decide +kernel
theorem d_Mo_add_174 : decode b_Mo_add 174 = .ok (.return_, 1) := by decide +kernel
theorem d_Mo_add_175 : decode b_Mo_add 175 = .ok (.aload_n 0, 1) := by decide +kernel
theorem d_Mo_add_176 : decode b_Mo_add 176 = .ok (.getfield 75, 3) := by decide +kernel
theorem d_Mo_add_179 : decode b_Mo_add 179 = .ok (.iload 10, 2) := by decide +kernel
theorem d_Mo_add_181 : decode b_Mo_add 181 = .ok (.iload 11, 2) := by decide +kernel
theorem d_Mo_add_183 : decode b_Mo_add 183 = .ok (.bipush 15, 2) := by decide +kernel
theorem d_Mo_add_185 : decode b_Mo_add 185 = .ok (.iand, 1) := by decide +kernel
theorem d_Mo_add_186 : decode b_Mo_add 186 = .ok (.aload_n 0, 1) := by decide +kernel
theorem d_Mo_add_187 : decode b_Mo_add 187 = .ok (.getfield 72, 3) := by decide +kernel
theorem d_Mo_add_190 : decode b_Mo_add 190 = .ok (.invokestatic 147, 3) := by decide +kernel
theorem d_Mo_add_193 : decode b_Mo_add 193 = .ok (.istore 10, 2) := by decide +kernel
theorem d_Mo_add_195 : decode b_Mo_add 195 = .ok (.iload 11, 2) := by decide +kernel
theorem d_Mo_add_197 : decode b_Mo_add 197 = .ok (.iconst 4, 1) := by decide +kernel
theorem d_Mo_add_198 : decode b_Mo_add 198 = .ok (.ishr, 1) := by decide +kernel
theorem d_Mo_add_199 : decode b_Mo_add 199 = .ok (.istore 14, 2) := by decide +kernel
theorem d_Mo_add_201 : decode b_Mo_add 201 = .ok (.iload 9, 2) := by decide +kernel
theorem d_Mo_add_203 : decode b_Mo_add 203 = .ok (.ifCond .eq 7, 3) := by decide +kernel
theorem d_Mo_add_206 : decode b_Mo_add 206 = .ok (.iconst 1, 1) := by decide +kernel
theorem d_Mo_add_207 : decode b_Mo_add 207 = .ok (.goto 4, 3) := by decide +kernel
theorem d_Mo_add_210 : decode b_Mo_add 210 = .ok (.iconst 0, 1) := by decide +kernel
theorem d_Mo_add_211 : decode b_Mo_add 211 = .ok (.istore 15, 2) := by decide +kernel
theorem d_Mo_add_213 : decode b_Mo_add 213 = .ok (.iload 14, 2) := by decide +kernel
theorem d_Mo_add_215 : decode b_Mo_add 215 = .ok (.istore 16, 2) := by decide +kernel
theorem d_Mo_add_217 : decode b_Mo_add 217 = .ok (.iload 16, 2) := by decide +kernel
theorem d_Mo_add_219 : decode b_Mo_add 219 = .ok (.sipush 440, 3) := by decide +kernel
theorem d_Mo_add_222 : decode b_Mo_add 222 = .ok (.if_icmp .ge 84, 3) := by decide +kernel
theorem d_Mo_add_225 : decode b_Mo_add 225 = .ok (.iload 16, 2) := by decide +kernel
theorem d_Mo_add_227 : decode b_Mo_add 227 = .ok (.iload 14, 2) := by decide +kernel
theorem d_Mo_add_229 : decode b_Mo_add 229 = .ok (.isub, 1) := by decide +kernel
theorem d_Mo_add_230 : decode b_Mo_add 230 = .ok (.iload 10, 2) := by decide +kernel
theorem d_Mo_add_232 : decode b_Mo_add 232 = .ok (.if_icmp .ge 16, 3) := by decide +kernel
theorem d_Mo_add_235 : decode b_Mo_add 235 = .ok (.aload_n 0, 1) := by decide +kernel
theorem d_Mo_add_236 : decode b_Mo_add 236 = .ok (.getfield 72, 3) := by decide +kernel
theorem d_Mo_add_239 : decode b_Mo_add 239 = .ok (.iload 16, 2) := by decide +kernel
theorem d_Mo_add_241 : decode b_Mo_add 241 = .ok (.iload 14, 2) := by decide +kernel
theorem d_Mo_add_243 : decode b_Mo_add 243 = .ok (.isub, 1) := by decide +kernel
theorem d_Mo_add_244 : decode b_Mo_add 244 = .ok (.iaload, 1) := by decide +kernel
theorem d_Mo_add_245 : decode b_Mo_add 245 = .ok (.goto 4, 3) := by decide +kernel
theorem d_Mo_add_248 : decode b_Mo_add 248 = .ok (.iconst 0, 1) := by decide +kernel
theorem d_Mo_add_249 : decode b_Mo_add 249 = .ok (.istore 17, 2) := by decide +kernel
theorem d_Mo_add_251 : decode b_Mo_add 251 = .ok (.iload 15, 2) := by decide +kernel
theorem d_Mo_add_253 : decode b_Mo_add 253 = .ok (.aload_n 0, 1) := by decide +kernel
theorem d_Mo_add_254 : decode b_Mo_add 254 = .ok (.getfield 56, 3) := by decide +kernel
theorem d_Mo_add_257 : decode b_Mo_add 257 = .ok (.iload 16, 2) := by decide +kernel
theorem d_Mo_add_259 : decode b_Mo_add 259 = .ok (.iaload, 1) := by decide +kernel
theorem d_Mo_add_260 : decode b_Mo_add 260 = .ok (.iload 9, 2) := by decide +kernel
theorem d_Mo_add_262 : decode b_Mo_add 262 = .ok (.ifCond .eq 13, 3) := by decide +kernel
theorem d_Mo_add_265 : decode b_Mo_add 265 = .ok (.iload 17, 2) := by decide +kernel
theorem d_Mo_add_267 : decode b_Mo_add 267 = .ok (.iconst (-1), 1) := by decide +kernel
theorem d_Mo_add_268 : decode b_Mo_add 268 = .ok (.ixor, 1) := by decide +kernel
theorem d_Mo_add_269 : decode b_Mo_add 269 = .ok (.ldc 88, 2) := by decide +kernel
theorem d_Mo_add_271 : decode b_Mo_add 271 = .ok (.iand, 1) := by decide +kernel
theorem d_Mo_add_272 : decode b_Mo_add 272 = .ok (.goto 5, 3) := by decide +kernel
theorem d_Mo_add_275 : decode b_Mo_add 275 = .ok (.iload 17, 2) := by decide +kernel
theorem d_Mo_add_277 : decode b_Mo_add 277 = .ok (.iadd, 1) := by decide +kernel
theorem d_Mo_add_278 : decode b_Mo_add 278 = .ok (.iadd, 1) := by decide +kernel
theorem d_Mo_add_279 : decode b_Mo_add 279 = .ok (.istore 15, 2) := by decide +kernel
theorem d_Mo_add_281 : decode b_Mo_add 281 = .ok (.aload_n 0, 1) := by decide +kernel
theorem d_Mo_add_282 : decode b_Mo_add 282 = .ok (.getfield 56, 3) := by decide +kernel
theorem d_Mo_add_285 : decode b_Mo_add 285 = .ok (.iload 16, 2) := by decide +kernel
theorem d_Mo_add_287 : decode b_Mo_add 287 = .ok (.iload 15, 2) := by decide +kernel
theorem d_Mo_add_289 : decode b_Mo_add 289 = .ok (.ldc 88, 2) := by decide +kernel
theorem d_Mo_add_291 : decode b_Mo_add 291 = .ok (.iand, 1) := by decide +kernel
theorem d_Mo_add_292 : decode b_Mo_add 292 = .ok (.iastore, 1) := by decide +kernel
theorem d_Mo_add_293 : decode b_Mo_add 293 = .ok (.iload 15, 2) := by decide +kernel
theorem d_Mo_add_295 : decode b_Mo_add 295 = .ok (.bipush 16, 2) := by decide +kernel
theorem d_Mo_add_297 : decode b_Mo_add 297 = .ok (.ishr, 1) := by decide +kernel
theorem d_Mo_add_298 : decode b_Mo_add 298 = .ok (.istore 15, 2) := by decide +kernel
theorem d_Mo_add_300 : decode b_Mo_add 300 = .ok (.iinc 16 1, 3) := by decide +kernel
theorem d_Mo_add_303 : decode b_Mo_add 303 = .ok (.goto (-86), 3) := by decide +kernel
theorem d_Mo_add_306 : decode b_Mo_add 306 = .ok (.return_, 1) := by decide +kernel
theorem d_Mo_asked_0 : decode b_Mo_asked 0 = .ok (.aload_n 0, 1) := by decide +kernel
theorem d_Mo_asked_1 : decode b_Mo_asked 1 = .ok (.iload_n 1, 1) := by decide +kernel
theorem d_Mo_asked_2 : decode b_Mo_asked 2 = .ok (.iconst 0, 1) := by decide +kernel
theorem d_Mo_asked_3 : decode b_Mo_asked 3 = .ok (.bipush 7, 2) := by decide +kernel
theorem d_Mo_asked_5 : decode b_Mo_asked 5 = .ok (.invokestatic 123, 3) := by decide +kernel
theorem d_Mo_asked_8 : decode b_Mo_asked 8 = .ok (.ifCond .ne 7, 3) := by decide +kernel
theorem d_Mo_asked_11 : decode b_Mo_asked 11 = .ok (.iconst 1, 1) := by decide +kernel
theorem d_Mo_asked_12 : decode b_Mo_asked 12 = .ok (.goto 4, 3) := by decide +kernel
theorem d_Mo_asked_15 : decode b_Mo_asked 15 = .ok (.iconst 0, 1) := by decide +kernel
theorem d_Mo_asked_16 : decode b_Mo_asked 16 = .ok (.iconst 1, 1) := by decide +kernel
theorem d_Mo_asked_17 : decode b_Mo_asked 17 = .ok (.invokevirtual 112, 3) := by decide +kernel
theorem d_Mo_asked_20 : decode b_Mo_asked 20 = .ok (.ifCond .ne 51, 3) := by decide +kernel
theorem d_Mo_asked_23 : decode b_Mo_asked 23 = .ok (.aload_n 0, 1) := by decide +kernel
theorem d_Mo_asked_24 : decode b_Mo_asked 24 = .ok (.iload_n 1, 1) := by decide +kernel
theorem d_Mo_asked_25 : decode b_Mo_asked 25 = .ok (.iconst 4, 1) := by decide +kernel
theorem d_Mo_asked_26 : decode b_Mo_asked 26 = .ok (.if_icmp .le 33, 3) := by decide +kernel
theorem d_Mo_asked_29 : decode b_Mo_asked 29 = .ok (.iload_n 2, 1) := by decide +kernel
theorem d_Mo_asked_30 : decode b_Mo_asked 30 = .ok (.iconst 0, 1) := by decide +kernel
theorem d_Mo_asked_31 : decode b_Mo_asked 31 = .ok (.iload_n 1, 1) := by decide +kernel
theorem d_Mo_asked_32 : decode b_Mo_asked 32 = .ok (.iconst 5, 1) := by decide +kernel
theorem d_Mo_asked_33 : decode b_Mo_asked 33 = .ok (.if_icmp .ne 10, 3) := by decide +kernel
theorem d_Mo_asked_36 : decode b_Mo_asked 36 = .ok (.aload_n 0, 1) := by decide +kernel
theorem d_Mo_asked_37 : decode b_Mo_asked 37 = .ok (.getfield 127, 3) := by decide +kernel
theorem d_Mo_asked_40 : decode b_Mo_asked 40 = .ok (.goto 7, 3) := by decide +kernel
theorem d_Mo_asked_43 : decode b_Mo_asked 43 = .ok (.aload_n 0, 1) := by decide +kernel
theorem d_Mo_asked_44 : decode b_Mo_asked 44 = .ok (.getfield 130, 3) := by decide +kernel
theorem d_Mo_asked_47 : decode b_Mo_asked 47 = .ok (.iconst 1, 1) := by decide +kernel
theorem d_Mo_asked_48 : decode b_Mo_asked 48 = .ok (.isub, 1) := by decide +kernel
theorem d_Mo_asked_49 : decode b_Mo_asked 49 = .ok (.invokestatic 123, 3) := by decide +kernel
theorem d_Mo_asked_52 : decode b_Mo_asked 52 = .ok (.ifCond .ne 7, 3) := by decide +kernel
theorem d_Mo_asked_55 : decode b_Mo_asked 55 = .ok (.iconst 1, 1) := by decide +kernel
theorem d_Mo_asked_56 : decode b_Mo_asked 56 = .ok (.goto 4, 3) := by decide +kernel
theorem d_Mo_asked_59 : decode b_Mo_asked 59 = .ok (.iconst 0, 1) := by decide +kernel
theorem d_Mo_asked_60 : decode b_Mo_asked 60 = .ok (.iconst 2, 1) := by decide +kernel
theorem d_Mo_asked_61 : decode b_Mo_asked 61 = .ok (.invokevirtual 112, 3) := by decide +kernel
theorem d_Mo_asked_64 : decode b_Mo_asked 64 = .ok (.ifCond .ne 7, 3) := by decide +kernel
theorem d_Mo_asked_67 : decode b_Mo_asked 67 = .ok (.iconst 1, 1) := by decide +kernel
theorem d_Mo_asked_68 : decode b_Mo_asked 68 = .ok (.goto 4, 3) := by decide +kernel
theorem d_Mo_asked_71 : decode b_Mo_asked 71 = .ok (.iconst 0, 1) := by decide +kernel
theorem d_Mo_asked_72 : decode b_Mo_asked 72 = .ok (.ireturn, 1) := by decide +kernel
theorem d_Mo_bits_0 : decode b_Mo_bits 0 = .ok (.iload_n 1, 1) := by decide +kernel
theorem d_Mo_bits_1 : decode b_Mo_bits 1 = .ok (.ifCond .ne 5, 3) := by decide +kernel
theorem d_Mo_bits_4 : decode b_Mo_bits 4 = .ok (.iconst 0, 1) := by decide +kernel
theorem d_Mo_bits_5 : decode b_Mo_bits 5 = .ok (.ireturn, 1) := by decide +kernel
theorem d_Mo_bits_6 : decode b_Mo_bits 6 = .ok (.bipush 16, 2) := by decide +kernel
theorem d_Mo_bits_8 : decode b_Mo_bits 8 = .ok (.iload_n 1, 1) := by decide +kernel
theorem d_Mo_bits_9 : decode b_Mo_bits 9 = .ok (.iconst 1, 1) := by decide +kernel
theorem d_Mo_bits_10 : decode b_Mo_bits 10 = .ok (.isub, 1) := by decide +kernel
theorem d_Mo_bits_11 : decode b_Mo_bits 11 = .ok (.imul, 1) := by decide +kernel
theorem d_Mo_bits_12 : decode b_Mo_bits 12 = .ok (.istore_n 2, 1) := by decide +kernel
theorem d_Mo_bits_13 : decode b_Mo_bits 13 = .ok (.aload_n 0, 1) := by decide +kernel
theorem d_Mo_bits_14 : decode b_Mo_bits 14 = .ok (.iload_n 1, 1) := by decide +kernel
theorem d_Mo_bits_15 : decode b_Mo_bits 15 = .ok (.iconst 1, 1) := by decide +kernel
theorem d_Mo_bits_16 : decode b_Mo_bits 16 = .ok (.isub, 1) := by decide +kernel
theorem d_Mo_bits_17 : decode b_Mo_bits 17 = .ok (.iaload, 1) := by decide +kernel
theorem d_Mo_bits_18 : decode b_Mo_bits 18 = .ok (.istore_n 3, 1) := by decide +kernel
theorem d_Mo_bits_19 : decode b_Mo_bits 19 = .ok (.iload_n 3, 1) := by decide +kernel
theorem d_Mo_bits_20 : decode b_Mo_bits 20 = .ok (.ifCond .eq 13, 3) := by decide +kernel
theorem d_Mo_bits_23 : decode b_Mo_bits 23 = .ok (.iinc 2 1, 3) := by decide +kernel
theorem d_Mo_bits_26 : decode b_Mo_bits 26 = .ok (.iload_n 3, 1) := by decide +kernel
theorem d_Mo_bits_27 : decode b_Mo_bits 27 = .ok (.iconst 1, 1) := by decide +kernel
theorem d_Mo_bits_28 : decode b_Mo_bits 28 = .ok (.iushr, 1) := by decide +kernel
theorem d_Mo_bits_29 : decode b_Mo_bits 29 = .ok (.istore_n 3, 1) := by decide +kernel
theorem d_Mo_bits_30 : decode b_Mo_bits 30 = .ok (.goto (-11), 3) := by decide +kernel
theorem d_Mo_bits_33 : decode b_Mo_bits 33 = .ok (.iload_n 2, 1) := by decide +kernel
theorem d_Mo_bits_34 : decode b_Mo_bits 34 = .ok (.ireturn, 1) := by decide +kernel
theorem d_Mo_certify_0 : decode b_Mo_certify 0 = .ok (.aload_n 0, 1) := by decide +kernel
theorem d_Mo_certify_1 : decode b_Mo_certify 1 = .ok (.iconst 0, 1) := by decide +kernel
theorem d_Mo_certify_2 : decode b_Mo_certify 2 = .ok (.putfield 78, 3) := by decide +kernel
theorem d_Mo_certify_5 : decode b_Mo_certify 5 = .ok (.aload_n 0, 1) := by decide +kernel
theorem d_Mo_certify_6 : decode b_Mo_certify 6 = .ok (.iload_n 1, 1) := by decide +kernel
theorem d_Mo_certify_7 : decode b_Mo_certify 7 = .ok (.iload_n 2, 1) := by decide +kernel
theorem d_Mo_certify_8 : decode b_Mo_certify 8 = .ok (.invokevirtual 193, 3) := by decide +kernel
theorem d_Mo_certify_11 : decode b_Mo_certify 11 = .ok (.ifCond .ne 5, 3) := by decide +kernel
theorem d_Mo_certify_14 : decode b_Mo_certify 14 = .ok (.dconst 0, 1) := by decide +kernel
theorem d_Mo_certify_15 : decode b_Mo_certify 15 = .ok (.dreturn, 1) := by decide +kernel
theorem d_Mo_certify_16 : decode b_Mo_certify 16 = .ok (.dconst 0, 1) := by decide +kernel
theorem d_Mo_certify_17 : decode b_Mo_certify 17 = .ok (.dstore_n 3, 1) := by decide +kernel
theorem d_Mo_certify_18 : decode b_Mo_certify 18 = .ok (.iload_n 1, 1) := by decide +kernel
theorem d_Mo_certify_19 : decode b_Mo_certify 19 = .ok (.tableswitch 204 0 6 #[41, 73, 105, 166, 174, 186, 195], 41) := by decide +kernel
theorem d_Mo_certify_60 : decode b_Mo_certify 60 = .ok (.iconst 0, 1) := by decide +kernel
theorem d_Mo_certify_61 : decode b_Mo_certify 61 = .ok (.istore 5, 2) := by decide +kernel
theorem d_Mo_certify_63 : decode b_Mo_certify 63 = .ok (.iload 5, 2) := by decide +kernel
theorem d_Mo_certify_65 : decode b_Mo_certify 65 = .ok (.aload_n 0, 1) := by decide +kernel
theorem d_Mo_certify_66 : decode b_Mo_certify 66 = .ok (.getfield 127, 3) := by decide +kernel
theorem d_Mo_certify_69 : decode b_Mo_certify 69 = .ok (.if_icmp .ge 20, 3) := by decide +kernel
theorem d_Mo_certify_72 : decode b_Mo_certify 72 = .ok (.dload_n 3, 1) := by decide +kernel
theorem d_Mo_certify_73 : decode b_Mo_certify 73 = .ok (.aload_n 0, 1) := by decide +kernel
theorem d_Mo_certify_74 : decode b_Mo_certify 74 = .ok (.iload 5, 2) := by decide +kernel
theorem d_Mo_certify_76 : decode b_Mo_certify 76 = .ok (.invokevirtual 197, 3) := by decide +kernel
theorem d_Mo_certify_79 : decode b_Mo_certify 79 = .ok (.invokestatic 200, 3) := by decide +kernel
theorem d_Mo_certify_82 : decode b_Mo_certify 82 = .ok (.dstore_n 3, 1) := by decide +kernel
theorem d_Mo_certify_83 : decode b_Mo_certify 83 = .ok (.iinc 5 1, 3) := by decide +kernel
theorem d_Mo_certify_86 : decode b_Mo_certify 86 = .ok (.goto (-23), 3) := by decide +kernel
theorem d_Mo_certify_89 : decode b_Mo_certify 89 = .ok (.goto 144, 3) := by decide +kernel
theorem d_Mo_certify_92 : decode b_Mo_certify 92 = .ok (.iconst 0, 1) := by decide +kernel
theorem d_Mo_certify_93 : decode b_Mo_certify 93 = .ok (.istore 5, 2) := by decide +kernel
theorem d_Mo_certify_95 : decode b_Mo_certify 95 = .ok (.iload 5, 2) := by decide +kernel
theorem d_Mo_certify_97 : decode b_Mo_certify 97 = .ok (.aload_n 0, 1) := by decide +kernel
theorem d_Mo_certify_98 : decode b_Mo_certify 98 = .ok (.getfield 130, 3) := by decide +kernel
theorem d_Mo_certify_101 : decode b_Mo_certify 101 = .ok (.if_icmp .ge 20, 3) := by decide +kernel
theorem d_Mo_certify_104 : decode b_Mo_certify 104 = .ok (.dload_n 3, 1) := by decide +kernel
theorem d_Mo_certify_105 : decode b_Mo_certify 105 = .ok (.aload_n 0, 1) := by decide +kernel
theorem d_Mo_certify_106 : decode b_Mo_certify 106 = .ok (.iload 5, 2) := by decide +kernel
theorem d_Mo_certify_108 : decode b_Mo_certify 108 = .ok (.invokevirtual 204, 3) := by decide +kernel
theorem d_Mo_certify_111 : decode b_Mo_certify 111 = .ok (.invokestatic 200, 3) := by decide +kernel
theorem d_Mo_certify_114 : decode b_Mo_certify 114 = .ok (.dstore_n 3, 1) := by decide +kernel
theorem d_Mo_certify_115 : decode b_Mo_certify 115 = .ok (.iinc 5 1, 3) := by decide +kernel
theorem d_Mo_certify_118 : decode b_Mo_certify 118 = .ok (.goto (-23), 3) := by decide +kernel
theorem d_Mo_certify_121 : decode b_Mo_certify 121 = .ok (.goto 112, 3) := by decide +kernel
theorem d_Mo_certify_124 : decode b_Mo_certify 124 = .ok (.iconst 0, 1) := by decide +kernel
theorem d_Mo_certify_125 : decode b_Mo_certify 125 = .ok (.istore 5, 2) := by decide +kernel
theorem d_Mo_certify_127 : decode b_Mo_certify 127 = .ok (.iload 5, 2) := by decide +kernel
theorem d_Mo_certify_129 : decode b_Mo_certify 129 = .ok (.aload_n 0, 1) := by decide +kernel
theorem d_Mo_certify_130 : decode b_Mo_certify 130 = .ok (.getfield 130, 3) := by decide +kernel
theorem d_Mo_certify_133 : decode b_Mo_certify 133 = .ok (.if_icmp .ge 20, 3) := by decide +kernel
theorem d_Mo_certify_136 : decode b_Mo_certify 136 = .ok (.dload_n 3, 1) := by decide +kernel
theorem d_Mo_certify_137 : decode b_Mo_certify 137 = .ok (.aload_n 0, 1) := by decide +kernel
theorem d_Mo_certify_138 : decode b_Mo_certify 138 = .ok (.iload 5, 2) := by decide +kernel
theorem d_Mo_certify_140 : decode b_Mo_certify 140 = .ok (.invokevirtual 207, 3) := by decide +kernel
theorem d_Mo_certify_143 : decode b_Mo_certify 143 = .ok (.invokestatic 200, 3) := by decide +kernel
theorem d_Mo_certify_146 : decode b_Mo_certify 146 = .ok (.dstore_n 3, 1) := by decide +kernel
theorem d_Mo_certify_147 : decode b_Mo_certify 147 = .ok (.iinc 5 1, 3) := by decide +kernel
theorem d_Mo_certify_150 : decode b_Mo_certify 150 = .ok (.goto (-23), 3) := by decide +kernel
theorem d_Mo_certify_153 : decode b_Mo_certify 153 = .ok (.iconst 0, 1) := by decide +kernel
theorem d_Mo_certify_154 : decode b_Mo_certify 154 = .ok (.istore 5, 2) := by decide +kernel
theorem d_Mo_certify_156 : decode b_Mo_certify 156 = .ok (.iload 5, 2) := by decide +kernel
theorem d_Mo_certify_158 : decode b_Mo_certify 158 = .ok (.aload_n 0, 1) := by decide +kernel
theorem d_Mo_certify_159 : decode b_Mo_certify 159 = .ok (.getfield 127, 3) := by decide +kernel
theorem d_Mo_certify_162 : decode b_Mo_certify 162 = .ok (.if_icmp .ge 20, 3) := by decide +kernel
theorem d_Mo_certify_165 : decode b_Mo_certify 165 = .ok (.dload_n 3, 1) := by decide +kernel
theorem d_Mo_certify_166 : decode b_Mo_certify 166 = .ok (.aload_n 0, 1) := by decide +kernel
theorem d_Mo_certify_167 : decode b_Mo_certify 167 = .ok (.iload 5, 2) := by decide +kernel
theorem d_Mo_certify_169 : decode b_Mo_certify 169 = .ok (.invokevirtual 210, 3) := by decide +kernel
theorem d_Mo_certify_172 : decode b_Mo_certify 172 = .ok (.invokestatic 200, 3) := by decide +kernel
theorem d_Mo_certify_175 : decode b_Mo_certify 175 = .ok (.dstore_n 3, 1) := by decide +kernel
theorem d_Mo_certify_176 : decode b_Mo_certify 176 = .ok (.iinc 5 1, 3) := by decide +kernel
theorem d_Mo_certify_179 : decode b_Mo_certify 179 = .ok (.goto (-23), 3) := by decide +kernel
theorem d_Mo_certify_182 : decode b_Mo_certify 182 = .ok (.goto 51, 3) := by decide +kernel
theorem d_Mo_certify_185 : decode b_Mo_certify 185 = .ok (.aload_n 0, 1) := by decide +kernel
theorem d_Mo_certify_186 : decode b_Mo_certify 186 = .ok (.invokevirtual 213, 3) := by decide +kernel
theorem d_Mo_certify_189 : decode b_Mo_certify 189 = .ok (.dstore_n 3, 1) := by decide +kernel
theorem d_Mo_certify_190 : decode b_Mo_certify 190 = .ok (.goto 43, 3) := by decide +kernel
theorem d_Mo_certify_193 : decode b_Mo_certify 193 = .ok (.aload_n 0, 1) := by decide +kernel
theorem d_Mo_certify_194 : decode b_Mo_certify 194 = .ok (.invokevirtual 216, 3) := by decide +kernel
theorem d_Mo_certify_197 : decode b_Mo_certify 197 = .ok (.aload_n 0, 1) := by decide +kernel
theorem d_Mo_certify_198 : decode b_Mo_certify 198 = .ok (.invokevirtual 175, 3) := by decide +kernel
theorem d_Mo_certify_201 : decode b_Mo_certify 201 = .ok (.dstore_n 3, 1) := by decide +kernel
theorem d_Mo_certify_202 : decode b_Mo_certify 202 = .ok (.goto 31, 3) := by decide +kernel
theorem d_Mo_certify_205 : decode b_Mo_certify 205 = .ok (.aload_n 0, 1) := by decide +kernel
theorem d_Mo_certify_206 : decode b_Mo_certify 206 = .ok (.iload_n 2, 1) := by decide +kernel
theorem d_Mo_certify_207 : decode b_Mo_certify 207 = .ok (.invokevirtual 197, 3) := by decide +kernel
theorem d_Mo_certify_210 : decode b_Mo_certify 210 = .ok (.dstore_n 3, 1) := by decide +kernel
theorem d_Mo_certify_211 : decode b_Mo_certify 211 = .ok (.goto 22, 3) := by decide +kernel
theorem d_Mo_certify_214 : decode b_Mo_certify 214 = .ok (.aload_n 0, 1) := by decide +kernel
theorem d_Mo_certify_215 : decode b_Mo_certify 215 = .ok (.iload_n 2, 1) := by decide +kernel
theorem d_Mo_certify_216 : decode b_Mo_certify 216 = .ok (.invokevirtual 204, 3) := by decide +kernel
theorem d_Mo_certify_219 : decode b_Mo_certify 219 = .ok (.dstore_n 3, 1) := by decide +kernel
theorem d_Mo_certify_220 : decode b_Mo_certify 220 = .ok (.goto 13, 3) := by decide +kernel
theorem d_Mo_certify_223 : decode b_Mo_certify 223 = .ok (.aload_n 0, 1) := by decide +kernel
theorem d_Mo_certify_224 : decode b_Mo_certify 224 = .ok (.iload_n 2, 1) := by decide +kernel
theorem d_Mo_certify_225 : decode b_Mo_certify 225 = .ok (.invokevirtual 187, 3) := by decide +kernel
theorem d_Mo_certify_228 : decode b_Mo_certify 228 = .ok (.aload_n 0, 1) := by decide +kernel
theorem d_Mo_certify_229 : decode b_Mo_certify 229 = .ok (.invokevirtual 175, 3) := by decide +kernel
theorem d_Mo_certify_232 : decode b_Mo_certify 232 = .ok (.dstore_n 3, 1) := by decide +kernel
theorem d_Mo_certify_233 : decode b_Mo_certify 233 = .ok (.aload_n 0, 1) := by decide +kernel
theorem d_Mo_certify_234 : decode b_Mo_certify 234 = .ok (.getfield 78, 3) := by decide +kernel
theorem d_Mo_certify_237 : decode b_Mo_certify 237 = .ok (.ifCond .eq 7, 3) := by decide +kernel
theorem d_Mo_certify_240 : decode b_Mo_certify 240 = .ok (.dconst 0, 1) := by decide +kernel
theorem d_Mo_certify_241 : decode b_Mo_certify 241 = .ok (.goto 4, 3) := by decide +kernel
theorem d_Mo_certify_244 : decode b_Mo_certify 244 = .ok (.dload_n 3, 1) := by decide +kernel
theorem d_Mo_certify_245 : decode b_Mo_certify 245 = .ok (.dreturn, 1) := by decide +kernel
theorem d_Mo_column_0 : decode b_Mo_column 0 = .ok (.aload_n 0, 1) := by decide +kernel
theorem d_Mo_column_1 : decode b_Mo_column 1 = .ok (.iconst 0, 1) := by decide +kernel
theorem d_Mo_column_2 : decode b_Mo_column 2 = .ok (.putfield 78, 3) := by decide +kernel
theorem d_Mo_column_5 : decode b_Mo_column 5 = .ok (.aload_n 0, 1) := by decide +kernel
theorem d_Mo_column_6 : decode b_Mo_column 6 = .ok (.iload_n 3, 1) := by decide +kernel
theorem d_Mo_column_7 : decode b_Mo_column 7 = .ok (.iconst 0, 1) := by decide +kernel
theorem d_Mo_column_8 : decode b_Mo_column 8 = .ok (.iconst 3, 1) := by decide +kernel
theorem d_Mo_column_9 : decode b_Mo_column 9 = .ok (.invokestatic 123, 3) := by decide +kernel
theorem d_Mo_column_12 : decode b_Mo_column 12 = .ok (.ifCond .eq 38, 3) := by decide +kernel
theorem d_Mo_column_15 : decode b_Mo_column 15 = .ok (.dload_n 1, 1) := by decide +kernel
theorem d_Mo_column_16 : decode b_Mo_column 16 = .ok (.invokestatic 108, 3) := by decide +kernel
theorem d_Mo_column_19 : decode b_Mo_column 19 = .ok (.ifCond .eq 31, 3) := by decide +kernel
theorem d_Mo_column_22 : decode b_Mo_column 22 = .ok (.iload_n 3, 1) := by decide +kernel
theorem d_Mo_column_23 : decode b_Mo_column 23 = .ok (.iconst 1, 1) := by decide +kernel
theorem d_Mo_column_24 : decode b_Mo_column 24 = .ok (.iand, 1) := by decide +kernel
theorem d_Mo_column_25 : decode b_Mo_column 25 = .ok (.ifCond .eq 11, 3) := by decide +kernel
theorem d_Mo_column_28 : decode b_Mo_column 28 = .ok (.dload 4, 2) := by decide +kernel
theorem d_Mo_column_30 : decode b_Mo_column 30 = .ok (.invokestatic 108, 3) := by decide +kernel
theorem d_Mo_column_33 : decode b_Mo_column 33 = .ok (.ifCond .eq 17, 3) := by decide +kernel
theorem d_Mo_column_36 : decode b_Mo_column 36 = .ok (.iload_n 3, 1) := by decide +kernel
theorem d_Mo_column_37 : decode b_Mo_column 37 = .ok (.iconst 2, 1) := by decide +kernel
theorem d_Mo_column_38 : decode b_Mo_column 38 = .ok (.iand, 1) := by decide +kernel
theorem d_Mo_column_39 : decode b_Mo_column 39 = .ok (.ifCond .eq 15, 3) := by decide +kernel
theorem d_Mo_column_42 : decode b_Mo_column 42 = .ok (.dload 6, 2) := by decide +kernel
theorem d_Mo_column_44 : decode b_Mo_column 44 = .ok (.invokestatic 108, 3) := by decide +kernel
theorem d_Mo_column_47 : decode b_Mo_column 47 = .ok (.ifCond .ne 7, 3) := by decide +kernel
theorem d_Mo_column_50 : decode b_Mo_column 50 = .ok (.iconst 1, 1) := by decide +kernel
theorem d_Mo_column_51 : decode b_Mo_column 51 = .ok (.goto 4, 3) := by decide +kernel
theorem d_Mo_column_54 : decode b_Mo_column 54 = .ok (.iconst 0, 1) := by decide +kernel
theorem d_Mo_column_55 : decode b_Mo_column 55 = .ok (.iconst 1, 1) := by decide +kernel
theorem d_Mo_column_56 : decode b_Mo_column 56 = .ok (.invokevirtual 112, 3) := by decide +kernel
theorem d_Mo_column_59 : decode b_Mo_column 59 = .ok (.ifCond .ne 25, 3) := by decide +kernel
theorem d_Mo_column_62 : decode b_Mo_column 62 = .ok (.aload_n 0, 1) := by decide +kernel
theorem d_Mo_column_63 : decode b_Mo_column 63 = .ok (.aload_n 0, 1) := by decide +kernel
theorem d_Mo_column_64 : decode b_Mo_column 64 = .ok (.getfield 130, 3) := by decide +kernel
theorem d_Mo_column_67 : decode b_Mo_column 67 = .ok (.bipush 16, 2) := by decide +kernel
theorem d_Mo_column_69 : decode b_Mo_column 69 = .ok (.if_icmp .ne 7, 3) := by decide +kernel
theorem d_Mo_column_72 : decode b_Mo_column 72 = .ok (.iconst 1, 1) := by decide +kernel
theorem d_Mo_column_73 : decode b_Mo_column 73 = .ok (.goto 4, 3) := by decide +kernel
theorem d_Mo_column_76 : decode b_Mo_column 76 = .ok (.iconst 0, 1) := by decide +kernel
theorem d_Mo_column_77 : decode b_Mo_column 77 = .ok (.iconst 2, 1) := by decide +kernel
theorem d_Mo_column_78 : decode b_Mo_column 78 = .ok (.invokevirtual 112, 3) := by decide +kernel
theorem d_Mo_column_81 : decode b_Mo_column 81 = .ok (.ifCond .eq 5, 3) := by decide +kernel
theorem d_Mo_column_84 : decode b_Mo_column 84 = .ok (.iconst 0, 1) := by decide +kernel
theorem d_Mo_column_85 : decode b_Mo_column 85 = .ok (.ireturn, 1) := by decide +kernel
theorem d_Mo_column_86 : decode b_Mo_column 86 = .ok (.aload_n 0, 1) := by decide +kernel
theorem d_Mo_column_87 : decode b_Mo_column 87 = .ok (.getfield 13, 3) := by decide +kernel
theorem d_Mo_column_90 : decode b_Mo_column 90 = .ok (.aload_n 0, 1) := by decide +kernel
theorem d_Mo_column_91 : decode b_Mo_column 91 = .ok (.getfield 130, 3) := by decide +kernel
theorem d_Mo_column_94 : decode b_Mo_column 94 = .ok (.dload_n 1, 1) := by decide +kernel
theorem d_Mo_column_95 : decode b_Mo_column 95 = .ok (.invokestatic 116, 3) := by decide +kernel
theorem d_Mo_column_98 : decode b_Mo_column 98 = .ok (.dastore, 1) := by decide +kernel
theorem d_Mo_column_99 : decode b_Mo_column 99 = .ok (.aload_n 0, 1) := by decide +kernel
theorem d_Mo_column_100 : decode b_Mo_column 100 = .ok (.getfield 44, 3) := by decide +kernel
theorem d_Mo_column_103 : decode b_Mo_column 103 = .ok (.aload_n 0, 1) := by decide +kernel
theorem d_Mo_column_104 : decode b_Mo_column 104 = .ok (.getfield 130, 3) := by decide +kernel
theorem d_Mo_column_107 : decode b_Mo_column 107 = .ok (.iload_n 3, 1) := by decide +kernel
theorem d_Mo_column_108 : decode b_Mo_column 108 = .ok (.iconst 1, 1) := by decide +kernel
theorem d_Mo_column_109 : decode b_Mo_column 109 = .ok (.iand, 1) := by decide +kernel
theorem d_Mo_column_110 : decode b_Mo_column 110 = .ok (.ifCond .eq 7, 3) := by decide +kernel
theorem d_Mo_column_113 : decode b_Mo_column 113 = .ok (.iconst 1, 1) := by decide +kernel
theorem d_Mo_column_114 : decode b_Mo_column 114 = .ok (.goto 4, 3) := by decide +kernel
theorem d_Mo_column_117 : decode b_Mo_column 117 = .ok (.iconst 0, 1) := by decide +kernel
theorem d_Mo_column_118 : decode b_Mo_column 118 = .ok (.bastore, 1) := by decide +kernel
theorem d_Mo_column_119 : decode b_Mo_column 119 = .ok (.aload_n 0, 1) := by decide +kernel
theorem d_Mo_column_120 : decode b_Mo_column 120 = .ok (.getfield 47, 3) := by decide +kernel
theorem d_Mo_column_123 : decode b_Mo_column 123 = .ok (.aload_n 0, 1) := by decide +kernel
theorem d_Mo_column_124 : decode b_Mo_column 124 = .ok (.getfield 130, 3) := by decide +kernel
theorem d_Mo_column_127 : decode b_Mo_column 127 = .ok (.iload_n 3, 1) := by decide +kernel
theorem d_Mo_column_128 : decode b_Mo_column 128 = .ok (.iconst 2, 1) := by decide +kernel
theorem d_Mo_column_129 : decode b_Mo_column 129 = .ok (.iand, 1) := by decide +kernel
theorem d_Mo_column_130 : decode b_Mo_column 130 = .ok (.ifCond .eq 7, 3) := by decide +kernel
theorem d_Mo_column_133 : decode b_Mo_column 133 = .ok (.iconst 1, 1) := by decide +kernel
theorem d_Mo_column_134 : decode b_Mo_column 134 = .ok (.goto 4, 3) := by decide +kernel
theorem d_Mo_column_137 : decode b_Mo_column 137 = .ok (.iconst 0, 1) := by decide +kernel
theorem d_Mo_column_138 : decode b_Mo_column 138 = .ok (.bastore, 1) := by decide +kernel
theorem d_Mo_column_139 : decode b_Mo_column 139 = .ok (.aload_n 0, 1) := by decide +kernel
theorem d_Mo_column_140 : decode b_Mo_column 140 = .ok (.getfield 19, 3) := by decide +kernel
theorem d_Mo_column_143 : decode b_Mo_column 143 = .ok (.aload_n 0, 1) := by decide +kernel
theorem d_Mo_column_144 : decode b_Mo_column 144 = .ok (.getfield 130, 3) := by decide +kernel
theorem d_Mo_column_147 : decode b_Mo_column 147 = .ok (.dload 4, 2) := by decide +kernel
theorem d_Mo_column_149 : decode b_Mo_column 149 = .ok (.invokestatic 116, 3) := by decide +kernel
theorem d_Mo_column_152 : decode b_Mo_column 152 = .ok (.dastore, 1) := by decide +kernel
theorem d_Mo_column_153 : decode b_Mo_column 153 = .ok (.aload_n 0, 1) := by decide +kernel
theorem d_Mo_column_154 : decode b_Mo_column 154 = .ok (.getfield 22, 3) := by decide +kernel
theorem d_Mo_column_157 : decode b_Mo_column 157 = .ok (.aload_n 0, 1) := by decide +kernel
theorem d_Mo_column_158 : decode b_Mo_column 158 = .ok (.getfield 130, 3) := by decide +kernel
theorem d_Mo_column_161 : decode b_Mo_column 161 = .ok (.dload 6, 2) := by decide +kernel
theorem d_Mo_column_163 : decode b_Mo_column 163 = .ok (.invokestatic 116, 3) := by decide +kernel
theorem d_Mo_column_166 : decode b_Mo_column 166 = .ok (.dastore, 1) := by decide +kernel
theorem d_Mo_column_167 : decode b_Mo_column 167 = .ok (.aload_n 0, 1) := by decide +kernel
theorem d_Mo_column_168 : decode b_Mo_column 168 = .ok (.dup, 1) := by decide +kernel
theorem d_Mo_column_169 : decode b_Mo_column 169 = .ok (.getfield 130, 3) := by decide +kernel
theorem d_Mo_column_172 : decode b_Mo_column 172 = .ok (.dup_x1, 1) := by decide +kernel
theorem d_Mo_column_173 : decode b_Mo_column 173 = .ok (.iconst 1, 1) := by decide +kernel
theorem d_Mo_column_174 : decode b_Mo_column 174 = .ok (.iadd, 1) := by decide +kernel
theorem d_Mo_column_175 : decode b_Mo_column 175 = .ok (.putfield 130, 3) := by decide +kernel
theorem d_Mo_column_178 : decode b_Mo_column 178 = .ok (.ireturn, 1) := by decide +kernel
