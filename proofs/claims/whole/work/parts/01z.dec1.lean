theorem d_De_raiseByCandidateDual_0 : decode b_De_raiseByCandidateDual 0 = .ok (.aload_n 0, 1) := by decide +kernel
theorem d_De_raiseByCandidateDual_1 : decode b_De_raiseByCandidateDual 1 = .ok (.getfield 58, 3) := by decide +kernel
theorem d_De_raiseByCandidateDual_4 : decode b_De_raiseByCandidateDual 4 = .ok (.invokevirtual 150, 3) := by decide +kernel
theorem d_De_raiseByCandidateDual_7 : decode b_De_raiseByCandidateDual 7 = .ok (.istore_n 3, 1) := by decide +kernel
theorem d_De_raiseByCandidateDual_8 : decode b_De_raiseByCandidateDual 8 = .ok (.iload_n 3, 1) := by decide +kernel
theorem d_De_raiseByCandidateDual_9 : decode b_De_raiseByCandidateDual 9 = .ok (.ifCond .le 25, 3) := by decide +kernel
theorem d_De_raiseByCandidateDual_12 : decode b_De_raiseByCandidateDual 12 = .ok (.aload_n 1, 1) := by decide +kernel
theorem d_De_raiseByCandidateDual_13 : decode b_De_raiseByCandidateDual 13 = .ok (.iload_n 2, 1) := by decide +kernel
theorem d_De_raiseByCandidateDual_14 : decode b_De_raiseByCandidateDual 14 = .ok (.invokevirtual 193, 3) := by decide +kernel
theorem d_De_raiseByCandidateDual_17 : decode b_De_raiseByCandidateDual 17 = .ok (.ifCond .ne 17, 3) := by decide +kernel
theorem d_De_raiseByCandidateDual_20 : decode b_De_raiseByCandidateDual 20 = .ok (.aload_n 0, 1) := by decide +kernel
theorem d_De_raiseByCandidateDual_21 : decode b_De_raiseByCandidateDual 21 = .ok (.getfield 54, 3) := by decide +kernel
theorem d_De_raiseByCandidateDual_24 : decode b_De_raiseByCandidateDual 24 = .ok (.aload_n 0, 1) := by decide +kernel
theorem d_De_raiseByCandidateDual_25 : decode b_De_raiseByCandidateDual 25 = .ok (.getfield 58, 3) := by decide +kernel
theorem d_De_raiseByCandidateDual_28 : decode b_De_raiseByCandidateDual 28 = .ok (.invokevirtual 215, 3) := by decide +kernel
theorem d_De_raiseByCandidateDual_31 : decode b_De_raiseByCandidateDual 31 = .ok (.goto 33, 3) := by decide +kernel
theorem d_De_raiseByCandidateDual_34 : decode b_De_raiseByCandidateDual 34 = .ok (.iload_n 3, 1) := by decide +kernel
theorem d_De_raiseByCandidateDual_35 : decode b_De_raiseByCandidateDual 35 = .ok (.ifCond .ge 29, 3) := by decide +kernel
theorem d_De_raiseByCandidateDual_38 : decode b_De_raiseByCandidateDual 38 = .ok (.aload_n 1, 1) := by decide +kernel
theorem d_De_raiseByCandidateDual_39 : decode b_De_raiseByCandidateDual 39 = .ok (.iload_n 2, 1) := by decide +kernel
theorem d_De_raiseByCandidateDual_40 : decode b_De_raiseByCandidateDual 40 = .ok (.invokevirtual 219, 3) := by decide +kernel
theorem d_De_raiseByCandidateDual_43 : decode b_De_raiseByCandidateDual 43 = .ok (.ifCond .ne 21, 3) := by decide +kernel
theorem d_De_raiseByCandidateDual_46 : decode b_De_raiseByCandidateDual 46 = .ok (.aload_n 0, 1) := by decide +kernel
theorem d_De_raiseByCandidateDual_47 : decode b_De_raiseByCandidateDual 47 = .ok (.getfield 58, 3) := by decide +kernel
theorem d_De_raiseByCandidateDual_50 : decode b_De_raiseByCandidateDual 50 = .ok (.invokevirtual 229, 3) := by decide +kernel
theorem d_De_raiseByCandidateDual_53 : decode b_De_raiseByCandidateDual 53 = .ok (.aload_n 0, 1) := by decide +kernel
theorem d_De_raiseByCandidateDual_54 : decode b_De_raiseByCandidateDual 54 = .ok (.getfield 54, 3) := by decide +kernel
theorem d_De_raiseByCandidateDual_57 : decode b_De_raiseByCandidateDual 57 = .ok (.aload_n 0, 1) := by decide +kernel
theorem d_De_raiseByCandidateDual_58 : decode b_De_raiseByCandidateDual 58 = .ok (.getfield 58, 3) := by decide +kernel
theorem d_De_raiseByCandidateDual_61 : decode b_De_raiseByCandidateDual 61 = .ok (.invokevirtual 215, 3) := by decide +kernel
theorem d_De_raiseByCandidateDual_64 : decode b_De_raiseByCandidateDual 64 = .ok (.return_, 1) := by decide +kernel
theorem d_De_raiseByColumn_0 : decode b_De_raiseByColumn 0 = .ok (.aload_n 0, 1) := by decide +kernel
theorem d_De_raiseByColumn_1 : decode b_De_raiseByColumn 1 = .ok (.getfield 31, 3) := by decide +kernel
theorem d_De_raiseByColumn_4 : decode b_De_raiseByColumn 4 = .ok (.iload_n 1, 1) := by decide +kernel
theorem d_De_raiseByColumn_5 : decode b_De_raiseByColumn 5 = .ok (.invokevirtual 193, 3) := by decide +kernel
theorem d_De_raiseByColumn_8 : decode b_De_raiseByColumn 8 = .ok (.ifCond .eq 75, 3) := by decide +kernel
theorem d_De_raiseByColumn_11 : decode b_De_raiseByColumn 11 = .ok (.aload_n 0, 1) := by decide +kernel
theorem d_De_raiseByColumn_12 : decode b_De_raiseByColumn 12 = .ok (.getfield 58, 3) := by decide +kernel
theorem d_De_raiseByColumn_15 : decode b_De_raiseByColumn 15 = .ok (.invokevirtual 167, 3) := by decide +kernel
theorem d_De_raiseByColumn_18 : decode b_De_raiseByColumn 18 = .ok (.aload_n 0, 1) := by decide +kernel
theorem d_De_raiseByColumn_19 : decode b_De_raiseByColumn 19 = .ok (.getfield 58, 3) := by decide +kernel
theorem d_De_raiseByColumn_22 : decode b_De_raiseByColumn 22 = .ok (.aload_n 0, 1) := by decide +kernel
theorem d_De_raiseByColumn_23 : decode b_De_raiseByColumn 23 = .ok (.getfield 47, 3) := by decide +kernel
theorem d_De_raiseByColumn_26 : decode b_De_raiseByColumn 26 = .ok (.iconst 0, 1) := by decide +kernel
theorem d_De_raiseByColumn_27 : decode b_De_raiseByColumn 27 = .ok (.iconst 0, 1) := by decide +kernel
theorem d_De_raiseByColumn_28 : decode b_De_raiseByColumn 28 = .ok (.invokevirtual 196, 3) := by decide +kernel
theorem d_De_raiseByColumn_31 : decode b_De_raiseByColumn 31 = .ok (.aload_n 0, 1) := by decide +kernel
theorem d_De_raiseByColumn_32 : decode b_De_raiseByColumn 32 = .ok (.getfield 31, 3) := by decide +kernel
theorem d_De_raiseByColumn_35 : decode b_De_raiseByColumn 35 = .ok (.getfield 200, 3) := by decide +kernel
theorem d_De_raiseByColumn_38 : decode b_De_raiseByColumn 38 = .ok (.iload_n 1, 1) := by decide +kernel
theorem d_De_raiseByColumn_39 : decode b_De_raiseByColumn 39 = .ok (.invokevirtual 203, 3) := by decide +kernel
theorem d_De_raiseByColumn_42 : decode b_De_raiseByColumn 42 = .ok (.invokevirtual 207, 3) := by decide +kernel
theorem d_De_raiseByColumn_45 : decode b_De_raiseByColumn 45 = .ok (.aload_n 0, 1) := by decide +kernel
theorem d_De_raiseByColumn_46 : decode b_De_raiseByColumn 46 = .ok (.getfield 58, 3) := by decide +kernel
theorem d_De_raiseByColumn_49 : decode b_De_raiseByColumn 49 = .ok (.aload_n 0, 1) := by decide +kernel
theorem d_De_raiseByColumn_50 : decode b_De_raiseByColumn 50 = .ok (.getfield 47, 3) := by decide +kernel
theorem d_De_raiseByColumn_53 : decode b_De_raiseByColumn 53 = .ok (.iconst 1, 1) := by decide +kernel
theorem d_De_raiseByColumn_54 : decode b_De_raiseByColumn 54 = .ok (.iconst 0, 1) := by decide +kernel
theorem d_De_raiseByColumn_55 : decode b_De_raiseByColumn 55 = .ok (.invokevirtual 196, 3) := by decide +kernel
theorem d_De_raiseByColumn_58 : decode b_De_raiseByColumn 58 = .ok (.aload_n 0, 1) := by decide +kernel
theorem d_De_raiseByColumn_59 : decode b_De_raiseByColumn 59 = .ok (.getfield 31, 3) := by decide +kernel
theorem d_De_raiseByColumn_62 : decode b_De_raiseByColumn 62 = .ok (.getfield 158, 3) := by decide +kernel
theorem d_De_raiseByColumn_65 : decode b_De_raiseByColumn 65 = .ok (.iload_n 1, 1) := by decide +kernel
theorem d_De_raiseByColumn_66 : decode b_De_raiseByColumn 66 = .ok (.invokevirtual 203, 3) := by decide +kernel
theorem d_De_raiseByColumn_69 : decode b_De_raiseByColumn 69 = .ok (.invokevirtual 207, 3) := by decide +kernel
theorem d_De_raiseByColumn_72 : decode b_De_raiseByColumn 72 = .ok (.aload_n 0, 1) := by decide +kernel
theorem d_De_raiseByColumn_73 : decode b_De_raiseByColumn 73 = .ok (.getfield 54, 3) := by decide +kernel
theorem d_De_raiseByColumn_76 : decode b_De_raiseByColumn 76 = .ok (.aload_n 0, 1) := by decide +kernel
theorem d_De_raiseByColumn_77 : decode b_De_raiseByColumn 77 = .ok (.getfield 58, 3) := by decide +kernel
theorem d_De_raiseByColumn_80 : decode b_De_raiseByColumn 80 = .ok (.invokevirtual 215, 3) := by decide +kernel
theorem d_De_raiseByColumn_83 : decode b_De_raiseByColumn 83 = .ok (.aload_n 0, 1) := by decide +kernel
theorem d_De_raiseByColumn_84 : decode b_De_raiseByColumn 84 = .ok (.getfield 31, 3) := by decide +kernel
theorem d_De_raiseByColumn_87 : decode b_De_raiseByColumn 87 = .ok (.iload_n 1, 1) := by decide +kernel
theorem d_De_raiseByColumn_88 : decode b_De_raiseByColumn 88 = .ok (.invokevirtual 219, 3) := by decide +kernel
theorem d_De_raiseByColumn_91 : decode b_De_raiseByColumn 91 = .ok (.ifCond .eq 75, 3) := by decide +kernel
theorem d_De_raiseByColumn_94 : decode b_De_raiseByColumn 94 = .ok (.aload_n 0, 1) := by decide +kernel
theorem d_De_raiseByColumn_95 : decode b_De_raiseByColumn 95 = .ok (.getfield 58, 3) := by decide +kernel
theorem d_De_raiseByColumn_98 : decode b_De_raiseByColumn 98 = .ok (.invokevirtual 167, 3) := by decide +kernel
theorem d_De_raiseByColumn_101 : decode b_De_raiseByColumn 101 = .ok (.aload_n 0, 1) := by decide +kernel
theorem d_De_raiseByColumn_102 : decode b_De_raiseByColumn 102 = .ok (.getfield 58, 3) := by decide +kernel
theorem d_De_raiseByColumn_105 : decode b_De_raiseByColumn 105 = .ok (.aload_n 0, 1) := by decide +kernel
theorem d_De_raiseByColumn_106 : decode b_De_raiseByColumn 106 = .ok (.getfield 47, 3) := by decide +kernel
theorem d_De_raiseByColumn_109 : decode b_De_raiseByColumn 109 = .ok (.iconst 0, 1) := by decide +kernel
theorem d_De_raiseByColumn_110 : decode b_De_raiseByColumn 110 = .ok (.iconst 0, 1) := by decide +kernel
theorem d_De_raiseByColumn_111 : decode b_De_raiseByColumn 111 = .ok (.invokevirtual 196, 3) := by decide +kernel
theorem d_De_raiseByColumn_114 : decode b_De_raiseByColumn 114 = .ok (.aload_n 0, 1) := by decide +kernel
theorem d_De_raiseByColumn_115 : decode b_De_raiseByColumn 115 = .ok (.getfield 31, 3) := by decide +kernel
theorem d_De_raiseByColumn_118 : decode b_De_raiseByColumn 118 = .ok (.getfield 158, 3) := by decide +kernel
theorem d_De_raiseByColumn_121 : decode b_De_raiseByColumn 121 = .ok (.iload_n 1, 1) := by decide +kernel
theorem d_De_raiseByColumn_122 : decode b_De_raiseByColumn 122 = .ok (.invokevirtual 203, 3) := by decide +kernel
theorem d_De_raiseByColumn_125 : decode b_De_raiseByColumn 125 = .ok (.invokevirtual 207, 3) := by decide +kernel
theorem d_De_raiseByColumn_128 : decode b_De_raiseByColumn 128 = .ok (.aload_n 0, 1) := by decide +kernel
theorem d_De_raiseByColumn_129 : decode b_De_raiseByColumn 129 = .ok (.getfield 58, 3) := by decide +kernel
theorem d_De_raiseByColumn_132 : decode b_De_raiseByColumn 132 = .ok (.aload_n 0, 1) := by decide +kernel
theorem d_De_raiseByColumn_133 : decode b_De_raiseByColumn 133 = .ok (.getfield 47, 3) := by decide +kernel
theorem d_De_raiseByColumn_136 : decode b_De_raiseByColumn 136 = .ok (.iconst 1, 1) := by decide +kernel
theorem d_De_raiseByColumn_137 : decode b_De_raiseByColumn 137 = .ok (.iconst 0, 1) := by decide +kernel
theorem d_De_raiseByColumn_138 : decode b_De_raiseByColumn 138 = .ok (.invokevirtual 196, 3) := by decide +kernel
theorem d_De_raiseByColumn_141 : decode b_De_raiseByColumn 141 = .ok (.aload_n 0, 1) := by decide +kernel
theorem d_De_raiseByColumn_142 : decode b_De_raiseByColumn 142 = .ok (.getfield 31, 3) := by decide +kernel
theorem d_De_raiseByColumn_145 : decode b_De_raiseByColumn 145 = .ok (.getfield 222, 3) := by decide +kernel
theorem d_De_raiseByColumn_148 : decode b_De_raiseByColumn 148 = .ok (.iload_n 1, 1) := by decide +kernel
theorem d_De_raiseByColumn_149 : decode b_De_raiseByColumn 149 = .ok (.invokevirtual 203, 3) := by decide +kernel
theorem d_De_raiseByColumn_152 : decode b_De_raiseByColumn 152 = .ok (.invokevirtual 207, 3) := by decide +kernel
theorem d_De_raiseByColumn_155 : decode b_De_raiseByColumn 155 = .ok (.aload_n 0, 1) := by decide +kernel
theorem d_De_raiseByColumn_156 : decode b_De_raiseByColumn 156 = .ok (.getfield 54, 3) := by decide +kernel
theorem d_De_raiseByColumn_159 : decode b_De_raiseByColumn 159 = .ok (.aload_n 0, 1) := by decide +kernel
theorem d_De_raiseByColumn_160 : decode b_De_raiseByColumn 160 = .ok (.getfield 58, 3) := by decide +kernel
theorem d_De_raiseByColumn_163 : decode b_De_raiseByColumn 163 = .ok (.invokevirtual 215, 3) := by decide +kernel
theorem d_De_raiseByColumn_166 : decode b_De_raiseByColumn 166 = .ok (.return_, 1) := by decide +kernel
theorem d_De_raiseByDuals_0 : decode b_De_raiseByDuals 0 = .ok (.iconst 0, 1) := by decide +kernel
theorem d_De_raiseByDuals_1 : decode b_De_raiseByDuals 1 = .ok (.istore_n 1, 1) := by decide +kernel
theorem d_De_raiseByDuals_2 : decode b_De_raiseByDuals 2 = .ok (.iload_n 1, 1) := by decide +kernel
theorem d_De_raiseByDuals_3 : decode b_De_raiseByDuals 3 = .ok (.aload_n 0, 1) := by decide +kernel
theorem d_De_raiseByDuals_4 : decode b_De_raiseByDuals 4 = .ok (.getfield 31, 3) := by decide +kernel
theorem d_De_raiseByDuals_7 : decode b_De_raiseByDuals 7 = .ok (.getfield 170, 3) := by decide +kernel
theorem d_De_raiseByDuals_10 : decode b_De_raiseByDuals 10 = .ok (.if_icmp .ge 40, 3) := by decide +kernel
theorem d_De_raiseByDuals_13 : decode b_De_raiseByDuals 13 = .ok (.aload_n 0, 1) := by decide +kernel
theorem d_De_raiseByDuals_14 : decode b_De_raiseByDuals 14 = .ok (.getfield 58, 3) := by decide +kernel
theorem d_De_raiseByDuals_17 : decode b_De_raiseByDuals 17 = .ok (.invokevirtual 167, 3) := by decide +kernel
theorem d_De_raiseByDuals_20 : decode b_De_raiseByDuals 20 = .ok (.aload_n 0, 1) := by decide +kernel
theorem d_De_raiseByDuals_21 : decode b_De_raiseByDuals 21 = .ok (.aload_n 0, 1) := by decide +kernel
theorem d_De_raiseByDuals_22 : decode b_De_raiseByDuals 22 = .ok (.getfield 58, 3) := by decide +kernel
theorem d_De_raiseByDuals_25 : decode b_De_raiseByDuals 25 = .ok (.iload_n 1, 1) := by decide +kernel
theorem d_De_raiseByDuals_26 : decode b_De_raiseByDuals 26 = .ok (.iconst 0, 1) := by decide +kernel
theorem d_De_raiseByDuals_27 : decode b_De_raiseByDuals 27 = .ok (.aload_n 0, 1) := by decide +kernel
theorem d_De_raiseByDuals_28 : decode b_De_raiseByDuals 28 = .ok (.getfield 18, 3) := by decide +kernel
theorem d_De_raiseByDuals_31 : decode b_De_raiseByDuals 31 = .ok (.iconst 0, 1) := by decide +kernel
theorem d_De_raiseByDuals_32 : decode b_De_raiseByDuals 32 = .ok (.invokevirtual 189, 3) := by decide +kernel
theorem d_De_raiseByDuals_35 : decode b_De_raiseByDuals 35 = .ok (.aload_n 0, 1) := by decide +kernel
theorem d_De_raiseByDuals_36 : decode b_De_raiseByDuals 36 = .ok (.aload_n 0, 1) := by decide +kernel
theorem d_De_raiseByDuals_37 : decode b_De_raiseByDuals 37 = .ok (.getfield 31, 3) := by decide +kernel
theorem d_De_raiseByDuals_40 : decode b_De_raiseByDuals 40 = .ok (.iload_n 1, 1) := by decide +kernel
theorem d_De_raiseByDuals_41 : decode b_De_raiseByDuals 41 = .ok (.invokevirtual 225, 3) := by decide +kernel
theorem d_De_raiseByDuals_44 : decode b_De_raiseByDuals 44 = .ok (.iinc 1 1, 3) := by decide +kernel
theorem d_De_raiseByDuals_47 : decode b_De_raiseByDuals 47 = .ok (.goto (-45), 3) := by decide +kernel
theorem d_De_raiseByDuals_50 : decode b_De_raiseByDuals 50 = .ok (.iconst 0, 1) := by decide +kernel
theorem d_De_raiseByDuals_51 : decode b_De_raiseByDuals 51 = .ok (.istore_n 1, 1) := by decide +kernel
theorem d_De_raiseByDuals_52 : decode b_De_raiseByDuals 52 = .ok (.iload_n 1, 1) := by decide +kernel
theorem d_De_raiseByDuals_53 : decode b_De_raiseByDuals 53 = .ok (.aload_n 0, 1) := by decide +kernel
theorem d_De_raiseByDuals_54 : decode b_De_raiseByDuals 54 = .ok (.getfield 27, 3) := by decide +kernel
theorem d_De_raiseByDuals_57 : decode b_De_raiseByDuals 57 = .ok (.getfield 170, 3) := by decide +kernel
theorem d_De_raiseByDuals_60 : decode b_De_raiseByDuals 60 = .ok (.if_icmp .ge 52, 3) := by decide +kernel
theorem d_De_raiseByDuals_63 : decode b_De_raiseByDuals 63 = .ok (.aload_n 0, 1) := by decide +kernel
theorem d_De_raiseByDuals_64 : decode b_De_raiseByDuals 64 = .ok (.getfield 58, 3) := by decide +kernel
theorem d_De_raiseByDuals_67 : decode b_De_raiseByDuals 67 = .ok (.invokevirtual 167, 3) := by decide +kernel
theorem d_De_raiseByDuals_70 : decode b_De_raiseByDuals 70 = .ok (.aload_n 0, 1) := by decide +kernel
theorem d_De_raiseByDuals_71 : decode b_De_raiseByDuals 71 = .ok (.getfield 58, 3) := by decide +kernel
theorem d_De_raiseByDuals_74 : decode b_De_raiseByDuals 74 = .ok (.aload_n 0, 1) := by decide +kernel
theorem d_De_raiseByDuals_75 : decode b_De_raiseByDuals 75 = .ok (.getfield 47, 3) := by decide +kernel
theorem d_De_raiseByDuals_78 : decode b_De_raiseByDuals 78 = .ok (.iconst 0, 1) := by decide +kernel
theorem d_De_raiseByDuals_79 : decode b_De_raiseByDuals 79 = .ok (.iconst 0, 1) := by decide +kernel
theorem d_De_raiseByDuals_80 : decode b_De_raiseByDuals 80 = .ok (.invokevirtual 196, 3) := by decide +kernel
theorem d_De_raiseByDuals_83 : decode b_De_raiseByDuals 83 = .ok (.aload_n 0, 1) := by decide +kernel
theorem d_De_raiseByDuals_84 : decode b_De_raiseByDuals 84 = .ok (.getfield 27, 3) := by decide +kernel
theorem d_De_raiseByDuals_87 : decode b_De_raiseByDuals 87 = .ok (.getfield 158, 3) := by decide +kernel
theorem d_De_raiseByDuals_90 : decode b_De_raiseByDuals 90 = .ok (.iload_n 1, 1) := by decide +kernel
theorem d_De_raiseByDuals_91 : decode b_De_raiseByDuals 91 = .ok (.invokevirtual 203, 3) := by decide +kernel
theorem d_De_raiseByDuals_94 : decode b_De_raiseByDuals 94 = .ok (.invokevirtual 207, 3) := by decide +kernel
theorem d_De_raiseByDuals_97 : decode b_De_raiseByDuals 97 = .ok (.aload_n 0, 1) := by decide +kernel
theorem d_De_raiseByDuals_98 : decode b_De_raiseByDuals 98 = .ok (.aload_n 0, 1) := by decide +kernel
theorem d_De_raiseByDuals_99 : decode b_De_raiseByDuals 99 = .ok (.getfield 27, 3) := by decide +kernel
theorem d_De_raiseByDuals_102 : decode b_De_raiseByDuals 102 = .ok (.iload_n 1, 1) := by decide +kernel
theorem d_De_raiseByDuals_103 : decode b_De_raiseByDuals 103 = .ok (.invokevirtual 225, 3) := by decide +kernel
theorem d_De_raiseByDuals_106 : decode b_De_raiseByDuals 106 = .ok (.iinc 1 1, 3) := by decide +kernel
theorem d_De_raiseByDuals_109 : decode b_De_raiseByDuals 109 = .ok (.goto (-57), 3) := by decide +kernel
theorem d_De_raiseByDuals_112 : decode b_De_raiseByDuals 112 = .ok (.return_, 1) := by decide +kernel
theorem d_De_raiseByRow_0 : decode b_De_raiseByRow 0 = .ok (.aload_n 0, 1) := by decide +kernel
theorem d_De_raiseByRow_1 : decode b_De_raiseByRow 1 = .ok (.getfield 27, 3) := by decide +kernel
theorem d_De_raiseByRow_4 : decode b_De_raiseByRow 4 = .ok (.iload_n 1, 1) := by decide +kernel
theorem d_De_raiseByRow_5 : decode b_De_raiseByRow 5 = .ok (.invokevirtual 193, 3) := by decide +kernel
theorem d_De_raiseByRow_8 : decode b_De_raiseByRow 8 = .ok (.ifCond .eq 58, 3) := by decide +kernel
theorem d_De_raiseByRow_11 : decode b_De_raiseByRow 11 = .ok (.aload_n 0, 1) := by decide +kernel
theorem d_De_raiseByRow_12 : decode b_De_raiseByRow 12 = .ok (.getfield 58, 3) := by decide +kernel
theorem d_De_raiseByRow_15 : decode b_De_raiseByRow 15 = .ok (.invokevirtual 167, 3) := by decide +kernel
theorem d_De_raiseByRow_18 : decode b_De_raiseByRow 18 = .ok (.aload_n 0, 1) := by decide +kernel
theorem d_De_raiseByRow_19 : decode b_De_raiseByRow 19 = .ok (.getfield 58, 3) := by decide +kernel
theorem d_De_raiseByRow_22 : decode b_De_raiseByRow 22 = .ok (.aload_n 0, 1) := by decide +kernel
theorem d_De_raiseByRow_23 : decode b_De_raiseByRow 23 = .ok (.getfield 47, 3) := by decide +kernel
theorem d_De_raiseByRow_26 : decode b_De_raiseByRow 26 = .ok (.iconst 0, 1) := by decide +kernel
theorem d_De_raiseByRow_27 : decode b_De_raiseByRow 27 = .ok (.iconst 0, 1) := by decide +kernel
theorem d_De_raiseByRow_28 : decode b_De_raiseByRow 28 = .ok (.invokevirtual 196, 3) := by decide +kernel
theorem d_De_raiseByRow_31 : decode b_De_raiseByRow 31 = .ok (.aload_n 0, 1) := by decide +kernel
theorem d_De_raiseByRow_32 : decode b_De_raiseByRow 32 = .ok (.getfield 27, 3) := by decide +kernel
theorem d_De_raiseByRow_35 : decode b_De_raiseByRow 35 = .ok (.getfield 200, 3) := by decide +kernel
theorem d_De_raiseByRow_38 : decode b_De_raiseByRow 38 = .ok (.iload_n 1, 1) := by decide +kernel
theorem d_De_raiseByRow_39 : decode b_De_raiseByRow 39 = .ok (.invokevirtual 203, 3) := by decide +kernel
theorem d_De_raiseByRow_42 : decode b_De_raiseByRow 42 = .ok (.invokevirtual 207, 3) := by decide +kernel
theorem d_De_raiseByRow_45 : decode b_De_raiseByRow 45 = .ok (.aload_n 0, 1) := by decide +kernel
theorem d_De_raiseByRow_46 : decode b_De_raiseByRow 46 = .ok (.aload_n 0, 1) := by decide +kernel
theorem d_De_raiseByRow_47 : decode b_De_raiseByRow 47 = .ok (.getfield 58, 3) := by decide +kernel
theorem d_De_raiseByRow_50 : decode b_De_raiseByRow 50 = .ok (.iload_n 1, 1) := by decide +kernel
theorem d_De_raiseByRow_51 : decode b_De_raiseByRow 51 = .ok (.iconst 1, 1) := by decide +kernel
theorem d_De_raiseByRow_52 : decode b_De_raiseByRow 52 = .ok (.invokevirtual 211, 3) := by decide +kernel
theorem d_De_raiseByRow_55 : decode b_De_raiseByRow 55 = .ok (.aload_n 0, 1) := by decide +kernel
theorem d_De_raiseByRow_56 : decode b_De_raiseByRow 56 = .ok (.getfield 54, 3) := by decide +kernel
theorem d_De_raiseByRow_59 : decode b_De_raiseByRow 59 = .ok (.aload_n 0, 1) := by decide +kernel
theorem d_De_raiseByRow_60 : decode b_De_raiseByRow 60 = .ok (.getfield 58, 3) := by decide +kernel
theorem d_De_raiseByRow_63 : decode b_De_raiseByRow 63 = .ok (.invokevirtual 215, 3) := by decide +kernel
theorem d_De_raiseByRow_66 : decode b_De_raiseByRow 66 = .ok (.aload_n 0, 1) := by decide +kernel
theorem d_De_raiseByRow_67 : decode b_De_raiseByRow 67 = .ok (.getfield 27, 3) := by decide +kernel
theorem d_De_raiseByRow_70 : decode b_De_raiseByRow 70 = .ok (.iload_n 1, 1) := by decide +kernel
theorem d_De_raiseByRow_71 : decode b_De_raiseByRow 71 = .ok (.invokevirtual 219, 3) := by decide +kernel
theorem d_De_raiseByRow_74 : decode b_De_raiseByRow 74 = .ok (.ifCond .eq 58, 3) := by decide +kernel
theorem d_De_raiseByRow_77 : decode b_De_raiseByRow 77 = .ok (.aload_n 0, 1) := by decide +kernel
theorem d_De_raiseByRow_78 : decode b_De_raiseByRow 78 = .ok (.getfield 58, 3) := by decide +kernel
theorem d_De_raiseByRow_81 : decode b_De_raiseByRow 81 = .ok (.invokevirtual 167, 3) := by decide +kernel
theorem d_De_raiseByRow_84 : decode b_De_raiseByRow 84 = .ok (.aload_n 0, 1) := by decide +kernel
theorem d_De_raiseByRow_85 : decode b_De_raiseByRow 85 = .ok (.aload_n 0, 1) := by decide +kernel
theorem d_De_raiseByRow_86 : decode b_De_raiseByRow 86 = .ok (.getfield 58, 3) := by decide +kernel
theorem d_De_raiseByRow_89 : decode b_De_raiseByRow 89 = .ok (.iload_n 1, 1) := by decide +kernel
theorem d_De_raiseByRow_90 : decode b_De_raiseByRow 90 = .ok (.iconst 0, 1) := by decide +kernel
theorem d_De_raiseByRow_91 : decode b_De_raiseByRow 91 = .ok (.invokevirtual 211, 3) := by decide +kernel
theorem d_De_raiseByRow_94 : decode b_De_raiseByRow 94 = .ok (.aload_n 0, 1) := by decide +kernel
theorem d_De_raiseByRow_95 : decode b_De_raiseByRow 95 = .ok (.getfield 58, 3) := by decide +kernel
theorem d_De_raiseByRow_98 : decode b_De_raiseByRow 98 = .ok (.aload_n 0, 1) := by decide +kernel
theorem d_De_raiseByRow_99 : decode b_De_raiseByRow 99 = .ok (.getfield 47, 3) := by decide +kernel
theorem d_De_raiseByRow_102 : decode b_De_raiseByRow 102 = .ok (.iconst 1, 1) := by decide +kernel
theorem d_De_raiseByRow_103 : decode b_De_raiseByRow 103 = .ok (.iconst 0, 1) := by decide +kernel
theorem d_De_raiseByRow_104 : decode b_De_raiseByRow 104 = .ok (.invokevirtual 196, 3) := by decide +kernel
theorem d_De_raiseByRow_107 : decode b_De_raiseByRow 107 = .ok (.aload_n 0, 1) := by decide +kernel
theorem d_De_raiseByRow_108 : decode b_De_raiseByRow 108 = .ok (.getfield 27, 3) := by decide +kernel
theorem d_De_raiseByRow_111 : decode b_De_raiseByRow 111 = .ok (.getfield 222, 3) := by decide +kernel
theorem d_De_raiseByRow_114 : decode b_De_raiseByRow 114 = .ok (.iload_n 1, 1) := by decide +kernel
theorem d_De_raiseByRow_115 : decode b_De_raiseByRow 115 = .ok (.invokevirtual 203, 3) := by decide +kernel
theorem d_De_raiseByRow_118 : decode b_De_raiseByRow 118 = .ok (.invokevirtual 207, 3) := by decide +kernel
theorem d_De_raiseByRow_121 : decode b_De_raiseByRow 121 = .ok (.aload_n 0, 1) := by decide +kernel
theorem d_De_raiseByRow_122 : decode b_De_raiseByRow 122 = .ok (.getfield 54, 3) := by decide +kernel
theorem d_De_raiseByRow_125 : decode b_De_raiseByRow 125 = .ok (.aload_n 0, 1) := by decide +kernel
theorem d_De_raiseByRow_126 : decode b_De_raiseByRow 126 = .ok (.getfield 58, 3) := by decide +kernel
theorem d_De_raiseByRow_129 : decode b_De_raiseByRow 129 = .ok (.invokevirtual 215, 3) := by decide +kernel
theorem d_De_raiseByRow_132 : decode b_De_raiseByRow 132 = .ok (.return_, 1) := by decide +kernel
theorem d_De_reckon_0 : decode b_De_reckon 0 = .ok (.aload_n 0, 1) := by decide +kernel
theorem d_De_reckon_1 : decode b_De_reckon 1 = .ok (.getfield 54, 3) := by decide +kernel
theorem d_De_reckon_4 : decode b_De_reckon 4 = .ok (.invokevirtual 167, 3) := by decide +kernel
theorem d_De_reckon_7 : decode b_De_reckon 7 = .ok (.iload_n 1, 1) := by decide +kernel
theorem d_De_reckon_8 : decode b_De_reckon 8 = .ok (.tableswitch 157 0 7 #[48, 75, 102, 109, 116, 123, 131, 139], 48) := by decide +kernel
theorem d_De_reckon_56 : decode b_De_reckon 56 = .ok (.iconst 0, 1) := by decide +kernel
theorem d_De_reckon_57 : decode b_De_reckon 57 = .ok (.istore_n 3, 1) := by decide +kernel
theorem d_De_reckon_58 : decode b_De_reckon 58 = .ok (.iload_n 3, 1) := by decide +kernel
theorem d_De_reckon_59 : decode b_De_reckon 59 = .ok (.aload_n 0, 1) := by decide +kernel
theorem d_De_reckon_60 : decode b_De_reckon 60 = .ok (.getfield 27, 3) := by decide +kernel
theorem d_De_reckon_63 : decode b_De_reckon 63 = .ok (.getfield 170, 3) := by decide +kernel
theorem d_De_reckon_66 : decode b_De_reckon 66 = .ok (.if_icmp .ge 14, 3) := by decide +kernel
theorem d_De_reckon_69 : decode b_De_reckon 69 = .ok (.aload_n 0, 1) := by decide +kernel
theorem d_De_reckon_70 : decode b_De_reckon 70 = .ok (.iload_n 3, 1) := by decide +kernel
theorem d_De_reckon_71 : decode b_De_reckon 71 = .ok (.invokevirtual 174, 3) := by decide +kernel
theorem d_De_reckon_74 : decode b_De_reckon 74 = .ok (.iinc 3 1, 3) := by decide +kernel
theorem d_De_reckon_77 : decode b_De_reckon 77 = .ok (.goto (-19), 3) := by decide +kernel
theorem d_De_reckon_80 : decode b_De_reckon 80 = .ok (.goto 85, 3) := by decide +kernel
theorem d_De_reckon_83 : decode b_De_reckon 83 = .ok (.iconst 0, 1) := by decide +kernel
theorem d_De_reckon_84 : decode b_De_reckon 84 = .ok (.istore_n 3, 1) := by decide +kernel
theorem d_De_reckon_85 : decode b_De_reckon 85 = .ok (.iload_n 3, 1) := by decide +kernel
theorem d_De_reckon_86 : decode b_De_reckon 86 = .ok (.aload_n 0, 1) := by decide +kernel
theorem d_De_reckon_87 : decode b_De_reckon 87 = .ok (.getfield 31, 3) := by decide +kernel
theorem d_De_reckon_90 : decode b_De_reckon 90 = .ok (.getfield 170, 3) := by decide +kernel
theorem d_De_reckon_93 : decode b_De_reckon 93 = .ok (.if_icmp .ge 14, 3) := by decide +kernel
theorem d_De_reckon_96 : decode b_De_reckon 96 = .ok (.aload_n 0, 1) := by decide +kernel
theorem d_De_reckon_97 : decode b_De_reckon 97 = .ok (.iload_n 3, 1) := by decide +kernel
theorem d_De_reckon_98 : decode b_De_reckon 98 = .ok (.invokevirtual 177, 3) := by decide +kernel
theorem d_De_reckon_101 : decode b_De_reckon 101 = .ok (.iinc 3 1, 3) := by decide +kernel
theorem d_De_reckon_104 : decode b_De_reckon 104 = .ok (.goto (-19), 3) := by decide +kernel
theorem d_De_reckon_107 : decode b_De_reckon 107 = .ok (.goto 58, 3) := by decide +kernel
theorem d_De_reckon_110 : decode b_De_reckon 110 = .ok (.aload_n 0, 1) := by decide +kernel
theorem d_De_reckon_111 : decode b_De_reckon 111 = .ok (.invokevirtual 180, 3) := by decide +kernel
theorem d_De_reckon_114 : decode b_De_reckon 114 = .ok (.goto 51, 3) := by decide +kernel
theorem d_De_reckon_117 : decode b_De_reckon 117 = .ok (.aload_n 0, 1) := by decide +kernel
theorem d_De_reckon_118 : decode b_De_reckon 118 = .ok (.invokevirtual 183, 3) := by decide +kernel
theorem d_De_reckon_121 : decode b_De_reckon 121 = .ok (.goto 44, 3) := by decide +kernel
theorem d_De_reckon_124 : decode b_De_reckon 124 = .ok (.aload_n 0, 1) := by decide +kernel
theorem d_De_reckon_125 : decode b_De_reckon 125 = .ok (.invokevirtual 186, 3) := by decide +kernel
theorem d_De_reckon_128 : decode b_De_reckon 128 = .ok (.goto 37, 3) := by decide +kernel
theorem d_De_reckon_131 : decode b_De_reckon 131 = .ok (.aload_n 0, 1) := by decide +kernel
theorem d_De_reckon_132 : decode b_De_reckon 132 = .ok (.iload_n 2, 1) := by decide +kernel
theorem d_De_reckon_133 : decode b_De_reckon 133 = .ok (.invokevirtual 174, 3) := by decide +kernel
theorem d_De_reckon_136 : decode b_De_reckon 136 = .ok (.goto 29, 3) := by decide +kernel
theorem d_De_reckon_139 : decode b_De_reckon 139 = .ok (.aload_n 0, 1) := by decide +kernel
theorem d_De_reckon_140 : decode b_De_reckon 140 = .ok (.iload_n 2, 1) := by decide +kernel
theorem d_De_reckon_141 : decode b_De_reckon 141 = .ok (.invokevirtual 177, 3) := by decide +kernel
theorem d_De_reckon_144 : decode b_De_reckon 144 = .ok (.goto 21, 3) := by decide +kernel
theorem d_De_reckon_147 : decode b_De_reckon 147 = .ok (.aload_n 0, 1) := by decide +kernel
theorem d_De_reckon_148 : decode b_De_reckon 148 = .ok (.aload_n 0, 1) := by decide +kernel
theorem d_De_reckon_149 : decode b_De_reckon 149 = .ok (.getfield 54, 3) := by decide +kernel
theorem d_De_reckon_152 : decode b_De_reckon 152 = .ok (.iload_n 2, 1) := by decide +kernel
theorem d_De_reckon_153 : decode b_De_reckon 153 = .ok (.iconst 0, 1) := by decide +kernel
theorem d_De_reckon_154 : decode b_De_reckon 154 = .ok (.aload_n 0, 1) := by decide +kernel
theorem d_De_reckon_155 : decode b_De_reckon 155 = .ok (.getfield 18, 3) := by decide +kernel
theorem d_De_reckon_158 : decode b_De_reckon 158 = .ok (.iconst 0, 1) := by decide +kernel
theorem d_De_reckon_159 : decode b_De_reckon 159 = .ok (.invokevirtual 189, 3) := by decide +kernel
theorem d_De_reckon_162 : decode b_De_reckon 162 = .ok (.goto 3, 3) := by decide +kernel
theorem d_De_reckon_165 : decode b_De_reckon 165 = .ok (.return_, 1) := by decide +kernel
theorem d_De_refuseUnknown_0 : decode b_De_refuseUnknown 0 = .ok (.iload_n 1, 1) := by decide +kernel
theorem d_De_refuseUnknown_1 : decode b_De_refuseUnknown 1 = .ok (.ifCond .lt 9, 3) := by decide +kernel
theorem d_De_refuseUnknown_4 : decode b_De_refuseUnknown 4 = .ok (.iload_n 1, 1) := by decide +kernel
theorem d_De_refuseUnknown_5 : decode b_De_refuseUnknown 5 = .ok (.bipush 7, 2) := by decide +kernel
theorem d_De_refuseUnknown_7 : decode b_De_refuseUnknown 7 = .ok (.if_icmp .le 13, 3) := by decide +kernel
theorem d_De_refuseUnknown_10 : decode b_De_refuseUnknown 10 = .ok (.new 69, 3) := by decide +kernel
theorem d_De_refuseUnknown_13 : decode b_De_refuseUnknown 13 = .ok (.dup, 1) := by decide +kernel
theorem d_De_refuseUnknown_14 : decode b_De_refuseUnknown 14 = .ok (.ldc 161, 2) := by decide +kernel
theorem d_De_refuseUnknown_16 : decode b_De_refuseUnknown 16 = .ok (.invokespecial 73, 3) := by decide +kernel
theorem d_De_refuseUnknown_19 : decode b_De_refuseUnknown 19 = .ok (.athrow, 1) := by decide +kernel
theorem d_De_refuseUnknown_20 : decode b_De_refuseUnknown 20 = .ok (.iload_n 1, 1) := by decide +kernel
theorem d_De_refuseUnknown_21 : decode b_De_refuseUnknown 21 = .ok (.iconst 5, 1) := by decide +kernel
theorem d_De_refuseUnknown_22 : decode b_De_refuseUnknown 22 = .ok (.if_icmp .ne 24, 3) := by decide +kernel
theorem d_De_refuseUnknown_25 : decode b_De_refuseUnknown 25 = .ok (.aload_n 0, 1) := by decide +kernel
theorem d_De_refuseUnknown_26 : decode b_De_refuseUnknown 26 = .ok (.getfield 27, 3) := by decide +kernel
theorem d_De_refuseUnknown_29 : decode b_De_refuseUnknown 29 = .ok (.iload_n 2, 1) := by decide +kernel
theorem d_De_refuseUnknown_30 : decode b_De_refuseUnknown 30 = .ok (.invokevirtual 98, 3) := by decide +kernel
theorem d_De_refuseUnknown_33 : decode b_De_refuseUnknown 33 = .ok (.ifCond .ne 13, 3) := by decide +kernel
theorem d_De_refuseUnknown_36 : decode b_De_refuseUnknown 36 = .ok (.new 85, 3) := by decide +kernel
theorem d_De_refuseUnknown_39 : decode b_De_refuseUnknown 39 = .ok (.dup, 1) := by decide +kernel
theorem d_De_refuseUnknown_40 : decode b_De_refuseUnknown 40 = .ok (.ldc 163, 2) := by decide +kernel
theorem d_De_refuseUnknown_42 : decode b_De_refuseUnknown 42 = .ok (.invokespecial 89, 3) := by decide +kernel
theorem d_De_refuseUnknown_45 : decode b_De_refuseUnknown 45 = .ok (.athrow, 1) := by decide +kernel
theorem d_De_refuseUnknown_46 : decode b_De_refuseUnknown 46 = .ok (.iload_n 1, 1) := by decide +kernel
theorem d_De_refuseUnknown_47 : decode b_De_refuseUnknown 47 = .ok (.bipush 6, 2) := by decide +kernel
theorem d_De_refuseUnknown_49 : decode b_De_refuseUnknown 49 = .ok (.if_icmp .eq 9, 3) := by decide +kernel
theorem d_De_refuseUnknown_52 : decode b_De_refuseUnknown 52 = .ok (.iload_n 1, 1) := by decide +kernel
theorem d_De_refuseUnknown_53 : decode b_De_refuseUnknown 53 = .ok (.bipush 7, 2) := by decide +kernel
theorem d_De_refuseUnknown_55 : decode b_De_refuseUnknown 55 = .ok (.if_icmp .ne 24, 3) := by decide +kernel
theorem d_De_refuseUnknown_58 : decode b_De_refuseUnknown 58 = .ok (.aload_n 0, 1) := by decide +kernel
theorem d_De_refuseUnknown_59 : decode b_De_refuseUnknown 59 = .ok (.getfield 31, 3) := by decide +kernel
theorem d_De_refuseUnknown_62 : decode b_De_refuseUnknown 62 = .ok (.iload_n 2, 1) := by decide +kernel
theorem d_De_refuseUnknown_63 : decode b_De_refuseUnknown 63 = .ok (.invokevirtual 98, 3) := by decide +kernel
theorem d_De_refuseUnknown_66 : decode b_De_refuseUnknown 66 = .ok (.ifCond .ne 13, 3) := by decide +kernel
theorem d_De_refuseUnknown_69 : decode b_De_refuseUnknown 69 = .ok (.new 85, 3) := by decide +kernel
theorem d_De_refuseUnknown_72 : decode b_De_refuseUnknown 72 = .ok (.dup, 1) := by decide +kernel
theorem d_De_refuseUnknown_73 : decode b_De_refuseUnknown 73 = .ok (.ldc 165, 2) := by decide +kernel
theorem d_De_refuseUnknown_75 : decode b_De_refuseUnknown 75 = .ok (.invokespecial 89, 3) := by decide +kernel
theorem d_De_refuseUnknown_78 : decode b_De_refuseUnknown 78 = .ok (.athrow, 1) := by decide +kernel
theorem d_De_refuseUnknown_79 : decode b_De_refuseUnknown 79 = .ok (.return_, 1) := by decide +kernel
theorem d_De_row_0 : decode b_De_row 0 = .ok (.iload_n 1, 1) := by decide +kernel
theorem d_De_row_1 : decode b_De_row 1 = .ok (.dload_n 2, 1) := by decide +kernel
theorem d_De_row_2 : decode b_De_row 2 = .ok (.dload 4, 2) := by decide +kernel
theorem d_De_row_4 : decode b_De_row 4 = .ok (.invokestatic 76, 3) := by decide +kernel
theorem d_De_row_7 : decode b_De_row 7 = .ok (.ifCond .ne 13, 3) := by decide +kernel
theorem d_De_row_10 : decode b_De_row 10 = .ok (.new 69, 3) := by decide +kernel
theorem d_De_row_13 : decode b_De_row 13 = .ok (.dup, 1) := by decide +kernel
theorem d_De_row_14 : decode b_De_row 14 = .ok (.ldc 79, 2) := by decide +kernel
theorem d_De_row_16 : decode b_De_row 16 = .ok (.invokespecial 73, 3) := by decide +kernel
theorem d_De_row_19 : decode b_De_row 19 = .ok (.athrow, 1) := by decide +kernel
theorem d_De_row_20 : decode b_De_row 20 = .ok (.aload_n 0, 1) := by decide +kernel
theorem d_De_row_21 : decode b_De_row 21 = .ok (.getfield 27, 3) := by decide +kernel
theorem d_De_row_24 : decode b_De_row 24 = .ok (.invokevirtual 81, 3) := by decide +kernel
theorem d_De_row_27 : decode b_De_row 27 = .ok (.ifCond .eq 13, 3) := by decide +kernel
theorem d_De_row_30 : decode b_De_row 30 = .ok (.new 85, 3) := by decide +kernel
theorem d_De_row_33 : decode b_De_row 33 = .ok (.dup, 1) := by decide +kernel
theorem d_De_row_34 : decode b_De_row 34 = .ok (.ldc 87, 2) := by decide +kernel
theorem d_De_row_36 : decode b_De_row 36 = .ok (.invokespecial 89, 3) := by decide +kernel
theorem d_De_row_39 : decode b_De_row 39 = .ok (.athrow, 1) := by decide +kernel
theorem d_De_row_40 : decode b_De_row 40 = .ok (.aload_n 0, 1) := by decide +kernel
theorem d_De_row_41 : decode b_De_row 41 = .ok (.getfield 27, 3) := by decide +kernel
theorem d_De_row_44 : decode b_De_row 44 = .ok (.iload_n 1, 1) := by decide +kernel
theorem d_De_row_45 : decode b_De_row 45 = .ok (.dload_n 2, 1) := by decide +kernel
theorem d_De_row_46 : decode b_De_row 46 = .ok (.dload 4, 2) := by decide +kernel
theorem d_De_row_48 : decode b_De_row 48 = .ok (.invokevirtual 90, 3) := by decide +kernel
theorem d_De_row_51 : decode b_De_row 51 = .ok (.ireturn, 1) := by decide +kernel
theorem d_De_sign_0 : decode b_De_sign 0 = .ok (.aload_n 0, 1) := by decide +kernel
theorem d_De_sign_1 : decode b_De_sign 1 = .ok (.iload_n 1, 1) := by decide +kernel
theorem d_De_sign_2 : decode b_De_sign 2 = .ok (.iload_n 2, 1) := by decide +kernel
theorem d_De_sign_3 : decode b_De_sign 3 = .ok (.invokevirtual 128, 3) := by decide +kernel
theorem d_De_sign_6 : decode b_De_sign 6 = .ok (.aload_n 0, 1) := by decide +kernel
theorem d_De_sign_7 : decode b_De_sign 7 = .ok (.iload_n 1, 1) := by decide +kernel
theorem d_De_sign_8 : decode b_De_sign 8 = .ok (.iload_n 2, 1) := by decide +kernel
theorem d_De_sign_9 : decode b_De_sign 9 = .ok (.invokevirtual 132, 3) := by decide +kernel
theorem d_De_sign_12 : decode b_De_sign 12 = .ok (.aload_n 0, 1) := by decide +kernel
theorem d_De_sign_13 : decode b_De_sign 13 = .ok (.getfield 54, 3) := by decide +kernel
theorem d_De_sign_16 : decode b_De_sign 16 = .ok (.invokevirtual 150, 3) := by decide +kernel
theorem d_De_sign_19 : decode b_De_sign 19 = .ok (.ireturn, 1) := by decide +kernel
theorem d_De_x_0 : decode b_De_x 0 = .ok (.aload_n 0, 1) := by decide +kernel
theorem d_De_x_1 : decode b_De_x 1 = .ok (.getfield 31, 3) := by decide +kernel
theorem d_De_x_4 : decode b_De_x 4 = .ok (.iload_n 1, 1) := by decide +kernel
theorem d_De_x_5 : decode b_De_x 5 = .ok (.dload_n 2, 1) := by decide +kernel
theorem d_De_x_6 : decode b_De_x 6 = .ok (.iload 4, 2) := by decide +kernel
theorem d_De_x_8 : decode b_De_x 8 = .ok (.invokestatic 124, 3) := by decide +kernel
theorem d_De_x_11 : decode b_De_x 11 = .ok (.return_, 1) := by decide +kernel
theorem d_De_y_0 : decode b_De_y 0 = .ok (.aload_n 0, 1) := by decide +kernel
theorem d_De_y_1 : decode b_De_y 1 = .ok (.getfield 27, 3) := by decide +kernel
theorem d_De_y_4 : decode b_De_y 4 = .ok (.iload_n 1, 1) := by decide +kernel
theorem d_De_y_5 : decode b_De_y 5 = .ok (.dload_n 2, 1) := by decide +kernel
theorem d_De_y_6 : decode b_De_y 6 = .ok (.iload 4, 2) := by decide +kernel
theorem d_De_y_8 : decode b_De_y 8 = .ok (.invokestatic 124, 3) := by decide +kernel
theorem d_De_y_11 : decode b_De_y 11 = .ok (.return_, 1) := by decide +kernel
theorem d_Ce_init_0 : decode b_Ce_init 0 = .ok (.aload_n 0, 1) := by decide +kernel
theorem d_Ce_init_1 : decode b_Ce_init 1 = .ok (.invokespecial 1, 3) := by decide +kernel
theorem d_Ce_init_4 : decode b_Ce_init 4 = .ok (.iload_n 1, 1) := by decide +kernel
theorem d_Ce_init_5 : decode b_Ce_init 5 = .ok (.iconst 0, 1) := by decide +kernel
theorem d_Ce_init_6 : decode b_Ce_init 6 = .ok (.invokestatic 7, 3) := by decide +kernel
theorem d_Ce_init_9 : decode b_Ce_init 9 = .ok (.istore_n 2, 1) := by decide +kernel
theorem d_Ce_init_10 : decode b_Ce_init 10 = .ok (.aload_n 0, 1) := by decide +kernel
theorem d_Ce_init_11 : decode b_Ce_init 11 = .ok (.iload_n 2, 1) := by decide +kernel
theorem d_Ce_init_12 : decode b_Ce_init 12 = .ok (.newarray .int, 2) := by decide +kernel
theorem d_Ce_init_14 : decode b_Ce_init 14 = .ok (.putfield 13, 3) := by decide +kernel
theorem d_Ce_init_17 : decode b_Ce_init 17 = .ok (.aload_n 0, 1) := by decide +kernel
theorem d_Ce_init_18 : decode b_Ce_init 18 = .ok (.iload_n 2, 1) := by decide +kernel
theorem d_Ce_init_19 : decode b_Ce_init 19 = .ok (.newarray .int, 2) := by decide +kernel
theorem d_Ce_init_21 : decode b_Ce_init 21 = .ok (.putfield 19, 3) := by decide +kernel
theorem d_Ce_init_24 : decode b_Ce_init 24 = .ok (.aload_n 0, 1) := by decide +kernel
theorem d_Ce_init_25 : decode b_Ce_init 25 = .ok (.new 22, 3) := by decide +kernel
theorem d_Ce_init_28 : decode b_Ce_init 28 = .ok (.dup, 1) := by decide +kernel
theorem d_Ce_init_29 : decode b_Ce_init 29 = .ok (.iload_n 2, 1) := by decide +kernel
theorem d_Ce_init_30 : decode b_Ce_init 30 = .ok (.invokespecial 24, 3) := by decide +kernel
theorem d_Ce_init_33 : decode b_Ce_init 33 = .ok (.putfield 27, 3) := by decide +kernel
theorem d_Ce_init_36 : decode b_Ce_init 36 = .ok (.return_, 1) := by decide +kernel
theorem d_Ce_append_0 : decode b_Ce_append 0 = .ok (.aload_n 0, 1) := by decide +kernel
theorem d_Ce_append_1 : decode b_Ce_append 1 = .ok (.getfield 31, 3) := by decide +kernel
theorem d_Ce_append_4 : decode b_Ce_append 4 = .ok (.istore 5, 2) := by decide +kernel
theorem d_Ce_append_6 : decode b_Ce_append 6 = .ok (.iload 5, 2) := by decide +kernel
theorem d_Ce_append_8 : decode b_Ce_append 8 = .ok (.ifCond .lt 60, 3) := by decide +kernel
theorem d_Ce_append_11 : decode b_Ce_append 11 = .ok (.iload 5, 2) := by decide +kernel
theorem d_Ce_append_13 : decode b_Ce_append 13 = .ok (.aload_n 0, 1) := by decide +kernel
theorem d_Ce_append_14 : decode b_Ce_append 14 = .ok (.getfield 13, 3) := by decide +kernel
theorem d_Ce_append_17 : decode b_Ce_append 17 = .ok (.arraylength, 1) := by decide +kernel
theorem d_Ce_append_18 : decode b_Ce_append 18 = .ok (.if_icmp .ge 50, 3) := by decide +kernel
theorem d_Ce_append_21 : decode b_Ce_append 21 = .ok (.iload 5, 2) := by decide +kernel
theorem d_Ce_append_23 : decode b_Ce_append 23 = .ok (.aload_n 0, 1) := by decide +kernel
theorem d_Ce_append_24 : decode b_Ce_append 24 = .ok (.getfield 19, 3) := by decide +kernel
theorem d_Ce_append_27 : decode b_Ce_append 27 = .ok (.arraylength, 1) := by decide +kernel
theorem d_Ce_append_28 : decode b_Ce_append 28 = .ok (.if_icmp .ge 40, 3) := by decide +kernel
theorem d_Ce_append_31 : decode b_Ce_append 31 = .ok (.aload_n 0, 1) := by decide +kernel
theorem d_Ce_append_32 : decode b_Ce_append 32 = .ok (.getfield 13, 3) := by decide +kernel
theorem d_Ce_append_35 : decode b_Ce_append 35 = .ok (.iload 5, 2) := by decide +kernel
theorem d_Ce_append_37 : decode b_Ce_append 37 = .ok (.iload_n 1, 1) := by decide +kernel
theorem d_Ce_append_38 : decode b_Ce_append 38 = .ok (.iastore, 1) := by decide +kernel
theorem d_Ce_append_39 : decode b_Ce_append 39 = .ok (.aload_n 0, 1) := by decide +kernel
theorem d_Ce_append_40 : decode b_Ce_append 40 = .ok (.getfield 19, 3) := by decide +kernel
theorem d_Ce_append_43 : decode b_Ce_append 43 = .ok (.iload 5, 2) := by decide +kernel
theorem d_Ce_append_45 : decode b_Ce_append 45 = .ok (.iload_n 2, 1) := by decide +kernel
theorem d_Ce_append_46 : decode b_Ce_append 46 = .ok (.iastore, 1) := by decide +kernel
theorem d_Ce_append_47 : decode b_Ce_append 47 = .ok (.aload_n 0, 1) := by decide +kernel
theorem d_Ce_append_48 : decode b_Ce_append 48 = .ok (.getfield 27, 3) := by decide +kernel
theorem d_Ce_append_51 : decode b_Ce_append 51 = .ok (.iload 5, 2) := by decide +kernel
theorem d_Ce_append_53 : decode b_Ce_append 53 = .ok (.dload_n 3, 1) := by decide +kernel
theorem d_Ce_append_54 : decode b_Ce_append 54 = .ok (.iconst 0, 1) := by decide +kernel
theorem d_Ce_append_55 : decode b_Ce_append 55 = .ok (.invokevirtual 42, 3) := by decide +kernel
theorem d_Ce_append_58 : decode b_Ce_append 58 = .ok (.aload_n 0, 1) := by decide +kernel
theorem d_Ce_append_59 : decode b_Ce_append 59 = .ok (.dup, 1) := by decide +kernel
theorem d_Ce_append_60 : decode b_Ce_append 60 = .ok (.getfield 31, 3) := by decide +kernel
theorem d_Ce_append_63 : decode b_Ce_append 63 = .ok (.iconst 1, 1) := by decide +kernel
theorem d_Ce_append_64 : decode b_Ce_append 64 = .ok (.iadd, 1) := by decide +kernel
theorem d_Ce_append_65 : decode b_Ce_append 65 = .ok (.putfield 31, 3) := by decide +kernel
theorem d_Ce_append_68 : decode b_Ce_append 68 = .ok (.aload_n 0, 1) := by decide +kernel
theorem d_Ce_append_69 : decode b_Ce_append 69 = .ok (.getfield 31, 3) := by decide +kernel
theorem d_Ce_append_72 : decode b_Ce_append 72 = .ok (.ireturn, 1) := by decide +kernel
theorem d_Ce_first_0 : decode b_Ce_first 0 = .ok (.iload_n 1, 1) := by decide +kernel
theorem d_Ce_first_1 : decode b_Ce_first 1 = .ok (.ifCond .lt 21, 3) := by decide +kernel
theorem d_Ce_first_4 : decode b_Ce_first 4 = .ok (.iload_n 1, 1) := by decide +kernel
theorem d_Ce_first_5 : decode b_Ce_first 5 = .ok (.aload_n 0, 1) := by decide +kernel
theorem d_Ce_first_6 : decode b_Ce_first 6 = .ok (.getfield 13, 3) := by decide +kernel
theorem d_Ce_first_9 : decode b_Ce_first 9 = .ok (.arraylength, 1) := by decide +kernel
theorem d_Ce_first_10 : decode b_Ce_first 10 = .ok (.if_icmp .ge 12, 3) := by decide +kernel
theorem d_Ce_first_13 : decode b_Ce_first 13 = .ok (.aload_n 0, 1) := by decide +kernel
theorem d_Ce_first_14 : decode b_Ce_first 14 = .ok (.getfield 13, 3) := by decide +kernel
theorem d_Ce_first_17 : decode b_Ce_first 17 = .ok (.iload_n 1, 1) := by decide +kernel
theorem d_Ce_first_18 : decode b_Ce_first 18 = .ok (.iaload, 1) := by decide +kernel
theorem d_Ce_first_19 : decode b_Ce_first 19 = .ok (.goto 4, 3) := by decide +kernel
theorem d_Ce_first_22 : decode b_Ce_first 22 = .ok (.iconst (-1), 1) := by decide +kernel
theorem d_Ce_first_23 : decode b_Ce_first 23 = .ok (.ireturn, 1) := by decide +kernel
theorem d_Ce_holds_0 : decode b_Ce_holds 0 = .ok (.iconst 0, 1) := by decide +kernel
theorem d_Ce_holds_1 : decode b_Ce_holds 1 = .ok (.istore_n 3, 1) := by decide +kernel
theorem d_Ce_holds_2 : decode b_Ce_holds 2 = .ok (.iload_n 3, 1) := by decide +kernel
theorem d_Ce_holds_3 : decode b_Ce_holds 3 = .ok (.aload_n 0, 1) := by decide +kernel
theorem d_Ce_holds_4 : decode b_Ce_holds 4 = .ok (.getfield 31, 3) := by decide +kernel
theorem d_Ce_holds_7 : decode b_Ce_holds 7 = .ok (.if_icmp .ge 29, 3) := by decide +kernel
theorem d_Ce_holds_10 : decode b_Ce_holds 10 = .ok (.aload_n 0, 1) := by decide +kernel
theorem d_Ce_holds_11 : decode b_Ce_holds 11 = .ok (.iload_n 3, 1) := by decide +kernel
theorem d_Ce_holds_12 : decode b_Ce_holds 12 = .ok (.invokevirtual 35, 3) := by decide +kernel
theorem d_Ce_holds_15 : decode b_Ce_holds 15 = .ok (.iload_n 1, 1) := by decide +kernel
theorem d_Ce_holds_16 : decode b_Ce_holds 16 = .ok (.if_icmp .ne 14, 3) := by decide +kernel
theorem d_Ce_holds_19 : decode b_Ce_holds 19 = .ok (.aload_n 0, 1) := by decide +kernel
theorem d_Ce_holds_20 : decode b_Ce_holds 20 = .ok (.iload_n 3, 1) := by decide +kernel
theorem d_Ce_holds_21 : decode b_Ce_holds 21 = .ok (.invokevirtual 39, 3) := by decide +kernel
theorem d_Ce_holds_24 : decode b_Ce_holds 24 = .ok (.iload_n 2, 1) := by decide +kernel
theorem d_Ce_holds_25 : decode b_Ce_holds 25 = .ok (.if_icmp .ne 5, 3) := by decide +kernel
theorem d_Ce_holds_28 : decode b_Ce_holds 28 = .ok (.iconst 1, 1) := by decide +kernel
theorem d_Ce_holds_29 : decode b_Ce_holds 29 = .ok (.ireturn, 1) := by decide +kernel
theorem d_Ce_holds_30 : decode b_Ce_holds 30 = .ok (.iinc 3 1, 3) := by decide +kernel
theorem d_Ce_holds_33 : decode b_Ce_holds 33 = .ok (.goto (-31), 3) := by decide +kernel
theorem d_Ce_holds_36 : decode b_Ce_holds 36 = .ok (.iconst 0, 1) := by decide +kernel
theorem d_Ce_holds_37 : decode b_Ce_holds 37 = .ok (.ireturn, 1) := by decide +kernel
theorem d_Ce_isFull_0 : decode b_Ce_isFull 0 = .ok (.aload_n 0, 1) := by decide +kernel
theorem d_Ce_isFull_1 : decode b_Ce_isFull 1 = .ok (.getfield 31, 3) := by decide +kernel
theorem d_Ce_isFull_4 : decode b_Ce_isFull 4 = .ok (.aload_n 0, 1) := by decide +kernel
theorem d_Ce_isFull_5 : decode b_Ce_isFull 5 = .ok (.getfield 13, 3) := by decide +kernel
theorem d_Ce_isFull_8 : decode b_Ce_isFull 8 = .ok (.arraylength, 1) := by decide +kernel
theorem d_Ce_isFull_9 : decode b_Ce_isFull 9 = .ok (.if_icmp .lt 7, 3) := by decide +kernel
theorem d_Ce_isFull_12 : decode b_Ce_isFull 12 = .ok (.iconst 1, 1) := by decide +kernel
theorem d_Ce_isFull_13 : decode b_Ce_isFull 13 = .ok (.goto 4, 3) := by decide +kernel
theorem d_Ce_isFull_16 : decode b_Ce_isFull 16 = .ok (.iconst 0, 1) := by decide +kernel
theorem d_Ce_isFull_17 : decode b_Ce_isFull 17 = .ok (.ireturn, 1) := by decide +kernel
theorem d_Ce_second_0 : decode b_Ce_second 0 = .ok (.iload_n 1, 1) := by decide +kernel
theorem d_Ce_second_1 : decode b_Ce_second 1 = .ok (.ifCond .lt 21, 3) := by decide +kernel
theorem d_Ce_second_4 : decode b_Ce_second 4 = .ok (.iload_n 1, 1) := by decide +kernel
theorem d_Ce_second_5 : decode b_Ce_second 5 = .ok (.aload_n 0, 1) := by decide +kernel
theorem d_Ce_second_6 : decode b_Ce_second 6 = .ok (.getfield 19, 3) := by decide +kernel
theorem d_Ce_second_9 : decode b_Ce_second 9 = .ok (.arraylength, 1) := by decide +kernel
theorem d_Ce_second_10 : decode b_Ce_second 10 = .ok (.if_icmp .ge 12, 3) := by decide +kernel
theorem d_Ce_second_13 : decode b_Ce_second 13 = .ok (.aload_n 0, 1) := by decide +kernel
theorem d_Ce_second_14 : decode b_Ce_second 14 = .ok (.getfield 19, 3) := by decide +kernel
theorem d_Ce_second_17 : decode b_Ce_second 17 = .ok (.iload_n 1, 1) := by decide +kernel
theorem d_Ce_second_18 : decode b_Ce_second 18 = .ok (.iaload, 1) := by decide +kernel
theorem d_Ce_second_19 : decode b_Ce_second 19 = .ok (.goto 4, 3) := by decide +kernel
theorem d_Ce_second_22 : decode b_Ce_second 22 = .ok (.iconst (-1), 1) := by decide +kernel
theorem d_Ce_second_23 : decode b_Ce_second 23 = .ok (.ireturn, 1) := by decide +kernel
theorem d_Ex_init_0 : decode b_Ex_init 0 = .ok (.aload_n 0, 1) := by decide +kernel
theorem d_Ex_init_1 : decode b_Ex_init 1 = .ok (.invokespecial 3, 3) := by decide +kernel
theorem d_Ex_init_4 : decode b_Ex_init 4 = .ok (.aload_n 0, 1) := by decide +kernel
theorem d_Ex_init_5 : decode b_Ex_init 5 = .ok (.bipush 112, 2) := by decide +kernel
theorem d_Ex_init_7 : decode b_Ex_init 7 = .ok (.newarray .long, 2) := by decide +kernel
theorem d_Ex_init_9 : decode b_Ex_init 9 = .ok (.putfield 9, 3) := by decide +kernel
theorem d_Ex_init_12 : decode b_Ex_init 12 = .ok (.return_, 1) := by decide +kernel
theorem d_Ex_add_0 : decode b_Ex_add 0 = .ok (.aload_n 1, 1) := by decide +kernel
theorem d_Ex_add_1 : decode b_Ex_add 1 = .ok (.getfield 19, 3) := by decide +kernel
theorem d_Ex_add_4 : decode b_Ex_add 4 = .ok (.sipush 1539, 3) := by decide +kernel
theorem d_Ex_add_7 : decode b_Ex_add 7 = .ok (.iadd, 1) := by decide +kernel
theorem d_Ex_add_8 : decode b_Ex_add 8 = .ok (.istore_n 2, 1) := by decide +kernel
theorem d_Ex_add_9 : decode b_Ex_add 9 = .ok (.iload_n 2, 1) := by decide +kernel
theorem d_Ex_add_10 : decode b_Ex_add 10 = .ok (.bipush 27, 2) := by decide +kernel
theorem d_Ex_add_12 : decode b_Ex_add 12 = .ok (.invokestatic 25, 3) := by decide +kernel
theorem d_Ex_add_15 : decode b_Ex_add 15 = .ok (.istore_n 3, 1) := by decide +kernel
theorem d_Ex_add_16 : decode b_Ex_add 16 = .ok (.iload_n 2, 1) := by decide +kernel
theorem d_Ex_add_17 : decode b_Ex_add 17 = .ok (.bipush 27, 2) := by decide +kernel
theorem d_Ex_add_19 : decode b_Ex_add 19 = .ok (.invokestatic 31, 3) := by decide +kernel
theorem d_Ex_add_22 : decode b_Ex_add 22 = .ok (.istore 4, 2) := by decide +kernel
theorem d_Ex_add_24 : decode b_Ex_add 24 = .ok (.iconst 0, 1) := by decide +kernel
theorem d_Ex_add_25 : decode b_Ex_add 25 = .ok (.istore 5, 2) := by decide +kernel
theorem d_Ex_add_27 : decode b_Ex_add 27 = .ok (.iload 5, 2) := by decide +kernel
theorem d_Ex_add_29 : decode b_Ex_add 29 = .ok (.bipush 6, 2) := by decide +kernel
theorem d_Ex_add_31 : decode b_Ex_add 31 = .ok (.if_icmp .ge 84, 3) := by decide +kernel
theorem d_Ex_add_34 : decode b_Ex_add 34 = .ok (.aload_n 1, 1) := by decide +kernel
theorem d_Ex_add_35 : decode b_Ex_add 35 = .ok (.getfield 34, 3) := by decide +kernel
theorem d_Ex_add_38 : decode b_Ex_add 38 = .ok (.iload 5, 2) := by decide +kernel
theorem d_Ex_add_40 : decode b_Ex_add 40 = .ok (.laload, 1) := by decide +kernel
theorem d_Ex_add_41 : decode b_Ex_add 41 = .ok (.iload 4, 2) := by decide +kernel
theorem d_Ex_add_43 : decode b_Ex_add 43 = .ok (.lshl, 1) := by decide +kernel
theorem d_Ex_add_44 : decode b_Ex_add 44 = .ok (.lstore 6, 2) := by decide +kernel
theorem d_Ex_add_46 : decode b_Ex_add 46 = .ok (.lload 6, 2) := by decide +kernel
theorem d_Ex_add_48 : decode b_Ex_add 48 = .ok (.ldc2_w 35, 3) := by decide +kernel
theorem d_Ex_add_51 : decode b_Ex_add 51 = .ok (.land, 1) := by decide +kernel
theorem d_Ex_add_52 : decode b_Ex_add 52 = .ok (.lstore 8, 2) := by decide +kernel
theorem d_Ex_add_54 : decode b_Ex_add 54 = .ok (.lload 6, 2) := by decide +kernel
theorem d_Ex_add_56 : decode b_Ex_add 56 = .ok (.bipush 27, 2) := by decide +kernel
theorem d_Ex_add_58 : decode b_Ex_add 58 = .ok (.lushr, 1) := by decide +kernel
theorem d_Ex_add_59 : decode b_Ex_add 59 = .ok (.lstore 10, 2) := by decide +kernel
theorem d_Ex_add_61 : decode b_Ex_add 61 = .ok (.aload_n 0, 1) := by decide +kernel
theorem d_Ex_add_62 : decode b_Ex_add 62 = .ok (.iload_n 3, 1) := by decide +kernel
theorem d_Ex_add_63 : decode b_Ex_add 63 = .ok (.iload 5, 2) := by decide +kernel
theorem d_Ex_add_65 : decode b_Ex_add 65 = .ok (.iadd, 1) := by decide +kernel
theorem d_Ex_add_66 : decode b_Ex_add 66 = .ok (.aload_n 1, 1) := by decide +kernel
theorem d_Ex_add_67 : decode b_Ex_add 67 = .ok (.getfield 37, 3) := by decide +kernel
theorem d_Ex_add_70 : decode b_Ex_add 70 = .ok (.ifCond .eq 9, 3) := by decide +kernel
theorem d_Ex_add_73 : decode b_Ex_add 73 = .ok (.lload 8, 2) := by decide +kernel
theorem d_Ex_add_75 : decode b_Ex_add 75 = .ok (.lneg, 1) := by decide +kernel
theorem d_Ex_add_76 : decode b_Ex_add 76 = .ok (.goto 5, 3) := by decide +kernel
theorem d_Ex_add_79 : decode b_Ex_add 79 = .ok (.lload 8, 2) := by decide +kernel
theorem d_Ex_add_81 : decode b_Ex_add 81 = .ok (.invokevirtual 41, 3) := by decide +kernel
theorem d_Ex_add_84 : decode b_Ex_add 84 = .ok (.aload_n 0, 1) := by decide +kernel
theorem d_Ex_add_85 : decode b_Ex_add 85 = .ok (.iload_n 3, 1) := by decide +kernel
theorem d_Ex_add_86 : decode b_Ex_add 86 = .ok (.iload 5, 2) := by decide +kernel
theorem d_Ex_add_88 : decode b_Ex_add 88 = .ok (.iadd, 1) := by decide +kernel
theorem d_Ex_add_89 : decode b_Ex_add 89 = .ok (.iconst 1, 1) := by decide +kernel
theorem d_Ex_add_90 : decode b_Ex_add 90 = .ok (.iadd, 1) := by decide +kernel
theorem d_Ex_add_91 : decode b_Ex_add 91 = .ok (.aload_n 1, 1) := by decide +kernel
theorem d_Ex_add_92 : decode b_Ex_add 92 = .ok (.getfield 37, 3) := by decide +kernel
theorem d_Ex_add_95 : decode b_Ex_add 95 = .ok (.ifCond .eq 9, 3) := by decide +kernel
theorem d_Ex_add_98 : decode b_Ex_add 98 = .ok (.lload 10, 2) := by decide +kernel
theorem d_Ex_add_100 : decode b_Ex_add 100 = .ok (.lneg, 1) := by decide +kernel
theorem d_Ex_add_101 : decode b_Ex_add 101 = .ok (.goto 5, 3) := by decide +kernel
theorem d_Ex_add_104 : decode b_Ex_add 104 = .ok (.lload 10, 2) := by decide +kernel
theorem d_Ex_add_106 : decode b_Ex_add 106 = .ok (.invokevirtual 41, 3) := by decide +kernel
theorem d_Ex_add_109 : decode b_Ex_add 109 = .ok (.iinc 5 1, 3) := by decide +kernel
theorem d_Ex_add_112 : decode b_Ex_add 112 = .ok (.goto (-85), 3) := by decide +kernel
theorem d_Ex_add_115 : decode b_Ex_add 115 = .ok (.return_, 1) := by decide +kernel
theorem d_Ex_addAt_0 : decode b_Ex_addAt 0 = .ok (.iload_n 1, 1) := by decide +kernel
theorem d_Ex_addAt_1 : decode b_Ex_addAt 1 = .ok (.ifCond .lt 19, 3) := by decide +kernel
theorem d_Ex_addAt_4 : decode b_Ex_addAt 4 = .ok (.iload_n 1, 1) := by decide +kernel
theorem d_Ex_addAt_5 : decode b_Ex_addAt 5 = .ok (.bipush 112, 2) := by decide +kernel
theorem d_Ex_addAt_7 : decode b_Ex_addAt 7 = .ok (.if_icmp .ge 13, 3) := by decide +kernel
theorem d_Ex_addAt_10 : decode b_Ex_addAt 10 = .ok (.aload_n 0, 1) := by decide +kernel
theorem d_Ex_addAt_11 : decode b_Ex_addAt 11 = .ok (.getfield 9, 3) := by decide +kernel
theorem d_Ex_addAt_14 : decode b_Ex_addAt 14 = .ok (.iload_n 1, 1) := by decide +kernel
theorem d_Ex_addAt_15 : decode b_Ex_addAt 15 = .ok (.dup2, 1) := by decide +kernel
theorem d_Ex_addAt_16 : decode b_Ex_addAt 16 = .ok (.laload, 1) := by decide +kernel
theorem d_Ex_addAt_17 : decode b_Ex_addAt 17 = .ok (.lload_n 2, 1) := by decide +kernel
theorem d_Ex_addAt_18 : decode b_Ex_addAt 18 = .ok (.ladd, 1) := by decide +kernel
theorem d_Ex_addAt_19 : decode b_Ex_addAt 19 = .ok (.lastore, 1) := by decide +kernel
theorem d_Ex_addAt_20 : decode b_Ex_addAt 20 = .ok (.return_, 1) := by decide +kernel
theorem d_Ex_bitAt_0 : decode b_Ex_bitAt 0 = .ok (.iload_n 1, 1) := by decide +kernel
theorem d_Ex_bitAt_1 : decode b_Ex_bitAt 1 = .ok (.bipush 27, 2) := by decide +kernel
theorem d_Ex_bitAt_3 : decode b_Ex_bitAt 3 = .ok (.invokestatic 25, 3) := by decide +kernel
theorem d_Ex_bitAt_6 : decode b_Ex_bitAt 6 = .ok (.istore_n 2, 1) := by decide +kernel
theorem d_Ex_bitAt_7 : decode b_Ex_bitAt 7 = .ok (.iload_n 2, 1) := by decide +kernel
theorem d_Ex_bitAt_8 : decode b_Ex_bitAt 8 = .ok (.ifCond .lt 9, 3) := by decide +kernel
theorem d_Ex_bitAt_11 : decode b_Ex_bitAt 11 = .ok (.iload_n 2, 1) := by decide +kernel
theorem d_Ex_bitAt_12 : decode b_Ex_bitAt 12 = .ok (.bipush 112, 2) := by decide +kernel
theorem d_Ex_bitAt_14 : decode b_Ex_bitAt 14 = .ok (.if_icmp .lt 5, 3) := by decide +kernel
theorem d_Ex_bitAt_17 : decode b_Ex_bitAt 17 = .ok (.lconst 0, 1) := by decide +kernel
theorem d_Ex_bitAt_18 : decode b_Ex_bitAt 18 = .ok (.lreturn, 1) := by decide +kernel
theorem d_Ex_bitAt_19 : decode b_Ex_bitAt 19 = .ok (.aload_n 0, 1) := by decide +kernel
theorem d_Ex_bitAt_20 : decode b_Ex_bitAt 20 = .ok (.getfield 9, 3) := by decide +kernel
theorem d_Ex_bitAt_23 : decode b_Ex_bitAt 23 = .ok (.iload_n 2, 1) := by decide +kernel
theorem d_Ex_bitAt_24 : decode b_Ex_bitAt 24 = .ok (.laload, 1) := by decide +kernel
theorem d_Ex_bitAt_25 : decode b_Ex_bitAt 25 = .ok (.iload_n 1, 1) := by decide +kernel
theorem d_Ex_bitAt_26 : decode b_Ex_bitAt 26 = .ok (.bipush 27, 2) := by decide +kernel
theorem d_Ex_bitAt_28 : decode b_Ex_bitAt 28 = .ok (.invokestatic 31, 3) := by decide +kernel
theorem d_Ex_bitAt_31 : decode b_Ex_bitAt 31 = .ok (.lshr, 1) := by decide +kernel
theorem d_Ex_bitAt_32 : decode b_Ex_bitAt 32 = .ok (.lconst 1, 1) := by decide +kernel
theorem d_Ex_bitAt_33 : decode b_Ex_bitAt 33 = .ok (.land, 1) := by decide +kernel
theorem d_Ex_bitAt_34 : decode b_Ex_bitAt 34 = .ok (.lreturn, 1) := by decide +kernel
