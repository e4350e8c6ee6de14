theorem d_De_init_0 : decode b_De_init 0 = .ok (.aload_n 0, 1) := by decide +kernel
theorem d_De_init_1 : decode b_De_init 1 = .ok (.invokespecial 1, 3) := by decide +kernel
theorem d_De_init_4 : decode b_De_init 4 = .ok (.aload_n 0, 1) := by decide +kernel
theorem d_De_init_5 : decode b_De_init 5 = .ok (.new 7, 3) := by decide +kernel
theorem d_De_init_8 : decode b_De_init 8 = .ok (.dup, 1) := by decide +kernel
theorem d_De_init_9 : decode b_De_init 9 = .ok (.iconst 1, 1) := by decide +kernel
theorem d_De_init_10 : decode b_De_init 10 = .ok (.invokespecial 9, 3) := by decide +kernel
theorem d_De_init_13 : decode b_De_init 13 = .ok (.putfield 12, 3) := by decide +kernel
theorem d_De_init_16 : decode b_De_init 16 = .ok (.aload_n 0, 1) := by decide +kernel
theorem d_De_init_17 : decode b_De_init 17 = .ok (.new 7, 3) := by decide +kernel
theorem d_De_init_20 : decode b_De_init 20 = .ok (.dup, 1) := by decide +kernel
theorem d_De_init_21 : decode b_De_init 21 = .ok (.iconst 1, 1) := by decide +kernel
theorem d_De_init_22 : decode b_De_init 22 = .ok (.invokespecial 9, 3) := by decide +kernel
theorem d_De_init_25 : decode b_De_init 25 = .ok (.putfield 18, 3) := by decide +kernel
theorem d_De_init_28 : decode b_De_init 28 = .ok (.aload_n 0, 1) := by decide +kernel
theorem d_De_init_29 : decode b_De_init 29 = .ok (.new 7, 3) := by decide +kernel
theorem d_De_init_32 : decode b_De_init 32 = .ok (.dup, 1) := by decide +kernel
theorem d_De_init_33 : decode b_De_init 33 = .ok (.bipush 16, 2) := by decide +kernel
theorem d_De_init_35 : decode b_De_init 35 = .ok (.invokespecial 9, 3) := by decide +kernel
theorem d_De_init_38 : decode b_De_init 38 = .ok (.putfield 21, 3) := by decide +kernel
theorem d_De_init_41 : decode b_De_init 41 = .ok (.aload_n 0, 1) := by decide +kernel
theorem d_De_init_42 : decode b_De_init 42 = .ok (.new 24, 3) := by decide +kernel
theorem d_De_init_45 : decode b_De_init 45 = .ok (.dup, 1) := by decide +kernel
theorem d_De_init_46 : decode b_De_init 46 = .ok (.bipush 12, 2) := by decide +kernel
theorem d_De_init_48 : decode b_De_init 48 = .ok (.invokespecial 26, 3) := by decide +kernel
theorem d_De_init_51 : decode b_De_init 51 = .ok (.putfield 27, 3) := by decide +kernel
theorem d_De_init_54 : decode b_De_init 54 = .ok (.aload_n 0, 1) := by decide +kernel
theorem d_De_init_55 : decode b_De_init 55 = .ok (.new 24, 3) := by decide +kernel
theorem d_De_init_58 : decode b_De_init 58 = .ok (.dup, 1) := by decide +kernel
theorem d_De_init_59 : decode b_De_init 59 = .ok (.bipush 16, 2) := by decide +kernel
theorem d_De_init_61 : decode b_De_init 61 = .ok (.invokespecial 26, 3) := by decide +kernel
theorem d_De_init_64 : decode b_De_init 64 = .ok (.putfield 31, 3) := by decide +kernel
theorem d_De_init_67 : decode b_De_init 67 = .ok (.aload_n 0, 1) := by decide +kernel
theorem d_De_init_68 : decode b_De_init 68 = .ok (.new 34, 3) := by decide +kernel
theorem d_De_init_71 : decode b_De_init 71 = .ok (.dup, 1) := by decide +kernel
theorem d_De_init_72 : decode b_De_init 72 = .ok (.bipush 100, 2) := by decide +kernel
theorem d_De_init_74 : decode b_De_init 74 = .ok (.invokespecial 36, 3) := by decide +kernel
theorem d_De_init_77 : decode b_De_init 77 = .ok (.putfield 37, 3) := by decide +kernel
theorem d_De_init_80 : decode b_De_init 80 = .ok (.aload_n 0, 1) := by decide +kernel
theorem d_De_init_81 : decode b_De_init 81 = .ok (.new 34, 3) := by decide +kernel
theorem d_De_init_84 : decode b_De_init 84 = .ok (.dup, 1) := by decide +kernel
theorem d_De_init_85 : decode b_De_init 85 = .ok (.bipush 60, 2) := by decide +kernel
theorem d_De_init_87 : decode b_De_init 87 = .ok (.invokespecial 36, 3) := by decide +kernel
theorem d_De_init_90 : decode b_De_init 90 = .ok (.putfield 41, 3) := by decide +kernel
theorem d_De_init_93 : decode b_De_init 93 = .ok (.aload_n 0, 1) := by decide +kernel
theorem d_De_init_94 : decode b_De_init 94 = .ok (.new 44, 3) := by decide +kernel
theorem d_De_init_97 : decode b_De_init 97 = .ok (.dup, 1) := by decide +kernel
theorem d_De_init_98 : decode b_De_init 98 = .ok (.invokespecial 46, 3) := by decide +kernel
theorem d_De_init_101 : decode b_De_init 101 = .ok (.putfield 47, 3) := by decide +kernel
theorem d_De_init_104 : decode b_De_init 104 = .ok (.aload_n 0, 1) := by decide +kernel
theorem d_De_init_105 : decode b_De_init 105 = .ok (.new 51, 3) := by decide +kernel
theorem d_De_init_108 : decode b_De_init 108 = .ok (.dup, 1) := by decide +kernel
theorem d_De_init_109 : decode b_De_init 109 = .ok (.invokespecial 53, 3) := by decide +kernel
theorem d_De_init_112 : decode b_De_init 112 = .ok (.putfield 54, 3) := by decide +kernel
theorem d_De_init_115 : decode b_De_init 115 = .ok (.aload_n 0, 1) := by decide +kernel
theorem d_De_init_116 : decode b_De_init 116 = .ok (.new 51, 3) := by decide +kernel
theorem d_De_init_119 : decode b_De_init 119 = .ok (.dup, 1) := by decide +kernel
theorem d_De_init_120 : decode b_De_init 120 = .ok (.invokespecial 53, 3) := by decide +kernel
theorem d_De_init_123 : decode b_De_init 123 = .ok (.putfield 58, 3) := by decide +kernel
theorem d_De_init_126 : decode b_De_init 126 = .ok (.aload_n 0, 1) := by decide +kernel
theorem d_De_init_127 : decode b_De_init 127 = .ok (.getfield 18, 3) := by decide +kernel
theorem d_De_init_130 : decode b_De_init 130 = .ok (.iconst 0, 1) := by decide +kernel
theorem d_De_init_131 : decode b_De_init 131 = .ok (.dconst 1, 1) := by decide +kernel
theorem d_De_init_132 : decode b_De_init 132 = .ok (.iconst 0, 1) := by decide +kernel
theorem d_De_init_133 : decode b_De_init 133 = .ok (.invokevirtual 61, 3) := by decide +kernel
theorem d_De_init_136 : decode b_De_init 136 = .ok (.return_, 1) := by decide +kernel
theorem d_De_addActivity_0 : decode b_De_addActivity 0 = .ok (.iconst 0, 1) := by decide +kernel
theorem d_De_addActivity_1 : decode b_De_addActivity 1 = .ok (.istore 4, 2) := by decide +kernel
theorem d_De_addActivity_3 : decode b_De_addActivity 3 = .ok (.iload 4, 2) := by decide +kernel
theorem d_De_addActivity_5 : decode b_De_addActivity 5 = .ok (.aload_n 0, 1) := by decide +kernel
theorem d_De_addActivity_6 : decode b_De_addActivity 6 = .ok (.getfield 37, 3) := by decide +kernel
theorem d_De_addActivity_9 : decode b_De_addActivity 9 = .ok (.getfield 241, 3) := by decide +kernel
theorem d_De_addActivity_12 : decode b_De_addActivity 12 = .ok (.if_icmp .ge 66, 3) := by decide +kernel
theorem d_De_addActivity_15 : decode b_De_addActivity 15 = .ok (.aload_n 0, 1) := by decide +kernel
theorem d_De_addActivity_16 : decode b_De_addActivity 16 = .ok (.getfield 37, 3) := by decide +kernel
theorem d_De_addActivity_19 : decode b_De_addActivity 19 = .ok (.iload 4, 2) := by decide +kernel
theorem d_De_addActivity_21 : decode b_De_addActivity 21 = .ok (.invokevirtual 242, 3) := by decide +kernel
theorem d_De_addActivity_24 : decode b_De_addActivity 24 = .ok (.iload_n 2, 1) := by decide +kernel
theorem d_De_addActivity_25 : decode b_De_addActivity 25 = .ok (.if_icmp .ne 47, 3) := by decide +kernel
theorem d_De_addActivity_28 : decode b_De_addActivity 28 = .ok (.aload_n 1, 1) := by decide +kernel
theorem d_De_addActivity_29 : decode b_De_addActivity 29 = .ok (.aload_n 0, 1) := by decide +kernel
theorem d_De_addActivity_30 : decode b_De_addActivity 30 = .ok (.getfield 47, 3) := by decide +kernel
theorem d_De_addActivity_33 : decode b_De_addActivity 33 = .ok (.iload_n 3, 1) := by decide +kernel
theorem d_De_addActivity_34 : decode b_De_addActivity 34 = .ok (.iconst 0, 1) := by decide +kernel
theorem d_De_addActivity_35 : decode b_De_addActivity 35 = .ok (.invokevirtual 196, 3) := by decide +kernel
theorem d_De_addActivity_38 : decode b_De_addActivity 38 = .ok (.aload_n 0, 1) := by decide +kernel
theorem d_De_addActivity_39 : decode b_De_addActivity 39 = .ok (.getfield 37, 3) := by decide +kernel
theorem d_De_addActivity_42 : decode b_De_addActivity 42 = .ok (.getfield 248, 3) := by decide +kernel
theorem d_De_addActivity_45 : decode b_De_addActivity 45 = .ok (.iload 4, 2) := by decide +kernel
theorem d_De_addActivity_47 : decode b_De_addActivity 47 = .ok (.invokevirtual 203, 3) := by decide +kernel
theorem d_De_addActivity_50 : decode b_De_addActivity 50 = .ok (.aload_n 0, 1) := by decide +kernel
theorem d_De_addActivity_51 : decode b_De_addActivity 51 = .ok (.getfield 31, 3) := by decide +kernel
theorem d_De_addActivity_54 : decode b_De_addActivity 54 = .ok (.getfield 158, 3) := by decide +kernel
theorem d_De_addActivity_57 : decode b_De_addActivity 57 = .ok (.aload_n 0, 1) := by decide +kernel
theorem d_De_addActivity_58 : decode b_De_addActivity 58 = .ok (.getfield 37, 3) := by decide +kernel
theorem d_De_addActivity_61 : decode b_De_addActivity 61 = .ok (.iload 4, 2) := by decide +kernel
theorem d_De_addActivity_63 : decode b_De_addActivity 63 = .ok (.invokevirtual 245, 3) := by decide +kernel
theorem d_De_addActivity_66 : decode b_De_addActivity 66 = .ok (.invokevirtual 203, 3) := by decide +kernel
theorem d_De_addActivity_69 : decode b_De_addActivity 69 = .ok (.invokevirtual 207, 3) := by decide +kernel
theorem d_De_addActivity_72 : decode b_De_addActivity 72 = .ok (.iinc 4 1, 3) := by decide +kernel
theorem d_De_addActivity_75 : decode b_De_addActivity 75 = .ok (.goto (-72), 3) := by decide +kernel
theorem d_De_addActivity_78 : decode b_De_addActivity 78 = .ok (.return_, 1) := by decide +kernel
theorem d_De_addCosts_0 : decode b_De_addCosts 0 = .ok (.iconst 0, 1) := by decide +kernel
theorem d_De_addCosts_1 : decode b_De_addCosts 1 = .ok (.istore_n 1, 1) := by decide +kernel
theorem d_De_addCosts_2 : decode b_De_addCosts 2 = .ok (.iload_n 1, 1) := by decide +kernel
theorem d_De_addCosts_3 : decode b_De_addCosts 3 = .ok (.aload_n 0, 1) := by decide +kernel
theorem d_De_addCosts_4 : decode b_De_addCosts 4 = .ok (.getfield 31, 3) := by decide +kernel
theorem d_De_addCosts_7 : decode b_De_addCosts 7 = .ok (.getfield 170, 3) := by decide +kernel
theorem d_De_addCosts_10 : decode b_De_addCosts 10 = .ok (.if_icmp .ge 44, 3) := by decide +kernel
theorem d_De_addCosts_13 : decode b_De_addCosts 13 = .ok (.aload_n 0, 1) := by decide +kernel
theorem d_De_addCosts_14 : decode b_De_addCosts 14 = .ok (.getfield 54, 3) := by decide +kernel
theorem d_De_addCosts_17 : decode b_De_addCosts 17 = .ok (.aload_n 0, 1) := by decide +kernel
theorem d_De_addCosts_18 : decode b_De_addCosts 18 = .ok (.getfield 47, 3) := by decide +kernel
theorem d_De_addCosts_21 : decode b_De_addCosts 21 = .ok (.iconst 0, 1) := by decide +kernel
theorem d_De_addCosts_22 : decode b_De_addCosts 22 = .ok (.iconst 0, 1) := by decide +kernel
theorem d_De_addCosts_23 : decode b_De_addCosts 23 = .ok (.invokevirtual 196, 3) := by decide +kernel
theorem d_De_addCosts_26 : decode b_De_addCosts 26 = .ok (.aload_n 0, 1) := by decide +kernel
theorem d_De_addCosts_27 : decode b_De_addCosts 27 = .ok (.getfield 21, 3) := by decide +kernel
theorem d_De_addCosts_30 : decode b_De_addCosts 30 = .ok (.iload_n 1, 1) := by decide +kernel
theorem d_De_addCosts_31 : decode b_De_addCosts 31 = .ok (.invokevirtual 203, 3) := by decide +kernel
theorem d_De_addCosts_34 : decode b_De_addCosts 34 = .ok (.aload_n 0, 1) := by decide +kernel
theorem d_De_addCosts_35 : decode b_De_addCosts 35 = .ok (.getfield 31, 3) := by decide +kernel
theorem d_De_addCosts_38 : decode b_De_addCosts 38 = .ok (.getfield 158, 3) := by decide +kernel
theorem d_De_addCosts_41 : decode b_De_addCosts 41 = .ok (.iload_n 1, 1) := by decide +kernel
theorem d_De_addCosts_42 : decode b_De_addCosts 42 = .ok (.invokevirtual 203, 3) := by decide +kernel
theorem d_De_addCosts_45 : decode b_De_addCosts 45 = .ok (.invokevirtual 207, 3) := by decide +kernel
theorem d_De_addCosts_48 : decode b_De_addCosts 48 = .ok (.iinc 1 1, 3) := by decide +kernel
theorem d_De_addCosts_51 : decode b_De_addCosts 51 = .ok (.goto (-49), 3) := by decide +kernel
theorem d_De_addCosts_54 : decode b_De_addCosts 54 = .ok (.return_, 1) := by decide +kernel
theorem d_De_addGap_0 : decode b_De_addGap 0 = .ok (.aload_n 0, 1) := by decide +kernel
theorem d_De_addGap_1 : decode b_De_addGap 1 = .ok (.invokevirtual 232, 3) := by decide +kernel
theorem d_De_addGap_4 : decode b_De_addGap 4 = .ok (.aload_n 0, 1) := by decide +kernel
theorem d_De_addGap_5 : decode b_De_addGap 5 = .ok (.iconst 0, 1) := by decide +kernel
theorem d_De_addGap_6 : decode b_De_addGap 6 = .ok (.invokevirtual 235, 3) := by decide +kernel
theorem d_De_addGap_9 : decode b_De_addGap 9 = .ok (.iconst 0, 1) := by decide +kernel
theorem d_De_addGap_10 : decode b_De_addGap 10 = .ok (.istore_n 1, 1) := by decide +kernel
theorem d_De_addGap_11 : decode b_De_addGap 11 = .ok (.iload_n 1, 1) := by decide +kernel
theorem d_De_addGap_12 : decode b_De_addGap 12 = .ok (.aload_n 0, 1) := by decide +kernel
theorem d_De_addGap_13 : decode b_De_addGap 13 = .ok (.getfield 27, 3) := by decide +kernel
theorem d_De_addGap_16 : decode b_De_addGap 16 = .ok (.getfield 170, 3) := by decide +kernel
theorem d_De_addGap_19 : decode b_De_addGap 19 = .ok (.if_icmp .ge 130, 3) := by decide +kernel
theorem d_De_addGap_22 : decode b_De_addGap 22 = .ok (.aload_n 0, 1) := by decide +kernel
theorem d_De_addGap_23 : decode b_De_addGap 23 = .ok (.getfield 27, 3) := by decide +kernel
theorem d_De_addGap_26 : decode b_De_addGap 26 = .ok (.getfield 158, 3) := by decide +kernel
theorem d_De_addGap_29 : decode b_De_addGap 29 = .ok (.iload_n 1, 1) := by decide +kernel
theorem d_De_addGap_30 : decode b_De_addGap 30 = .ok (.invokevirtual 238, 3) := by decide +kernel
theorem d_De_addGap_33 : decode b_De_addGap 33 = .ok (.istore_n 2, 1) := by decide +kernel
theorem d_De_addGap_34 : decode b_De_addGap 34 = .ok (.iload_n 2, 1) := by decide +kernel
theorem d_De_addGap_35 : decode b_De_addGap 35 = .ok (.ifCond .le 55, 3) := by decide +kernel
theorem d_De_addGap_38 : decode b_De_addGap 38 = .ok (.aload_n 0, 1) := by decide +kernel
theorem d_De_addGap_39 : decode b_De_addGap 39 = .ok (.getfield 27, 3) := by decide +kernel
theorem d_De_addGap_42 : decode b_De_addGap 42 = .ok (.iload_n 1, 1) := by decide +kernel
theorem d_De_addGap_43 : decode b_De_addGap 43 = .ok (.invokevirtual 193, 3) := by decide +kernel
theorem d_De_addGap_46 : decode b_De_addGap 46 = .ok (.ifCond .eq 44, 3) := by decide +kernel
theorem d_De_addGap_49 : decode b_De_addGap 49 = .ok (.aload_n 0, 1) := by decide +kernel
theorem d_De_addGap_50 : decode b_De_addGap 50 = .ok (.getfield 54, 3) := by decide +kernel
theorem d_De_addGap_53 : decode b_De_addGap 53 = .ok (.aload_n 0, 1) := by decide +kernel
theorem d_De_addGap_54 : decode b_De_addGap 54 = .ok (.getfield 47, 3) := by decide +kernel
theorem d_De_addGap_57 : decode b_De_addGap 57 = .ok (.iconst 1, 1) := by decide +kernel
theorem d_De_addGap_58 : decode b_De_addGap 58 = .ok (.iconst 0, 1) := by decide +kernel
theorem d_De_addGap_59 : decode b_De_addGap 59 = .ok (.invokevirtual 196, 3) := by decide +kernel
theorem d_De_addGap_62 : decode b_De_addGap 62 = .ok (.aload_n 0, 1) := by decide +kernel
theorem d_De_addGap_63 : decode b_De_addGap 63 = .ok (.getfield 27, 3) := by decide +kernel
theorem d_De_addGap_66 : decode b_De_addGap 66 = .ok (.getfield 158, 3) := by decide +kernel
theorem d_De_addGap_69 : decode b_De_addGap 69 = .ok (.iload_n 1, 1) := by decide +kernel
theorem d_De_addGap_70 : decode b_De_addGap 70 = .ok (.invokevirtual 203, 3) := by decide +kernel
theorem d_De_addGap_73 : decode b_De_addGap 73 = .ok (.aload_n 0, 1) := by decide +kernel
theorem d_De_addGap_74 : decode b_De_addGap 74 = .ok (.getfield 27, 3) := by decide +kernel
theorem d_De_addGap_77 : decode b_De_addGap 77 = .ok (.getfield 200, 3) := by decide +kernel
theorem d_De_addGap_80 : decode b_De_addGap 80 = .ok (.iload_n 1, 1) := by decide +kernel
theorem d_De_addGap_81 : decode b_De_addGap 81 = .ok (.invokevirtual 203, 3) := by decide +kernel
theorem d_De_addGap_84 : decode b_De_addGap 84 = .ok (.invokevirtual 207, 3) := by decide +kernel
theorem d_De_addGap_87 : decode b_De_addGap 87 = .ok (.goto 56, 3) := by decide +kernel
theorem d_De_addGap_90 : decode b_De_addGap 90 = .ok (.iload_n 2, 1) := by decide +kernel
theorem d_De_addGap_91 : decode b_De_addGap 91 = .ok (.ifCond .ge 52, 3) := by decide +kernel
theorem d_De_addGap_94 : decode b_De_addGap 94 = .ok (.aload_n 0, 1) := by decide +kernel
theorem d_De_addGap_95 : decode b_De_addGap 95 = .ok (.getfield 27, 3) := by decide +kernel
theorem d_De_addGap_98 : decode b_De_addGap 98 = .ok (.iload_n 1, 1) := by decide +kernel
theorem d_De_addGap_99 : decode b_De_addGap 99 = .ok (.invokevirtual 219, 3) := by decide +kernel
theorem d_De_addGap_102 : decode b_De_addGap 102 = .ok (.ifCond .eq 41, 3) := by decide +kernel
theorem d_De_addGap_105 : decode b_De_addGap 105 = .ok (.aload_n 0, 1) := by decide +kernel
theorem d_De_addGap_106 : decode b_De_addGap 106 = .ok (.getfield 54, 3) := by decide +kernel
theorem d_De_addGap_109 : decode b_De_addGap 109 = .ok (.aload_n 0, 1) := by decide +kernel
theorem d_De_addGap_110 : decode b_De_addGap 110 = .ok (.getfield 47, 3) := by decide +kernel
theorem d_De_addGap_113 : decode b_De_addGap 113 = .ok (.iconst 1, 1) := by decide +kernel
theorem d_De_addGap_114 : decode b_De_addGap 114 = .ok (.iconst 0, 1) := by decide +kernel
theorem d_De_addGap_115 : decode b_De_addGap 115 = .ok (.invokevirtual 196, 3) := by decide +kernel
theorem d_De_addGap_118 : decode b_De_addGap 118 = .ok (.aload_n 0, 1) := by decide +kernel
theorem d_De_addGap_119 : decode b_De_addGap 119 = .ok (.getfield 27, 3) := by decide +kernel
theorem d_De_addGap_122 : decode b_De_addGap 122 = .ok (.getfield 158, 3) := by decide +kernel
theorem d_De_addGap_125 : decode b_De_addGap 125 = .ok (.iload_n 1, 1) := by decide +kernel
theorem d_De_addGap_126 : decode b_De_addGap 126 = .ok (.invokevirtual 203, 3) := by decide +kernel
theorem d_De_addGap_129 : decode b_De_addGap 129 = .ok (.aload_n 0, 1) := by decide +kernel
theorem d_De_addGap_130 : decode b_De_addGap 130 = .ok (.getfield 27, 3) := by decide +kernel
theorem d_De_addGap_133 : decode b_De_addGap 133 = .ok (.getfield 222, 3) := by decide +kernel
theorem d_De_addGap_136 : decode b_De_addGap 136 = .ok (.iload_n 1, 1) := by decide +kernel
theorem d_De_addGap_137 : decode b_De_addGap 137 = .ok (.invokevirtual 203, 3) := by decide +kernel
theorem d_De_addGap_140 : decode b_De_addGap 140 = .ok (.invokevirtual 207, 3) := by decide +kernel
theorem d_De_addGap_143 : decode b_De_addGap 143 = .ok (.iinc 1 1, 3) := by decide +kernel
theorem d_De_addGap_146 : decode b_De_addGap 146 = .ok (.goto (-135), 3) := by decide +kernel
theorem d_De_addGap_149 : decode b_De_addGap 149 = .ok (.iconst 0, 1) := by decide +kernel
theorem d_De_addGap_150 : decode b_De_addGap 150 = .ok (.istore_n 1, 1) := by decide +kernel
theorem d_De_addGap_151 : decode b_De_addGap 151 = .ok (.iload_n 1, 1) := by decide +kernel
theorem d_De_addGap_152 : decode b_De_addGap 152 = .ok (.aload_n 0, 1) := by decide +kernel
theorem d_De_addGap_153 : decode b_De_addGap 153 = .ok (.getfield 31, 3) := by decide +kernel
theorem d_De_addGap_156 : decode b_De_addGap 156 = .ok (.getfield 170, 3) := by decide +kernel
theorem d_De_addGap_159 : decode b_De_addGap 159 = .ok (.if_icmp .ge 108, 3) := by decide +kernel
theorem d_De_addGap_162 : decode b_De_addGap 162 = .ok (.aload_n 0, 1) := by decide +kernel
theorem d_De_addGap_163 : decode b_De_addGap 163 = .ok (.getfield 58, 3) := by decide +kernel
theorem d_De_addGap_166 : decode b_De_addGap 166 = .ok (.invokevirtual 167, 3) := by decide +kernel
theorem d_De_addGap_169 : decode b_De_addGap 169 = .ok (.aload_n 0, 1) := by decide +kernel
theorem d_De_addGap_170 : decode b_De_addGap 170 = .ok (.aload_n 0, 1) := by decide +kernel
theorem d_De_addGap_171 : decode b_De_addGap 171 = .ok (.getfield 58, 3) := by decide +kernel
theorem d_De_addGap_174 : decode b_De_addGap 174 = .ok (.iload_n 1, 1) := by decide +kernel
theorem d_De_addGap_175 : decode b_De_addGap 175 = .ok (.iconst 0, 1) := by decide +kernel
theorem d_De_addGap_176 : decode b_De_addGap 176 = .ok (.aload_n 0, 1) := by decide +kernel
theorem d_De_addGap_177 : decode b_De_addGap 177 = .ok (.getfield 18, 3) := by decide +kernel
theorem d_De_addGap_180 : decode b_De_addGap 180 = .ok (.iconst 0, 1) := by decide +kernel
theorem d_De_addGap_181 : decode b_De_addGap 181 = .ok (.invokevirtual 189, 3) := by decide +kernel
theorem d_De_addGap_184 : decode b_De_addGap 184 = .ok (.aload_n 0, 1) := by decide +kernel
theorem d_De_addGap_185 : decode b_De_addGap 185 = .ok (.getfield 58, 3) := by decide +kernel
theorem d_De_addGap_188 : decode b_De_addGap 188 = .ok (.invokevirtual 150, 3) := by decide +kernel
theorem d_De_addGap_191 : decode b_De_addGap 191 = .ok (.istore_n 2, 1) := by decide +kernel
theorem d_De_addGap_192 : decode b_De_addGap 192 = .ok (.iload_n 2, 1) := by decide +kernel
theorem d_De_addGap_193 : decode b_De_addGap 193 = .ok (.ifCond .le 35, 3) := by decide +kernel
theorem d_De_addGap_196 : decode b_De_addGap 196 = .ok (.aload_n 0, 1) := by decide +kernel
theorem d_De_addGap_197 : decode b_De_addGap 197 = .ok (.getfield 31, 3) := by decide +kernel
theorem d_De_addGap_200 : decode b_De_addGap 200 = .ok (.iload_n 1, 1) := by decide +kernel
theorem d_De_addGap_201 : decode b_De_addGap 201 = .ok (.invokevirtual 193, 3) := by decide +kernel
theorem d_De_addGap_204 : decode b_De_addGap 204 = .ok (.ifCond .eq 24, 3) := by decide +kernel
theorem d_De_addGap_207 : decode b_De_addGap 207 = .ok (.aload_n 0, 1) := by decide +kernel
theorem d_De_addGap_208 : decode b_De_addGap 208 = .ok (.aload_n 0, 1) := by decide +kernel
theorem d_De_addGap_209 : decode b_De_addGap 209 = .ok (.getfield 54, 3) := by decide +kernel
theorem d_De_addGap_212 : decode b_De_addGap 212 = .ok (.iload_n 1, 1) := by decide +kernel
theorem d_De_addGap_213 : decode b_De_addGap 213 = .ok (.iconst 1, 1) := by decide +kernel
theorem d_De_addGap_214 : decode b_De_addGap 214 = .ok (.aload_n 0, 1) := by decide +kernel
theorem d_De_addGap_215 : decode b_De_addGap 215 = .ok (.getfield 31, 3) := by decide +kernel
theorem d_De_addGap_218 : decode b_De_addGap 218 = .ok (.getfield 200, 3) := by decide +kernel
theorem d_De_addGap_221 : decode b_De_addGap 221 = .ok (.iload_n 1, 1) := by decide +kernel
theorem d_De_addGap_222 : decode b_De_addGap 222 = .ok (.invokevirtual 189, 3) := by decide +kernel
theorem d_De_addGap_225 : decode b_De_addGap 225 = .ok (.goto 36, 3) := by decide +kernel
theorem d_De_addGap_228 : decode b_De_addGap 228 = .ok (.iload_n 2, 1) := by decide +kernel
theorem d_De_addGap_229 : decode b_De_addGap 229 = .ok (.ifCond .ge 32, 3) := by decide +kernel
theorem d_De_addGap_232 : decode b_De_addGap 232 = .ok (.aload_n 0, 1) := by decide +kernel
theorem d_De_addGap_233 : decode b_De_addGap 233 = .ok (.getfield 31, 3) := by decide +kernel
theorem d_De_addGap_236 : decode b_De_addGap 236 = .ok (.iload_n 1, 1) := by decide +kernel
theorem d_De_addGap_237 : decode b_De_addGap 237 = .ok (.invokevirtual 219, 3) := by decide +kernel
theorem d_De_addGap_240 : decode b_De_addGap 240 = .ok (.ifCond .eq 21, 3) := by decide +kernel
theorem d_De_addGap_243 : decode b_De_addGap 243 = .ok (.aload_n 0, 1) := by decide +kernel
theorem d_De_addGap_244 : decode b_De_addGap 244 = .ok (.aload_n 0, 1) := by decide +kernel
theorem d_De_addGap_245 : decode b_De_addGap 245 = .ok (.getfield 54, 3) := by decide +kernel
theorem d_De_addGap_248 : decode b_De_addGap 248 = .ok (.iload_n 1, 1) := by decide +kernel
theorem d_De_addGap_249 : decode b_De_addGap 249 = .ok (.iconst 1, 1) := by decide +kernel
theorem d_De_addGap_250 : decode b_De_addGap 250 = .ok (.aload_n 0, 1) := by decide +kernel
theorem d_De_addGap_251 : decode b_De_addGap 251 = .ok (.getfield 31, 3) := by decide +kernel
theorem d_De_addGap_254 : decode b_De_addGap 254 = .ok (.getfield 222, 3) := by decide +kernel
theorem d_De_addGap_257 : decode b_De_addGap 257 = .ok (.iload_n 1, 1) := by decide +kernel
theorem d_De_addGap_258 : decode b_De_addGap 258 = .ok (.invokevirtual 189, 3) := by decide +kernel
theorem d_De_addGap_261 : decode b_De_addGap 261 = .ok (.iinc 1 1, 3) := by decide +kernel
theorem d_De_addGap_264 : decode b_De_addGap 264 = .ok (.goto (-113), 3) := by decide +kernel
theorem d_De_addGap_267 : decode b_De_addGap 267 = .ok (.return_, 1) := by decide +kernel
theorem d_De_addMinimized_0 : decode b_De_addMinimized 0 = .ok (.aload_n 0, 1) := by decide +kernel
theorem d_De_addMinimized_1 : decode b_De_addMinimized 1 = .ok (.getfield 54, 3) := by decide +kernel
theorem d_De_addMinimized_4 : decode b_De_addMinimized 4 = .ok (.aload_n 0, 1) := by decide +kernel
theorem d_De_addMinimized_5 : decode b_De_addMinimized 5 = .ok (.getfield 47, 3) := by decide +kernel
theorem d_De_addMinimized_8 : decode b_De_addMinimized 8 = .ok (.iconst 0, 1) := by decide +kernel
theorem d_De_addMinimized_9 : decode b_De_addMinimized 9 = .ok (.iconst 0, 1) := by decide +kernel
theorem d_De_addMinimized_10 : decode b_De_addMinimized 10 = .ok (.invokevirtual 196, 3) := by decide +kernel
theorem d_De_addMinimized_13 : decode b_De_addMinimized 13 = .ok (.aload_n 0, 1) := by decide +kernel
theorem d_De_addMinimized_14 : decode b_De_addMinimized 14 = .ok (.getfield 12, 3) := by decide +kernel
theorem d_De_addMinimized_17 : decode b_De_addMinimized 17 = .ok (.iconst 0, 1) := by decide +kernel
theorem d_De_addMinimized_18 : decode b_De_addMinimized 18 = .ok (.invokevirtual 203, 3) := by decide +kernel
theorem d_De_addMinimized_21 : decode b_De_addMinimized 21 = .ok (.invokevirtual 207, 3) := by decide +kernel
theorem d_De_addMinimized_24 : decode b_De_addMinimized 24 = .ok (.aload_n 0, 1) := by decide +kernel
theorem d_De_addMinimized_25 : decode b_De_addMinimized 25 = .ok (.invokevirtual 232, 3) := by decide +kernel
theorem d_De_addMinimized_28 : decode b_De_addMinimized 28 = .ok (.aload_n 0, 1) := by decide +kernel
theorem d_De_addMinimized_29 : decode b_De_addMinimized 29 = .ok (.iconst (-1), 1) := by decide +kernel
theorem d_De_addMinimized_30 : decode b_De_addMinimized 30 = .ok (.invokevirtual 235, 3) := by decide +kernel
theorem d_De_addMinimized_33 : decode b_De_addMinimized 33 = .ok (.return_, 1) := by decide +kernel
theorem d_De_addReducedCost_0 : decode b_De_addReducedCost 0 = .ok (.aload_n 1, 1) := by decide +kernel
theorem d_De_addReducedCost_1 : decode b_De_addReducedCost 1 = .ok (.aload_n 0, 1) := by decide +kernel
theorem d_De_addReducedCost_2 : decode b_De_addReducedCost 2 = .ok (.getfield 47, 3) := by decide +kernel
theorem d_De_addReducedCost_5 : decode b_De_addReducedCost 5 = .ok (.iload_n 3, 1) := by decide +kernel
theorem d_De_addReducedCost_6 : decode b_De_addReducedCost 6 = .ok (.iconst 0, 1) := by decide +kernel
theorem d_De_addReducedCost_7 : decode b_De_addReducedCost 7 = .ok (.invokevirtual 196, 3) := by decide +kernel
theorem d_De_addReducedCost_10 : decode b_De_addReducedCost 10 = .ok (.aload_n 0, 1) := by decide +kernel
theorem d_De_addReducedCost_11 : decode b_De_addReducedCost 11 = .ok (.getfield 21, 3) := by decide +kernel
theorem d_De_addReducedCost_14 : decode b_De_addReducedCost 14 = .ok (.iload_n 2, 1) := by decide +kernel
theorem d_De_addReducedCost_15 : decode b_De_addReducedCost 15 = .ok (.invokevirtual 203, 3) := by decide +kernel
theorem d_De_addReducedCost_18 : decode b_De_addReducedCost 18 = .ok (.aload 4, 2) := by decide +kernel
theorem d_De_addReducedCost_20 : decode b_De_addReducedCost 20 = .ok (.iload 5, 2) := by decide +kernel
theorem d_De_addReducedCost_22 : decode b_De_addReducedCost 22 = .ok (.invokevirtual 203, 3) := by decide +kernel
theorem d_De_addReducedCost_25 : decode b_De_addReducedCost 25 = .ok (.invokevirtual 207, 3) := by decide +kernel
theorem d_De_addReducedCost_28 : decode b_De_addReducedCost 28 = .ok (.iconst 0, 1) := by decide +kernel
theorem d_De_addReducedCost_29 : decode b_De_addReducedCost 29 = .ok (.istore 6, 2) := by decide +kernel
theorem d_De_addReducedCost_31 : decode b_De_addReducedCost 31 = .ok (.iload 6, 2) := by decide +kernel
theorem d_De_addReducedCost_33 : decode b_De_addReducedCost 33 = .ok (.aload_n 0, 1) := by decide +kernel
theorem d_De_addReducedCost_34 : decode b_De_addReducedCost 34 = .ok (.getfield 41, 3) := by decide +kernel
theorem d_De_addReducedCost_37 : decode b_De_addReducedCost 37 = .ok (.getfield 241, 3) := by decide +kernel
theorem d_De_addReducedCost_40 : decode b_De_addReducedCost 40 = .ok (.if_icmp .ge 102, 3) := by decide +kernel
theorem d_De_addReducedCost_43 : decode b_De_addReducedCost 43 = .ok (.aload_n 0, 1) := by decide +kernel
theorem d_De_addReducedCost_44 : decode b_De_addReducedCost 44 = .ok (.getfield 41, 3) := by decide +kernel
theorem d_De_addReducedCost_47 : decode b_De_addReducedCost 47 = .ok (.iload 6, 2) := by decide +kernel
theorem d_De_addReducedCost_49 : decode b_De_addReducedCost 49 = .ok (.invokevirtual 242, 3) := by decide +kernel
theorem d_De_addReducedCost_52 : decode b_De_addReducedCost 52 = .ok (.istore 7, 2) := by decide +kernel
theorem d_De_addReducedCost_54 : decode b_De_addReducedCost 54 = .ok (.aload_n 0, 1) := by decide +kernel
theorem d_De_addReducedCost_55 : decode b_De_addReducedCost 55 = .ok (.getfield 41, 3) := by decide +kernel
theorem d_De_addReducedCost_58 : decode b_De_addReducedCost 58 = .ok (.iload 6, 2) := by decide +kernel
theorem d_De_addReducedCost_60 : decode b_De_addReducedCost 60 = .ok (.invokevirtual 245, 3) := by decide +kernel
theorem d_De_addReducedCost_63 : decode b_De_addReducedCost 63 = .ok (.istore 8, 2) := by decide +kernel
theorem d_De_addReducedCost_65 : decode b_De_addReducedCost 65 = .ok (.iload 7, 2) := by decide +kernel
theorem d_De_addReducedCost_67 : decode b_De_addReducedCost 67 = .ok (.iload_n 2, 1) := by decide +kernel
theorem d_De_addReducedCost_68 : decode b_De_addReducedCost 68 = .ok (.if_icmp .eq 9, 3) := by decide +kernel
theorem d_De_addReducedCost_71 : decode b_De_addReducedCost 71 = .ok (.iload 8, 2) := by decide +kernel
theorem d_De_addReducedCost_73 : decode b_De_addReducedCost 73 = .ok (.iload_n 2, 1) := by decide +kernel
theorem d_De_addReducedCost_74 : decode b_De_addReducedCost 74 = .ok (.if_icmp .ne 62, 3) := by decide +kernel
theorem d_De_addReducedCost_77 : decode b_De_addReducedCost 77 = .ok (.iload 7, 2) := by decide +kernel
theorem d_De_addReducedCost_79 : decode b_De_addReducedCost 79 = .ok (.iload_n 2, 1) := by decide +kernel
theorem d_De_addReducedCost_80 : decode b_De_addReducedCost 80 = .ok (.if_icmp .ne 8, 3) := by decide +kernel
theorem d_De_addReducedCost_83 : decode b_De_addReducedCost 83 = .ok (.iload 8, 2) := by decide +kernel
theorem d_De_addReducedCost_85 : decode b_De_addReducedCost 85 = .ok (.goto 5, 3) := by decide +kernel
theorem d_De_addReducedCost_88 : decode b_De_addReducedCost 88 = .ok (.iload 7, 2) := by decide +kernel
theorem d_De_addReducedCost_90 : decode b_De_addReducedCost 90 = .ok (.istore 9, 2) := by decide +kernel
theorem d_De_addReducedCost_92 : decode b_De_addReducedCost 92 = .ok (.aload_n 1, 1) := by decide +kernel
theorem d_De_addReducedCost_93 : decode b_De_addReducedCost 93 = .ok (.aload_n 0, 1) := by decide +kernel
theorem d_De_addReducedCost_94 : decode b_De_addReducedCost 94 = .ok (.getfield 47, 3) := by decide +kernel
theorem d_De_addReducedCost_97 : decode b_De_addReducedCost 97 = .ok (.iload_n 3, 1) := by decide +kernel
theorem d_De_addReducedCost_98 : decode b_De_addReducedCost 98 = .ok (.iconst 0, 1) := by decide +kernel
theorem d_De_addReducedCost_99 : decode b_De_addReducedCost 99 = .ok (.invokevirtual 196, 3) := by decide +kernel
theorem d_De_addReducedCost_102 : decode b_De_addReducedCost 102 = .ok (.aload_n 0, 1) := by decide +kernel
theorem d_De_addReducedCost_103 : decode b_De_addReducedCost 103 = .ok (.getfield 41, 3) := by decide +kernel
theorem d_De_addReducedCost_106 : decode b_De_addReducedCost 106 = .ok (.getfield 248, 3) := by decide +kernel
theorem d_De_addReducedCost_109 : decode b_De_addReducedCost 109 = .ok (.iload 6, 2) := by decide +kernel
theorem d_De_addReducedCost_111 : decode b_De_addReducedCost 111 = .ok (.invokevirtual 203, 3) := by decide +kernel
theorem d_De_addReducedCost_114 : decode b_De_addReducedCost 114 = .ok (.aload_n 0, 1) := by decide +kernel
theorem d_De_addReducedCost_115 : decode b_De_addReducedCost 115 = .ok (.getfield 31, 3) := by decide +kernel
theorem d_De_addReducedCost_118 : decode b_De_addReducedCost 118 = .ok (.getfield 158, 3) := by decide +kernel
theorem d_De_addReducedCost_121 : decode b_De_addReducedCost 121 = .ok (.iload 9, 2) := by decide +kernel
theorem d_De_addReducedCost_123 : decode b_De_addReducedCost 123 = .ok (.invokevirtual 203, 3) := by decide +kernel
theorem d_De_addReducedCost_126 : decode b_De_addReducedCost 126 = .ok (.aload 4, 2) := by decide +kernel
theorem d_De_addReducedCost_128 : decode b_De_addReducedCost 128 = .ok (.iload 5, 2) := by decide +kernel
theorem d_De_addReducedCost_130 : decode b_De_addReducedCost 130 = .ok (.invokevirtual 203, 3) := by decide +kernel
theorem d_De_addReducedCost_133 : decode b_De_addReducedCost 133 = .ok (.invokevirtual 207, 3) := by decide +kernel
theorem d_De_addReducedCost_136 : decode b_De_addReducedCost 136 = .ok (.iinc 6 1, 3) := by decide +kernel
theorem d_De_addReducedCost_139 : decode b_De_addReducedCost 139 = .ok (.goto (-108), 3) := by decide +kernel
theorem d_De_addReducedCost_142 : decode b_De_addReducedCost 142 = .ok (.iconst 0, 1) := by decide +kernel
theorem d_De_addReducedCost_143 : decode b_De_addReducedCost 143 = .ok (.istore 6, 2) := by decide +kernel
theorem d_De_addReducedCost_145 : decode b_De_addReducedCost 145 = .ok (.iload 6, 2) := by decide +kernel
theorem d_De_addReducedCost_147 : decode b_De_addReducedCost 147 = .ok (.aload_n 0, 1) := by decide +kernel
theorem d_De_addReducedCost_148 : decode b_De_addReducedCost 148 = .ok (.getfield 37, 3) := by decide +kernel
theorem d_De_addReducedCost_151 : decode b_De_addReducedCost 151 = .ok (.getfield 241, 3) := by decide +kernel
theorem d_De_addReducedCost_154 : decode b_De_addReducedCost 154 = .ok (.if_icmp .ge 81, 3) := by decide +kernel
theorem d_De_addReducedCost_157 : decode b_De_addReducedCost 157 = .ok (.aload_n 0, 1) := by decide +kernel
theorem d_De_addReducedCost_158 : decode b_De_addReducedCost 158 = .ok (.getfield 37, 3) := by decide +kernel
theorem d_De_addReducedCost_161 : decode b_De_addReducedCost 161 = .ok (.iload 6, 2) := by decide +kernel
theorem d_De_addReducedCost_163 : decode b_De_addReducedCost 163 = .ok (.invokevirtual 245, 3) := by decide +kernel
theorem d_De_addReducedCost_166 : decode b_De_addReducedCost 166 = .ok (.iload_n 2, 1) := by decide +kernel
theorem d_De_addReducedCost_167 : decode b_De_addReducedCost 167 = .ok (.if_icmp .ne 62, 3) := by decide +kernel
theorem d_De_addReducedCost_170 : decode b_De_addReducedCost 170 = .ok (.aload_n 1, 1) := by decide +kernel
theorem d_De_addReducedCost_171 : decode b_De_addReducedCost 171 = .ok (.aload_n 0, 1) := by decide +kernel
theorem d_De_addReducedCost_172 : decode b_De_addReducedCost 172 = .ok (.getfield 47, 3) := by decide +kernel
theorem d_De_addReducedCost_175 : decode b_De_addReducedCost 175 = .ok (.iload_n 3, 1) := by decide +kernel
theorem d_De_addReducedCost_176 : decode b_De_addReducedCost 176 = .ok (.ifCond .ne 7, 3) := by decide +kernel
theorem d_De_addReducedCost_179 : decode b_De_addReducedCost 179 = .ok (.iconst 1, 1) := by decide +kernel
theorem d_De_addReducedCost_180 : decode b_De_addReducedCost 180 = .ok (.goto 4, 3) := by decide +kernel
theorem d_De_addReducedCost_183 : decode b_De_addReducedCost 183 = .ok (.iconst 0, 1) := by decide +kernel
theorem d_De_addReducedCost_184 : decode b_De_addReducedCost 184 = .ok (.iconst 0, 1) := by decide +kernel
theorem d_De_addReducedCost_185 : decode b_De_addReducedCost 185 = .ok (.invokevirtual 196, 3) := by decide +kernel
theorem d_De_addReducedCost_188 : decode b_De_addReducedCost 188 = .ok (.aload_n 0, 1) := by decide +kernel
theorem d_De_addReducedCost_189 : decode b_De_addReducedCost 189 = .ok (.getfield 37, 3) := by decide +kernel
theorem d_De_addReducedCost_192 : decode b_De_addReducedCost 192 = .ok (.getfield 248, 3) := by decide +kernel
theorem d_De_addReducedCost_195 : decode b_De_addReducedCost 195 = .ok (.iload 6, 2) := by decide +kernel
theorem d_De_addReducedCost_197 : decode b_De_addReducedCost 197 = .ok (.invokevirtual 203, 3) := by decide +kernel
theorem d_De_addReducedCost_200 : decode b_De_addReducedCost 200 = .ok (.aload_n 0, 1) := by decide +kernel
theorem d_De_addReducedCost_201 : decode b_De_addReducedCost 201 = .ok (.getfield 27, 3) := by decide +kernel
theorem d_De_addReducedCost_204 : decode b_De_addReducedCost 204 = .ok (.getfield 158, 3) := by decide +kernel
theorem d_De_addReducedCost_207 : decode b_De_addReducedCost 207 = .ok (.aload_n 0, 1) := by decide +kernel
theorem d_De_addReducedCost_208 : decode b_De_addReducedCost 208 = .ok (.getfield 37, 3) := by decide +kernel
theorem d_De_addReducedCost_211 : decode b_De_addReducedCost 211 = .ok (.iload 6, 2) := by decide +kernel
theorem d_De_addReducedCost_213 : decode b_De_addReducedCost 213 = .ok (.invokevirtual 242, 3) := by decide +kernel
theorem d_De_addReducedCost_216 : decode b_De_addReducedCost 216 = .ok (.invokevirtual 203, 3) := by decide +kernel
theorem d_De_addReducedCost_219 : decode b_De_addReducedCost 219 = .ok (.aload 4, 2) := by decide +kernel
theorem d_De_addReducedCost_221 : decode b_De_addReducedCost 221 = .ok (.iload 5, 2) := by decide +kernel
theorem d_De_addReducedCost_223 : decode b_De_addReducedCost 223 = .ok (.invokevirtual 203, 3) := by decide +kernel
theorem d_De_addReducedCost_226 : decode b_De_addReducedCost 226 = .ok (.invokevirtual 207, 3) := by decide +kernel
theorem d_De_addReducedCost_229 : decode b_De_addReducedCost 229 = .ok (.iinc 6 1, 3) := by decide +kernel
theorem d_De_addReducedCost_232 : decode b_De_addReducedCost 232 = .ok (.goto (-87), 3) := by decide +kernel
theorem d_De_addReducedCost_235 : decode b_De_addReducedCost 235 = .ok (.return_, 1) := by decide +kernel
theorem d_De_addSquares_0 : decode b_De_addSquares 0 = .ok (.iconst 0, 1) := by decide +kernel
theorem d_De_addSquares_1 : decode b_De_addSquares 1 = .ok (.istore_n 2, 1) := by decide +kernel
theorem d_De_addSquares_2 : decode b_De_addSquares 2 = .ok (.iload_n 2, 1) := by decide +kernel
theorem d_De_addSquares_3 : decode b_De_addSquares 3 = .ok (.aload_n 0, 1) := by decide +kernel
theorem d_De_addSquares_4 : decode b_De_addSquares 4 = .ok (.getfield 41, 3) := by decide +kernel
theorem d_De_addSquares_7 : decode b_De_addSquares 7 = .ok (.getfield 241, 3) := by decide +kernel
theorem d_De_addSquares_10 : decode b_De_addSquares 10 = .ok (.if_icmp .ge 94, 3) := by decide +kernel
theorem d_De_addSquares_13 : decode b_De_addSquares 13 = .ok (.aload_n 0, 1) := by decide +kernel
theorem d_De_addSquares_14 : decode b_De_addSquares 14 = .ok (.getfield 41, 3) := by decide +kernel
theorem d_De_addSquares_17 : decode b_De_addSquares 17 = .ok (.iload_n 2, 1) := by decide +kernel
theorem d_De_addSquares_18 : decode b_De_addSquares 18 = .ok (.invokevirtual 242, 3) := by decide +kernel
theorem d_De_addSquares_21 : decode b_De_addSquares 21 = .ok (.istore_n 3, 1) := by decide +kernel
theorem d_De_addSquares_22 : decode b_De_addSquares 22 = .ok (.aload_n 0, 1) := by decide +kernel
theorem d_De_addSquares_23 : decode b_De_addSquares 23 = .ok (.getfield 41, 3) := by decide +kernel
theorem d_De_addSquares_26 : decode b_De_addSquares 26 = .ok (.iload_n 2, 1) := by decide +kernel
theorem d_De_addSquares_27 : decode b_De_addSquares 27 = .ok (.invokevirtual 245, 3) := by decide +kernel
theorem d_De_addSquares_30 : decode b_De_addSquares 30 = .ok (.istore 4, 2) := by decide +kernel
theorem d_De_addSquares_32 : decode b_De_addSquares 32 = .ok (.iload_n 3, 1) := by decide +kernel
theorem d_De_addSquares_33 : decode b_De_addSquares 33 = .ok (.iload 4, 2) := by decide +kernel
theorem d_De_addSquares_35 : decode b_De_addSquares 35 = .ok (.if_icmp .ne 7, 3) := by decide +kernel
theorem d_De_addSquares_38 : decode b_De_addSquares 38 = .ok (.iload_n 1, 1) := by decide +kernel
theorem d_De_addSquares_39 : decode b_De_addSquares 39 = .ok (.goto 6, 3) := by decide +kernel
theorem d_De_addSquares_42 : decode b_De_addSquares 42 = .ok (.iload_n 1, 1) := by decide +kernel
theorem d_De_addSquares_43 : decode b_De_addSquares 43 = .ok (.iconst 1, 1) := by decide +kernel
theorem d_De_addSquares_44 : decode b_De_addSquares 44 = .ok (.iadd, 1) := by decide +kernel
theorem d_De_addSquares_45 : decode b_De_addSquares 45 = .ok (.istore 5, 2) := by decide +kernel
theorem d_De_addSquares_47 : decode b_De_addSquares 47 = .ok (.aload_n 0, 1) := by decide +kernel
theorem d_De_addSquares_48 : decode b_De_addSquares 48 = .ok (.getfield 54, 3) := by decide +kernel
theorem d_De_addSquares_51 : decode b_De_addSquares 51 = .ok (.aload_n 0, 1) := by decide +kernel
theorem d_De_addSquares_52 : decode b_De_addSquares 52 = .ok (.getfield 47, 3) := by decide +kernel
theorem d_De_addSquares_55 : decode b_De_addSquares 55 = .ok (.iconst 0, 1) := by decide +kernel
theorem d_De_addSquares_56 : decode b_De_addSquares 56 = .ok (.iload 5, 2) := by decide +kernel
theorem d_De_addSquares_58 : decode b_De_addSquares 58 = .ok (.invokevirtual 196, 3) := by decide +kernel
theorem d_De_addSquares_61 : decode b_De_addSquares 61 = .ok (.aload_n 0, 1) := by decide +kernel
theorem d_De_addSquares_62 : decode b_De_addSquares 62 = .ok (.getfield 41, 3) := by decide +kernel
theorem d_De_addSquares_65 : decode b_De_addSquares 65 = .ok (.getfield 248, 3) := by decide +kernel
theorem d_De_addSquares_68 : decode b_De_addSquares 68 = .ok (.iload_n 2, 1) := by decide +kernel
theorem d_De_addSquares_69 : decode b_De_addSquares 69 = .ok (.invokevirtual 203, 3) := by decide +kernel
theorem d_De_addSquares_72 : decode b_De_addSquares 72 = .ok (.aload_n 0, 1) := by decide +kernel
theorem d_De_addSquares_73 : decode b_De_addSquares 73 = .ok (.getfield 31, 3) := by decide +kernel
theorem d_De_addSquares_76 : decode b_De_addSquares 76 = .ok (.getfield 158, 3) := by decide +kernel
theorem d_De_addSquares_79 : decode b_De_addSquares 79 = .ok (.iload_n 3, 1) := by decide +kernel
theorem d_De_addSquares_80 : decode b_De_addSquares 80 = .ok (.invokevirtual 203, 3) := by decide +kernel
theorem d_De_addSquares_83 : decode b_De_addSquares 83 = .ok (.aload_n 0, 1) := by decide +kernel
theorem d_De_addSquares_84 : decode b_De_addSquares 84 = .ok (.getfield 31, 3) := by decide +kernel
theorem d_De_addSquares_87 : decode b_De_addSquares 87 = .ok (.getfield 158, 3) := by decide +kernel
theorem d_De_addSquares_90 : decode b_De_addSquares 90 = .ok (.iload 4, 2) := by decide +kernel
theorem d_De_addSquares_92 : decode b_De_addSquares 92 = .ok (.invokevirtual 203, 3) := by decide +kernel
theorem d_De_addSquares_95 : decode b_De_addSquares 95 = .ok (.invokevirtual 207, 3) := by decide +kernel
theorem d_De_addSquares_98 : decode b_De_addSquares 98 = .ok (.iinc 2 1, 3) := by decide +kernel
theorem d_De_addSquares_101 : decode b_De_addSquares 101 = .ok (.goto (-99), 3) := by decide +kernel
theorem d_De_addSquares_104 : decode b_De_addSquares 104 = .ok (.return_, 1) := by decide +kernel
theorem d_De_certify_0 : decode b_De_certify 0 = .ok (.aload_n 0, 1) := by decide +kernel
theorem d_De_certify_1 : decode b_De_certify 1 = .ok (.iload_n 1, 1) := by decide +kernel
theorem d_De_certify_2 : decode b_De_certify 2 = .ok (.iload_n 2, 1) := by decide +kernel
theorem d_De_certify_3 : decode b_De_certify 3 = .ok (.invokevirtual 128, 3) := by decide +kernel
theorem d_De_certify_6 : decode b_De_certify 6 = .ok (.aload_n 0, 1) := by decide +kernel
theorem d_De_certify_7 : decode b_De_certify 7 = .ok (.iload_n 1, 1) := by decide +kernel
theorem d_De_certify_8 : decode b_De_certify 8 = .ok (.iload_n 2, 1) := by decide +kernel
theorem d_De_certify_9 : decode b_De_certify 9 = .ok (.invokevirtual 132, 3) := by decide +kernel
theorem d_De_certify_12 : decode b_De_certify 12 = .ok (.aload_n 0, 1) := by decide +kernel
theorem d_De_certify_13 : decode b_De_certify 13 = .ok (.getfield 54, 3) := by decide +kernel
theorem d_De_certify_16 : decode b_De_certify 16 = .ok (.invokevirtual 135, 3) := by decide +kernel
theorem d_De_certify_19 : decode b_De_certify 19 = .ok (.aload_n 0, 1) := by decide +kernel
theorem d_De_certify_20 : decode b_De_certify 20 = .ok (.getfield 54, 3) := by decide +kernel
theorem d_De_certify_23 : decode b_De_certify 23 = .ok (.invokevirtual 138, 3) := by decide +kernel
theorem d_De_certify_26 : decode b_De_certify 26 = .ok (.ifCond .eq 13, 3) := by decide +kernel
theorem d_De_certify_29 : decode b_De_certify 29 = .ok (.new 141, 3) := by decide +kernel
theorem d_De_certify_32 : decode b_De_certify 32 = .ok (.dup, 1) := by decide +kernel
theorem d_De_certify_33 : decode b_De_certify 33 = .ok (.ldc 143, 2) := by decide +kernel
theorem d_De_certify_35 : decode b_De_certify 35 = .ok (.invokespecial 145, 3) := by decide +kernel
theorem d_De_certify_38 : decode b_De_certify 38 = .ok (.athrow, 1) := by decide +kernel
theorem d_De_certify_39 : decode b_De_certify 39 = .ok (.aload_n 0, 1) := by decide +kernel
theorem d_De_certify_40 : decode b_De_certify 40 = .ok (.getfield 54, 3) := by decide +kernel
theorem d_De_certify_43 : decode b_De_certify 43 = .ok (.invokevirtual 146, 3) := by decide +kernel
theorem d_De_certify_46 : decode b_De_certify 46 = .ok (.dreturn, 1) := by decide +kernel
theorem d_De_column_0 : decode b_De_column 0 = .ok (.dload_n 1, 1) := by decide +kernel
theorem d_De_column_1 : decode b_De_column 1 = .ok (.invokestatic 65, 3) := by decide +kernel
theorem d_De_column_4 : decode b_De_column 4 = .ok (.ifCond .eq 14, 3) := by decide +kernel
theorem d_De_column_7 : decode b_De_column 7 = .ok (.iload_n 3, 1) := by decide +kernel
theorem d_De_column_8 : decode b_De_column 8 = .ok (.dload 4, 2) := by decide +kernel
theorem d_De_column_10 : decode b_De_column 10 = .ok (.dload 6, 2) := by decide +kernel
theorem d_De_column_12 : decode b_De_column 12 = .ok (.invokestatic 76, 3) := by decide +kernel
theorem d_De_column_15 : decode b_De_column 15 = .ok (.ifCond .ne 13, 3) := by decide +kernel
theorem d_De_column_18 : decode b_De_column 18 = .ok (.new 69, 3) := by decide +kernel
theorem d_De_column_21 : decode b_De_column 21 = .ok (.dup, 1) := by decide +kernel
theorem d_De_column_22 : decode b_De_column 22 = .ok (.ldc 94, 2) := by decide +kernel
theorem d_De_column_24 : decode b_De_column 24 = .ok (.invokespecial 73, 3) := by decide +kernel
theorem d_De_column_27 : decode b_De_column 27 = .ok (.athrow, 1) := by decide +kernel
theorem d_De_column_28 : decode b_De_column 28 = .ok (.aload_n 0, 1) := by decide +kernel
theorem d_De_column_29 : decode b_De_column 29 = .ok (.getfield 31, 3) := by decide +kernel
theorem d_De_column_32 : decode b_De_column 32 = .ok (.invokevirtual 81, 3) := by decide +kernel
theorem d_De_column_35 : decode b_De_column 35 = .ok (.ifCond .eq 13, 3) := by decide +kernel
theorem d_De_column_38 : decode b_De_column 38 = .ok (.new 85, 3) := by decide +kernel
theorem d_De_column_41 : decode b_De_column 41 = .ok (.dup, 1) := by decide +kernel
theorem d_De_column_42 : decode b_De_column 42 = .ok (.ldc 96, 2) := by decide +kernel
theorem d_De_column_44 : decode b_De_column 44 = .ok (.invokespecial 89, 3) := by decide +kernel
theorem d_De_column_47 : decode b_De_column 47 = .ok (.athrow, 1) := by decide +kernel
theorem d_De_column_48 : decode b_De_column 48 = .ok (.aload_n 0, 1) := by decide +kernel
theorem d_De_column_49 : decode b_De_column 49 = .ok (.getfield 31, 3) := by decide +kernel
theorem d_De_column_52 : decode b_De_column 52 = .ok (.iload_n 3, 1) := by decide +kernel
theorem d_De_column_53 : decode b_De_column 53 = .ok (.dload 4, 2) := by decide +kernel
theorem d_De_column_55 : decode b_De_column 55 = .ok (.dload 6, 2) := by decide +kernel
theorem d_De_column_57 : decode b_De_column 57 = .ok (.invokevirtual 90, 3) := by decide +kernel
theorem d_De_column_60 : decode b_De_column 60 = .ok (.istore 8, 2) := by decide +kernel
theorem d_De_column_62 : decode b_De_column 62 = .ok (.aload_n 0, 1) := by decide +kernel
theorem d_De_column_63 : decode b_De_column 63 = .ok (.getfield 21, 3) := by decide +kernel
theorem d_De_column_66 : decode b_De_column 66 = .ok (.iload 8, 2) := by decide +kernel
theorem d_De_column_68 : decode b_De_column 68 = .ok (.dload_n 1, 1) := by decide +kernel
theorem d_De_column_69 : decode b_De_column 69 = .ok (.iconst 0, 1) := by decide +kernel
theorem d_De_column_70 : decode b_De_column 70 = .ok (.invokevirtual 61, 3) := by decide +kernel
theorem d_De_column_73 : decode b_De_column 73 = .ok (.iload 8, 2) := by decide +kernel
theorem d_De_column_75 : decode b_De_column 75 = .ok (.ireturn, 1) := by decide +kernel
theorem d_De_constant_0 : decode b_De_constant 0 = .ok (.dload_n 1, 1) := by decide +kernel
theorem d_De_constant_1 : decode b_De_constant 1 = .ok (.invokestatic 65, 3) := by decide +kernel
theorem d_De_constant_4 : decode b_De_constant 4 = .ok (.ifCond .ne 13, 3) := by decide +kernel
theorem d_De_constant_7 : decode b_De_constant 7 = .ok (.new 69, 3) := by decide +kernel
theorem d_De_constant_10 : decode b_De_constant 10 = .ok (.dup, 1) := by decide +kernel
theorem d_De_constant_11 : decode b_De_constant 11 = .ok (.ldc 71, 2) := by decide +kernel
theorem d_De_constant_13 : decode b_De_constant 13 = .ok (.invokespecial 73, 3) := by decide +kernel
theorem d_De_constant_16 : decode b_De_constant 16 = .ok (.athrow, 1) := by decide +kernel
theorem d_De_constant_17 : decode b_De_constant 17 = .ok (.aload_n 0, 1) := by decide +kernel
theorem d_De_constant_18 : decode b_De_constant 18 = .ok (.getfield 12, 3) := by decide +kernel
theorem d_De_constant_21 : decode b_De_constant 21 = .ok (.iconst 0, 1) := by decide +kernel
theorem d_De_constant_22 : decode b_De_constant 22 = .ok (.dload_n 1, 1) := by decide +kernel
theorem d_De_constant_23 : decode b_De_constant 23 = .ok (.iconst 0, 1) := by decide +kernel
theorem d_De_constant_24 : decode b_De_constant 24 = .ok (.invokevirtual 61, 3) := by decide +kernel
theorem d_De_constant_27 : decode b_De_constant 27 = .ok (.return_, 1) := by decide +kernel
theorem d_De_entry_0 : decode b_De_entry 0 = .ok (.aload_n 0, 1) := by decide +kernel
theorem d_De_entry_1 : decode b_De_entry 1 = .ok (.getfield 27, 3) := by decide +kernel
theorem d_De_entry_4 : decode b_De_entry 4 = .ok (.iload_n 1, 1) := by decide +kernel
theorem d_De_entry_5 : decode b_De_entry 5 = .ok (.invokevirtual 98, 3) := by decide +kernel
theorem d_De_entry_8 : decode b_De_entry 8 = .ok (.ifCond .eq 21, 3) := by decide +kernel
theorem d_De_entry_11 : decode b_De_entry 11 = .ok (.aload_n 0, 1) := by decide +kernel
theorem d_De_entry_12 : decode b_De_entry 12 = .ok (.getfield 31, 3) := by decide +kernel
theorem d_De_entry_15 : decode b_De_entry 15 = .ok (.iload_n 2, 1) := by decide +kernel
theorem d_De_entry_16 : decode b_De_entry 16 = .ok (.invokevirtual 98, 3) := by decide +kernel
theorem d_De_entry_19 : decode b_De_entry 19 = .ok (.ifCond .eq 10, 3) := by decide +kernel
theorem d_De_entry_22 : decode b_De_entry 22 = .ok (.dload_n 3, 1) := by decide +kernel
theorem d_De_entry_23 : decode b_De_entry 23 = .ok (.invokestatic 65, 3) := by decide +kernel
theorem d_De_entry_26 : decode b_De_entry 26 = .ok (.ifCond .ne 13, 3) := by decide +kernel
theorem d_De_entry_29 : decode b_De_entry 29 = .ok (.new 69, 3) := by decide +kernel
theorem d_De_entry_32 : decode b_De_entry 32 = .ok (.dup, 1) := by decide +kernel
theorem d_De_entry_33 : decode b_De_entry 33 = .ok (.ldc 102, 2) := by decide +kernel
theorem d_De_entry_35 : decode b_De_entry 35 = .ok (.invokespecial 73, 3) := by decide +kernel
theorem d_De_entry_38 : decode b_De_entry 38 = .ok (.athrow, 1) := by decide +kernel
theorem d_De_entry_39 : decode b_De_entry 39 = .ok (.aload_n 0, 1) := by decide +kernel
theorem d_De_entry_40 : decode b_De_entry 40 = .ok (.getfield 37, 3) := by decide +kernel
theorem d_De_entry_43 : decode b_De_entry 43 = .ok (.iload_n 1, 1) := by decide +kernel
theorem d_De_entry_44 : decode b_De_entry 44 = .ok (.iload_n 2, 1) := by decide +kernel
theorem d_De_entry_45 : decode b_De_entry 45 = .ok (.invokevirtual 104, 3) := by decide +kernel
theorem d_De_entry_48 : decode b_De_entry 48 = .ok (.ifCond .eq 13, 3) := by decide +kernel
theorem d_De_entry_51 : decode b_De_entry 51 = .ok (.new 107, 3) := by decide +kernel
theorem d_De_entry_54 : decode b_De_entry 54 = .ok (.dup, 1) := by decide +kernel
theorem d_De_entry_55 : decode b_De_entry 55 = .ok (.ldc 109, 2) := by decide +kernel
theorem d_De_entry_57 : decode b_De_entry 57 = .ok (.invokespecial 111, 3) := by decide +kernel
theorem d_De_entry_60 : decode b_De_entry 60 = .ok (.athrow, 1) := by decide +kernel
theorem d_De_entry_61 : decode b_De_entry 61 = .ok (.aload_n 0, 1) := by decide +kernel
theorem d_De_entry_62 : decode b_De_entry 62 = .ok (.getfield 37, 3) := by decide +kernel
theorem d_De_entry_65 : decode b_De_entry 65 = .ok (.invokevirtual 112, 3) := by decide +kernel
theorem d_De_entry_68 : decode b_De_entry 68 = .ok (.ifCond .eq 13, 3) := by decide +kernel
theorem d_De_entry_71 : decode b_De_entry 71 = .ok (.new 85, 3) := by decide +kernel
theorem d_De_entry_74 : decode b_De_entry 74 = .ok (.dup, 1) := by decide +kernel
theorem d_De_entry_75 : decode b_De_entry 75 = .ok (.ldc 113, 2) := by decide +kernel
theorem d_De_entry_77 : decode b_De_entry 77 = .ok (.invokespecial 89, 3) := by decide +kernel
theorem d_De_entry_80 : decode b_De_entry 80 = .ok (.athrow, 1) := by decide +kernel
theorem d_De_entry_81 : decode b_De_entry 81 = .ok (.aload_n 0, 1) := by decide +kernel
theorem d_De_entry_82 : decode b_De_entry 82 = .ok (.getfield 37, 3) := by decide +kernel
theorem d_De_entry_85 : decode b_De_entry 85 = .ok (.iload_n 1, 1) := by decide +kernel
theorem d_De_entry_86 : decode b_De_entry 86 = .ok (.iload_n 2, 1) := by decide +kernel
theorem d_De_entry_87 : decode b_De_entry 87 = .ok (.dload_n 3, 1) := by decide +kernel
theorem d_De_entry_88 : decode b_De_entry 88 = .ok (.invokevirtual 115, 3) := by decide +kernel
theorem d_De_entry_91 : decode b_De_entry 91 = .ok (.ireturn, 1) := by decide +kernel
theorem d_De_giveValue_0 : decode b_De_giveValue 0 = .ok (.dload_n 2, 1) := by decide +kernel
theorem d_De_giveValue_1 : decode b_De_giveValue 1 = .ok (.invokestatic 65, 3) := by decide +kernel
theorem d_De_giveValue_4 : decode b_De_giveValue 4 = .ok (.ifCond .eq 19, 3) := by decide +kernel
theorem d_De_giveValue_7 : decode b_De_giveValue 7 = .ok (.iload 4, 2) := by decide +kernel
theorem d_De_giveValue_9 : decode b_De_giveValue 9 = .ok (.sipush (-600), 3) := by decide +kernel
theorem d_De_giveValue_12 : decode b_De_giveValue 12 = .ok (.if_icmp .lt 11, 3) := by decide +kernel
theorem d_De_giveValue_15 : decode b_De_giveValue 15 = .ok (.iload 4, 2) := by decide +kernel
theorem d_De_giveValue_17 : decode b_De_giveValue 17 = .ok (.sipush 600, 3) := by decide +kernel
theorem d_De_giveValue_20 : decode b_De_giveValue 20 = .ok (.if_icmp .le 13, 3) := by decide +kernel
theorem d_De_giveValue_23 : decode b_De_giveValue 23 = .ok (.new 69, 3) := by decide +kernel
theorem d_De_giveValue_26 : decode b_De_giveValue 26 = .ok (.dup, 1) := by decide +kernel
theorem d_De_giveValue_27 : decode b_De_giveValue 27 = .ok (.ldc 154, 2) := by decide +kernel
theorem d_De_giveValue_29 : decode b_De_giveValue 29 = .ok (.invokespecial 73, 3) := by decide +kernel
theorem d_De_giveValue_32 : decode b_De_giveValue 32 = .ok (.athrow, 1) := by decide +kernel
theorem d_De_giveValue_33 : decode b_De_giveValue 33 = .ok (.aload_n 0, 1) := by decide +kernel
theorem d_De_giveValue_34 : decode b_De_giveValue 34 = .ok (.iload_n 1, 1) := by decide +kernel
theorem d_De_giveValue_35 : decode b_De_giveValue 35 = .ok (.invokevirtual 98, 3) := by decide +kernel
theorem d_De_giveValue_38 : decode b_De_giveValue 38 = .ok (.ifCond .ne 13, 3) := by decide +kernel
theorem d_De_giveValue_41 : decode b_De_giveValue 41 = .ok (.new 85, 3) := by decide +kernel
theorem d_De_giveValue_44 : decode b_De_giveValue 44 = .ok (.dup, 1) := by decide +kernel
theorem d_De_giveValue_45 : decode b_De_giveValue 45 = .ok (.ldc 156, 2) := by decide +kernel
theorem d_De_giveValue_47 : decode b_De_giveValue 47 = .ok (.invokespecial 89, 3) := by decide +kernel
theorem d_De_giveValue_50 : decode b_De_giveValue 50 = .ok (.athrow, 1) := by decide +kernel
theorem d_De_giveValue_51 : decode b_De_giveValue 51 = .ok (.aload_n 0, 1) := by decide +kernel
theorem d_De_giveValue_52 : decode b_De_giveValue 52 = .ok (.getfield 158, 3) := by decide +kernel
theorem d_De_giveValue_55 : decode b_De_giveValue 55 = .ok (.iload_n 1, 1) := by decide +kernel
theorem d_De_giveValue_56 : decode b_De_giveValue 56 = .ok (.dload_n 2, 1) := by decide +kernel
theorem d_De_giveValue_57 : decode b_De_giveValue 57 = .ok (.iload 4, 2) := by decide +kernel
theorem d_De_giveValue_59 : decode b_De_giveValue 59 = .ok (.invokevirtual 61, 3) := by decide +kernel
theorem d_De_giveValue_62 : decode b_De_giveValue 62 = .ok (.return_, 1) := by decide +kernel
theorem d_De_pair_0 : decode b_De_pair 0 = .ok (.aload_n 0, 1) := by decide +kernel
theorem d_De_pair_1 : decode b_De_pair 1 = .ok (.getfield 31, 3) := by decide +kernel
theorem d_De_pair_4 : decode b_De_pair 4 = .ok (.iload_n 1, 1) := by decide +kernel
theorem d_De_pair_5 : decode b_De_pair 5 = .ok (.invokevirtual 98, 3) := by decide +kernel
theorem d_De_pair_8 : decode b_De_pair 8 = .ok (.ifCond .eq 21, 3) := by decide +kernel
theorem d_De_pair_11 : decode b_De_pair 11 = .ok (.aload_n 0, 1) := by decide +kernel
theorem d_De_pair_12 : decode b_De_pair 12 = .ok (.getfield 31, 3) := by decide +kernel
theorem d_De_pair_15 : decode b_De_pair 15 = .ok (.iload_n 2, 1) := by decide +kernel
theorem d_De_pair_16 : decode b_De_pair 16 = .ok (.invokevirtual 98, 3) := by decide +kernel
theorem d_De_pair_19 : decode b_De_pair 19 = .ok (.ifCond .eq 10, 3) := by decide +kernel
theorem d_De_pair_22 : decode b_De_pair 22 = .ok (.dload_n 3, 1) := by decide +kernel
theorem d_De_pair_23 : decode b_De_pair 23 = .ok (.invokestatic 65, 3) := by decide +kernel
theorem d_De_pair_26 : decode b_De_pair 26 = .ok (.ifCond .ne 13, 3) := by decide +kernel
theorem d_De_pair_29 : decode b_De_pair 29 = .ok (.new 69, 3) := by decide +kernel
theorem d_De_pair_32 : decode b_De_pair 32 = .ok (.dup, 1) := by decide +kernel
theorem d_De_pair_33 : decode b_De_pair 33 = .ok (.ldc 118, 2) := by decide +kernel
theorem d_De_pair_35 : decode b_De_pair 35 = .ok (.invokespecial 73, 3) := by decide +kernel
theorem d_De_pair_38 : decode b_De_pair 38 = .ok (.athrow, 1) := by decide +kernel
theorem d_De_pair_39 : decode b_De_pair 39 = .ok (.aload_n 0, 1) := by decide +kernel
theorem d_De_pair_40 : decode b_De_pair 40 = .ok (.getfield 41, 3) := by decide +kernel
theorem d_De_pair_43 : decode b_De_pair 43 = .ok (.iload_n 1, 1) := by decide +kernel
theorem d_De_pair_44 : decode b_De_pair 44 = .ok (.iload_n 2, 1) := by decide +kernel
theorem d_De_pair_45 : decode b_De_pair 45 = .ok (.invokevirtual 104, 3) := by decide +kernel
theorem d_De_pair_48 : decode b_De_pair 48 = .ok (.ifCond .ne 15, 3) := by decide +kernel
theorem d_De_pair_51 : decode b_De_pair 51 = .ok (.aload_n 0, 1) := by decide +kernel
theorem d_De_pair_52 : decode b_De_pair 52 = .ok (.getfield 41, 3) := by decide +kernel
theorem d_De_pair_55 : decode b_De_pair 55 = .ok (.iload_n 2, 1) := by decide +kernel
theorem d_De_pair_56 : decode b_De_pair 56 = .ok (.iload_n 1, 1) := by decide +kernel
theorem d_De_pair_57 : decode b_De_pair 57 = .ok (.invokevirtual 104, 3) := by decide +kernel
theorem d_De_pair_60 : decode b_De_pair 60 = .ok (.ifCond .eq 13, 3) := by decide +kernel
theorem d_De_pair_63 : decode b_De_pair 63 = .ok (.new 107, 3) := by decide +kernel
theorem d_De_pair_66 : decode b_De_pair 66 = .ok (.dup, 1) := by decide +kernel
theorem d_De_pair_67 : decode b_De_pair 67 = .ok (.ldc 120, 2) := by decide +kernel
theorem d_De_pair_69 : decode b_De_pair 69 = .ok (.invokespecial 111, 3) := by decide +kernel
theorem d_De_pair_72 : decode b_De_pair 72 = .ok (.athrow, 1) := by decide +kernel
theorem d_De_pair_73 : decode b_De_pair 73 = .ok (.aload_n 0, 1) := by decide +kernel
theorem d_De_pair_74 : decode b_De_pair 74 = .ok (.getfield 41, 3) := by decide +kernel
theorem d_De_pair_77 : decode b_De_pair 77 = .ok (.invokevirtual 112, 3) := by decide +kernel
theorem d_De_pair_80 : decode b_De_pair 80 = .ok (.ifCond .eq 13, 3) := by decide +kernel
theorem d_De_pair_83 : decode b_De_pair 83 = .ok (.new 85, 3) := by decide +kernel
theorem d_De_pair_86 : decode b_De_pair 86 = .ok (.dup, 1) := by decide +kernel
theorem d_De_pair_87 : decode b_De_pair 87 = .ok (.ldc 122, 2) := by decide +kernel
theorem d_De_pair_89 : decode b_De_pair 89 = .ok (.invokespecial 89, 3) := by decide +kernel
theorem d_De_pair_92 : decode b_De_pair 92 = .ok (.athrow, 1) := by decide +kernel
theorem d_De_pair_93 : decode b_De_pair 93 = .ok (.aload_n 0, 1) := by decide +kernel
theorem d_De_pair_94 : decode b_De_pair 94 = .ok (.getfield 41, 3) := by decide +kernel
theorem d_De_pair_97 : decode b_De_pair 97 = .ok (.iload_n 1, 1) := by decide +kernel
theorem d_De_pair_98 : decode b_De_pair 98 = .ok (.iload_n 2, 1) := by decide +kernel
theorem d_De_pair_99 : decode b_De_pair 99 = .ok (.dload_n 3, 1) := by decide +kernel
theorem d_De_pair_100 : decode b_De_pair 100 = .ok (.invokevirtual 115, 3) := by decide +kernel
theorem d_De_pair_103 : decode b_De_pair 103 = .ok (.ireturn, 1) := by decide +kernel
