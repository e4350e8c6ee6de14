theorem d_Mo_thrown_0 : decode b_Mo_thrown 0 = .ok (.aload_n 0, 1) := by decide +kernel
theorem d_Mo_thrown_1 : decode b_Mo_thrown 1 = .ok (.getfield 78, 3) := by decide +kernel
theorem d_Mo_thrown_4 : decode b_Mo_thrown 4 = .ok (.ireturn, 1) := by decide +kernel
theorem d_Mo_times_0 : decode b_Mo_times 0 = .ok (.iconst 0, 1) := by decide +kernel
theorem d_Mo_times_1 : decode b_Mo_times 1 = .ok (.istore 5, 2) := by decide +kernel
theorem d_Mo_times_3 : decode b_Mo_times 3 = .ok (.iload 5, 2) := by decide +kernel
theorem d_Mo_times_5 : decode b_Mo_times 5 = .ok (.iload_n 1, 1) := by decide +kernel
theorem d_Mo_times_6 : decode b_Mo_times 6 = .ok (.iload_n 3, 1) := by decide +kernel
theorem d_Mo_times_7 : decode b_Mo_times 7 = .ok (.iadd, 1) := by decide +kernel
theorem d_Mo_times_8 : decode b_Mo_times 8 = .ok (.if_icmp .ge 15, 3) := by decide +kernel
theorem d_Mo_times_11 : decode b_Mo_times 11 = .ok (.aload 4, 2) := by decide +kernel
theorem d_Mo_times_13 : decode b_Mo_times 13 = .ok (.iload 5, 2) := by decide +kernel
theorem d_Mo_times_15 : decode b_Mo_times 15 = .ok (.iconst 0, 1) := by decide +kernel
theorem d_Mo_times_16 : decode b_Mo_times 16 = .ok (.iastore, 1) := by decide +kernel
theorem d_Mo_times_17 : decode b_Mo_times 17 = .ok (.iinc 5 1, 3) := by decide +kernel
theorem d_Mo_times_20 : decode b_Mo_times 20 = .ok (.goto (-17), 3) := by decide +kernel
theorem d_Mo_times_23 : decode b_Mo_times 23 = .ok (.iconst 0, 1) := by decide +kernel
theorem d_Mo_times_24 : decode b_Mo_times 24 = .ok (.istore 5, 2) := by decide +kernel
theorem d_Mo_times_26 : decode b_Mo_times 26 = .ok (.iload 5, 2) := by decide +kernel
theorem d_Mo_times_28 : decode b_Mo_times 28 = .ok (.iload_n 1, 1) := by decide +kernel
theorem d_Mo_times_29 : decode b_Mo_times 29 = .ok (.if_icmp .ge 85, 3) := by decide +kernel
theorem d_Mo_times_32 : decode b_Mo_times 32 = .ok (.lconst 0, 1) := by decide +kernel
theorem d_Mo_times_33 : decode b_Mo_times 33 = .ok (.lstore 6, 2) := by decide +kernel
theorem d_Mo_times_35 : decode b_Mo_times 35 = .ok (.iconst 0, 1) := by decide +kernel
theorem d_Mo_times_36 : decode b_Mo_times 36 = .ok (.istore 8, 2) := by decide +kernel
theorem d_Mo_times_38 : decode b_Mo_times 38 = .ok (.iload 8, 2) := by decide +kernel
theorem d_Mo_times_40 : decode b_Mo_times 40 = .ok (.iload_n 3, 1) := by decide +kernel
theorem d_Mo_times_41 : decode b_Mo_times 41 = .ok (.if_icmp .ge 57, 3) := by decide +kernel
theorem d_Mo_times_44 : decode b_Mo_times 44 = .ok (.lload 6, 2) := by decide +kernel
theorem d_Mo_times_46 : decode b_Mo_times 46 = .ok (.aload_n 0, 1) := by decide +kernel
theorem d_Mo_times_47 : decode b_Mo_times 47 = .ok (.iload 5, 2) := by decide +kernel
theorem d_Mo_times_49 : decode b_Mo_times 49 = .ok (.iaload, 1) := by decide +kernel
theorem d_Mo_times_50 : decode b_Mo_times 50 = .ok (.i2l, 1) := by decide +kernel
theorem d_Mo_times_51 : decode b_Mo_times 51 = .ok (.aload_n 2, 1) := by decide +kernel
theorem d_Mo_times_52 : decode b_Mo_times 52 = .ok (.iload 8, 2) := by decide +kernel
theorem d_Mo_times_54 : decode b_Mo_times 54 = .ok (.iaload, 1) := by decide +kernel
theorem d_Mo_times_55 : decode b_Mo_times 55 = .ok (.i2l, 1) := by decide +kernel
theorem d_Mo_times_56 : decode b_Mo_times 56 = .ok (.lmul, 1) := by decide +kernel
theorem d_Mo_times_57 : decode b_Mo_times 57 = .ok (.aload 4, 2) := by decide +kernel
theorem d_Mo_times_59 : decode b_Mo_times 59 = .ok (.iload 5, 2) := by decide +kernel
theorem d_Mo_times_61 : decode b_Mo_times 61 = .ok (.iload 8, 2) := by decide +kernel
theorem d_Mo_times_63 : decode b_Mo_times 63 = .ok (.iadd, 1) := by decide +kernel
theorem d_Mo_times_64 : decode b_Mo_times 64 = .ok (.iaload, 1) := by decide +kernel
theorem d_Mo_times_65 : decode b_Mo_times 65 = .ok (.i2l, 1) := by decide +kernel
theorem d_Mo_times_66 : decode b_Mo_times 66 = .ok (.ladd, 1) := by decide +kernel
theorem d_Mo_times_67 : decode b_Mo_times 67 = .ok (.ladd, 1) := by decide +kernel
theorem d_Mo_times_68 : decode b_Mo_times 68 = .ok (.lstore 6, 2) := by decide +kernel
theorem d_Mo_times_70 : decode b_Mo_times 70 = .ok (.aload 4, 2) := by decide +kernel
theorem d_Mo_times_72 : decode b_Mo_times 72 = .ok (.iload 5, 2) := by decide +kernel
theorem d_Mo_times_74 : decode b_Mo_times 74 = .ok (.iload 8, 2) := by decide +kernel
theorem d_Mo_times_76 : decode b_Mo_times 76 = .ok (.iadd, 1) := by decide +kernel
theorem d_Mo_times_77 : decode b_Mo_times 77 = .ok (.lload 6, 2) := by decide +kernel
theorem d_Mo_times_79 : decode b_Mo_times 79 = .ok (.ldc2_w 82, 3) := by decide +kernel
theorem d_Mo_times_82 : decode b_Mo_times 82 = .ok (.land, 1) := by decide +kernel
theorem d_Mo_times_83 : decode b_Mo_times 83 = .ok (.l2i, 1) := by decide +kernel
theorem d_Mo_times_84 : decode b_Mo_times 84 = .ok (.iastore, 1) := by decide +kernel
theorem d_Mo_times_85 : decode b_Mo_times 85 = .ok (.lload 6, 2) := by decide +kernel
theorem d_Mo_times_87 : decode b_Mo_times 87 = .ok (.bipush 16, 2) := by decide +kernel
theorem d_Mo_times_89 : decode b_Mo_times 89 = .ok (.lushr, 1) := by decide +kernel
theorem d_Mo_times_90 : decode b_Mo_times 90 = .ok (.lstore 6, 2) := by decide +kernel
theorem d_Mo_times_92 : decode b_Mo_times 92 = .ok (.iinc 8 1, 3) := by decide +kernel
theorem d_Mo_times_95 : decode b_Mo_times 95 = .ok (.goto (-57), 3) := by decide +kernel
theorem d_Mo_times_98 : decode b_Mo_times 98 = .ok (.aload 4, 2) := by decide +kernel
theorem d_Mo_times_100 : decode b_Mo_times 100 = .ok (.iload 5, 2) := by decide +kernel
theorem d_Mo_times_102 : decode b_Mo_times 102 = .ok (.iload_n 3, 1) := by decide +kernel
theorem d_Mo_times_103 : decode b_Mo_times 103 = .ok (.iadd, 1) := by decide +kernel
theorem d_Mo_times_104 : decode b_Mo_times 104 = .ok (.lload 6, 2) := by decide +kernel
theorem d_Mo_times_106 : decode b_Mo_times 106 = .ok (.l2i, 1) := by decide +kernel
theorem d_Mo_times_107 : decode b_Mo_times 107 = .ok (.iastore, 1) := by decide +kernel
theorem d_Mo_times_108 : decode b_Mo_times 108 = .ok (.iinc 5 1, 3) := by decide +kernel
theorem d_Mo_times_111 : decode b_Mo_times 111 = .ok (.goto (-85), 3) := by decide +kernel
theorem d_Mo_times_114 : decode b_Mo_times 114 = .ok (.aload 4, 2) := by decide +kernel
theorem d_Mo_times_116 : decode b_Mo_times 116 = .ok (.iload_n 1, 1) := by decide +kernel
theorem d_Mo_times_117 : decode b_Mo_times 117 = .ok (.iload_n 3, 1) := by decide +kernel
theorem d_Mo_times_118 : decode b_Mo_times 118 = .ok (.iadd, 1) := by decide +kernel
theorem d_Mo_times_119 : decode b_Mo_times 119 = .ok (.invokestatic 84, 3) := by decide +kernel
theorem d_Mo_times_122 : decode b_Mo_times 122 = .ok (.ireturn, 1) := by decide +kernel
theorem d_Mo_trim_0 : decode b_Mo_trim 0 = .ok (.iload_n 1, 1) := by decide +kernel
theorem d_Mo_trim_1 : decode b_Mo_trim 1 = .ok (.istore_n 2, 1) := by decide +kernel
theorem d_Mo_trim_2 : decode b_Mo_trim 2 = .ok (.iload_n 2, 1) := by decide +kernel
theorem d_Mo_trim_3 : decode b_Mo_trim 3 = .ok (.ifCond .le 17, 3) := by decide +kernel
theorem d_Mo_trim_6 : decode b_Mo_trim 6 = .ok (.aload_n 0, 1) := by decide +kernel
theorem d_Mo_trim_7 : decode b_Mo_trim 7 = .ok (.iload_n 2, 1) := by decide +kernel
theorem d_Mo_trim_8 : decode b_Mo_trim 8 = .ok (.iconst 1, 1) := by decide +kernel
theorem d_Mo_trim_9 : decode b_Mo_trim 9 = .ok (.isub, 1) := by decide +kernel
theorem d_Mo_trim_10 : decode b_Mo_trim 10 = .ok (.iaload, 1) := by decide +kernel
theorem d_Mo_trim_11 : decode b_Mo_trim 11 = .ok (.ifCond .ne 9, 3) := by decide +kernel
theorem d_Mo_trim_14 : decode b_Mo_trim 14 = .ok (.iinc 2 (-1), 3) := by decide +kernel
theorem d_Mo_trim_17 : decode b_Mo_trim 17 = .ok (.goto (-15), 3) := by decide +kernel
theorem d_Mo_trim_20 : decode b_Mo_trim 20 = .ok (.iload_n 2, 1) := by decide +kernel
theorem d_Mo_trim_21 : decode b_Mo_trim 21 = .ok (.ireturn, 1) := by decide +kernel
theorem d_Mo_upwards_0 : decode b_Mo_upwards 0 = .ok (.aload_n 0, 1) := by decide +kernel
theorem d_Mo_upwards_1 : decode b_Mo_upwards 1 = .ok (.invokevirtual 152, 3) := by decide +kernel
theorem d_Mo_upwards_4 : decode b_Mo_upwards 4 = .ok (.istore_n 1, 1) := by decide +kernel
theorem d_Mo_upwards_5 : decode b_Mo_upwards 5 = .ok (.sipush 440, 3) := by decide +kernel
theorem d_Mo_upwards_8 : decode b_Mo_upwards 8 = .ok (.istore_n 2, 1) := by decide +kernel
theorem d_Mo_upwards_9 : decode b_Mo_upwards 9 = .ok (.iload_n 1, 1) := by decide +kernel
theorem d_Mo_upwards_10 : decode b_Mo_upwards 10 = .ok (.ifCond .ne 5, 3) := by decide +kernel
theorem d_Mo_upwards_13 : decode b_Mo_upwards 13 = .ok (.dconst 0, 1) := by decide +kernel
theorem d_Mo_upwards_14 : decode b_Mo_upwards 14 = .ok (.dreturn, 1) := by decide +kernel
theorem d_Mo_upwards_15 : decode b_Mo_upwards 15 = .ok (.iconst 1, 1) := by decide +kernel
theorem d_Mo_upwards_16 : decode b_Mo_upwards 16 = .ok (.istore_n 3, 1) := by decide +kernel
theorem d_Mo_upwards_17 : decode b_Mo_upwards 17 = .ok (.iconst 0, 1) := by decide +kernel
theorem d_Mo_upwards_18 : decode b_Mo_upwards 18 = .ok (.istore 4, 2) := by decide +kernel
theorem d_Mo_upwards_20 : decode b_Mo_upwards 20 = .ok (.iload 4, 2) := by decide +kernel
theorem d_Mo_upwards_22 : decode b_Mo_upwards 22 = .ok (.sipush 440, 3) := by decide +kernel
theorem d_Mo_upwards_25 : decode b_Mo_upwards 25 = .ok (.if_icmp .ge 61, 3) := by decide +kernel
theorem d_Mo_upwards_28 : decode b_Mo_upwards 28 = .ok (.iload_n 1, 1) := by decide +kernel
theorem d_Mo_upwards_29 : decode b_Mo_upwards 29 = .ok (.ifCond .le 20, 3) := by decide +kernel
theorem d_Mo_upwards_32 : decode b_Mo_upwards 32 = .ok (.aload_n 0, 1) := by decide +kernel
theorem d_Mo_upwards_33 : decode b_Mo_upwards 33 = .ok (.getfield 63, 3) := by decide +kernel
theorem d_Mo_upwards_36 : decode b_Mo_upwards 36 = .ok (.iload 4, 2) := by decide +kernel
theorem d_Mo_upwards_38 : decode b_Mo_upwards 38 = .ok (.aload_n 0, 1) := by decide +kernel
theorem d_Mo_upwards_39 : decode b_Mo_upwards 39 = .ok (.getfield 56, 3) := by decide +kernel
theorem d_Mo_upwards_42 : decode b_Mo_upwards 42 = .ok (.iload 4, 2) := by decide +kernel
theorem d_Mo_upwards_44 : decode b_Mo_upwards 44 = .ok (.iaload, 1) := by decide +kernel
theorem d_Mo_upwards_45 : decode b_Mo_upwards 45 = .ok (.iastore, 1) := by decide +kernel
theorem d_Mo_upwards_46 : decode b_Mo_upwards 46 = .ok (.goto 34, 3) := by decide +kernel
theorem d_Mo_upwards_49 : decode b_Mo_upwards 49 = .ok (.iload_n 3, 1) := by decide +kernel
theorem d_Mo_upwards_50 : decode b_Mo_upwards 50 = .ok (.aload_n 0, 1) := by decide +kernel
theorem d_Mo_upwards_51 : decode b_Mo_upwards 51 = .ok (.getfield 56, 3) := by decide +kernel
theorem d_Mo_upwards_54 : decode b_Mo_upwards 54 = .ok (.iload 4, 2) := by decide +kernel
theorem d_Mo_upwards_56 : decode b_Mo_upwards 56 = .ok (.iaload, 1) := by decide +kernel
theorem d_Mo_upwards_57 : decode b_Mo_upwards 57 = .ok (.iconst (-1), 1) := by decide +kernel
theorem d_Mo_upwards_58 : decode b_Mo_upwards 58 = .ok (.ixor, 1) := by decide +kernel
theorem d_Mo_upwards_59 : decode b_Mo_upwards 59 = .ok (.ldc 88, 2) := by decide +kernel
theorem d_Mo_upwards_61 : decode b_Mo_upwards 61 = .ok (.iand, 1) := by decide +kernel
theorem d_Mo_upwards_62 : decode b_Mo_upwards 62 = .ok (.iadd, 1) := by decide +kernel
theorem d_Mo_upwards_63 : decode b_Mo_upwards 63 = .ok (.istore_n 3, 1) := by decide +kernel
theorem d_Mo_upwards_64 : decode b_Mo_upwards 64 = .ok (.aload_n 0, 1) := by decide +kernel
theorem d_Mo_upwards_65 : decode b_Mo_upwards 65 = .ok (.getfield 63, 3) := by decide +kernel
theorem d_Mo_upwards_68 : decode b_Mo_upwards 68 = .ok (.iload 4, 2) := by decide +kernel
theorem d_Mo_upwards_70 : decode b_Mo_upwards 70 = .ok (.iload_n 3, 1) := by decide +kernel
theorem d_Mo_upwards_71 : decode b_Mo_upwards 71 = .ok (.ldc 88, 2) := by decide +kernel
theorem d_Mo_upwards_73 : decode b_Mo_upwards 73 = .ok (.iand, 1) := by decide +kernel
theorem d_Mo_upwards_74 : decode b_Mo_upwards 74 = .ok (.iastore, 1) := by decide +kernel
theorem d_Mo_upwards_75 : decode b_Mo_upwards 75 = .ok (.iload_n 3, 1) := by decide +kernel
theorem d_Mo_upwards_76 : decode b_Mo_upwards 76 = .ok (.bipush 16, 2) := by decide +kernel
theorem d_Mo_upwards_78 : decode b_Mo_upwards 78 = .ok (.ishr, 1) := by decide +kernel
theorem d_Mo_upwards_79 : decode b_Mo_upwards 79 = .ok (.istore_n 3, 1) := by decide +kernel
theorem d_Mo_upwards_80 : decode b_Mo_upwards 80 = .ok (.iinc 4 1, 3) := by decide +kernel
theorem d_Mo_upwards_83 : decode b_Mo_upwards 83 = .ok (.goto (-63), 3) := by decide +kernel
theorem d_Mo_upwards_86 : decode b_Mo_upwards 86 = .ok (.aload_n 0, 1) := by decide +kernel
theorem d_Mo_upwards_87 : decode b_Mo_upwards 87 = .ok (.getfield 63, 3) := by decide +kernel
theorem d_Mo_upwards_90 : decode b_Mo_upwards 90 = .ok (.iload_n 2, 1) := by decide +kernel
theorem d_Mo_upwards_91 : decode b_Mo_upwards 91 = .ok (.invokestatic 84, 3) := by decide +kernel
theorem d_Mo_upwards_94 : decode b_Mo_upwards 94 = .ok (.istore_n 2, 1) := by decide +kernel
theorem d_Mo_upwards_95 : decode b_Mo_upwards 95 = .ok (.aload_n 0, 1) := by decide +kernel
theorem d_Mo_upwards_96 : decode b_Mo_upwards 96 = .ok (.getfield 63, 3) := by decide +kernel
theorem d_Mo_upwards_99 : decode b_Mo_upwards 99 = .ok (.iload_n 2, 1) := by decide +kernel
theorem d_Mo_upwards_100 : decode b_Mo_upwards 100 = .ok (.invokestatic 156, 3) := by decide +kernel
theorem d_Mo_upwards_103 : decode b_Mo_upwards 103 = .ok (.iconst 1, 1) := by decide +kernel
theorem d_Mo_upwards_104 : decode b_Mo_upwards 104 = .ok (.isub, 1) := by decide +kernel
theorem d_Mo_upwards_105 : decode b_Mo_upwards 105 = .ok (.sipush (-3400), 3) := by decide +kernel
theorem d_Mo_upwards_108 : decode b_Mo_upwards 108 = .ok (.iadd, 1) := by decide +kernel
theorem d_Mo_upwards_109 : decode b_Mo_upwards 109 = .ok (.istore 4, 2) := by decide +kernel
theorem d_Mo_upwards_111 : decode b_Mo_upwards 111 = .ok (.iload 4, 2) := by decide +kernel
theorem d_Mo_upwards_113 : decode b_Mo_upwards 113 = .ok (.bipush 52, 2) := by decide +kernel
theorem d_Mo_upwards_115 : decode b_Mo_upwards 115 = .ok (.isub, 1) := by decide +kernel
theorem d_Mo_upwards_116 : decode b_Mo_upwards 116 = .ok (.sipush (-1074), 3) := by decide +kernel
theorem d_Mo_upwards_119 : decode b_Mo_upwards 119 = .ok (.if_icmp .ge 9, 3) := by decide +kernel
theorem d_Mo_upwards_122 : decode b_Mo_upwards 122 = .ok (.sipush (-1074), 3) := by decide +kernel
theorem d_Mo_upwards_125 : decode b_Mo_upwards 125 = .ok (.goto 8, 3) := by decide +kernel
theorem d_Mo_upwards_128 : decode b_Mo_upwards 128 = .ok (.iload 4, 2) := by decide +kernel
theorem d_Mo_upwards_130 : decode b_Mo_upwards 130 = .ok (.bipush 52, 2) := by decide +kernel
theorem d_Mo_upwards_132 : decode b_Mo_upwards 132 = .ok (.isub, 1) := by decide +kernel
theorem d_Mo_upwards_133 : decode b_Mo_upwards 133 = .ok (.istore 5, 2) := by decide +kernel
theorem d_Mo_upwards_135 : decode b_Mo_upwards 135 = .ok (.lconst 0, 1) := by decide +kernel
theorem d_Mo_upwards_136 : decode b_Mo_upwards 136 = .ok (.lstore 6, 2) := by decide +kernel
theorem d_Mo_upwards_138 : decode b_Mo_upwards 138 = .ok (.iconst 0, 1) := by decide +kernel
theorem d_Mo_upwards_139 : decode b_Mo_upwards 139 = .ok (.istore 8, 2) := by decide +kernel
theorem d_Mo_upwards_141 : decode b_Mo_upwards 141 = .ok (.bipush 16, 2) := by decide +kernel
theorem d_Mo_upwards_143 : decode b_Mo_upwards 143 = .ok (.iload_n 2, 1) := by decide +kernel
theorem d_Mo_upwards_144 : decode b_Mo_upwards 144 = .ok (.imul, 1) := by decide +kernel
theorem d_Mo_upwards_145 : decode b_Mo_upwards 145 = .ok (.iconst 1, 1) := by decide +kernel
theorem d_Mo_upwards_146 : decode b_Mo_upwards 146 = .ok (.isub, 1) := by decide +kernel
theorem d_Mo_upwards_147 : decode b_Mo_upwards 147 = .ok (.istore 9, 2) := by decide +kernel
theorem d_Mo_upwards_149 : decode b_Mo_upwards 149 = .ok (.iload 9, 2) := by decide +kernel
theorem d_Mo_upwards_151 : decode b_Mo_upwards 151 = .ok (.ifCond .lt 76, 3) := by decide +kernel
theorem d_Mo_upwards_154 : decode b_Mo_upwards 154 = .ok (.aload_n 0, 1) := by decide +kernel
theorem d_Mo_upwards_155 : decode b_Mo_upwards 155 = .ok (.getfield 63, 3) := by decide +kernel
theorem d_Mo_upwards_158 : decode b_Mo_upwards 158 = .ok (.iload 9, 2) := by decide +kernel
theorem d_Mo_upwards_160 : decode b_Mo_upwards 160 = .ok (.iconst 4, 1) := by decide +kernel
theorem d_Mo_upwards_161 : decode b_Mo_upwards 161 = .ok (.ishr, 1) := by decide +kernel
theorem d_Mo_upwards_162 : decode b_Mo_upwards 162 = .ok (.iaload, 1) := by decide +kernel
theorem d_Mo_upwards_163 : decode b_Mo_upwards 163 = .ok (.iload 9, 2) := by decide +kernel
theorem d_Mo_upwards_165 : decode b_Mo_upwards 165 = .ok (.bipush 15, 2) := by decide +kernel
theorem d_Mo_upwards_167 : decode b_Mo_upwards 167 = .ok (.iand, 1) := by decide +kernel
theorem d_Mo_upwards_168 : decode b_Mo_upwards 168 = .ok (.ishr, 1) := by decide +kernel
theorem d_Mo_upwards_169 : decode b_Mo_upwards 169 = .ok (.iconst 1, 1) := by decide +kernel
theorem d_Mo_upwards_170 : decode b_Mo_upwards 170 = .ok (.iand, 1) := by decide +kernel
theorem d_Mo_upwards_171 : decode b_Mo_upwards 171 = .ok (.ifCond .eq 7, 3) := by decide +kernel
theorem d_Mo_upwards_174 : decode b_Mo_upwards 174 = .ok (.iconst 1, 1) := by decide +kernel
theorem d_Mo_upwards_175 : decode b_Mo_upwards 175 = .ok (.goto 4, 3) := by decide +kernel
theorem d_Mo_upwards_178 : decode b_Mo_upwards 178 = .ok (.iconst 0, 1) := by decide +kernel
theorem d_Mo_upwards_179 : decode b_Mo_upwards 179 = .ok (.istore 10, 2) := by decide +kernel
theorem d_Mo_upwards_181 : decode b_Mo_upwards 181 = .ok (.iload 9, 2) := by decide +kernel
theorem d_Mo_upwards_183 : decode b_Mo_upwards 183 = .ok (.sipush (-3400), 3) := by decide +kernel
theorem d_Mo_upwards_186 : decode b_Mo_upwards 186 = .ok (.iadd, 1) := by decide +kernel
theorem d_Mo_upwards_187 : decode b_Mo_upwards 187 = .ok (.iload 5, 2) := by decide +kernel
theorem d_Mo_upwards_189 : decode b_Mo_upwards 189 = .ok (.if_icmp .lt 25, 3) := by decide +kernel
theorem d_Mo_upwards_192 : decode b_Mo_upwards 192 = .ok (.ldc2_w 159, 3) := by decide +kernel
theorem d_Mo_upwards_195 : decode b_Mo_upwards 195 = .ok (.lload 6, 2) := by decide +kernel
theorem d_Mo_upwards_197 : decode b_Mo_upwards 197 = .ok (.lmul, 1) := by decide +kernel
theorem d_Mo_upwards_198 : decode b_Mo_upwards 198 = .ok (.iload 10, 2) := by decide +kernel
theorem d_Mo_upwards_200 : decode b_Mo_upwards 200 = .ok (.ifCond .eq 7, 3) := by decide +kernel
theorem d_Mo_upwards_203 : decode b_Mo_upwards 203 = .ok (.lconst 1, 1) := by decide +kernel
theorem d_Mo_upwards_204 : decode b_Mo_upwards 204 = .ok (.goto 4, 3) := by decide +kernel
theorem d_Mo_upwards_207 : decode b_Mo_upwards 207 = .ok (.lconst 0, 1) := by decide +kernel
theorem d_Mo_upwards_208 : decode b_Mo_upwards 208 = .ok (.ladd, 1) := by decide +kernel
theorem d_Mo_upwards_209 : decode b_Mo_upwards 209 = .ok (.lstore 6, 2) := by decide +kernel
theorem d_Mo_upwards_211 : decode b_Mo_upwards 211 = .ok (.goto 10, 3) := by decide +kernel
theorem d_Mo_upwards_214 : decode b_Mo_upwards 214 = .ok (.iload 8, 2) := by decide +kernel
theorem d_Mo_upwards_216 : decode b_Mo_upwards 216 = .ok (.iload 10, 2) := by decide +kernel
theorem d_Mo_upwards_218 : decode b_Mo_upwards 218 = .ok (.ior, 1) := by decide +kernel
theorem d_Mo_upwards_219 : decode b_Mo_upwards 219 = .ok (.istore 8, 2) := by decide +kernel
theorem d_Mo_upwards_221 : decode b_Mo_upwards 221 = .ok (.iinc 9 (-1), 3) := by decide +kernel
theorem d_Mo_upwards_224 : decode b_Mo_upwards 224 = .ok (.goto (-75), 3) := by decide +kernel
theorem d_Mo_upwards_227 : decode b_Mo_upwards 227 = .ok (.iload_n 1, 1) := by decide +kernel
theorem d_Mo_upwards_228 : decode b_Mo_upwards 228 = .ok (.ifCond .le 14, 3) := by decide +kernel
theorem d_Mo_upwards_231 : decode b_Mo_upwards 231 = .ok (.iload 8, 2) := by decide +kernel
theorem d_Mo_upwards_233 : decode b_Mo_upwards 233 = .ok (.ifCond .eq 9, 3) := by decide +kernel
theorem d_Mo_upwards_236 : decode b_Mo_upwards 236 = .ok (.lload 6, 2) := by decide +kernel
theorem d_Mo_upwards_238 : decode b_Mo_upwards 238 = .ok (.lconst 1, 1) := by decide +kernel
theorem d_Mo_upwards_239 : decode b_Mo_upwards 239 = .ok (.ladd, 1) := by decide +kernel
theorem d_Mo_upwards_240 : decode b_Mo_upwards 240 = .ok (.lstore 6, 2) := by decide +kernel
theorem d_Mo_upwards_242 : decode b_Mo_upwards 242 = .ok (.iload_n 1, 1) := by decide +kernel
theorem d_Mo_upwards_243 : decode b_Mo_upwards 243 = .ok (.ifCond .le 37, 3) := by decide +kernel
theorem d_Mo_upwards_246 : decode b_Mo_upwards 246 = .ok (.iload 5, 2) := by decide +kernel
theorem d_Mo_upwards_248 : decode b_Mo_upwards 248 = .ok (.sipush 971, 3) := by decide +kernel
theorem d_Mo_upwards_251 : decode b_Mo_upwards 251 = .ok (.if_icmp .gt 20, 3) := by decide +kernel
theorem d_Mo_upwards_254 : decode b_Mo_upwards 254 = .ok (.iload 5, 2) := by decide +kernel
theorem d_Mo_upwards_256 : decode b_Mo_upwards 256 = .ok (.sipush 971, 3) := by decide +kernel
theorem d_Mo_upwards_259 : decode b_Mo_upwards 259 = .ok (.if_icmp .ne 21, 3) := by decide +kernel
theorem d_Mo_upwards_262 : decode b_Mo_upwards 262 = .ok (.lload 6, 2) := by decide +kernel
theorem d_Mo_upwards_264 : decode b_Mo_upwards 264 = .ok (.ldc2_w 161, 3) := by decide +kernel
theorem d_Mo_upwards_267 : decode b_Mo_upwards 267 = .ok (.lcmp, 1) := by decide +kernel
theorem d_Mo_upwards_268 : decode b_Mo_upwards 268 = .ok (.ifCond .ne 12, 3) := by decide +kernel
theorem d_Mo_upwards_271 : decode b_Mo_upwards 271 = .ok (.aload_n 0, 1) := by decide +kernel
theorem d_Mo_upwards_272 : decode b_Mo_upwards 272 = .ok (.iconst 1, 1) := by decide +kernel
theorem d_Mo_upwards_273 : decode b_Mo_upwards 273 = .ok (.iconst 3, 1) := by decide +kernel
theorem d_Mo_upwards_274 : decode b_Mo_upwards 274 = .ok (.invokevirtual 112, 3) := by decide +kernel
theorem d_Mo_upwards_277 : decode b_Mo_upwards 277 = .ok (.pop, 1) := by decide +kernel
theorem d_Mo_upwards_278 : decode b_Mo_upwards 278 = .ok (.dconst 0, 1) := by decide +kernel
theorem d_Mo_upwards_279 : decode b_Mo_upwards 279 = .ok (.dreturn, 1) := by decide +kernel
theorem d_Mo_upwards_280 : decode b_Mo_upwards 280 = .ok (.iload 5, 2) := by decide +kernel
theorem d_Mo_upwards_282 : decode b_Mo_upwards 282 = .ok (.sipush 971, 3) := by decide +kernel
theorem d_Mo_upwards_285 : decode b_Mo_upwards 285 = .ok (.if_icmp .le 7, 3) := by decide +kernel
theorem d_Mo_upwards_288 : decode b_Mo_upwards 288 = .ok (.ldc2_w 163, 3) := by decide +kernel
theorem d_Mo_upwards_291 : decode b_Mo_upwards 291 = .ok (.dreturn, 1) := by decide +kernel
theorem d_Mo_upwards_292 : decode b_Mo_upwards 292 = .ok (.lload 6, 2) := by decide +kernel
theorem d_Mo_upwards_294 : decode b_Mo_upwards 294 = .ok (.l2d, 1) := by decide +kernel
theorem d_Mo_upwards_295 : decode b_Mo_upwards 295 = .ok (.dstore 9, 2) := by decide +kernel
theorem d_Mo_upwards_297 : decode b_Mo_upwards 297 = .ok (.iconst 0, 1) := by decide +kernel
theorem d_Mo_upwards_298 : decode b_Mo_upwards 298 = .ok (.istore 11, 2) := by decide +kernel
theorem d_Mo_upwards_300 : decode b_Mo_upwards 300 = .ok (.iload 11, 2) := by decide +kernel
theorem d_Mo_upwards_302 : decode b_Mo_upwards 302 = .ok (.iload 5, 2) := by decide +kernel
theorem d_Mo_upwards_304 : decode b_Mo_upwards 304 = .ok (.if_icmp .ge 17, 3) := by decide +kernel
theorem d_Mo_upwards_307 : decode b_Mo_upwards 307 = .ok (.dload 9, 2) := by decide +kernel
theorem d_Mo_upwards_309 : decode b_Mo_upwards 309 = .ok (.ldc2_w 98, 3) := by decide +kernel
theorem d_Mo_upwards_312 : decode b_Mo_upwards 312 = .ok (.dmul, 1) := by decide +kernel
theorem d_Mo_upwards_313 : decode b_Mo_upwards 313 = .ok (.dstore 9, 2) := by decide +kernel
theorem d_Mo_upwards_315 : decode b_Mo_upwards 315 = .ok (.iinc 11 1, 3) := by decide +kernel
theorem d_Mo_upwards_318 : decode b_Mo_upwards 318 = .ok (.goto (-18), 3) := by decide +kernel
theorem d_Mo_upwards_321 : decode b_Mo_upwards 321 = .ok (.iconst 0, 1) := by decide +kernel
theorem d_Mo_upwards_322 : decode b_Mo_upwards 322 = .ok (.istore 11, 2) := by decide +kernel
theorem d_Mo_upwards_324 : decode b_Mo_upwards 324 = .ok (.iload 11, 2) := by decide +kernel
theorem d_Mo_upwards_326 : decode b_Mo_upwards 326 = .ok (.iload 5, 2) := by decide +kernel
theorem d_Mo_upwards_328 : decode b_Mo_upwards 328 = .ok (.if_icmp .le 17, 3) := by decide +kernel
theorem d_Mo_upwards_331 : decode b_Mo_upwards 331 = .ok (.dload 9, 2) := by decide +kernel
theorem d_Mo_upwards_333 : decode b_Mo_upwards 333 = .ok (.ldc2_w 94, 3) := by decide +kernel
theorem d_Mo_upwards_336 : decode b_Mo_upwards 336 = .ok (.dmul, 1) := by decide +kernel
theorem d_Mo_upwards_337 : decode b_Mo_upwards 337 = .ok (.dstore 9, 2) := by decide +kernel
theorem d_Mo_upwards_339 : decode b_Mo_upwards 339 = .ok (.iinc 11 (-1), 3) := by decide +kernel
theorem d_Mo_upwards_342 : decode b_Mo_upwards 342 = .ok (.goto (-18), 3) := by decide +kernel
theorem d_Mo_upwards_345 : decode b_Mo_upwards 345 = .ok (.iload_n 1, 1) := by decide +kernel
theorem d_Mo_upwards_346 : decode b_Mo_upwards 346 = .ok (.ifCond .ge 10, 3) := by decide +kernel
theorem d_Mo_upwards_349 : decode b_Mo_upwards 349 = .ok (.dconst 0, 1) := by decide +kernel
theorem d_Mo_upwards_350 : decode b_Mo_upwards 350 = .ok (.dload 9, 2) := by decide +kernel
theorem d_Mo_upwards_352 : decode b_Mo_upwards 352 = .ok (.dsub, 1) := by decide +kernel
theorem d_Mo_upwards_353 : decode b_Mo_upwards 353 = .ok (.goto 5, 3) := by decide +kernel
theorem d_Mo_upwards_356 : decode b_Mo_upwards 356 = .ok (.dload 9, 2) := by decide +kernel
theorem d_Mo_upwards_358 : decode b_Mo_upwards 358 = .ok (.dreturn, 1) := by decide +kernel
theorem d_Mo_x_0 : decode b_Mo_x 0 = .ok (.aload_n 0, 1) := by decide +kernel
theorem d_Mo_x_1 : decode b_Mo_x 1 = .ok (.iconst 0, 1) := by decide +kernel
theorem d_Mo_x_2 : decode b_Mo_x 2 = .ok (.putfield 78, 3) := by decide +kernel
theorem d_Mo_x_5 : decode b_Mo_x 5 = .ok (.aload_n 0, 1) := by decide +kernel
theorem d_Mo_x_6 : decode b_Mo_x 6 = .ok (.dload_n 2, 1) := by decide +kernel
theorem d_Mo_x_7 : decode b_Mo_x 7 = .ok (.invokestatic 108, 3) := by decide +kernel
theorem d_Mo_x_10 : decode b_Mo_x 10 = .ok (.ifCond .eq 17, 3) := by decide +kernel
theorem d_Mo_x_13 : decode b_Mo_x 13 = .ok (.iload 4, 2) := by decide +kernel
theorem d_Mo_x_15 : decode b_Mo_x 15 = .ok (.sipush (-600), 3) := by decide +kernel
theorem d_Mo_x_18 : decode b_Mo_x 18 = .ok (.sipush 600, 3) := by decide +kernel
theorem d_Mo_x_21 : decode b_Mo_x 21 = .ok (.invokestatic 123, 3) := by decide +kernel
theorem d_Mo_x_24 : decode b_Mo_x 24 = .ok (.ifCond .ne 7, 3) := by decide +kernel
theorem d_Mo_x_27 : decode b_Mo_x 27 = .ok (.iconst 1, 1) := by decide +kernel
theorem d_Mo_x_28 : decode b_Mo_x 28 = .ok (.goto 4, 3) := by decide +kernel
theorem d_Mo_x_31 : decode b_Mo_x 31 = .ok (.iconst 0, 1) := by decide +kernel
theorem d_Mo_x_32 : decode b_Mo_x 32 = .ok (.iconst 1, 1) := by decide +kernel
theorem d_Mo_x_33 : decode b_Mo_x 33 = .ok (.invokevirtual 112, 3) := by decide +kernel
theorem d_Mo_x_36 : decode b_Mo_x 36 = .ok (.ifCond .ne 30, 3) := by decide +kernel
theorem d_Mo_x_39 : decode b_Mo_x 39 = .ok (.aload_n 0, 1) := by decide +kernel
theorem d_Mo_x_40 : decode b_Mo_x 40 = .ok (.iload_n 1, 1) := by decide +kernel
theorem d_Mo_x_41 : decode b_Mo_x 41 = .ok (.iconst 0, 1) := by decide +kernel
theorem d_Mo_x_42 : decode b_Mo_x 42 = .ok (.aload_n 0, 1) := by decide +kernel
theorem d_Mo_x_43 : decode b_Mo_x 43 = .ok (.getfield 130, 3) := by decide +kernel
theorem d_Mo_x_46 : decode b_Mo_x 46 = .ok (.iconst 1, 1) := by decide +kernel
theorem d_Mo_x_47 : decode b_Mo_x 47 = .ok (.isub, 1) := by decide +kernel
theorem d_Mo_x_48 : decode b_Mo_x 48 = .ok (.invokestatic 123, 3) := by decide +kernel
theorem d_Mo_x_51 : decode b_Mo_x 51 = .ok (.ifCond .ne 7, 3) := by decide +kernel
theorem d_Mo_x_54 : decode b_Mo_x 54 = .ok (.iconst 1, 1) := by decide +kernel
theorem d_Mo_x_55 : decode b_Mo_x 55 = .ok (.goto 4, 3) := by decide +kernel
theorem d_Mo_x_58 : decode b_Mo_x 58 = .ok (.iconst 0, 1) := by decide +kernel
theorem d_Mo_x_59 : decode b_Mo_x 59 = .ok (.iconst 2, 1) := by decide +kernel
theorem d_Mo_x_60 : decode b_Mo_x 60 = .ok (.invokevirtual 112, 3) := by decide +kernel
theorem d_Mo_x_63 : decode b_Mo_x 63 = .ok (.ifCond .eq 4, 3) := by decide +kernel
theorem d_Mo_x_66 : decode b_Mo_x 66 = .ok (.return_, 1) := by decide +kernel
theorem d_Mo_x_67 : decode b_Mo_x 67 = .ok (.aload_n 0, 1) := by decide +kernel
theorem d_Mo_x_68 : decode b_Mo_x 68 = .ok (.getfield 31, 3) := by decide +kernel
theorem d_Mo_x_71 : decode b_Mo_x 71 = .ok (.iload_n 1, 1) := by decide +kernel
theorem d_Mo_x_72 : decode b_Mo_x 72 = .ok (.dload_n 2, 1) := by decide +kernel
theorem d_Mo_x_73 : decode b_Mo_x 73 = .ok (.invokestatic 116, 3) := by decide +kernel
theorem d_Mo_x_76 : decode b_Mo_x 76 = .ok (.iload 4, 2) := by decide +kernel
theorem d_Mo_x_78 : decode b_Mo_x 78 = .ok (.invokestatic 104, 3) := by decide +kernel
theorem d_Mo_x_81 : decode b_Mo_x 81 = .ok (.dmul, 1) := by decide +kernel
theorem d_Mo_x_82 : decode b_Mo_x 82 = .ok (.dastore, 1) := by decide +kernel
theorem d_Mo_x_83 : decode b_Mo_x 83 = .ok (.return_, 1) := by decide +kernel
theorem d_Mo_y_0 : decode b_Mo_y 0 = .ok (.aload_n 0, 1) := by decide +kernel
theorem d_Mo_y_1 : decode b_Mo_y 1 = .ok (.iconst 0, 1) := by decide +kernel
theorem d_Mo_y_2 : decode b_Mo_y 2 = .ok (.putfield 78, 3) := by decide +kernel
theorem d_Mo_y_5 : decode b_Mo_y 5 = .ok (.aload_n 0, 1) := by decide +kernel
theorem d_Mo_y_6 : decode b_Mo_y 6 = .ok (.dload_n 2, 1) := by decide +kernel
theorem d_Mo_y_7 : decode b_Mo_y 7 = .ok (.invokestatic 108, 3) := by decide +kernel
theorem d_Mo_y_10 : decode b_Mo_y 10 = .ok (.ifCond .eq 17, 3) := by decide +kernel
theorem d_Mo_y_13 : decode b_Mo_y 13 = .ok (.iload 4, 2) := by decide +kernel
theorem d_Mo_y_15 : decode b_Mo_y 15 = .ok (.sipush (-600), 3) := by decide +kernel
theorem d_Mo_y_18 : decode b_Mo_y 18 = .ok (.sipush 600, 3) := by decide +kernel
theorem d_Mo_y_21 : decode b_Mo_y 21 = .ok (.invokestatic 123, 3) := by decide +kernel
theorem d_Mo_y_24 : decode b_Mo_y 24 = .ok (.ifCond .ne 7, 3) := by decide +kernel
theorem d_Mo_y_27 : decode b_Mo_y 27 = .ok (.iconst 1, 1) := by decide +kernel
theorem d_Mo_y_28 : decode b_Mo_y 28 = .ok (.goto 4, 3) := by decide +kernel
theorem d_Mo_y_31 : decode b_Mo_y 31 = .ok (.iconst 0, 1) := by decide +kernel
theorem d_Mo_y_32 : decode b_Mo_y 32 = .ok (.iconst 1, 1) := by decide +kernel
theorem d_Mo_y_33 : decode b_Mo_y 33 = .ok (.invokevirtual 112, 3) := by decide +kernel
theorem d_Mo_y_36 : decode b_Mo_y 36 = .ok (.ifCond .ne 30, 3) := by decide +kernel
theorem d_Mo_y_39 : decode b_Mo_y 39 = .ok (.aload_n 0, 1) := by decide +kernel
theorem d_Mo_y_40 : decode b_Mo_y 40 = .ok (.iload_n 1, 1) := by decide +kernel
theorem d_Mo_y_41 : decode b_Mo_y 41 = .ok (.iconst 0, 1) := by decide +kernel
theorem d_Mo_y_42 : decode b_Mo_y 42 = .ok (.aload_n 0, 1) := by decide +kernel
theorem d_Mo_y_43 : decode b_Mo_y 43 = .ok (.getfield 127, 3) := by decide +kernel
theorem d_Mo_y_46 : decode b_Mo_y 46 = .ok (.iconst 1, 1) := by decide +kernel
theorem d_Mo_y_47 : decode b_Mo_y 47 = .ok (.isub, 1) := by decide +kernel
theorem d_Mo_y_48 : decode b_Mo_y 48 = .ok (.invokestatic 123, 3) := by decide +kernel
theorem d_Mo_y_51 : decode b_Mo_y 51 = .ok (.ifCond .ne 7, 3) := by decide +kernel
theorem d_Mo_y_54 : decode b_Mo_y 54 = .ok (.iconst 1, 1) := by decide +kernel
theorem d_Mo_y_55 : decode b_Mo_y 55 = .ok (.goto 4, 3) := by decide +kernel
theorem d_Mo_y_58 : decode b_Mo_y 58 = .ok (.iconst 0, 1) := by decide +kernel
theorem d_Mo_y_59 : decode b_Mo_y 59 = .ok (.iconst 2, 1) := by decide +kernel
theorem d_Mo_y_60 : decode b_Mo_y 60 = .ok (.invokevirtual 112, 3) := by decide +kernel
theorem d_Mo_y_63 : decode b_Mo_y 63 = .ok (.ifCond .eq 4, 3) := by decide +kernel
theorem d_Mo_y_66 : decode b_Mo_y 66 = .ok (.return_, 1) := by decide +kernel
theorem d_Mo_y_67 : decode b_Mo_y 67 = .ok (.aload_n 0, 1) := by decide +kernel
theorem d_Mo_y_68 : decode b_Mo_y 68 = .ok (.getfield 34, 3) := by decide +kernel
theorem d_Mo_y_71 : decode b_Mo_y 71 = .ok (.iload_n 1, 1) := by decide +kernel
theorem d_Mo_y_72 : decode b_Mo_y 72 = .ok (.dload_n 2, 1) := by decide +kernel
theorem d_Mo_y_73 : decode b_Mo_y 73 = .ok (.invokestatic 116, 3) := by decide +kernel
theorem d_Mo_y_76 : decode b_Mo_y 76 = .ok (.iload 4, 2) := by decide +kernel
theorem d_Mo_y_78 : decode b_Mo_y 78 = .ok (.invokestatic 104, 3) := by decide +kernel
theorem d_Mo_y_81 : decode b_Mo_y 81 = .ok (.dmul, 1) := by decide +kernel
theorem d_Mo_y_82 : decode b_Mo_y 82 = .ok (.dastore, 1) := by decide +kernel
theorem d_Mo_y_83 : decode b_Mo_y 83 = .ok (.return_, 1) := by decide +kernel
theorem d_Mo_zero_0 : decode b_Mo_zero 0 = .ok (.iconst 0, 1) := by decide +kernel
theorem d_Mo_zero_1 : decode b_Mo_zero 1 = .ok (.istore_n 1, 1) := by decide +kernel
theorem d_Mo_zero_2 : decode b_Mo_zero 2 = .ok (.iload_n 1, 1) := by decide +kernel
theorem d_Mo_zero_3 : decode b_Mo_zero 3 = .ok (.sipush 440, 3) := by decide +kernel
theorem d_Mo_zero_6 : decode b_Mo_zero 6 = .ok (.if_icmp .ge 16, 3) := by decide +kernel
theorem d_Mo_zero_9 : decode b_Mo_zero 9 = .ok (.aload_n 0, 1) := by decide +kernel
theorem d_Mo_zero_10 : decode b_Mo_zero 10 = .ok (.getfield 56, 3) := by decide +kernel
theorem d_Mo_zero_13 : decode b_Mo_zero 13 = .ok (.iload_n 1, 1) := by decide +kernel
theorem d_Mo_zero_14 : decode b_Mo_zero 14 = .ok (.iconst 0, 1) := by decide +kernel
theorem d_Mo_zero_15 : decode b_Mo_zero 15 = .ok (.iastore, 1) := by decide +kernel
theorem d_Mo_zero_16 : decode b_Mo_zero 16 = .ok (.iinc 1 1, 3) := by decide +kernel
theorem d_Mo_zero_19 : decode b_Mo_zero 19 = .ok (.goto (-17), 3) := by decide +kernel
theorem d_Mo_zero_22 : decode b_Mo_zero 22 = .ok (.return_, 1) := by decide +kernel
theorem d_In_numberOfLeadingZeros_0 : decode b_In_numberOfLeadingZeros 0 = .ok (.iload_n 0, 1) := by decide +kernel
theorem d_In_numberOfLeadingZeros_1 : decode b_In_numberOfLeadingZeros 1 = .ok (.ifCond .gt 14, 3) := by decide +kernel
theorem d_In_numberOfLeadingZeros_4 : decode b_In_numberOfLeadingZeros 4 = .ok (.iload_n 0, 1) := by decide +kernel
theorem d_In_numberOfLeadingZeros_5 : decode b_In_numberOfLeadingZeros 5 = .ok (.ifCond .ne 8, 3) := by decide +kernel
theorem d_In_numberOfLeadingZeros_8 : decode b_In_numberOfLeadingZeros 8 = .ok (.bipush 32, 2) := by decide +kernel
theorem d_In_numberOfLeadingZeros_10 : decode b_In_numberOfLeadingZeros 10 = .ok (.goto 4, 3) := by decide +kernel
theorem d_In_numberOfLeadingZeros_13 : decode b_In_numberOfLeadingZeros 13 = .ok (.iconst 0, 1) := by decide +kernel
theorem d_In_numberOfLeadingZeros_14 : decode b_In_numberOfLeadingZeros 14 = .ok (.ireturn, 1) := by decide +kernel
theorem d_In_numberOfLeadingZeros_15 : decode b_In_numberOfLeadingZeros 15 = .ok (.bipush 31, 2) := by decide +kernel
theorem d_In_numberOfLeadingZeros_17 : decode b_In_numberOfLeadingZeros 17 = .ok (.istore_n 1, 1) := by decide +kernel
theorem d_In_numberOfLeadingZeros_18 : decode b_In_numberOfLeadingZeros 18 = .ok (.iload_n 0, 1) := by decide +kernel
theorem d_In_numberOfLeadingZeros_19 : decode b_In_numberOfLeadingZeros 19 = .ok (.ldc_w 264, 3) := by decide +kernel
theorem d_In_numberOfLeadingZeros_22 : decode b_In_numberOfLeadingZeros 22 = .ok (.if_icmp .lt 11, 3) := by decide +kernel
theorem d_In_numberOfLeadingZeros_25 : decode b_In_numberOfLeadingZeros 25 = .ok (.iinc 1 (-16), 3) := by decide +kernel
theorem d_In_numberOfLeadingZeros_28 : decode b_In_numberOfLeadingZeros 28 = .ok (.iload_n 0, 1) := by decide +kernel
theorem d_In_numberOfLeadingZeros_29 : decode b_In_numberOfLeadingZeros 29 = .ok (.bipush 16, 2) := by decide +kernel
theorem d_In_numberOfLeadingZeros_31 : decode b_In_numberOfLeadingZeros 31 = .ok (.iushr, 1) := by decide +kernel
theorem d_In_numberOfLeadingZeros_32 : decode b_In_numberOfLeadingZeros 32 = .ok (.istore_n 0, 1) := by decide +kernel
theorem d_In_numberOfLeadingZeros_33 : decode b_In_numberOfLeadingZeros 33 = .ok (.iload_n 0, 1) := by decide +kernel
theorem d_In_numberOfLeadingZeros_34 : decode b_In_numberOfLeadingZeros 34 = .ok (.sipush 256, 3) := by decide +kernel
theorem d_In_numberOfLeadingZeros_37 : decode b_In_numberOfLeadingZeros 37 = .ok (.if_icmp .lt 11, 3) := by decide +kernel
theorem d_In_numberOfLeadingZeros_40 : decode b_In_numberOfLeadingZeros 40 = .ok (.iinc 1 (-8), 3) := by decide +kernel
theorem d_In_numberOfLeadingZeros_43 : decode b_In_numberOfLeadingZeros 43 = .ok (.iload_n 0, 1) := by decide +kernel
theorem d_In_numberOfLeadingZeros_44 : decode b_In_numberOfLeadingZeros 44 = .ok (.bipush 8, 2) := by decide +kernel
theorem d_In_numberOfLeadingZeros_46 : decode b_In_numberOfLeadingZeros 46 = .ok (.iushr, 1) := by decide +kernel
theorem d_In_numberOfLeadingZeros_47 : decode b_In_numberOfLeadingZeros 47 = .ok (.istore_n 0, 1) := by decide +kernel
theorem d_In_numberOfLeadingZeros_48 : decode b_In_numberOfLeadingZeros 48 = .ok (.iload_n 0, 1) := by decide +kernel
theorem d_In_numberOfLeadingZeros_49 : decode b_In_numberOfLeadingZeros 49 = .ok (.bipush 16, 2) := by decide +kernel
theorem d_In_numberOfLeadingZeros_51 : decode b_In_numberOfLeadingZeros 51 = .ok (.if_icmp .lt 10, 3) := by decide +kernel
theorem d_In_numberOfLeadingZeros_54 : decode b_In_numberOfLeadingZeros 54 = .ok (.iinc 1 (-4), 3) := by decide +kernel
theorem d_In_numberOfLeadingZeros_57 : decode b_In_numberOfLeadingZeros 57 = .ok (.iload_n 0, 1) := by decide +kernel
theorem d_In_numberOfLeadingZeros_58 : decode b_In_numberOfLeadingZeros 58 = .ok (.iconst 4, 1) := by decide +kernel
theorem d_In_numberOfLeadingZeros_59 : decode b_In_numberOfLeadingZeros 59 = .ok (.iushr, 1) := by decide +kernel
theorem d_In_numberOfLeadingZeros_60 : decode b_In_numberOfLeadingZeros 60 = .ok (.istore_n 0, 1) := by decide +kernel
theorem d_In_numberOfLeadingZeros_61 : decode b_In_numberOfLeadingZeros 61 = .ok (.iload_n 0, 1) := by decide +kernel
theorem d_In_numberOfLeadingZeros_62 : decode b_In_numberOfLeadingZeros 62 = .ok (.iconst 4, 1) := by decide +kernel
theorem d_In_numberOfLeadingZeros_63 : decode b_In_numberOfLeadingZeros 63 = .ok (.if_icmp .lt 10, 3) := by decide +kernel
theorem d_In_numberOfLeadingZeros_66 : decode b_In_numberOfLeadingZeros 66 = .ok (.iinc 1 (-2), 3) := by decide +kernel
theorem d_In_numberOfLeadingZeros_69 : decode b_In_numberOfLeadingZeros 69 = .ok (.iload_n 0, 1) := by decide +kernel
theorem d_In_numberOfLeadingZeros_70 : decode b_In_numberOfLeadingZeros 70 = .ok (.iconst 2, 1) := by decide +kernel
theorem d_In_numberOfLeadingZeros_71 : decode b_In_numberOfLeadingZeros 71 = .ok (.iushr, 1) := by decide +kernel
theorem d_In_numberOfLeadingZeros_72 : decode b_In_numberOfLeadingZeros 72 = .ok (.istore_n 0, 1) := by decide +kernel
theorem d_In_numberOfLeadingZeros_73 : decode b_In_numberOfLeadingZeros 73 = .ok (.iload_n 1, 1) := by decide +kernel
theorem d_In_numberOfLeadingZeros_74 : decode b_In_numberOfLeadingZeros 74 = .ok (.iload_n 0, 1) := by decide +kernel
theorem d_In_numberOfLeadingZeros_75 : decode b_In_numberOfLeadingZeros 75 = .ok (.iconst 1, 1) := by decide +kernel
theorem d_In_numberOfLeadingZeros_76 : decode b_In_numberOfLeadingZeros 76 = .ok (.iushr, 1) := by decide +kernel
theorem d_In_numberOfLeadingZeros_77 : decode b_In_numberOfLeadingZeros 77 = .ok (.isub, 1) := by decide +kernel
theorem d_In_numberOfLeadingZeros_78 : decode b_In_numberOfLeadingZeros 78 = .ok (.ireturn, 1) := by decide +kernel
theorem d_Lo_compare_0 : decode b_Lo_compare 0 = .ok (.lload_n 0, 1) := by decide +kernel
theorem d_Lo_compare_1 : decode b_Lo_compare 1 = .ok (.lload_n 2, 1) := by decide +kernel
theorem d_Lo_compare_2 : decode b_Lo_compare 2 = .ok (.lcmp, 1) := by decide +kernel
theorem d_Lo_compare_3 : decode b_Lo_compare 3 = .ok (.ifCond .ge 7, 3) := by decide +kernel
theorem d_Lo_compare_6 : decode b_Lo_compare 6 = .ok (.iconst (-1), 1) := by decide +kernel
theorem d_Lo_compare_7 : decode b_Lo_compare 7 = .ok (.goto 14, 3) := by decide +kernel
theorem d_Lo_compare_10 : decode b_Lo_compare 10 = .ok (.lload_n 0, 1) := by decide +kernel
theorem d_Lo_compare_11 : decode b_Lo_compare 11 = .ok (.lload_n 2, 1) := by decide +kernel
theorem d_Lo_compare_12 : decode b_Lo_compare 12 = .ok (.lcmp, 1) := by decide +kernel
theorem d_Lo_compare_13 : decode b_Lo_compare 13 = .ok (.ifCond .ne 7, 3) := by decide +kernel
theorem d_Lo_compare_16 : decode b_Lo_compare 16 = .ok (.iconst 0, 1) := by decide +kernel
theorem d_Lo_compare_17 : decode b_Lo_compare 17 = .ok (.goto 4, 3) := by decide +kernel
theorem d_Lo_compare_20 : decode b_Lo_compare 20 = .ok (.iconst 1, 1) := by decide +kernel
theorem d_Lo_compare_21 : decode b_Lo_compare 21 = .ok (.ireturn, 1) := by decide +kernel
theorem d_Lo_numberOfLeadingZeros_0 : decode b_Lo_numberOfLeadingZeros 0 = .ok (.lload_n 0, 1) := by decide +kernel
theorem d_Lo_numberOfLeadingZeros_1 : decode b_Lo_numberOfLeadingZeros 1 = .ok (.bipush 32, 2) := by decide +kernel
theorem d_Lo_numberOfLeadingZeros_3 : decode b_Lo_numberOfLeadingZeros 3 = .ok (.lushr, 1) := by decide +kernel
theorem d_Lo_numberOfLeadingZeros_4 : decode b_Lo_numberOfLeadingZeros 4 = .ok (.l2i, 1) := by decide +kernel
theorem d_Lo_numberOfLeadingZeros_5 : decode b_Lo_numberOfLeadingZeros 5 = .ok (.istore_n 2, 1) := by decide +kernel
theorem d_Lo_numberOfLeadingZeros_6 : decode b_Lo_numberOfLeadingZeros 6 = .ok (.iload_n 2, 1) := by decide +kernel
theorem d_Lo_numberOfLeadingZeros_7 : decode b_Lo_numberOfLeadingZeros 7 = .ok (.ifCond .ne 14, 3) := by decide +kernel
theorem d_Lo_numberOfLeadingZeros_10 : decode b_Lo_numberOfLeadingZeros 10 = .ok (.bipush 32, 2) := by decide +kernel
theorem d_Lo_numberOfLeadingZeros_12 : decode b_Lo_numberOfLeadingZeros 12 = .ok (.lload_n 0, 1) := by decide +kernel
theorem d_Lo_numberOfLeadingZeros_13 : decode b_Lo_numberOfLeadingZeros 13 = .ok (.l2i, 1) := by decide +kernel
theorem d_Lo_numberOfLeadingZeros_14 : decode b_Lo_numberOfLeadingZeros 14 = .ok (.invokestatic 308, 3) := by decide +kernel
theorem d_Lo_numberOfLeadingZeros_17 : decode b_Lo_numberOfLeadingZeros 17 = .ok (.iadd, 1) := by decide +kernel
theorem d_Lo_numberOfLeadingZeros_18 : decode b_Lo_numberOfLeadingZeros 18 = .ok (.goto 7, 3) := by decide +kernel
theorem d_Lo_numberOfLeadingZeros_21 : decode b_Lo_numberOfLeadingZeros 21 = .ok (.iload_n 2, 1) := by decide +kernel
theorem d_Lo_numberOfLeadingZeros_22 : decode b_Lo_numberOfLeadingZeros 22 = .ok (.invokestatic 308, 3) := by decide +kernel
theorem d_Lo_numberOfLeadingZeros_25 : decode b_Lo_numberOfLeadingZeros 25 = .ok (.ireturn, 1) := by decide +kernel
theorem d_Ma_abs_II_0 : decode b_Ma_abs_II 0 = .ok (.iload_n 0, 1) := by decide +kernel
theorem d_Ma_abs_II_1 : decode b_Ma_abs_II 1 = .ok (.ifCond .ge 8, 3) := by decide +kernel
theorem d_Ma_abs_II_4 : decode b_Ma_abs_II 4 = .ok (.iload_n 0, 1) := by decide +kernel
theorem d_Ma_abs_II_5 : decode b_Ma_abs_II 5 = .ok (.ineg, 1) := by decide +kernel
theorem d_Ma_abs_II_6 : decode b_Ma_abs_II 6 = .ok (.goto 4, 3) := by decide +kernel
theorem d_Ma_abs_II_9 : decode b_Ma_abs_II 9 = .ok (.iload_n 0, 1) := by decide +kernel
theorem d_Ma_abs_II_10 : decode b_Ma_abs_II 10 = .ok (.ireturn, 1) := by decide +kernel
theorem d_Ma_abs_JJ_0 : decode b_Ma_abs_JJ 0 = .ok (.lload_n 0, 1) := by decide +kernel
theorem d_Ma_abs_JJ_1 : decode b_Ma_abs_JJ 1 = .ok (.lconst 0, 1) := by decide +kernel
theorem d_Ma_abs_JJ_2 : decode b_Ma_abs_JJ 2 = .ok (.lcmp, 1) := by decide +kernel
theorem d_Ma_abs_JJ_3 : decode b_Ma_abs_JJ 3 = .ok (.ifCond .ge 8, 3) := by decide +kernel
theorem d_Ma_abs_JJ_6 : decode b_Ma_abs_JJ 6 = .ok (.lload_n 0, 1) := by decide +kernel
theorem d_Ma_abs_JJ_7 : decode b_Ma_abs_JJ 7 = .ok (.lneg, 1) := by decide +kernel
theorem d_Ma_abs_JJ_8 : decode b_Ma_abs_JJ 8 = .ok (.goto 4, 3) := by decide +kernel
theorem d_Ma_abs_JJ_11 : decode b_Ma_abs_JJ 11 = .ok (.lload_n 0, 1) := by decide +kernel
theorem d_Ma_abs_JJ_12 : decode b_Ma_abs_JJ 12 = .ok (.lreturn, 1) := by decide +kernel
theorem d_Ma_floorDiv_III_0 : decode b_Ma_floorDiv_III 0 = .ok (.iload_n 0, 1) := by decide +kernel
theorem d_Ma_floorDiv_III_1 : decode b_Ma_floorDiv_III 1 = .ok (.iload_n 1, 1) := by decide +kernel
theorem d_Ma_floorDiv_III_2 : decode b_Ma_floorDiv_III 2 = .ok (.idiv, 1) := by decide +kernel
theorem d_Ma_floorDiv_III_3 : decode b_Ma_floorDiv_III 3 = .ok (.istore_n 2, 1) := by decide +kernel
theorem d_Ma_floorDiv_III_4 : decode b_Ma_floorDiv_III 4 = .ok (.iload_n 0, 1) := by decide +kernel
theorem d_Ma_floorDiv_III_5 : decode b_Ma_floorDiv_III 5 = .ok (.iload_n 1, 1) := by decide +kernel
theorem d_Ma_floorDiv_III_6 : decode b_Ma_floorDiv_III 6 = .ok (.ixor, 1) := by decide +kernel
theorem d_Ma_floorDiv_III_7 : decode b_Ma_floorDiv_III 7 = .ok (.ifCond .ge 14, 3) := by decide +kernel
theorem d_Ma_floorDiv_III_10 : decode b_Ma_floorDiv_III 10 = .ok (.iload_n 2, 1) := by decide +kernel
theorem d_Ma_floorDiv_III_11 : decode b_Ma_floorDiv_III 11 = .ok (.iload_n 1, 1) := by decide +kernel
theorem d_Ma_floorDiv_III_12 : decode b_Ma_floorDiv_III 12 = .ok (.imul, 1) := by decide +kernel
theorem d_Ma_floorDiv_III_13 : decode b_Ma_floorDiv_III 13 = .ok (.iload_n 0, 1) := by decide +kernel
theorem d_Ma_floorDiv_III_14 : decode b_Ma_floorDiv_III 14 = .ok (.if_icmp .eq 7, 3) := by decide +kernel
theorem d_Ma_floorDiv_III_17 : decode b_Ma_floorDiv_III 17 = .ok (.iload_n 2, 1) := by decide +kernel
theorem d_Ma_floorDiv_III_18 : decode b_Ma_floorDiv_III 18 = .ok (.iconst 1, 1) := by decide +kernel
theorem d_Ma_floorDiv_III_19 : decode b_Ma_floorDiv_III 19 = .ok (.isub, 1) := by decide +kernel
theorem d_Ma_floorDiv_III_20 : decode b_Ma_floorDiv_III 20 = .ok (.ireturn, 1) := by decide +kernel
theorem d_Ma_floorDiv_III_21 : decode b_Ma_floorDiv_III 21 = .ok (.iload_n 2, 1) := by decide +kernel
theorem d_Ma_floorDiv_III_22 : decode b_Ma_floorDiv_III 22 = .ok (.ireturn, 1) := by decide +kernel
theorem d_Ma_floorMod_III_0 : decode b_Ma_floorMod_III 0 = .ok (.iload_n 0, 1) := by decide +kernel
theorem d_Ma_floorMod_III_1 : decode b_Ma_floorMod_III 1 = .ok (.iload_n 1, 1) := by decide +kernel
theorem d_Ma_floorMod_III_2 : decode b_Ma_floorMod_III 2 = .ok (.irem, 1) := by decide +kernel
theorem d_Ma_floorMod_III_3 : decode b_Ma_floorMod_III 3 = .ok (.istore_n 2, 1) := by decide +kernel
theorem d_Ma_floorMod_III_4 : decode b_Ma_floorMod_III 4 = .ok (.iload_n 0, 1) := by decide +kernel
theorem d_Ma_floorMod_III_5 : decode b_Ma_floorMod_III 5 = .ok (.iload_n 1, 1) := by decide +kernel
theorem d_Ma_floorMod_III_6 : decode b_Ma_floorMod_III 6 = .ok (.ixor, 1) := by decide +kernel
theorem d_Ma_floorMod_III_7 : decode b_Ma_floorMod_III 7 = .ok (.ifCond .ge 11, 3) := by decide +kernel
theorem d_Ma_floorMod_III_10 : decode b_Ma_floorMod_III 10 = .ok (.iload_n 2, 1) := by decide +kernel
theorem d_Ma_floorMod_III_11 : decode b_Ma_floorMod_III 11 = .ok (.ifCond .eq 7, 3) := by decide +kernel
theorem d_Ma_floorMod_III_14 : decode b_Ma_floorMod_III 14 = .ok (.iload_n 2, 1) := by decide +kernel
theorem d_Ma_floorMod_III_15 : decode b_Ma_floorMod_III 15 = .ok (.iload_n 1, 1) := by decide +kernel
theorem d_Ma_floorMod_III_16 : decode b_Ma_floorMod_III 16 = .ok (.iadd, 1) := by decide +kernel
theorem d_Ma_floorMod_III_17 : decode b_Ma_floorMod_III 17 = .ok (.ireturn, 1) := by decide +kernel
theorem d_Ma_floorMod_III_18 : decode b_Ma_floorMod_III 18 = .ok (.iload_n 2, 1) := by decide +kernel
theorem d_Ma_floorMod_III_19 : decode b_Ma_floorMod_III 19 = .ok (.ireturn, 1) := by decide +kernel
theorem d_Ma_max_III_0 : decode b_Ma_max_III 0 = .ok (.iload_n 0, 1) := by decide +kernel
theorem d_Ma_max_III_1 : decode b_Ma_max_III 1 = .ok (.iload_n 1, 1) := by decide +kernel
theorem d_Ma_max_III_2 : decode b_Ma_max_III 2 = .ok (.if_icmp .lt 7, 3) := by decide +kernel
theorem d_Ma_max_III_5 : decode b_Ma_max_III 5 = .ok (.iload_n 0, 1) := by decide +kernel
theorem d_Ma_max_III_6 : decode b_Ma_max_III 6 = .ok (.goto 4, 3) := by decide +kernel
theorem d_Ma_max_III_9 : decode b_Ma_max_III 9 = .ok (.iload_n 1, 1) := by decide +kernel
theorem d_Ma_max_III_10 : decode b_Ma_max_III 10 = .ok (.ireturn, 1) := by decide +kernel
theorem d_Ar_fill_JJV_0 : decode b_Ar_fill_JJV 0 = .ok (.iconst 0, 1) := by decide +kernel
theorem d_Ar_fill_JJV_1 : decode b_Ar_fill_JJV 1 = .ok (.istore_n 3, 1) := by decide +kernel
theorem d_Ar_fill_JJV_2 : decode b_Ar_fill_JJV 2 = .ok (.aload_n 0, 1) := by decide +kernel
theorem d_Ar_fill_JJV_3 : decode b_Ar_fill_JJV 3 = .ok (.arraylength, 1) := by decide +kernel
theorem d_Ar_fill_JJV_4 : decode b_Ar_fill_JJV 4 = .ok (.istore 4, 2) := by decide +kernel
theorem d_Ar_fill_JJV_6 : decode b_Ar_fill_JJV 6 = .ok (.iload_n 3, 1) := by decide +kernel
theorem d_Ar_fill_JJV_7 : decode b_Ar_fill_JJV 7 = .ok (.iload 4, 2) := by decide +kernel
theorem d_Ar_fill_JJV_9 : decode b_Ar_fill_JJV 9 = .ok (.if_icmp .ge 13, 3) := by decide +kernel
theorem d_Ar_fill_JJV_12 : decode b_Ar_fill_JJV 12 = .ok (.aload_n 0, 1) := by decide +kernel
theorem d_Ar_fill_JJV_13 : decode b_Ar_fill_JJV 13 = .ok (.iload_n 3, 1) := by decide +kernel
theorem d_Ar_fill_JJV_14 : decode b_Ar_fill_JJV 14 = .ok (.lload_n 1, 1) := by decide +kernel
theorem d_Ar_fill_JJV_15 : decode b_Ar_fill_JJV 15 = .ok (.lastore, 1) := by decide +kernel
theorem d_Ar_fill_JJV_16 : decode b_Ar_fill_JJV 16 = .ok (.iinc 3 1, 3) := by decide +kernel
theorem d_Ar_fill_JJV_19 : decode b_Ar_fill_JJV 19 = .ok (.goto (-13), 3) := by decide +kernel
theorem d_Ar_fill_JJV_22 : decode b_Ar_fill_JJV 22 = .ok (.return_, 1) := by decide +kernel
