theorem d_Mo_columnFault_0 : decode b_Mo_columnFault 0 = .ok (.dconst 0, 1) := by decide +kernel
theorem d_Mo_columnFault_1 : decode b_Mo_columnFault 1 = .ok (.dstore_n 2, 1) := by decide +kernel
theorem d_Mo_columnFault_2 : decode b_Mo_columnFault 2 = .ok (.aload_n 0, 1) := by decide +kernel
theorem d_Mo_columnFault_3 : decode b_Mo_columnFault 3 = .ok (.getfield 44, 3) := by decide +kernel
theorem d_Mo_columnFault_6 : decode b_Mo_columnFault 6 = .ok (.iload_n 1, 1) := by decide +kernel
theorem d_Mo_columnFault_7 : decode b_Mo_columnFault 7 = .ok (.baload, 1) := by decide +kernel
theorem d_Mo_columnFault_8 : decode b_Mo_columnFault 8 = .ok (.ifCond .eq 41, 3) := by decide +kernel
theorem d_Mo_columnFault_11 : decode b_Mo_columnFault 11 = .ok (.aload_n 0, 1) := by decide +kernel
theorem d_Mo_columnFault_12 : decode b_Mo_columnFault 12 = .ok (.invokevirtual 165, 3) := by decide +kernel
theorem d_Mo_columnFault_15 : decode b_Mo_columnFault 15 = .ok (.aload_n 0, 1) := by decide +kernel
theorem d_Mo_columnFault_16 : decode b_Mo_columnFault 16 = .ok (.aload_n 0, 1) := by decide +kernel
theorem d_Mo_columnFault_17 : decode b_Mo_columnFault 17 = .ok (.getfield 19, 3) := by decide +kernel
theorem d_Mo_columnFault_20 : decode b_Mo_columnFault 20 = .ok (.iload_n 1, 1) := by decide +kernel
theorem d_Mo_columnFault_21 : decode b_Mo_columnFault 21 = .ok (.daload, 1) := by decide +kernel
theorem d_Mo_columnFault_22 : decode b_Mo_columnFault 22 = .ok (.dconst 1, 1) := by decide +kernel
theorem d_Mo_columnFault_23 : decode b_Mo_columnFault 23 = .ok (.dconst 1, 1) := by decide +kernel
theorem d_Mo_columnFault_24 : decode b_Mo_columnFault 24 = .ok (.iconst 0, 1) := by decide +kernel
theorem d_Mo_columnFault_25 : decode b_Mo_columnFault 25 = .ok (.iconst 0, 1) := by decide +kernel
theorem d_Mo_columnFault_26 : decode b_Mo_columnFault 26 = .ok (.invokevirtual 168, 3) := by decide +kernel
theorem d_Mo_columnFault_29 : decode b_Mo_columnFault 29 = .ok (.aload_n 0, 1) := by decide +kernel
theorem d_Mo_columnFault_30 : decode b_Mo_columnFault 30 = .ok (.aload_n 0, 1) := by decide +kernel
theorem d_Mo_columnFault_31 : decode b_Mo_columnFault 31 = .ok (.getfield 31, 3) := by decide +kernel
theorem d_Mo_columnFault_34 : decode b_Mo_columnFault 34 = .ok (.iload_n 1, 1) := by decide +kernel
theorem d_Mo_columnFault_35 : decode b_Mo_columnFault 35 = .ok (.daload, 1) := by decide +kernel
theorem d_Mo_columnFault_36 : decode b_Mo_columnFault 36 = .ok (.dconst 1, 1) := by decide +kernel
theorem d_Mo_columnFault_37 : decode b_Mo_columnFault 37 = .ok (.dconst 1, 1) := by decide +kernel
theorem d_Mo_columnFault_38 : decode b_Mo_columnFault 38 = .ok (.iconst 0, 1) := by decide +kernel
theorem d_Mo_columnFault_39 : decode b_Mo_columnFault 39 = .ok (.iconst 1, 1) := by decide +kernel
theorem d_Mo_columnFault_40 : decode b_Mo_columnFault 40 = .ok (.invokevirtual 168, 3) := by decide +kernel
theorem d_Mo_columnFault_43 : decode b_Mo_columnFault 43 = .ok (.aload_n 0, 1) := by decide +kernel
theorem d_Mo_columnFault_44 : decode b_Mo_columnFault 44 = .ok (.iconst 0, 1) := by decide +kernel
theorem d_Mo_columnFault_45 : decode b_Mo_columnFault 45 = .ok (.invokevirtual 183, 3) := by decide +kernel
theorem d_Mo_columnFault_48 : decode b_Mo_columnFault 48 = .ok (.dstore_n 2, 1) := by decide +kernel
theorem d_Mo_columnFault_49 : decode b_Mo_columnFault 49 = .ok (.aload_n 0, 1) := by decide +kernel
theorem d_Mo_columnFault_50 : decode b_Mo_columnFault 50 = .ok (.getfield 47, 3) := by decide +kernel
theorem d_Mo_columnFault_53 : decode b_Mo_columnFault 53 = .ok (.iload_n 1, 1) := by decide +kernel
theorem d_Mo_columnFault_54 : decode b_Mo_columnFault 54 = .ok (.baload, 1) := by decide +kernel
theorem d_Mo_columnFault_55 : decode b_Mo_columnFault 55 = .ok (.ifCond .eq 52, 3) := by decide +kernel
theorem d_Mo_columnFault_58 : decode b_Mo_columnFault 58 = .ok (.aload_n 0, 1) := by decide +kernel
theorem d_Mo_columnFault_59 : decode b_Mo_columnFault 59 = .ok (.invokevirtual 165, 3) := by decide +kernel
theorem d_Mo_columnFault_62 : decode b_Mo_columnFault 62 = .ok (.aload_n 0, 1) := by decide +kernel
theorem d_Mo_columnFault_63 : decode b_Mo_columnFault 63 = .ok (.aload_n 0, 1) := by decide +kernel
theorem d_Mo_columnFault_64 : decode b_Mo_columnFault 64 = .ok (.getfield 31, 3) := by decide +kernel
theorem d_Mo_columnFault_67 : decode b_Mo_columnFault 67 = .ok (.iload_n 1, 1) := by decide +kernel
theorem d_Mo_columnFault_68 : decode b_Mo_columnFault 68 = .ok (.daload, 1) := by decide +kernel
theorem d_Mo_columnFault_69 : decode b_Mo_columnFault 69 = .ok (.dconst 1, 1) := by decide +kernel
theorem d_Mo_columnFault_70 : decode b_Mo_columnFault 70 = .ok (.dconst 1, 1) := by decide +kernel
theorem d_Mo_columnFault_71 : decode b_Mo_columnFault 71 = .ok (.iconst 0, 1) := by decide +kernel
theorem d_Mo_columnFault_72 : decode b_Mo_columnFault 72 = .ok (.iconst 0, 1) := by decide +kernel
theorem d_Mo_columnFault_73 : decode b_Mo_columnFault 73 = .ok (.invokevirtual 168, 3) := by decide +kernel
theorem d_Mo_columnFault_76 : decode b_Mo_columnFault 76 = .ok (.aload_n 0, 1) := by decide +kernel
theorem d_Mo_columnFault_77 : decode b_Mo_columnFault 77 = .ok (.aload_n 0, 1) := by decide +kernel
theorem d_Mo_columnFault_78 : decode b_Mo_columnFault 78 = .ok (.getfield 22, 3) := by decide +kernel
theorem d_Mo_columnFault_81 : decode b_Mo_columnFault 81 = .ok (.iload_n 1, 1) := by decide +kernel
theorem d_Mo_columnFault_82 : decode b_Mo_columnFault 82 = .ok (.daload, 1) := by decide +kernel
theorem d_Mo_columnFault_83 : decode b_Mo_columnFault 83 = .ok (.dconst 1, 1) := by decide +kernel
theorem d_Mo_columnFault_84 : decode b_Mo_columnFault 84 = .ok (.dconst 1, 1) := by decide +kernel
theorem d_Mo_columnFault_85 : decode b_Mo_columnFault 85 = .ok (.iconst 0, 1) := by decide +kernel
theorem d_Mo_columnFault_86 : decode b_Mo_columnFault 86 = .ok (.iconst 1, 1) := by decide +kernel
theorem d_Mo_columnFault_87 : decode b_Mo_columnFault 87 = .ok (.invokevirtual 168, 3) := by decide +kernel
theorem d_Mo_columnFault_90 : decode b_Mo_columnFault 90 = .ok (.aload_n 0, 1) := by decide +kernel
theorem d_Mo_columnFault_91 : decode b_Mo_columnFault 91 = .ok (.iconst 0, 1) := by decide +kernel
theorem d_Mo_columnFault_92 : decode b_Mo_columnFault 92 = .ok (.invokevirtual 183, 3) := by decide +kernel
theorem d_Mo_columnFault_95 : decode b_Mo_columnFault 95 = .ok (.dstore 4, 2) := by decide +kernel
theorem d_Mo_columnFault_97 : decode b_Mo_columnFault 97 = .ok (.dload 4, 2) := by decide +kernel
theorem d_Mo_columnFault_99 : decode b_Mo_columnFault 99 = .ok (.dload_n 2, 1) := by decide +kernel
theorem d_Mo_columnFault_100 : decode b_Mo_columnFault 100 = .ok (.dcmp .l, 1) := by decide +kernel
theorem d_Mo_columnFault_101 : decode b_Mo_columnFault 101 = .ok (.ifCond .le 6, 3) := by decide +kernel
theorem d_Mo_columnFault_104 : decode b_Mo_columnFault 104 = .ok (.dload 4, 2) := by decide +kernel
theorem d_Mo_columnFault_106 : decode b_Mo_columnFault 106 = .ok (.dstore_n 2, 1) := by decide +kernel
theorem d_Mo_columnFault_107 : decode b_Mo_columnFault 107 = .ok (.dload_n 2, 1) := by decide +kernel
theorem d_Mo_columnFault_108 : decode b_Mo_columnFault 108 = .ok (.dreturn, 1) := by decide +kernel
theorem d_Mo_constant_0 : decode b_Mo_constant 0 = .ok (.aload_n 0, 1) := by decide +kernel
theorem d_Mo_constant_1 : decode b_Mo_constant 1 = .ok (.iconst 0, 1) := by decide +kernel
theorem d_Mo_constant_2 : decode b_Mo_constant 2 = .ok (.putfield 78, 3) := by decide +kernel
theorem d_Mo_constant_5 : decode b_Mo_constant 5 = .ok (.aload_n 0, 1) := by decide +kernel
theorem d_Mo_constant_6 : decode b_Mo_constant 6 = .ok (.dload_n 1, 1) := by decide +kernel
theorem d_Mo_constant_7 : decode b_Mo_constant 7 = .ok (.invokestatic 108, 3) := by decide +kernel
theorem d_Mo_constant_10 : decode b_Mo_constant 10 = .ok (.ifCond .ne 7, 3) := by decide +kernel
theorem d_Mo_constant_13 : decode b_Mo_constant 13 = .ok (.iconst 1, 1) := by decide +kernel
theorem d_Mo_constant_14 : decode b_Mo_constant 14 = .ok (.goto 4, 3) := by decide +kernel
theorem d_Mo_constant_17 : decode b_Mo_constant 17 = .ok (.iconst 0, 1) := by decide +kernel
theorem d_Mo_constant_18 : decode b_Mo_constant 18 = .ok (.iconst 1, 1) := by decide +kernel
theorem d_Mo_constant_19 : decode b_Mo_constant 19 = .ok (.invokevirtual 112, 3) := by decide +kernel
theorem d_Mo_constant_22 : decode b_Mo_constant 22 = .ok (.ifCond .ne 13, 3) := by decide +kernel
theorem d_Mo_constant_25 : decode b_Mo_constant 25 = .ok (.aload_n 0, 1) := by decide +kernel
theorem d_Mo_constant_26 : decode b_Mo_constant 26 = .ok (.dconst 0, 1) := by decide +kernel
theorem d_Mo_constant_27 : decode b_Mo_constant 27 = .ok (.dload_n 1, 1) := by decide +kernel
theorem d_Mo_constant_28 : decode b_Mo_constant 28 = .ok (.invokestatic 116, 3) := by decide +kernel
theorem d_Mo_constant_31 : decode b_Mo_constant 31 = .ok (.dsub, 1) := by decide +kernel
theorem d_Mo_constant_32 : decode b_Mo_constant 32 = .ok (.putfield 119, 3) := by decide +kernel
theorem d_Mo_constant_35 : decode b_Mo_constant 35 = .ok (.return_, 1) := by decide +kernel
theorem d_Mo_dualFault_0 : decode b_Mo_dualFault 0 = .ok (.aload_n 0, 1) := by decide +kernel
theorem d_Mo_dualFault_1 : decode b_Mo_dualFault 1 = .ok (.iload_n 1, 1) := by decide +kernel
theorem d_Mo_dualFault_2 : decode b_Mo_dualFault 2 = .ok (.invokevirtual 187, 3) := by decide +kernel
theorem d_Mo_dualFault_5 : decode b_Mo_dualFault 5 = .ok (.aload_n 0, 1) := by decide +kernel
theorem d_Mo_dualFault_6 : decode b_Mo_dualFault 6 = .ok (.invokevirtual 152, 3) := by decide +kernel
theorem d_Mo_dualFault_9 : decode b_Mo_dualFault 9 = .ok (.istore_n 2, 1) := by decide +kernel
theorem d_Mo_dualFault_10 : decode b_Mo_dualFault 10 = .ok (.iload_n 2, 1) := by decide +kernel
theorem d_Mo_dualFault_11 : decode b_Mo_dualFault 11 = .ok (.ifCond .le 18, 3) := by decide +kernel
theorem d_Mo_dualFault_14 : decode b_Mo_dualFault 14 = .ok (.aload_n 0, 1) := by decide +kernel
theorem d_Mo_dualFault_15 : decode b_Mo_dualFault 15 = .ok (.getfield 44, 3) := by decide +kernel
theorem d_Mo_dualFault_18 : decode b_Mo_dualFault 18 = .ok (.iload_n 1, 1) := by decide +kernel
theorem d_Mo_dualFault_19 : decode b_Mo_dualFault 19 = .ok (.baload, 1) := by decide +kernel
theorem d_Mo_dualFault_20 : decode b_Mo_dualFault 20 = .ok (.ifCond .ne 9, 3) := by decide +kernel
theorem d_Mo_dualFault_23 : decode b_Mo_dualFault 23 = .ok (.aload_n 0, 1) := by decide +kernel
theorem d_Mo_dualFault_24 : decode b_Mo_dualFault 24 = .ok (.iconst 0, 1) := by decide +kernel
theorem d_Mo_dualFault_25 : decode b_Mo_dualFault 25 = .ok (.invokevirtual 183, 3) := by decide +kernel
theorem d_Mo_dualFault_28 : decode b_Mo_dualFault 28 = .ok (.dreturn, 1) := by decide +kernel
theorem d_Mo_dualFault_29 : decode b_Mo_dualFault 29 = .ok (.iload_n 2, 1) := by decide +kernel
theorem d_Mo_dualFault_30 : decode b_Mo_dualFault 30 = .ok (.ifCond .ge 20, 3) := by decide +kernel
theorem d_Mo_dualFault_33 : decode b_Mo_dualFault 33 = .ok (.aload_n 0, 1) := by decide +kernel
theorem d_Mo_dualFault_34 : decode b_Mo_dualFault 34 = .ok (.getfield 47, 3) := by decide +kernel
theorem d_Mo_dualFault_37 : decode b_Mo_dualFault 37 = .ok (.iload_n 1, 1) := by decide +kernel
theorem d_Mo_dualFault_38 : decode b_Mo_dualFault 38 = .ok (.baload, 1) := by decide +kernel
theorem d_Mo_dualFault_39 : decode b_Mo_dualFault 39 = .ok (.ifCond .ne 11, 3) := by decide +kernel
theorem d_Mo_dualFault_42 : decode b_Mo_dualFault 42 = .ok (.aload_n 0, 1) := by decide +kernel
theorem d_Mo_dualFault_43 : decode b_Mo_dualFault 43 = .ok (.iconst 1, 1) := by decide +kernel
theorem d_Mo_dualFault_44 : decode b_Mo_dualFault 44 = .ok (.invokevirtual 183, 3) := by decide +kernel
theorem d_Mo_dualFault_47 : decode b_Mo_dualFault 47 = .ok (.goto 4, 3) := by decide +kernel
theorem d_Mo_dualFault_50 : decode b_Mo_dualFault 50 = .ok (.dconst 0, 1) := by decide +kernel
theorem d_Mo_dualFault_51 : decode b_Mo_dualFault 51 = .ok (.dreturn, 1) := by decide +kernel
theorem d_Mo_entry_0 : decode b_Mo_entry 0 = .ok (.aload_n 0, 1) := by decide +kernel
theorem d_Mo_entry_1 : decode b_Mo_entry 1 = .ok (.iconst 0, 1) := by decide +kernel
theorem d_Mo_entry_2 : decode b_Mo_entry 2 = .ok (.putfield 78, 3) := by decide +kernel
theorem d_Mo_entry_5 : decode b_Mo_entry 5 = .ok (.aload_n 0, 1) := by decide +kernel
theorem d_Mo_entry_6 : decode b_Mo_entry 6 = .ok (.iload_n 1, 1) := by decide +kernel
theorem d_Mo_entry_7 : decode b_Mo_entry 7 = .ok (.iconst 0, 1) := by decide +kernel
theorem d_Mo_entry_8 : decode b_Mo_entry 8 = .ok (.aload_n 0, 1) := by decide +kernel
theorem d_Mo_entry_9 : decode b_Mo_entry 9 = .ok (.getfield 127, 3) := by decide +kernel
theorem d_Mo_entry_12 : decode b_Mo_entry 12 = .ok (.iconst 1, 1) := by decide +kernel
theorem d_Mo_entry_13 : decode b_Mo_entry 13 = .ok (.isub, 1) := by decide +kernel
theorem d_Mo_entry_14 : decode b_Mo_entry 14 = .ok (.invokestatic 123, 3) := by decide +kernel
theorem d_Mo_entry_17 : decode b_Mo_entry 17 = .ok (.ifCond .eq 24, 3) := by decide +kernel
theorem d_Mo_entry_20 : decode b_Mo_entry 20 = .ok (.iload_n 2, 1) := by decide +kernel
theorem d_Mo_entry_21 : decode b_Mo_entry 21 = .ok (.iconst 0, 1) := by decide +kernel
theorem d_Mo_entry_22 : decode b_Mo_entry 22 = .ok (.aload_n 0, 1) := by decide +kernel
theorem d_Mo_entry_23 : decode b_Mo_entry 23 = .ok (.getfield 130, 3) := by decide +kernel
theorem d_Mo_entry_26 : decode b_Mo_entry 26 = .ok (.iconst 1, 1) := by decide +kernel
theorem d_Mo_entry_27 : decode b_Mo_entry 27 = .ok (.isub, 1) := by decide +kernel
theorem d_Mo_entry_28 : decode b_Mo_entry 28 = .ok (.invokestatic 123, 3) := by decide +kernel
theorem d_Mo_entry_31 : decode b_Mo_entry 31 = .ok (.ifCond .eq 10, 3) := by decide +kernel
theorem d_Mo_entry_34 : decode b_Mo_entry 34 = .ok (.dload_n 3, 1) := by decide +kernel
theorem d_Mo_entry_35 : decode b_Mo_entry 35 = .ok (.invokestatic 108, 3) := by decide +kernel
theorem d_Mo_entry_38 : decode b_Mo_entry 38 = .ok (.ifCond .ne 7, 3) := by decide +kernel
theorem d_Mo_entry_41 : decode b_Mo_entry 41 = .ok (.iconst 1, 1) := by decide +kernel
theorem d_Mo_entry_42 : decode b_Mo_entry 42 = .ok (.goto 4, 3) := by decide +kernel
theorem d_Mo_entry_45 : decode b_Mo_entry 45 = .ok (.iconst 0, 1) := by decide +kernel
theorem d_Mo_entry_46 : decode b_Mo_entry 46 = .ok (.iconst 1, 1) := by decide +kernel
theorem d_Mo_entry_47 : decode b_Mo_entry 47 = .ok (.invokevirtual 112, 3) := by decide +kernel
theorem d_Mo_entry_50 : decode b_Mo_entry 50 = .ok (.ifCond .ne 44, 3) := by decide +kernel
theorem d_Mo_entry_53 : decode b_Mo_entry 53 = .ok (.aload_n 0, 1) := by decide +kernel
theorem d_Mo_entry_54 : decode b_Mo_entry 54 = .ok (.aload_n 0, 1) := by decide +kernel
theorem d_Mo_entry_55 : decode b_Mo_entry 55 = .ok (.getfield 37, 3) := by decide +kernel
theorem d_Mo_entry_58 : decode b_Mo_entry 58 = .ok (.iload_n 1, 1) := by decide +kernel
theorem d_Mo_entry_59 : decode b_Mo_entry 59 = .ok (.bipush 16, 2) := by decide +kernel
theorem d_Mo_entry_61 : decode b_Mo_entry 61 = .ok (.imul, 1) := by decide +kernel
theorem d_Mo_entry_62 : decode b_Mo_entry 62 = .ok (.iload_n 2, 1) := by decide +kernel
theorem d_Mo_entry_63 : decode b_Mo_entry 63 = .ok (.iadd, 1) := by decide +kernel
theorem d_Mo_entry_64 : decode b_Mo_entry 64 = .ok (.baload, 1) := by decide +kernel
theorem d_Mo_entry_65 : decode b_Mo_entry 65 = .ok (.iconst 2, 1) := by decide +kernel
theorem d_Mo_entry_66 : decode b_Mo_entry 66 = .ok (.invokevirtual 112, 3) := by decide +kernel
theorem d_Mo_entry_69 : decode b_Mo_entry 69 = .ok (.ifCond .ne 25, 3) := by decide +kernel
theorem d_Mo_entry_72 : decode b_Mo_entry 72 = .ok (.aload_n 0, 1) := by decide +kernel
theorem d_Mo_entry_73 : decode b_Mo_entry 73 = .ok (.aload_n 0, 1) := by decide +kernel
theorem d_Mo_entry_74 : decode b_Mo_entry 74 = .ok (.getfield 133, 3) := by decide +kernel
theorem d_Mo_entry_77 : decode b_Mo_entry 77 = .ok (.bipush 100, 2) := by decide +kernel
theorem d_Mo_entry_79 : decode b_Mo_entry 79 = .ok (.if_icmp .ne 7, 3) := by decide +kernel
theorem d_Mo_entry_82 : decode b_Mo_entry 82 = .ok (.iconst 1, 1) := by decide +kernel
theorem d_Mo_entry_83 : decode b_Mo_entry 83 = .ok (.goto 4, 3) := by decide +kernel
theorem d_Mo_entry_86 : decode b_Mo_entry 86 = .ok (.iconst 0, 1) := by decide +kernel
theorem d_Mo_entry_87 : decode b_Mo_entry 87 = .ok (.iconst 3, 1) := by decide +kernel
theorem d_Mo_entry_88 : decode b_Mo_entry 88 = .ok (.invokevirtual 112, 3) := by decide +kernel
theorem d_Mo_entry_91 : decode b_Mo_entry 91 = .ok (.ifCond .eq 5, 3) := by decide +kernel
theorem d_Mo_entry_94 : decode b_Mo_entry 94 = .ok (.iconst 0, 1) := by decide +kernel
theorem d_Mo_entry_95 : decode b_Mo_entry 95 = .ok (.ireturn, 1) := by decide +kernel
theorem d_Mo_entry_96 : decode b_Mo_entry 96 = .ok (.aload_n 0, 1) := by decide +kernel
theorem d_Mo_entry_97 : decode b_Mo_entry 97 = .ok (.getfield 9, 3) := by decide +kernel
theorem d_Mo_entry_100 : decode b_Mo_entry 100 = .ok (.iload_n 1, 1) := by decide +kernel
theorem d_Mo_entry_101 : decode b_Mo_entry 101 = .ok (.bipush 16, 2) := by decide +kernel
theorem d_Mo_entry_103 : decode b_Mo_entry 103 = .ok (.imul, 1) := by decide +kernel
theorem d_Mo_entry_104 : decode b_Mo_entry 104 = .ok (.iload_n 2, 1) := by decide +kernel
theorem d_Mo_entry_105 : decode b_Mo_entry 105 = .ok (.iadd, 1) := by decide +kernel
theorem d_Mo_entry_106 : decode b_Mo_entry 106 = .ok (.dload_n 3, 1) := by decide +kernel
theorem d_Mo_entry_107 : decode b_Mo_entry 107 = .ok (.invokestatic 116, 3) := by decide +kernel
theorem d_Mo_entry_110 : decode b_Mo_entry 110 = .ok (.dastore, 1) := by decide +kernel
theorem d_Mo_entry_111 : decode b_Mo_entry 111 = .ok (.aload_n 0, 1) := by decide +kernel
theorem d_Mo_entry_112 : decode b_Mo_entry 112 = .ok (.getfield 37, 3) := by decide +kernel
theorem d_Mo_entry_115 : decode b_Mo_entry 115 = .ok (.iload_n 1, 1) := by decide +kernel
theorem d_Mo_entry_116 : decode b_Mo_entry 116 = .ok (.bipush 16, 2) := by decide +kernel
theorem d_Mo_entry_118 : decode b_Mo_entry 118 = .ok (.imul, 1) := by decide +kernel
theorem d_Mo_entry_119 : decode b_Mo_entry 119 = .ok (.iload_n 2, 1) := by decide +kernel
theorem d_Mo_entry_120 : decode b_Mo_entry 120 = .ok (.iadd, 1) := by decide +kernel
theorem d_Mo_entry_121 : decode b_Mo_entry 121 = .ok (.iconst 1, 1) := by decide +kernel
theorem d_Mo_entry_122 : decode b_Mo_entry 122 = .ok (.bastore, 1) := by decide +kernel
theorem d_Mo_entry_123 : decode b_Mo_entry 123 = .ok (.aload_n 0, 1) := by decide +kernel
theorem d_Mo_entry_124 : decode b_Mo_entry 124 = .ok (.dup, 1) := by decide +kernel
theorem d_Mo_entry_125 : decode b_Mo_entry 125 = .ok (.getfield 133, 3) := by decide +kernel
theorem d_Mo_entry_128 : decode b_Mo_entry 128 = .ok (.iconst 1, 1) := by decide +kernel
theorem d_Mo_entry_129 : decode b_Mo_entry 129 = .ok (.iadd, 1) := by decide +kernel
theorem d_Mo_entry_130 : decode b_Mo_entry 130 = .ok (.dup_x1, 1) := by decide +kernel
theorem d_Mo_entry_131 : decode b_Mo_entry 131 = .ok (.putfield 133, 3) := by decide +kernel
theorem d_Mo_entry_134 : decode b_Mo_entry 134 = .ok (.ireturn, 1) := by decide +kernel
theorem d_Mo_exact_0 : decode b_Mo_exact 0 = .ok (.dload_n 1, 1) := by decide +kernel
theorem d_Mo_exact_1 : decode b_Mo_exact 1 = .ok (.dconst 0, 1) := by decide +kernel
theorem d_Mo_exact_2 : decode b_Mo_exact 2 = .ok (.dcmp .g, 1) := by decide +kernel
theorem d_Mo_exact_3 : decode b_Mo_exact 3 = .ok (.ifCond .ge 8, 3) := by decide +kernel
theorem d_Mo_exact_6 : decode b_Mo_exact 6 = .ok (.dload_n 1, 1) := by decide +kernel
theorem d_Mo_exact_7 : decode b_Mo_exact 7 = .ok (.dneg, 1) := by decide +kernel
theorem d_Mo_exact_8 : decode b_Mo_exact 8 = .ok (.goto 4, 3) := by decide +kernel
theorem d_Mo_exact_11 : decode b_Mo_exact 11 = .ok (.dload_n 1, 1) := by decide +kernel
theorem d_Mo_exact_12 : decode b_Mo_exact 12 = .ok (.dstore 4, 2) := by decide +kernel
theorem d_Mo_exact_14 : decode b_Mo_exact 14 = .ok (.iconst 0, 1) := by decide +kernel
theorem d_Mo_exact_15 : decode b_Mo_exact 15 = .ok (.istore 6, 2) := by decide +kernel
theorem d_Mo_exact_17 : decode b_Mo_exact 17 = .ok (.dload 4, 2) := by decide +kernel
theorem d_Mo_exact_19 : decode b_Mo_exact 19 = .ok (.dconst 0, 1) := by decide +kernel
theorem d_Mo_exact_20 : decode b_Mo_exact 20 = .ok (.dcmp .l, 1) := by decide +kernel
theorem d_Mo_exact_21 : decode b_Mo_exact 21 = .ok (.ifCond .ne 10, 3) := by decide +kernel
theorem d_Mo_exact_24 : decode b_Mo_exact 24 = .ok (.aload_n 0, 1) := by decide +kernel
theorem d_Mo_exact_25 : decode b_Mo_exact 25 = .ok (.iconst 0, 1) := by decide +kernel
theorem d_Mo_exact_26 : decode b_Mo_exact 26 = .ok (.putfield 89, 3) := by decide +kernel
theorem d_Mo_exact_29 : decode b_Mo_exact 29 = .ok (.iconst 0, 1) := by decide +kernel
theorem d_Mo_exact_30 : decode b_Mo_exact 30 = .ok (.ireturn, 1) := by decide +kernel
theorem d_Mo_exact_31 : decode b_Mo_exact 31 = .ok (.dload 4, 2) := by decide +kernel
theorem d_Mo_exact_33 : decode b_Mo_exact 33 = .ok (.ldc2_w 92, 3) := by decide +kernel
theorem d_Mo_exact_36 : decode b_Mo_exact 36 = .ok (.dcmp .l, 1) := by decide +kernel
theorem d_Mo_exact_37 : decode b_Mo_exact 37 = .ok (.ifCond .lt 17, 3) := by decide +kernel
theorem d_Mo_exact_40 : decode b_Mo_exact 40 = .ok (.dload 4, 2) := by decide +kernel
theorem d_Mo_exact_42 : decode b_Mo_exact 42 = .ok (.ldc2_w 94, 3) := by decide +kernel
theorem d_Mo_exact_45 : decode b_Mo_exact 45 = .ok (.dmul, 1) := by decide +kernel
theorem d_Mo_exact_46 : decode b_Mo_exact 46 = .ok (.dstore 4, 2) := by decide +kernel
theorem d_Mo_exact_48 : decode b_Mo_exact 48 = .ok (.iinc 6 1, 3) := by decide +kernel
theorem d_Mo_exact_51 : decode b_Mo_exact 51 = .ok (.goto (-20), 3) := by decide +kernel
theorem d_Mo_exact_54 : decode b_Mo_exact 54 = .ok (.dload 4, 2) := by decide +kernel
theorem d_Mo_exact_56 : decode b_Mo_exact 56 = .ok (.ldc2_w 96, 3) := by decide +kernel
theorem d_Mo_exact_59 : decode b_Mo_exact 59 = .ok (.dcmp .g, 1) := by decide +kernel
theorem d_Mo_exact_60 : decode b_Mo_exact 60 = .ok (.ifCond .ge 25, 3) := by decide +kernel
theorem d_Mo_exact_63 : decode b_Mo_exact 63 = .ok (.iload 6, 2) := by decide +kernel
theorem d_Mo_exact_65 : decode b_Mo_exact 65 = .ok (.sipush (-1074), 3) := by decide +kernel
theorem d_Mo_exact_68 : decode b_Mo_exact 68 = .ok (.if_icmp .le 17, 3) := by decide +kernel
theorem d_Mo_exact_71 : decode b_Mo_exact 71 = .ok (.dload 4, 2) := by decide +kernel
theorem d_Mo_exact_73 : decode b_Mo_exact 73 = .ok (.ldc2_w 98, 3) := by decide +kernel
theorem d_Mo_exact_76 : decode b_Mo_exact 76 = .ok (.dmul, 1) := by decide +kernel
theorem d_Mo_exact_77 : decode b_Mo_exact 77 = .ok (.dstore 4, 2) := by decide +kernel
theorem d_Mo_exact_79 : decode b_Mo_exact 79 = .ok (.iinc 6 (-1), 3) := by decide +kernel
theorem d_Mo_exact_82 : decode b_Mo_exact 82 = .ok (.goto (-28), 3) := by decide +kernel
theorem d_Mo_exact_85 : decode b_Mo_exact 85 = .ok (.dload 4, 2) := by decide +kernel
theorem d_Mo_exact_87 : decode b_Mo_exact 87 = .ok (.d2l, 1) := by decide +kernel
theorem d_Mo_exact_88 : decode b_Mo_exact 88 = .ok (.lstore 7, 2) := by decide +kernel
theorem d_Mo_exact_90 : decode b_Mo_exact 90 = .ok (.iconst 0, 1) := by decide +kernel
theorem d_Mo_exact_91 : decode b_Mo_exact 91 = .ok (.istore 9, 2) := by decide +kernel
theorem d_Mo_exact_93 : decode b_Mo_exact 93 = .ok (.lload 7, 2) := by decide +kernel
theorem d_Mo_exact_95 : decode b_Mo_exact 95 = .ok (.lconst 0, 1) := by decide +kernel
theorem d_Mo_exact_96 : decode b_Mo_exact 96 = .ok (.lcmp, 1) := by decide +kernel
theorem d_Mo_exact_97 : decode b_Mo_exact 97 = .ok (.ifCond .eq 27, 3) := by decide +kernel
theorem d_Mo_exact_100 : decode b_Mo_exact 100 = .ok (.aload_n 3, 1) := by decide +kernel
theorem d_Mo_exact_101 : decode b_Mo_exact 101 = .ok (.iload 9, 2) := by decide +kernel
theorem d_Mo_exact_103 : decode b_Mo_exact 103 = .ok (.iinc 9 1, 3) := by decide +kernel
theorem d_Mo_exact_106 : decode b_Mo_exact 106 = .ok (.lload 7, 2) := by decide +kernel
theorem d_Mo_exact_108 : decode b_Mo_exact 108 = .ok (.ldc2_w 82, 3) := by decide +kernel
theorem d_Mo_exact_111 : decode b_Mo_exact 111 = .ok (.land, 1) := by decide +kernel
theorem d_Mo_exact_112 : decode b_Mo_exact 112 = .ok (.l2i, 1) := by decide +kernel
theorem d_Mo_exact_113 : decode b_Mo_exact 113 = .ok (.iastore, 1) := by decide +kernel
theorem d_Mo_exact_114 : decode b_Mo_exact 114 = .ok (.lload 7, 2) := by decide +kernel
theorem d_Mo_exact_116 : decode b_Mo_exact 116 = .ok (.bipush 16, 2) := by decide +kernel
theorem d_Mo_exact_118 : decode b_Mo_exact 118 = .ok (.lshr, 1) := by decide +kernel
theorem d_Mo_exact_119 : decode b_Mo_exact 119 = .ok (.lstore 7, 2) := by decide +kernel
theorem d_Mo_exact_121 : decode b_Mo_exact 121 = .ok (.goto (-28), 3) := by decide +kernel
theorem d_Mo_exact_124 : decode b_Mo_exact 124 = .ok (.aload_n 0, 1) := by decide +kernel
theorem d_Mo_exact_125 : decode b_Mo_exact 125 = .ok (.iload 6, 2) := by decide +kernel
theorem d_Mo_exact_127 : decode b_Mo_exact 127 = .ok (.putfield 89, 3) := by decide +kernel
theorem d_Mo_exact_130 : decode b_Mo_exact 130 = .ok (.iload 9, 2) := by decide +kernel
theorem d_Mo_exact_132 : decode b_Mo_exact 132 = .ok (.ireturn, 1) := by decide +kernel
theorem d_Mo_excess_0 : decode b_Mo_excess 0 = .ok (.aload_n 0, 1) := by decide +kernel
theorem d_Mo_excess_1 : decode b_Mo_excess 1 = .ok (.invokevirtual 152, 3) := by decide +kernel
theorem d_Mo_excess_4 : decode b_Mo_excess 4 = .ok (.istore_n 2, 1) := by decide +kernel
theorem d_Mo_excess_5 : decode b_Mo_excess 5 = .ok (.iload_n 1, 1) := by decide +kernel
theorem d_Mo_excess_6 : decode b_Mo_excess 6 = .ok (.ifCond .eq 10, 3) := by decide +kernel
theorem d_Mo_excess_9 : decode b_Mo_excess 9 = .ok (.iload_n 2, 1) := by decide +kernel
theorem d_Mo_excess_10 : decode b_Mo_excess 10 = .ok (.ifCond .lt 12, 3) := by decide +kernel
theorem d_Mo_excess_13 : decode b_Mo_excess 13 = .ok (.goto 7, 3) := by decide +kernel
theorem d_Mo_excess_16 : decode b_Mo_excess 16 = .ok (.iload_n 2, 1) := by decide +kernel
theorem d_Mo_excess_17 : decode b_Mo_excess 17 = .ok (.ifCond .gt 5, 3) := by decide +kernel
theorem d_Mo_excess_20 : decode b_Mo_excess 20 = .ok (.dconst 0, 1) := by decide +kernel
theorem d_Mo_excess_21 : decode b_Mo_excess 21 = .ok (.dreturn, 1) := by decide +kernel
theorem d_Mo_excess_22 : decode b_Mo_excess 22 = .ok (.iload_n 1, 1) := by decide +kernel
theorem d_Mo_excess_23 : decode b_Mo_excess 23 = .ok (.ifCond .eq 7, 3) := by decide +kernel
theorem d_Mo_excess_26 : decode b_Mo_excess 26 = .ok (.aload_n 0, 1) := by decide +kernel
theorem d_Mo_excess_27 : decode b_Mo_excess 27 = .ok (.invokevirtual 172, 3) := by decide +kernel
theorem d_Mo_excess_30 : decode b_Mo_excess 30 = .ok (.aload_n 0, 1) := by decide +kernel
theorem d_Mo_excess_31 : decode b_Mo_excess 31 = .ok (.invokevirtual 175, 3) := by decide +kernel
theorem d_Mo_excess_34 : decode b_Mo_excess 34 = .ok (.dreturn, 1) := by decide +kernel
theorem d_Mo_fails_0 : decode b_Mo_fails 0 = .ok (.iload_n 1, 1) := by decide +kernel
theorem d_Mo_fails_1 : decode b_Mo_fails 1 = .ok (.ifCond .eq 15, 3) := by decide +kernel
theorem d_Mo_fails_4 : decode b_Mo_fails 4 = .ok (.aload_n 0, 1) := by decide +kernel
theorem d_Mo_fails_5 : decode b_Mo_fails 5 = .ok (.getfield 78, 3) := by decide +kernel
theorem d_Mo_fails_8 : decode b_Mo_fails 8 = .ok (.ifCond .ne 8, 3) := by decide +kernel
theorem d_Mo_fails_11 : decode b_Mo_fails 11 = .ok (.aload_n 0, 1) := by decide +kernel
theorem d_Mo_fails_12 : decode b_Mo_fails 12 = .ok (.iload_n 2, 1) := by decide +kernel
theorem d_Mo_fails_13 : decode b_Mo_fails 13 = .ok (.putfield 78, 3) := by decide +kernel
theorem d_Mo_fails_16 : decode b_Mo_fails 16 = .ok (.aload_n 0, 1) := by decide +kernel
theorem d_Mo_fails_17 : decode b_Mo_fails 17 = .ok (.getfield 78, 3) := by decide +kernel
theorem d_Mo_fails_20 : decode b_Mo_fails 20 = .ok (.ifCond .eq 7, 3) := by decide +kernel
theorem d_Mo_fails_23 : decode b_Mo_fails 23 = .ok (.iconst 1, 1) := by decide +kernel
theorem d_Mo_fails_24 : decode b_Mo_fails 24 = .ok (.goto 4, 3) := by decide +kernel
theorem d_Mo_fails_27 : decode b_Mo_fails 27 = .ok (.iconst 0, 1) := by decide +kernel
theorem d_Mo_fails_28 : decode b_Mo_fails 28 = .ok (.ireturn, 1) := by decide +kernel
theorem d_Mo_gap_0 : decode b_Mo_gap 0 = .ok (.iconst 0, 1) := by decide +kernel
theorem d_Mo_gap_1 : decode b_Mo_gap 1 = .ok (.istore_n 1, 1) := by decide +kernel
theorem d_Mo_gap_2 : decode b_Mo_gap 2 = .ok (.iload_n 1, 1) := by decide +kernel
theorem d_Mo_gap_3 : decode b_Mo_gap 3 = .ok (.aload_n 0, 1) := by decide +kernel
theorem d_Mo_gap_4 : decode b_Mo_gap 4 = .ok (.getfield 130, 3) := by decide +kernel
theorem d_Mo_gap_7 : decode b_Mo_gap 7 = .ok (.if_icmp .ge 24, 3) := by decide +kernel
theorem d_Mo_gap_10 : decode b_Mo_gap 10 = .ok (.aload_n 0, 1) := by decide +kernel
theorem d_Mo_gap_11 : decode b_Mo_gap 11 = .ok (.iload_n 1, 1) := by decide +kernel
theorem d_Mo_gap_12 : decode b_Mo_gap 12 = .ok (.invokevirtual 187, 3) := by decide +kernel
theorem d_Mo_gap_15 : decode b_Mo_gap 15 = .ok (.aload_n 0, 1) := by decide +kernel
theorem d_Mo_gap_16 : decode b_Mo_gap 16 = .ok (.getfield 60, 3) := by decide +kernel
theorem d_Mo_gap_19 : decode b_Mo_gap 19 = .ok (.iload_n 1, 1) := by decide +kernel
theorem d_Mo_gap_20 : decode b_Mo_gap 20 = .ok (.aload_n 0, 1) := by decide +kernel
theorem d_Mo_gap_21 : decode b_Mo_gap 21 = .ok (.invokevirtual 152, 3) := by decide +kernel
theorem d_Mo_gap_24 : decode b_Mo_gap 24 = .ok (.iastore, 1) := by decide +kernel
theorem d_Mo_gap_25 : decode b_Mo_gap 25 = .ok (.iinc 1 1, 3) := by decide +kernel
theorem d_Mo_gap_28 : decode b_Mo_gap 28 = .ok (.goto (-26), 3) := by decide +kernel
theorem d_Mo_gap_31 : decode b_Mo_gap 31 = .ok (.aload_n 0, 1) := by decide +kernel
theorem d_Mo_gap_32 : decode b_Mo_gap 32 = .ok (.invokevirtual 165, 3) := by decide +kernel
theorem d_Mo_gap_35 : decode b_Mo_gap 35 = .ok (.aload_n 0, 1) := by decide +kernel
theorem d_Mo_gap_36 : decode b_Mo_gap 36 = .ok (.iconst 2, 1) := by decide +kernel
theorem d_Mo_gap_37 : decode b_Mo_gap 37 = .ok (.invokevirtual 190, 3) := by decide +kernel
theorem d_Mo_gap_40 : decode b_Mo_gap 40 = .ok (.iconst 0, 1) := by decide +kernel
theorem d_Mo_gap_41 : decode b_Mo_gap 41 = .ok (.istore_n 1, 1) := by decide +kernel
theorem d_Mo_gap_42 : decode b_Mo_gap 42 = .ok (.iload_n 1, 1) := by decide +kernel
theorem d_Mo_gap_43 : decode b_Mo_gap 43 = .ok (.aload_n 0, 1) := by decide +kernel
theorem d_Mo_gap_44 : decode b_Mo_gap 44 = .ok (.getfield 127, 3) := by decide +kernel
theorem d_Mo_gap_47 : decode b_Mo_gap 47 = .ok (.if_icmp .ge 87, 3) := by decide +kernel
theorem d_Mo_gap_50 : decode b_Mo_gap 50 = .ok (.aload_n 0, 1) := by decide +kernel
theorem d_Mo_gap_51 : decode b_Mo_gap 51 = .ok (.getfield 34, 3) := by decide +kernel
theorem d_Mo_gap_54 : decode b_Mo_gap 54 = .ok (.iload_n 1, 1) := by decide +kernel
theorem d_Mo_gap_55 : decode b_Mo_gap 55 = .ok (.daload, 1) := by decide +kernel
theorem d_Mo_gap_56 : decode b_Mo_gap 56 = .ok (.dconst 0, 1) := by decide +kernel
theorem d_Mo_gap_57 : decode b_Mo_gap 57 = .ok (.dcmp .l, 1) := by decide +kernel
theorem d_Mo_gap_58 : decode b_Mo_gap 58 = .ok (.ifCond .le 31, 3) := by decide +kernel
theorem d_Mo_gap_61 : decode b_Mo_gap 61 = .ok (.aload_n 0, 1) := by decide +kernel
theorem d_Mo_gap_62 : decode b_Mo_gap 62 = .ok (.getfield 50, 3) := by decide +kernel
theorem d_Mo_gap_65 : decode b_Mo_gap 65 = .ok (.iload_n 1, 1) := by decide +kernel
theorem d_Mo_gap_66 : decode b_Mo_gap 66 = .ok (.baload, 1) := by decide +kernel
theorem d_Mo_gap_67 : decode b_Mo_gap 67 = .ok (.ifCond .eq 22, 3) := by decide +kernel
theorem d_Mo_gap_70 : decode b_Mo_gap 70 = .ok (.aload_n 0, 1) := by decide +kernel
theorem d_Mo_gap_71 : decode b_Mo_gap 71 = .ok (.aload_n 0, 1) := by decide +kernel
theorem d_Mo_gap_72 : decode b_Mo_gap 72 = .ok (.getfield 34, 3) := by decide +kernel
theorem d_Mo_gap_75 : decode b_Mo_gap 75 = .ok (.iload_n 1, 1) := by decide +kernel
theorem d_Mo_gap_76 : decode b_Mo_gap 76 = .ok (.daload, 1) := by decide +kernel
theorem d_Mo_gap_77 : decode b_Mo_gap 77 = .ok (.aload_n 0, 1) := by decide +kernel
theorem d_Mo_gap_78 : decode b_Mo_gap 78 = .ok (.getfield 25, 3) := by decide +kernel
theorem d_Mo_gap_81 : decode b_Mo_gap 81 = .ok (.iload_n 1, 1) := by decide +kernel
theorem d_Mo_gap_82 : decode b_Mo_gap 82 = .ok (.daload, 1) := by decide +kernel
theorem d_Mo_gap_83 : decode b_Mo_gap 83 = .ok (.dconst 1, 1) := by decide +kernel
theorem d_Mo_gap_84 : decode b_Mo_gap 84 = .ok (.iconst 0, 1) := by decide +kernel
theorem d_Mo_gap_85 : decode b_Mo_gap 85 = .ok (.iconst 1, 1) := by decide +kernel
theorem d_Mo_gap_86 : decode b_Mo_gap 86 = .ok (.invokevirtual 168, 3) := by decide +kernel
theorem d_Mo_gap_89 : decode b_Mo_gap 89 = .ok (.aload_n 0, 1) := by decide +kernel
theorem d_Mo_gap_90 : decode b_Mo_gap 90 = .ok (.getfield 34, 3) := by decide +kernel
theorem d_Mo_gap_93 : decode b_Mo_gap 93 = .ok (.iload_n 1, 1) := by decide +kernel
theorem d_Mo_gap_94 : decode b_Mo_gap 94 = .ok (.daload, 1) := by decide +kernel
theorem d_Mo_gap_95 : decode b_Mo_gap 95 = .ok (.dconst 0, 1) := by decide +kernel
theorem d_Mo_gap_96 : decode b_Mo_gap 96 = .ok (.dcmp .g, 1) := by decide +kernel
theorem d_Mo_gap_97 : decode b_Mo_gap 97 = .ok (.ifCond .ge 31, 3) := by decide +kernel
theorem d_Mo_gap_100 : decode b_Mo_gap 100 = .ok (.aload_n 0, 1) := by decide +kernel
theorem d_Mo_gap_101 : decode b_Mo_gap 101 = .ok (.getfield 53, 3) := by decide +kernel
theorem d_Mo_gap_104 : decode b_Mo_gap 104 = .ok (.iload_n 1, 1) := by decide +kernel
theorem d_Mo_gap_105 : decode b_Mo_gap 105 = .ok (.baload, 1) := by decide +kernel
theorem d_Mo_gap_106 : decode b_Mo_gap 106 = .ok (.ifCond .eq 22, 3) := by decide +kernel
theorem d_Mo_gap_109 : decode b_Mo_gap 109 = .ok (.aload_n 0, 1) := by decide +kernel
theorem d_Mo_gap_110 : decode b_Mo_gap 110 = .ok (.aload_n 0, 1) := by decide +kernel
theorem d_Mo_gap_111 : decode b_Mo_gap 111 = .ok (.getfield 34, 3) := by decide +kernel
theorem d_Mo_gap_114 : decode b_Mo_gap 114 = .ok (.iload_n 1, 1) := by decide +kernel
theorem d_Mo_gap_115 : decode b_Mo_gap 115 = .ok (.daload, 1) := by decide +kernel
theorem d_Mo_gap_116 : decode b_Mo_gap 116 = .ok (.aload_n 0, 1) := by decide +kernel
theorem d_Mo_gap_117 : decode b_Mo_gap 117 = .ok (.getfield 28, 3) := by decide +kernel
theorem d_Mo_gap_120 : decode b_Mo_gap 120 = .ok (.iload_n 1, 1) := by decide +kernel
theorem d_Mo_gap_121 : decode b_Mo_gap 121 = .ok (.daload, 1) := by decide +kernel
theorem d_Mo_gap_122 : decode b_Mo_gap 122 = .ok (.dconst 1, 1) := by decide +kernel
theorem d_Mo_gap_123 : decode b_Mo_gap 123 = .ok (.iconst 0, 1) := by decide +kernel
theorem d_Mo_gap_124 : decode b_Mo_gap 124 = .ok (.iconst 1, 1) := by decide +kernel
theorem d_Mo_gap_125 : decode b_Mo_gap 125 = .ok (.invokevirtual 168, 3) := by decide +kernel
theorem d_Mo_gap_128 : decode b_Mo_gap 128 = .ok (.iinc 1 1, 3) := by decide +kernel
theorem d_Mo_gap_131 : decode b_Mo_gap 131 = .ok (.goto (-89), 3) := by decide +kernel
theorem d_Mo_gap_134 : decode b_Mo_gap 134 = .ok (.iconst 0, 1) := by decide +kernel
theorem d_Mo_gap_135 : decode b_Mo_gap 135 = .ok (.istore_n 1, 1) := by decide +kernel
theorem d_Mo_gap_136 : decode b_Mo_gap 136 = .ok (.iload_n 1, 1) := by decide +kernel
theorem d_Mo_gap_137 : decode b_Mo_gap 137 = .ok (.aload_n 0, 1) := by decide +kernel
theorem d_Mo_gap_138 : decode b_Mo_gap 138 = .ok (.getfield 130, 3) := by decide +kernel
theorem d_Mo_gap_141 : decode b_Mo_gap 141 = .ok (.if_icmp .ge 215, 3) := by decide +kernel
theorem d_Mo_gap_144 : decode b_Mo_gap 144 = .ok (.aload_n 0, 1) := by decide +kernel
theorem d_Mo_gap_145 : decode b_Mo_gap 145 = .ok (.getfield 60, 3) := by decide +kernel
theorem d_Mo_gap_148 : decode b_Mo_gap 148 = .ok (.iload_n 1, 1) := by decide +kernel
theorem d_Mo_gap_149 : decode b_Mo_gap 149 = .ok (.iaload, 1) := by decide +kernel
theorem d_Mo_gap_150 : decode b_Mo_gap 150 = .ok (.ifCond .le 12, 3) := by decide +kernel
theorem d_Mo_gap_153 : decode b_Mo_gap 153 = .ok (.aload_n 0, 1) := by decide +kernel
theorem d_Mo_gap_154 : decode b_Mo_gap 154 = .ok (.getfield 44, 3) := by decide +kernel
theorem d_Mo_gap_157 : decode b_Mo_gap 157 = .ok (.iload_n 1, 1) := by decide +kernel
theorem d_Mo_gap_158 : decode b_Mo_gap 158 = .ok (.baload, 1) := by decide +kernel
theorem d_Mo_gap_159 : decode b_Mo_gap 159 = .ok (.goto 26, 3) := by decide +kernel
theorem d_Mo_gap_162 : decode b_Mo_gap 162 = .ok (.aload_n 0, 1) := by decide +kernel
theorem d_Mo_gap_163 : decode b_Mo_gap 163 = .ok (.getfield 60, 3) := by decide +kernel
theorem d_Mo_gap_166 : decode b_Mo_gap 166 = .ok (.iload_n 1, 1) := by decide +kernel
theorem d_Mo_gap_167 : decode b_Mo_gap 167 = .ok (.iaload, 1) := by decide +kernel
theorem d_Mo_gap_168 : decode b_Mo_gap 168 = .ok (.ifCond .ge 16, 3) := by decide +kernel
theorem d_Mo_gap_171 : decode b_Mo_gap 171 = .ok (.aload_n 0, 1) := by decide +kernel
theorem d_Mo_gap_172 : decode b_Mo_gap 172 = .ok (.getfield 47, 3) := by decide +kernel
theorem d_Mo_gap_175 : decode b_Mo_gap 175 = .ok (.iload_n 1, 1) := by decide +kernel
theorem d_Mo_gap_176 : decode b_Mo_gap 176 = .ok (.baload, 1) := by decide +kernel
theorem d_Mo_gap_177 : decode b_Mo_gap 177 = .ok (.ifCond .eq 7, 3) := by decide +kernel
theorem d_Mo_gap_180 : decode b_Mo_gap 180 = .ok (.iconst 1, 1) := by decide +kernel
theorem d_Mo_gap_181 : decode b_Mo_gap 181 = .ok (.goto 4, 3) := by decide +kernel
theorem d_Mo_gap_184 : decode b_Mo_gap 184 = .ok (.iconst 0, 1) := by decide +kernel
theorem d_Mo_gap_185 : decode b_Mo_gap 185 = .ok (.istore_n 2, 1) := by decide +kernel
theorem d_Mo_gap_186 : decode b_Mo_gap 186 = .ok (.aload_n 0, 1) := by decide +kernel
theorem d_Mo_gap_187 : decode b_Mo_gap 187 = .ok (.getfield 60, 3) := by decide +kernel
theorem d_Mo_gap_190 : decode b_Mo_gap 190 = .ok (.iload_n 1, 1) := by decide +kernel
theorem d_Mo_gap_191 : decode b_Mo_gap 191 = .ok (.iaload, 1) := by decide +kernel
theorem d_Mo_gap_192 : decode b_Mo_gap 192 = .ok (.ifCond .le 12, 3) := by decide +kernel
theorem d_Mo_gap_195 : decode b_Mo_gap 195 = .ok (.aload_n 0, 1) := by decide +kernel
theorem d_Mo_gap_196 : decode b_Mo_gap 196 = .ok (.getfield 19, 3) := by decide +kernel
theorem d_Mo_gap_199 : decode b_Mo_gap 199 = .ok (.iload_n 1, 1) := by decide +kernel
theorem d_Mo_gap_200 : decode b_Mo_gap 200 = .ok (.daload, 1) := by decide +kernel
theorem d_Mo_gap_201 : decode b_Mo_gap 201 = .ok (.goto 9, 3) := by decide +kernel
theorem d_Mo_gap_204 : decode b_Mo_gap 204 = .ok (.aload_n 0, 1) := by decide +kernel
theorem d_Mo_gap_205 : decode b_Mo_gap 205 = .ok (.getfield 22, 3) := by decide +kernel
theorem d_Mo_gap_208 : decode b_Mo_gap 208 = .ok (.iload_n 1, 1) := by decide +kernel
theorem d_Mo_gap_209 : decode b_Mo_gap 209 = .ok (.daload, 1) := by decide +kernel
theorem d_Mo_gap_210 : decode b_Mo_gap 210 = .ok (.dstore_n 3, 1) := by decide +kernel
theorem d_Mo_gap_211 : decode b_Mo_gap 211 = .ok (.iload_n 2, 1) := by decide +kernel
theorem d_Mo_gap_212 : decode b_Mo_gap 212 = .ok (.ifCond .ne 6, 3) := by decide +kernel
theorem d_Mo_gap_215 : decode b_Mo_gap 215 = .ok (.goto 135, 3) := by decide +kernel
theorem d_Mo_gap_218 : decode b_Mo_gap 218 = .ok (.aload_n 0, 1) := by decide +kernel
theorem d_Mo_gap_219 : decode b_Mo_gap 219 = .ok (.aload_n 0, 1) := by decide +kernel
theorem d_Mo_gap_220 : decode b_Mo_gap 220 = .ok (.getfield 13, 3) := by decide +kernel
theorem d_Mo_gap_223 : decode b_Mo_gap 223 = .ok (.iload_n 1, 1) := by decide +kernel
theorem d_Mo_gap_224 : decode b_Mo_gap 224 = .ok (.daload, 1) := by decide +kernel
theorem d_Mo_gap_225 : decode b_Mo_gap 225 = .ok (.dload_n 3, 1) := by decide +kernel
theorem d_Mo_gap_226 : decode b_Mo_gap 226 = .ok (.dconst 1, 1) := by decide +kernel
theorem d_Mo_gap_227 : decode b_Mo_gap 227 = .ok (.iconst 0, 1) := by decide +kernel
theorem d_Mo_gap_228 : decode b_Mo_gap 228 = .ok (.iconst 1, 1) := by decide +kernel
theorem d_Mo_gap_229 : decode b_Mo_gap 229 = .ok (.invokevirtual 168, 3) := by decide +kernel
theorem d_Mo_gap_232 : decode b_Mo_gap 232 = .ok (.iconst 0, 1) := by decide +kernel
theorem d_Mo_gap_233 : decode b_Mo_gap 233 = .ok (.istore 5, 2) := by decide +kernel
theorem d_Mo_gap_235 : decode b_Mo_gap 235 = .ok (.iload 5, 2) := by decide +kernel
theorem d_Mo_gap_237 : decode b_Mo_gap 237 = .ok (.aload_n 0, 1) := by decide +kernel
theorem d_Mo_gap_238 : decode b_Mo_gap 238 = .ok (.getfield 130, 3) := by decide +kernel
theorem d_Mo_gap_241 : decode b_Mo_gap 241 = .ok (.if_icmp .ge 50, 3) := by decide +kernel
theorem d_Mo_gap_244 : decode b_Mo_gap 244 = .ok (.aload_n 0, 1) := by decide +kernel
theorem d_Mo_gap_245 : decode b_Mo_gap 245 = .ok (.getfield 41, 3) := by decide +kernel
theorem d_Mo_gap_248 : decode b_Mo_gap 248 = .ok (.bipush 16, 2) := by decide +kernel
theorem d_Mo_gap_250 : decode b_Mo_gap 250 = .ok (.iload 5, 2) := by decide +kernel
theorem d_Mo_gap_252 : decode b_Mo_gap 252 = .ok (.imul, 1) := by decide +kernel
theorem d_Mo_gap_253 : decode b_Mo_gap 253 = .ok (.iload_n 1, 1) := by decide +kernel
theorem d_Mo_gap_254 : decode b_Mo_gap 254 = .ok (.iadd, 1) := by decide +kernel
theorem d_Mo_gap_255 : decode b_Mo_gap 255 = .ok (.baload, 1) := by decide +kernel
theorem d_Mo_gap_256 : decode b_Mo_gap 256 = .ok (.ifCond .eq 29, 3) := by decide +kernel
theorem d_Mo_gap_259 : decode b_Mo_gap 259 = .ok (.aload_n 0, 1) := by decide +kernel
theorem d_Mo_gap_260 : decode b_Mo_gap 260 = .ok (.aload_n 0, 1) := by decide +kernel
theorem d_Mo_gap_261 : decode b_Mo_gap 261 = .ok (.getfield 16, 3) := by decide +kernel
theorem d_Mo_gap_264 : decode b_Mo_gap 264 = .ok (.bipush 16, 2) := by decide +kernel
theorem d_Mo_gap_266 : decode b_Mo_gap 266 = .ok (.iload 5, 2) := by decide +kernel
theorem d_Mo_gap_268 : decode b_Mo_gap 268 = .ok (.imul, 1) := by decide +kernel
theorem d_Mo_gap_269 : decode b_Mo_gap 269 = .ok (.iload_n 1, 1) := by decide +kernel
theorem d_Mo_gap_270 : decode b_Mo_gap 270 = .ok (.iadd, 1) := by decide +kernel
theorem d_Mo_gap_271 : decode b_Mo_gap 271 = .ok (.daload, 1) := by decide +kernel
theorem d_Mo_gap_272 : decode b_Mo_gap 272 = .ok (.aload_n 0, 1) := by decide +kernel
theorem d_Mo_gap_273 : decode b_Mo_gap 273 = .ok (.getfield 31, 3) := by decide +kernel
theorem d_Mo_gap_276 : decode b_Mo_gap 276 = .ok (.iload 5, 2) := by decide +kernel
theorem d_Mo_gap_278 : decode b_Mo_gap 278 = .ok (.daload, 1) := by decide +kernel
theorem d_Mo_gap_279 : decode b_Mo_gap 279 = .ok (.dload_n 3, 1) := by decide +kernel
theorem d_Mo_gap_280 : decode b_Mo_gap 280 = .ok (.iconst 0, 1) := by decide +kernel
theorem d_Mo_gap_281 : decode b_Mo_gap 281 = .ok (.iconst 1, 1) := by decide +kernel
theorem d_Mo_gap_282 : decode b_Mo_gap 282 = .ok (.invokevirtual 168, 3) := by decide +kernel
theorem d_Mo_gap_285 : decode b_Mo_gap 285 = .ok (.iinc 5 1, 3) := by decide +kernel
theorem d_Mo_gap_288 : decode b_Mo_gap 288 = .ok (.goto (-53), 3) := by decide +kernel
theorem d_Mo_gap_291 : decode b_Mo_gap 291 = .ok (.iconst 0, 1) := by decide +kernel
theorem d_Mo_gap_292 : decode b_Mo_gap 292 = .ok (.istore 5, 2) := by decide +kernel
theorem d_Mo_gap_294 : decode b_Mo_gap 294 = .ok (.iload 5, 2) := by decide +kernel
theorem d_Mo_gap_296 : decode b_Mo_gap 296 = .ok (.aload_n 0, 1) := by decide +kernel
theorem d_Mo_gap_297 : decode b_Mo_gap 297 = .ok (.getfield 127, 3) := by decide +kernel
theorem d_Mo_gap_300 : decode b_Mo_gap 300 = .ok (.if_icmp .ge 50, 3) := by decide +kernel
theorem d_Mo_gap_303 : decode b_Mo_gap 303 = .ok (.aload_n 0, 1) := by decide +kernel
theorem d_Mo_gap_304 : decode b_Mo_gap 304 = .ok (.getfield 37, 3) := by decide +kernel
theorem d_Mo_gap_307 : decode b_Mo_gap 307 = .ok (.bipush 16, 2) := by decide +kernel
theorem d_Mo_gap_309 : decode b_Mo_gap 309 = .ok (.iload 5, 2) := by decide +kernel
theorem d_Mo_gap_311 : decode b_Mo_gap 311 = .ok (.imul, 1) := by decide +kernel
theorem d_Mo_gap_312 : decode b_Mo_gap 312 = .ok (.iload_n 1, 1) := by decide +kernel
theorem d_Mo_gap_313 : decode b_Mo_gap 313 = .ok (.iadd, 1) := by decide +kernel
theorem d_Mo_gap_314 : decode b_Mo_gap 314 = .ok (.baload, 1) := by decide +kernel
theorem d_Mo_gap_315 : decode b_Mo_gap 315 = .ok (.ifCond .eq 29, 3) := by decide +kernel
theorem d_Mo_gap_318 : decode b_Mo_gap 318 = .ok (.aload_n 0, 1) := by decide +kernel
theorem d_Mo_gap_319 : decode b_Mo_gap 319 = .ok (.aload_n 0, 1) := by decide +kernel
theorem d_Mo_gap_320 : decode b_Mo_gap 320 = .ok (.getfield 9, 3) := by decide +kernel
theorem d_Mo_gap_323 : decode b_Mo_gap 323 = .ok (.bipush 16, 2) := by decide +kernel
theorem d_Mo_gap_325 : decode b_Mo_gap 325 = .ok (.iload 5, 2) := by decide +kernel
theorem d_Mo_gap_327 : decode b_Mo_gap 327 = .ok (.imul, 1) := by decide +kernel
theorem d_Mo_gap_328 : decode b_Mo_gap 328 = .ok (.iload_n 1, 1) := by decide +kernel
theorem d_Mo_gap_329 : decode b_Mo_gap 329 = .ok (.iadd, 1) := by decide +kernel
theorem d_Mo_gap_330 : decode b_Mo_gap 330 = .ok (.daload, 1) := by decide +kernel
theorem d_Mo_gap_331 : decode b_Mo_gap 331 = .ok (.aload_n 0, 1) := by decide +kernel
theorem d_Mo_gap_332 : decode b_Mo_gap 332 = .ok (.getfield 34, 3) := by decide +kernel
theorem d_Mo_gap_335 : decode b_Mo_gap 335 = .ok (.iload 5, 2) := by decide +kernel
theorem d_Mo_gap_337 : decode b_Mo_gap 337 = .ok (.daload, 1) := by decide +kernel
theorem d_Mo_gap_338 : decode b_Mo_gap 338 = .ok (.dload_n 3, 1) := by decide +kernel
theorem d_Mo_gap_339 : decode b_Mo_gap 339 = .ok (.iconst 0, 1) := by decide +kernel
theorem d_Mo_gap_340 : decode b_Mo_gap 340 = .ok (.iconst 0, 1) := by decide +kernel
theorem d_Mo_gap_341 : decode b_Mo_gap 341 = .ok (.invokevirtual 168, 3) := by decide +kernel
theorem d_Mo_gap_344 : decode b_Mo_gap 344 = .ok (.iinc 5 1, 3) := by decide +kernel
theorem d_Mo_gap_347 : decode b_Mo_gap 347 = .ok (.goto (-53), 3) := by decide +kernel
theorem d_Mo_gap_350 : decode b_Mo_gap 350 = .ok (.iinc 1 1, 3) := by decide +kernel
theorem d_Mo_gap_353 : decode b_Mo_gap 353 = .ok (.goto (-217), 3) := by decide +kernel
theorem d_Mo_gap_356 : decode b_Mo_gap 356 = .ok (.aload_n 0, 1) := by decide +kernel
theorem d_Mo_gap_357 : decode b_Mo_gap 357 = .ok (.invokevirtual 175, 3) := by decide +kernel
theorem d_Mo_gap_360 : decode b_Mo_gap 360 = .ok (.dreturn, 1) := by decide +kernel
theorem d_Mo_given_0 : decode b_Mo_given 0 = .ok (.dload_n 0, 1) := by decide +kernel
theorem d_Mo_given_1 : decode b_Mo_given 1 = .ok (.dconst 0, 1) := by decide +kernel
theorem d_Mo_given_2 : decode b_Mo_given 2 = .ok (.dcmp .l, 1) := by decide +kernel
theorem d_Mo_given_3 : decode b_Mo_given 3 = .ok (.ifCond .ne 7, 3) := by decide +kernel
theorem d_Mo_given_6 : decode b_Mo_given 6 = .ok (.dconst 0, 1) := by decide +kernel
theorem d_Mo_given_7 : decode b_Mo_given 7 = .ok (.goto 4, 3) := by decide +kernel
theorem d_Mo_given_10 : decode b_Mo_given 10 = .ok (.dload_n 0, 1) := by decide +kernel
theorem d_Mo_given_11 : decode b_Mo_given 11 = .ok (.dreturn, 1) := by decide +kernel
theorem d_Mo_goal_0 : decode b_Mo_goal 0 = .ok (.iconst 0, 1) := by decide +kernel
theorem d_Mo_goal_1 : decode b_Mo_goal 1 = .ok (.istore_n 2, 1) := by decide +kernel
theorem d_Mo_goal_2 : decode b_Mo_goal 2 = .ok (.iload_n 2, 1) := by decide +kernel
theorem d_Mo_goal_3 : decode b_Mo_goal 3 = .ok (.aload_n 0, 1) := by decide +kernel
theorem d_Mo_goal_4 : decode b_Mo_goal 4 = .ok (.getfield 130, 3) := by decide +kernel
theorem d_Mo_goal_7 : decode b_Mo_goal 7 = .ok (.if_icmp .ge 89, 3) := by decide +kernel
theorem d_Mo_goal_10 : decode b_Mo_goal 10 = .ok (.aload_n 0, 1) := by decide +kernel
theorem d_Mo_goal_11 : decode b_Mo_goal 11 = .ok (.aload_n 0, 1) := by decide +kernel
theorem d_Mo_goal_12 : decode b_Mo_goal 12 = .ok (.getfield 13, 3) := by decide +kernel
theorem d_Mo_goal_15 : decode b_Mo_goal 15 = .ok (.iload_n 2, 1) := by decide +kernel
theorem d_Mo_goal_16 : decode b_Mo_goal 16 = .ok (.daload, 1) := by decide +kernel
theorem d_Mo_goal_17 : decode b_Mo_goal 17 = .ok (.aload_n 0, 1) := by decide +kernel
theorem d_Mo_goal_18 : decode b_Mo_goal 18 = .ok (.getfield 31, 3) := by decide +kernel
theorem d_Mo_goal_21 : decode b_Mo_goal 21 = .ok (.iload_n 2, 1) := by decide +kernel
theorem d_Mo_goal_22 : decode b_Mo_goal 22 = .ok (.daload, 1) := by decide +kernel
theorem d_Mo_goal_23 : decode b_Mo_goal 23 = .ok (.dconst 1, 1) := by decide +kernel
theorem d_Mo_goal_24 : decode b_Mo_goal 24 = .ok (.iconst 0, 1) := by decide +kernel
theorem d_Mo_goal_25 : decode b_Mo_goal 25 = .ok (.iconst 0, 1) := by decide +kernel
theorem d_Mo_goal_26 : decode b_Mo_goal 26 = .ok (.invokevirtual 168, 3) := by decide +kernel
theorem d_Mo_goal_29 : decode b_Mo_goal 29 = .ok (.iconst 0, 1) := by decide +kernel
theorem d_Mo_goal_30 : decode b_Mo_goal 30 = .ok (.istore_n 3, 1) := by decide +kernel
theorem d_Mo_goal_31 : decode b_Mo_goal 31 = .ok (.iload_n 3, 1) := by decide +kernel
theorem d_Mo_goal_32 : decode b_Mo_goal 32 = .ok (.aload_n 0, 1) := by decide +kernel
theorem d_Mo_goal_33 : decode b_Mo_goal 33 = .ok (.getfield 130, 3) := by decide +kernel
theorem d_Mo_goal_36 : decode b_Mo_goal 36 = .ok (.if_icmp .ge 54, 3) := by decide +kernel
theorem d_Mo_goal_39 : decode b_Mo_goal 39 = .ok (.aload_n 0, 1) := by decide +kernel
theorem d_Mo_goal_40 : decode b_Mo_goal 40 = .ok (.getfield 41, 3) := by decide +kernel
theorem d_Mo_goal_43 : decode b_Mo_goal 43 = .ok (.bipush 16, 2) := by decide +kernel
theorem d_Mo_goal_45 : decode b_Mo_goal 45 = .ok (.iload_n 3, 1) := by decide +kernel
theorem d_Mo_goal_46 : decode b_Mo_goal 46 = .ok (.imul, 1) := by decide +kernel
theorem d_Mo_goal_47 : decode b_Mo_goal 47 = .ok (.iload_n 2, 1) := by decide +kernel
theorem d_Mo_goal_48 : decode b_Mo_goal 48 = .ok (.iadd, 1) := by decide +kernel
theorem d_Mo_goal_49 : decode b_Mo_goal 49 = .ok (.baload, 1) := by decide +kernel
theorem d_Mo_goal_50 : decode b_Mo_goal 50 = .ok (.ifCond .eq 34, 3) := by decide +kernel
theorem d_Mo_goal_53 : decode b_Mo_goal 53 = .ok (.aload_n 0, 1) := by decide +kernel
theorem d_Mo_goal_54 : decode b_Mo_goal 54 = .ok (.aload_n 0, 1) := by decide +kernel
theorem d_Mo_goal_55 : decode b_Mo_goal 55 = .ok (.getfield 16, 3) := by decide +kernel
theorem d_Mo_goal_58 : decode b_Mo_goal 58 = .ok (.bipush 16, 2) := by decide +kernel
theorem d_Mo_goal_60 : decode b_Mo_goal 60 = .ok (.iload_n 3, 1) := by decide +kernel
theorem d_Mo_goal_61 : decode b_Mo_goal 61 = .ok (.imul, 1) := by decide +kernel
theorem d_Mo_goal_62 : decode b_Mo_goal 62 = .ok (.iload_n 2, 1) := by decide +kernel
theorem d_Mo_goal_63 : decode b_Mo_goal 63 = .ok (.iadd, 1) := by decide +kernel
theorem d_Mo_goal_64 : decode b_Mo_goal 64 = .ok (.daload, 1) := by decide +kernel
theorem d_Mo_goal_65 : decode b_Mo_goal 65 = .ok (.aload_n 0, 1) := by decide +kernel
theorem d_Mo_goal_66 : decode b_Mo_goal 66 = .ok (.getfield 31, 3) := by decide +kernel
theorem d_Mo_goal_69 : decode b_Mo_goal 69 = .ok (.iload_n 3, 1) := by decide +kernel
theorem d_Mo_goal_70 : decode b_Mo_goal 70 = .ok (.daload, 1) := by decide +kernel
theorem d_Mo_goal_71 : decode b_Mo_goal 71 = .ok (.aload_n 0, 1) := by decide +kernel
theorem d_Mo_goal_72 : decode b_Mo_goal 72 = .ok (.getfield 31, 3) := by decide +kernel
theorem d_Mo_goal_75 : decode b_Mo_goal 75 = .ok (.iload_n 2, 1) := by decide +kernel
theorem d_Mo_goal_76 : decode b_Mo_goal 76 = .ok (.daload, 1) := by decide +kernel
theorem d_Mo_goal_77 : decode b_Mo_goal 77 = .ok (.iload_n 1, 1) := by decide +kernel
theorem d_Mo_goal_78 : decode b_Mo_goal 78 = .ok (.iconst 2, 1) := by decide +kernel
theorem d_Mo_goal_79 : decode b_Mo_goal 79 = .ok (.isub, 1) := by decide +kernel
theorem d_Mo_goal_80 : decode b_Mo_goal 80 = .ok (.iconst 0, 1) := by decide +kernel
theorem d_Mo_goal_81 : decode b_Mo_goal 81 = .ok (.invokevirtual 168, 3) := by decide +kernel
theorem d_Mo_goal_84 : decode b_Mo_goal 84 = .ok (.iinc 3 1, 3) := by decide +kernel
theorem d_Mo_goal_87 : decode b_Mo_goal 87 = .ok (.goto (-56), 3) := by decide +kernel
theorem d_Mo_goal_90 : decode b_Mo_goal 90 = .ok (.iinc 2 1, 3) := by decide +kernel
theorem d_Mo_goal_93 : decode b_Mo_goal 93 = .ok (.goto (-91), 3) := by decide +kernel
theorem d_Mo_goal_96 : decode b_Mo_goal 96 = .ok (.return_, 1) := by decide +kernel
theorem d_Mo_goalOf_0 : decode b_Mo_goalOf 0 = .ok (.aload_n 0, 1) := by decide +kernel
theorem d_Mo_goalOf_1 : decode b_Mo_goalOf 1 = .ok (.invokevirtual 165, 3) := by decide +kernel
theorem d_Mo_goalOf_4 : decode b_Mo_goalOf 4 = .ok (.aload_n 0, 1) := by decide +kernel
theorem d_Mo_goalOf_5 : decode b_Mo_goalOf 5 = .ok (.aload_n 0, 1) := by decide +kernel
theorem d_Mo_goalOf_6 : decode b_Mo_goalOf 6 = .ok (.getfield 119, 3) := by decide +kernel
theorem d_Mo_goalOf_9 : decode b_Mo_goalOf 9 = .ok (.dconst 1, 1) := by decide +kernel
theorem d_Mo_goalOf_10 : decode b_Mo_goalOf 10 = .ok (.dconst 1, 1) := by decide +kernel
theorem d_Mo_goalOf_11 : decode b_Mo_goalOf 11 = .ok (.iconst 0, 1) := by decide +kernel
theorem d_Mo_goalOf_12 : decode b_Mo_goalOf 12 = .ok (.iconst 1, 1) := by decide +kernel
theorem d_Mo_goalOf_13 : decode b_Mo_goalOf 13 = .ok (.invokevirtual 168, 3) := by decide +kernel
theorem d_Mo_goalOf_16 : decode b_Mo_goalOf 16 = .ok (.aload_n 0, 1) := by decide +kernel
theorem d_Mo_goalOf_17 : decode b_Mo_goalOf 17 = .ok (.iconst 1, 1) := by decide +kernel
theorem d_Mo_goalOf_18 : decode b_Mo_goalOf 18 = .ok (.invokevirtual 190, 3) := by decide +kernel
theorem d_Mo_goalOf_21 : decode b_Mo_goalOf 21 = .ok (.return_, 1) := by decide +kernel
