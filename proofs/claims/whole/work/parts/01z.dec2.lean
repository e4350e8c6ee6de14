theorem d_Ex_clear_0 : decode b_Ex_clear 0 = .ok (.aload_n 0, 1) := by decide +kernel
theorem d_Ex_clear_1 : decode b_Ex_clear 1 = .ok (.getfield 9, 3) := by decide +kernel
theorem d_Ex_clear_4 : decode b_Ex_clear 4 = .ok (.lconst 0, 1) := by decide +kernel
theorem d_Ex_clear_5 : decode b_Ex_clear 5 = .ok (.invokestatic 13, 3) := by decide +kernel
theorem d_Ex_clear_8 : decode b_Ex_clear 8 = .ok (.return_, 1) := by decide +kernel
theorem d_Ex_hasBitUnder_0 : decode b_Ex_hasBitUnder 0 = .ok (.iload_n 1, 1) := by decide +kernel
theorem d_Ex_hasBitUnder_1 : decode b_Ex_hasBitUnder 1 = .ok (.bipush 27, 2) := by decide +kernel
theorem d_Ex_hasBitUnder_3 : decode b_Ex_hasBitUnder 3 = .ok (.invokestatic 25, 3) := by decide +kernel
theorem d_Ex_hasBitUnder_6 : decode b_Ex_hasBitUnder 6 = .ok (.istore_n 2, 1) := by decide +kernel
theorem d_Ex_hasBitUnder_7 : decode b_Ex_hasBitUnder 7 = .ok (.iconst 0, 1) := by decide +kernel
theorem d_Ex_hasBitUnder_8 : decode b_Ex_hasBitUnder 8 = .ok (.istore_n 3, 1) := by decide +kernel
theorem d_Ex_hasBitUnder_9 : decode b_Ex_hasBitUnder 9 = .ok (.iload_n 3, 1) := by decide +kernel
theorem d_Ex_hasBitUnder_10 : decode b_Ex_hasBitUnder 10 = .ok (.iload_n 2, 1) := by decide +kernel
theorem d_Ex_hasBitUnder_11 : decode b_Ex_hasBitUnder 11 = .ok (.if_icmp .ge 28, 3) := by decide +kernel
theorem d_Ex_hasBitUnder_14 : decode b_Ex_hasBitUnder 14 = .ok (.iload_n 3, 1) := by decide +kernel
theorem d_Ex_hasBitUnder_15 : decode b_Ex_hasBitUnder 15 = .ok (.bipush 112, 2) := by decide +kernel
theorem d_Ex_hasBitUnder_17 : decode b_Ex_hasBitUnder 17 = .ok (.if_icmp .ge 22, 3) := by decide +kernel
theorem d_Ex_hasBitUnder_20 : decode b_Ex_hasBitUnder 20 = .ok (.aload_n 0, 1) := by decide +kernel
theorem d_Ex_hasBitUnder_21 : decode b_Ex_hasBitUnder 21 = .ok (.getfield 9, 3) := by decide +kernel
theorem d_Ex_hasBitUnder_24 : decode b_Ex_hasBitUnder 24 = .ok (.iload_n 3, 1) := by decide +kernel
theorem d_Ex_hasBitUnder_25 : decode b_Ex_hasBitUnder 25 = .ok (.laload, 1) := by decide +kernel
theorem d_Ex_hasBitUnder_26 : decode b_Ex_hasBitUnder 26 = .ok (.lconst 0, 1) := by decide +kernel
theorem d_Ex_hasBitUnder_27 : decode b_Ex_hasBitUnder 27 = .ok (.lcmp, 1) := by decide +kernel
theorem d_Ex_hasBitUnder_28 : decode b_Ex_hasBitUnder 28 = .ok (.ifCond .eq 5, 3) := by decide +kernel
theorem d_Ex_hasBitUnder_31 : decode b_Ex_hasBitUnder 31 = .ok (.iconst 1, 1) := by decide +kernel
theorem d_Ex_hasBitUnder_32 : decode b_Ex_hasBitUnder 32 = .ok (.ireturn, 1) := by decide +kernel
theorem d_Ex_hasBitUnder_33 : decode b_Ex_hasBitUnder 33 = .ok (.iinc 3 1, 3) := by decide +kernel
theorem d_Ex_hasBitUnder_36 : decode b_Ex_hasBitUnder 36 = .ok (.goto (-27), 3) := by decide +kernel
theorem d_Ex_hasBitUnder_39 : decode b_Ex_hasBitUnder 39 = .ok (.lconst 1, 1) := by decide +kernel
theorem d_Ex_hasBitUnder_40 : decode b_Ex_hasBitUnder 40 = .ok (.iload_n 1, 1) := by decide +kernel
theorem d_Ex_hasBitUnder_41 : decode b_Ex_hasBitUnder 41 = .ok (.bipush 27, 2) := by decide +kernel
theorem d_Ex_hasBitUnder_43 : decode b_Ex_hasBitUnder 43 = .ok (.invokestatic 31, 3) := by decide +kernel
theorem d_Ex_hasBitUnder_46 : decode b_Ex_hasBitUnder 46 = .ok (.lshl, 1) := by decide +kernel
theorem d_Ex_hasBitUnder_47 : decode b_Ex_hasBitUnder 47 = .ok (.lconst 1, 1) := by decide +kernel
theorem d_Ex_hasBitUnder_48 : decode b_Ex_hasBitUnder 48 = .ok (.lsub, 1) := by decide +kernel
theorem d_Ex_hasBitUnder_49 : decode b_Ex_hasBitUnder 49 = .ok (.lstore_n 3, 1) := by decide +kernel
theorem d_Ex_hasBitUnder_50 : decode b_Ex_hasBitUnder 50 = .ok (.iload_n 2, 1) := by decide +kernel
theorem d_Ex_hasBitUnder_51 : decode b_Ex_hasBitUnder 51 = .ok (.ifCond .lt 26, 3) := by decide +kernel
theorem d_Ex_hasBitUnder_54 : decode b_Ex_hasBitUnder 54 = .ok (.iload_n 2, 1) := by decide +kernel
theorem d_Ex_hasBitUnder_55 : decode b_Ex_hasBitUnder 55 = .ok (.bipush 112, 2) := by decide +kernel
theorem d_Ex_hasBitUnder_57 : decode b_Ex_hasBitUnder 57 = .ok (.if_icmp .ge 20, 3) := by decide +kernel
theorem d_Ex_hasBitUnder_60 : decode b_Ex_hasBitUnder 60 = .ok (.aload_n 0, 1) := by decide +kernel
theorem d_Ex_hasBitUnder_61 : decode b_Ex_hasBitUnder 61 = .ok (.getfield 9, 3) := by decide +kernel
theorem d_Ex_hasBitUnder_64 : decode b_Ex_hasBitUnder 64 = .ok (.iload_n 2, 1) := by decide +kernel
theorem d_Ex_hasBitUnder_65 : decode b_Ex_hasBitUnder 65 = .ok (.laload, 1) := by decide +kernel
theorem d_Ex_hasBitUnder_66 : decode b_Ex_hasBitUnder 66 = .ok (.lload_n 3, 1) := by decide +kernel
theorem d_Ex_hasBitUnder_67 : decode b_Ex_hasBitUnder 67 = .ok (.land, 1) := by decide +kernel
theorem d_Ex_hasBitUnder_68 : decode b_Ex_hasBitUnder 68 = .ok (.lconst 0, 1) := by decide +kernel
theorem d_Ex_hasBitUnder_69 : decode b_Ex_hasBitUnder 69 = .ok (.lcmp, 1) := by decide +kernel
theorem d_Ex_hasBitUnder_70 : decode b_Ex_hasBitUnder 70 = .ok (.ifCond .eq 7, 3) := by decide +kernel
theorem d_Ex_hasBitUnder_73 : decode b_Ex_hasBitUnder 73 = .ok (.iconst 1, 1) := by decide +kernel
theorem d_Ex_hasBitUnder_74 : decode b_Ex_hasBitUnder 74 = .ok (.goto 4, 3) := by decide +kernel
theorem d_Ex_hasBitUnder_77 : decode b_Ex_hasBitUnder 77 = .ok (.iconst 0, 1) := by decide +kernel
theorem d_Ex_hasBitUnder_78 : decode b_Ex_hasBitUnder 78 = .ok (.ireturn, 1) := by decide +kernel
theorem d_Ex_isBelow_0 : decode b_Ex_isBelow 0 = .ok (.bipush 111, 2) := by decide +kernel
theorem d_Ex_isBelow_2 : decode b_Ex_isBelow 2 = .ok (.istore_n 2, 1) := by decide +kernel
theorem d_Ex_isBelow_3 : decode b_Ex_isBelow 3 = .ok (.iload_n 2, 1) := by decide +kernel
theorem d_Ex_isBelow_4 : decode b_Ex_isBelow 4 = .ok (.ifCond .lt 47, 3) := by decide +kernel
theorem d_Ex_isBelow_7 : decode b_Ex_isBelow 7 = .ok (.aload_n 0, 1) := by decide +kernel
theorem d_Ex_isBelow_8 : decode b_Ex_isBelow 8 = .ok (.getfield 9, 3) := by decide +kernel
theorem d_Ex_isBelow_11 : decode b_Ex_isBelow 11 = .ok (.iload_n 2, 1) := by decide +kernel
theorem d_Ex_isBelow_12 : decode b_Ex_isBelow 12 = .ok (.laload, 1) := by decide +kernel
theorem d_Ex_isBelow_13 : decode b_Ex_isBelow 13 = .ok (.aload_n 1, 1) := by decide +kernel
theorem d_Ex_isBelow_14 : decode b_Ex_isBelow 14 = .ok (.getfield 9, 3) := by decide +kernel
theorem d_Ex_isBelow_17 : decode b_Ex_isBelow 17 = .ok (.iload_n 2, 1) := by decide +kernel
theorem d_Ex_isBelow_18 : decode b_Ex_isBelow 18 = .ok (.laload, 1) := by decide +kernel
theorem d_Ex_isBelow_19 : decode b_Ex_isBelow 19 = .ok (.lcmp, 1) := by decide +kernel
theorem d_Ex_isBelow_20 : decode b_Ex_isBelow 20 = .ok (.ifCond .eq 25, 3) := by decide +kernel
theorem d_Ex_isBelow_23 : decode b_Ex_isBelow 23 = .ok (.aload_n 0, 1) := by decide +kernel
theorem d_Ex_isBelow_24 : decode b_Ex_isBelow 24 = .ok (.getfield 9, 3) := by decide +kernel
theorem d_Ex_isBelow_27 : decode b_Ex_isBelow 27 = .ok (.iload_n 2, 1) := by decide +kernel
theorem d_Ex_isBelow_28 : decode b_Ex_isBelow 28 = .ok (.laload, 1) := by decide +kernel
theorem d_Ex_isBelow_29 : decode b_Ex_isBelow 29 = .ok (.aload_n 1, 1) := by decide +kernel
theorem d_Ex_isBelow_30 : decode b_Ex_isBelow 30 = .ok (.getfield 9, 3) := by decide +kernel
theorem d_Ex_isBelow_33 : decode b_Ex_isBelow 33 = .ok (.iload_n 2, 1) := by decide +kernel
theorem d_Ex_isBelow_34 : decode b_Ex_isBelow 34 = .ok (.laload, 1) := by decide +kernel
theorem d_Ex_isBelow_35 : decode b_Ex_isBelow 35 = .ok (.lcmp, 1) := by decide +kernel
theorem d_Ex_isBelow_36 : decode b_Ex_isBelow 36 = .ok (.ifCond .ge 7, 3) := by decide +kernel
theorem d_Ex_isBelow_39 : decode b_Ex_isBelow 39 = .ok (.iconst 1, 1) := by decide +kernel
theorem d_Ex_isBelow_40 : decode b_Ex_isBelow 40 = .ok (.goto 4, 3) := by decide +kernel
theorem d_Ex_isBelow_43 : decode b_Ex_isBelow 43 = .ok (.iconst 0, 1) := by decide +kernel
theorem d_Ex_isBelow_44 : decode b_Ex_isBelow 44 = .ok (.ireturn, 1) := by decide +kernel
theorem d_Ex_isBelow_45 : decode b_Ex_isBelow 45 = .ok (.iinc 2 (-1), 3) := by decide +kernel
theorem d_Ex_isBelow_48 : decode b_Ex_isBelow 48 = .ok (.goto (-45), 3) := by decide +kernel
theorem d_Ex_isBelow_51 : decode b_Ex_isBelow 51 = .ok (.iconst 0, 1) := by decide +kernel
theorem d_Ex_isBelow_52 : decode b_Ex_isBelow 52 = .ok (.ireturn, 1) := by decide +kernel
theorem d_Ex_isTooGreat_0 : decode b_Ex_isTooGreat 0 = .ok (.aload_n 0, 1) := by decide +kernel
theorem d_Ex_isTooGreat_1 : decode b_Ex_isTooGreat 1 = .ok (.getfield 79, 3) := by decide +kernel
theorem d_Ex_isTooGreat_4 : decode b_Ex_isTooGreat 4 = .ok (.lconst 0, 1) := by decide +kernel
theorem d_Ex_isTooGreat_5 : decode b_Ex_isTooGreat 5 = .ok (.lcmp, 1) := by decide +kernel
theorem d_Ex_isTooGreat_6 : decode b_Ex_isTooGreat 6 = .ok (.ifCond .le 38, 3) := by decide +kernel
theorem d_Ex_isTooGreat_9 : decode b_Ex_isTooGreat 9 = .ok (.aload_n 0, 1) := by decide +kernel
theorem d_Ex_isTooGreat_10 : decode b_Ex_isTooGreat 10 = .ok (.getfield 83, 3) := by decide +kernel
theorem d_Ex_isTooGreat_13 : decode b_Ex_isTooGreat 13 = .ok (.sipush 971, 3) := by decide +kernel
theorem d_Ex_isTooGreat_16 : decode b_Ex_isTooGreat 16 = .ok (.if_icmp .gt 24, 3) := by decide +kernel
theorem d_Ex_isTooGreat_19 : decode b_Ex_isTooGreat 19 = .ok (.aload_n 0, 1) := by decide +kernel
theorem d_Ex_isTooGreat_20 : decode b_Ex_isTooGreat 20 = .ok (.getfield 83, 3) := by decide +kernel
theorem d_Ex_isTooGreat_23 : decode b_Ex_isTooGreat 23 = .ok (.sipush 971, 3) := by decide +kernel
theorem d_Ex_isTooGreat_26 : decode b_Ex_isTooGreat 26 = .ok (.if_icmp .ne 18, 3) := by decide +kernel
theorem d_Ex_isTooGreat_29 : decode b_Ex_isTooGreat 29 = .ok (.aload_n 0, 1) := by decide +kernel
theorem d_Ex_isTooGreat_30 : decode b_Ex_isTooGreat 30 = .ok (.getfield 79, 3) := by decide +kernel
theorem d_Ex_isTooGreat_33 : decode b_Ex_isTooGreat 33 = .ok (.ldc2_w 84, 3) := by decide +kernel
theorem d_Ex_isTooGreat_36 : decode b_Ex_isTooGreat 36 = .ok (.lcmp, 1) := by decide +kernel
theorem d_Ex_isTooGreat_37 : decode b_Ex_isTooGreat 37 = .ok (.ifCond .le 7, 3) := by decide +kernel
theorem d_Ex_isTooGreat_40 : decode b_Ex_isTooGreat 40 = .ok (.iconst 1, 1) := by decide +kernel
theorem d_Ex_isTooGreat_41 : decode b_Ex_isTooGreat 41 = .ok (.goto 4, 3) := by decide +kernel
theorem d_Ex_isTooGreat_44 : decode b_Ex_isTooGreat 44 = .ok (.iconst 0, 1) := by decide +kernel
theorem d_Ex_isTooGreat_45 : decode b_Ex_isTooGreat 45 = .ok (.ireturn, 1) := by decide +kernel
theorem d_Ex_mantissaFrom_0 : decode b_Ex_mantissaFrom 0 = .ok (.lconst 0, 1) := by decide +kernel
theorem d_Ex_mantissaFrom_1 : decode b_Ex_mantissaFrom 1 = .ok (.lstore_n 2, 1) := by decide +kernel
theorem d_Ex_mantissaFrom_2 : decode b_Ex_mantissaFrom 2 = .ok (.iload_n 1, 1) := by decide +kernel
theorem d_Ex_mantissaFrom_3 : decode b_Ex_mantissaFrom 3 = .ok (.bipush 53, 2) := by decide +kernel
theorem d_Ex_mantissaFrom_5 : decode b_Ex_mantissaFrom 5 = .ok (.iadd, 1) := by decide +kernel
theorem d_Ex_mantissaFrom_6 : decode b_Ex_mantissaFrom 6 = .ok (.iconst 1, 1) := by decide +kernel
theorem d_Ex_mantissaFrom_7 : decode b_Ex_mantissaFrom 7 = .ok (.isub, 1) := by decide +kernel
theorem d_Ex_mantissaFrom_8 : decode b_Ex_mantissaFrom 8 = .ok (.istore 4, 2) := by decide +kernel
theorem d_Ex_mantissaFrom_10 : decode b_Ex_mantissaFrom 10 = .ok (.iload 4, 2) := by decide +kernel
theorem d_Ex_mantissaFrom_12 : decode b_Ex_mantissaFrom 12 = .ok (.iload_n 1, 1) := by decide +kernel
theorem d_Ex_mantissaFrom_13 : decode b_Ex_mantissaFrom 13 = .ok (.if_icmp .lt 22, 3) := by decide +kernel
theorem d_Ex_mantissaFrom_16 : decode b_Ex_mantissaFrom 16 = .ok (.lload_n 2, 1) := by decide +kernel
theorem d_Ex_mantissaFrom_17 : decode b_Ex_mantissaFrom 17 = .ok (.ldc2_w 106, 3) := by decide +kernel
theorem d_Ex_mantissaFrom_20 : decode b_Ex_mantissaFrom 20 = .ok (.lmul, 1) := by decide +kernel
theorem d_Ex_mantissaFrom_21 : decode b_Ex_mantissaFrom 21 = .ok (.aload_n 0, 1) := by decide +kernel
theorem d_Ex_mantissaFrom_22 : decode b_Ex_mantissaFrom 22 = .ok (.iload 4, 2) := by decide +kernel
theorem d_Ex_mantissaFrom_24 : decode b_Ex_mantissaFrom 24 = .ok (.invokevirtual 108, 3) := by decide +kernel
theorem d_Ex_mantissaFrom_27 : decode b_Ex_mantissaFrom 27 = .ok (.ladd, 1) := by decide +kernel
theorem d_Ex_mantissaFrom_28 : decode b_Ex_mantissaFrom 28 = .ok (.lstore_n 2, 1) := by decide +kernel
theorem d_Ex_mantissaFrom_29 : decode b_Ex_mantissaFrom 29 = .ok (.iinc 4 (-1), 3) := by decide +kernel
theorem d_Ex_mantissaFrom_32 : decode b_Ex_mantissaFrom 32 = .ok (.goto (-22), 3) := by decide +kernel
theorem d_Ex_mantissaFrom_35 : decode b_Ex_mantissaFrom 35 = .ok (.lload_n 2, 1) := by decide +kernel
theorem d_Ex_mantissaFrom_36 : decode b_Ex_mantissaFrom 36 = .ok (.lreturn, 1) := by decide +kernel
theorem d_Ex_negate_0 : decode b_Ex_negate 0 = .ok (.iconst 0, 1) := by decide +kernel
theorem d_Ex_negate_1 : decode b_Ex_negate 1 = .ok (.istore_n 1, 1) := by decide +kernel
theorem d_Ex_negate_2 : decode b_Ex_negate 2 = .ok (.iload_n 1, 1) := by decide +kernel
theorem d_Ex_negate_3 : decode b_Ex_negate 3 = .ok (.bipush 112, 2) := by decide +kernel
theorem d_Ex_negate_5 : decode b_Ex_negate 5 = .ok (.if_icmp .ge 22, 3) := by decide +kernel
theorem d_Ex_negate_8 : decode b_Ex_negate 8 = .ok (.aload_n 0, 1) := by decide +kernel
theorem d_Ex_negate_9 : decode b_Ex_negate 9 = .ok (.getfield 9, 3) := by decide +kernel
theorem d_Ex_negate_12 : decode b_Ex_negate 12 = .ok (.iload_n 1, 1) := by decide +kernel
theorem d_Ex_negate_13 : decode b_Ex_negate 13 = .ok (.aload_n 0, 1) := by decide +kernel
theorem d_Ex_negate_14 : decode b_Ex_negate 14 = .ok (.getfield 9, 3) := by decide +kernel
theorem d_Ex_negate_17 : decode b_Ex_negate 17 = .ok (.iload_n 1, 1) := by decide +kernel
theorem d_Ex_negate_18 : decode b_Ex_negate 18 = .ok (.laload, 1) := by decide +kernel
theorem d_Ex_negate_19 : decode b_Ex_negate 19 = .ok (.lneg, 1) := by decide +kernel
theorem d_Ex_negate_20 : decode b_Ex_negate 20 = .ok (.lastore, 1) := by decide +kernel
theorem d_Ex_negate_21 : decode b_Ex_negate 21 = .ok (.iinc 1 1, 3) := by decide +kernel
theorem d_Ex_negate_24 : decode b_Ex_negate 24 = .ok (.goto (-22), 3) := by decide +kernel
theorem d_Ex_negate_27 : decode b_Ex_negate 27 = .ok (.aload_n 0, 1) := by decide +kernel
theorem d_Ex_negate_28 : decode b_Ex_negate 28 = .ok (.invokevirtual 45, 3) := by decide +kernel
theorem d_Ex_negate_31 : decode b_Ex_negate 31 = .ok (.return_, 1) := by decide +kernel
theorem d_Ex_raiseTo_0 : decode b_Ex_raiseTo 0 = .ok (.aload_n 0, 1) := by decide +kernel
theorem d_Ex_raiseTo_1 : decode b_Ex_raiseTo 1 = .ok (.invokevirtual 45, 3) := by decide +kernel
theorem d_Ex_raiseTo_4 : decode b_Ex_raiseTo 4 = .ok (.aload_n 1, 1) := by decide +kernel
theorem d_Ex_raiseTo_5 : decode b_Ex_raiseTo 5 = .ok (.invokevirtual 45, 3) := by decide +kernel
theorem d_Ex_raiseTo_8 : decode b_Ex_raiseTo 8 = .ok (.aload_n 0, 1) := by decide +kernel
theorem d_Ex_raiseTo_9 : decode b_Ex_raiseTo 9 = .ok (.aload_n 1, 1) := by decide +kernel
theorem d_Ex_raiseTo_10 : decode b_Ex_raiseTo 10 = .ok (.invokevirtual 52, 3) := by decide +kernel
theorem d_Ex_raiseTo_13 : decode b_Ex_raiseTo 13 = .ok (.ifCond .eq 18, 3) := by decide +kernel
theorem d_Ex_raiseTo_16 : decode b_Ex_raiseTo 16 = .ok (.aload_n 1, 1) := by decide +kernel
theorem d_Ex_raiseTo_17 : decode b_Ex_raiseTo 17 = .ok (.getfield 9, 3) := by decide +kernel
theorem d_Ex_raiseTo_20 : decode b_Ex_raiseTo 20 = .ok (.iconst 0, 1) := by decide +kernel
theorem d_Ex_raiseTo_21 : decode b_Ex_raiseTo 21 = .ok (.aload_n 0, 1) := by decide +kernel
theorem d_Ex_raiseTo_22 : decode b_Ex_raiseTo 22 = .ok (.getfield 9, 3) := by decide +kernel
theorem d_Ex_raiseTo_25 : decode b_Ex_raiseTo 25 = .ok (.iconst 0, 1) := by decide +kernel
theorem d_Ex_raiseTo_26 : decode b_Ex_raiseTo 26 = .ok (.bipush 112, 2) := by decide +kernel
theorem d_Ex_raiseTo_28 : decode b_Ex_raiseTo 28 = .ok (.invokestatic 56, 3) := by decide +kernel
theorem d_Ex_raiseTo_31 : decode b_Ex_raiseTo 31 = .ok (.return_, 1) := by decide +kernel
theorem d_Ex_roundUp_0 : decode b_Ex_roundUp 0 = .ok (.aload_n 0, 1) := by decide +kernel
theorem d_Ex_roundUp_1 : decode b_Ex_roundUp 1 = .ok (.invokevirtual 62, 3) := by decide +kernel
theorem d_Ex_roundUp_4 : decode b_Ex_roundUp 4 = .ok (.ifCond .ge 7, 3) := by decide +kernel
theorem d_Ex_roundUp_7 : decode b_Ex_roundUp 7 = .ok (.iconst 1, 1) := by decide +kernel
theorem d_Ex_roundUp_8 : decode b_Ex_roundUp 8 = .ok (.goto 4, 3) := by decide +kernel
theorem d_Ex_roundUp_11 : decode b_Ex_roundUp 11 = .ok (.iconst 0, 1) := by decide +kernel
theorem d_Ex_roundUp_12 : decode b_Ex_roundUp 12 = .ok (.istore_n 1, 1) := by decide +kernel
theorem d_Ex_roundUp_13 : decode b_Ex_roundUp 13 = .ok (.iload_n 1, 1) := by decide +kernel
theorem d_Ex_roundUp_14 : decode b_Ex_roundUp 14 = .ok (.ifCond .eq 7, 3) := by decide +kernel
theorem d_Ex_roundUp_17 : decode b_Ex_roundUp 17 = .ok (.aload_n 0, 1) := by decide +kernel
theorem d_Ex_roundUp_18 : decode b_Ex_roundUp 18 = .ok (.invokevirtual 65, 3) := by decide +kernel
theorem d_Ex_roundUp_21 : decode b_Ex_roundUp 21 = .ok (.aload_n 0, 1) := by decide +kernel
theorem d_Ex_roundUp_22 : decode b_Ex_roundUp 22 = .ok (.invokevirtual 48, 3) := by decide +kernel
theorem d_Ex_roundUp_25 : decode b_Ex_roundUp 25 = .ok (.bipush 53, 2) := by decide +kernel
theorem d_Ex_roundUp_27 : decode b_Ex_roundUp 27 = .ok (.isub, 1) := by decide +kernel
theorem d_Ex_roundUp_28 : decode b_Ex_roundUp 28 = .ok (.iconst 1, 1) := by decide +kernel
theorem d_Ex_roundUp_29 : decode b_Ex_roundUp 29 = .ok (.iadd, 1) := by decide +kernel
theorem d_Ex_roundUp_30 : decode b_Ex_roundUp 30 = .ok (.sipush 465, 3) := by decide +kernel
theorem d_Ex_roundUp_33 : decode b_Ex_roundUp 33 = .ok (.invokestatic 68, 3) := by decide +kernel
theorem d_Ex_roundUp_36 : decode b_Ex_roundUp 36 = .ok (.istore_n 2, 1) := by decide +kernel
theorem d_Ex_roundUp_37 : decode b_Ex_roundUp 37 = .ok (.aload_n 0, 1) := by decide +kernel
theorem d_Ex_roundUp_38 : decode b_Ex_roundUp 38 = .ok (.iload_n 2, 1) := by decide +kernel
theorem d_Ex_roundUp_39 : decode b_Ex_roundUp 39 = .ok (.invokevirtual 71, 3) := by decide +kernel
theorem d_Ex_roundUp_42 : decode b_Ex_roundUp 42 = .ok (.lstore_n 3, 1) := by decide +kernel
theorem d_Ex_roundUp_43 : decode b_Ex_roundUp 43 = .ok (.iload_n 1, 1) := by decide +kernel
theorem d_Ex_roundUp_44 : decode b_Ex_roundUp 44 = .ok (.ifCond .ne 15, 3) := by decide +kernel
theorem d_Ex_roundUp_47 : decode b_Ex_roundUp 47 = .ok (.aload_n 0, 1) := by decide +kernel
theorem d_Ex_roundUp_48 : decode b_Ex_roundUp 48 = .ok (.iload_n 2, 1) := by decide +kernel
theorem d_Ex_roundUp_49 : decode b_Ex_roundUp 49 = .ok (.invokevirtual 75, 3) := by decide +kernel
theorem d_Ex_roundUp_52 : decode b_Ex_roundUp 52 = .ok (.ifCond .eq 7, 3) := by decide +kernel
theorem d_Ex_roundUp_55 : decode b_Ex_roundUp 55 = .ok (.lload_n 3, 1) := by decide +kernel
theorem d_Ex_roundUp_56 : decode b_Ex_roundUp 56 = .ok (.lconst 1, 1) := by decide +kernel
theorem d_Ex_roundUp_57 : decode b_Ex_roundUp 57 = .ok (.ladd, 1) := by decide +kernel
theorem d_Ex_roundUp_58 : decode b_Ex_roundUp 58 = .ok (.lstore_n 3, 1) := by decide +kernel
theorem d_Ex_roundUp_59 : decode b_Ex_roundUp 59 = .ok (.aload_n 0, 1) := by decide +kernel
theorem d_Ex_roundUp_60 : decode b_Ex_roundUp 60 = .ok (.iload_n 1, 1) := by decide +kernel
theorem d_Ex_roundUp_61 : decode b_Ex_roundUp 61 = .ok (.ifCond .eq 8, 3) := by decide +kernel
theorem d_Ex_roundUp_64 : decode b_Ex_roundUp 64 = .ok (.lload_n 3, 1) := by decide +kernel
theorem d_Ex_roundUp_65 : decode b_Ex_roundUp 65 = .ok (.lneg, 1) := by decide +kernel
theorem d_Ex_roundUp_66 : decode b_Ex_roundUp 66 = .ok (.goto 4, 3) := by decide +kernel
theorem d_Ex_roundUp_69 : decode b_Ex_roundUp 69 = .ok (.lload_n 3, 1) := by decide +kernel
theorem d_Ex_roundUp_70 : decode b_Ex_roundUp 70 = .ok (.putfield 79, 3) := by decide +kernel
theorem d_Ex_roundUp_73 : decode b_Ex_roundUp 73 = .ok (.aload_n 0, 1) := by decide +kernel
theorem d_Ex_roundUp_74 : decode b_Ex_roundUp 74 = .ok (.iload_n 2, 1) := by decide +kernel
theorem d_Ex_roundUp_75 : decode b_Ex_roundUp 75 = .ok (.sipush 1539, 3) := by decide +kernel
theorem d_Ex_roundUp_78 : decode b_Ex_roundUp 78 = .ok (.isub, 1) := by decide +kernel
theorem d_Ex_roundUp_79 : decode b_Ex_roundUp 79 = .ok (.putfield 83, 3) := by decide +kernel
theorem d_Ex_roundUp_82 : decode b_Ex_roundUp 82 = .ok (.return_, 1) := by decide +kernel
theorem d_Ex_rounded_0 : decode b_Ex_rounded 0 = .ok (.aload_n 0, 1) := by decide +kernel
theorem d_Ex_rounded_1 : decode b_Ex_rounded 1 = .ok (.getfield 83, 3) := by decide +kernel
theorem d_Ex_rounded_4 : decode b_Ex_rounded 4 = .ok (.sipush 971, 3) := by decide +kernel
theorem d_Ex_rounded_7 : decode b_Ex_rounded 7 = .ok (.if_icmp .le 13, 3) := by decide +kernel
theorem d_Ex_rounded_10 : decode b_Ex_rounded 10 = .ok (.ldc2_w 86, 3) := by decide +kernel
theorem d_Ex_rounded_13 : decode b_Ex_rounded 13 = .ok (.sipush 971, 3) := by decide +kernel
theorem d_Ex_rounded_16 : decode b_Ex_rounded 16 = .ok (.invokestatic 88, 3) := by decide +kernel
theorem d_Ex_rounded_19 : decode b_Ex_rounded 19 = .ok (.dreturn, 1) := by decide +kernel
theorem d_Ex_rounded_20 : decode b_Ex_rounded 20 = .ok (.aload_n 0, 1) := by decide +kernel
theorem d_Ex_rounded_21 : decode b_Ex_rounded 21 = .ok (.getfield 79, 3) := by decide +kernel
theorem d_Ex_rounded_24 : decode b_Ex_rounded 24 = .ok (.aload_n 0, 1) := by decide +kernel
theorem d_Ex_rounded_25 : decode b_Ex_rounded 25 = .ok (.getfield 83, 3) := by decide +kernel
theorem d_Ex_rounded_28 : decode b_Ex_rounded 28 = .ok (.invokestatic 88, 3) := by decide +kernel
theorem d_Ex_rounded_31 : decode b_Ex_rounded 31 = .ok (.dreturn, 1) := by decide +kernel
theorem d_Ex_scaled_0 : decode b_Ex_scaled 0 = .ok (.lload_n 0, 1) := by decide +kernel
theorem d_Ex_scaled_1 : decode b_Ex_scaled 1 = .ok (.l2d, 1) := by decide +kernel
theorem d_Ex_scaled_2 : decode b_Ex_scaled 2 = .ok (.dstore_n 3, 1) := by decide +kernel
theorem d_Ex_scaled_3 : decode b_Ex_scaled 3 = .ok (.iload_n 2, 1) := by decide +kernel
theorem d_Ex_scaled_4 : decode b_Ex_scaled 4 = .ok (.ifCond .ge 9, 3) := by decide +kernel
theorem d_Ex_scaled_7 : decode b_Ex_scaled 7 = .ok (.ldc2_w 92, 3) := by decide +kernel
theorem d_Ex_scaled_10 : decode b_Ex_scaled 10 = .ok (.goto 6, 3) := by decide +kernel
theorem d_Ex_scaled_13 : decode b_Ex_scaled 13 = .ok (.ldc2_w 94, 3) := by decide +kernel
theorem d_Ex_scaled_16 : decode b_Ex_scaled 16 = .ok (.dstore 5, 2) := by decide +kernel
theorem d_Ex_scaled_18 : decode b_Ex_scaled 18 = .ok (.iload_n 2, 1) := by decide +kernel
theorem d_Ex_scaled_19 : decode b_Ex_scaled 19 = .ok (.invokestatic 96, 3) := by decide +kernel
theorem d_Ex_scaled_22 : decode b_Ex_scaled 22 = .ok (.istore 7, 2) := by decide +kernel
theorem d_Ex_scaled_24 : decode b_Ex_scaled 24 = .ok (.iconst 0, 1) := by decide +kernel
theorem d_Ex_scaled_25 : decode b_Ex_scaled 25 = .ok (.istore 8, 2) := by decide +kernel
theorem d_Ex_scaled_27 : decode b_Ex_scaled 27 = .ok (.iload 8, 2) := by decide +kernel
theorem d_Ex_scaled_29 : decode b_Ex_scaled 29 = .ok (.iload 7, 2) := by decide +kernel
theorem d_Ex_scaled_31 : decode b_Ex_scaled 31 = .ok (.if_icmp .ge 14, 3) := by decide +kernel
theorem d_Ex_scaled_34 : decode b_Ex_scaled 34 = .ok (.dload_n 3, 1) := by decide +kernel
theorem d_Ex_scaled_35 : decode b_Ex_scaled 35 = .ok (.dload 5, 2) := by decide +kernel
theorem d_Ex_scaled_37 : decode b_Ex_scaled 37 = .ok (.dmul, 1) := by decide +kernel
theorem d_Ex_scaled_38 : decode b_Ex_scaled 38 = .ok (.dstore_n 3, 1) := by decide +kernel
theorem d_Ex_scaled_39 : decode b_Ex_scaled 39 = .ok (.iinc 8 1, 3) := by decide +kernel
theorem d_Ex_scaled_42 : decode b_Ex_scaled 42 = .ok (.goto (-15), 3) := by decide +kernel
theorem d_Ex_scaled_45 : decode b_Ex_scaled 45 = .ok (.dload_n 3, 1) := by decide +kernel
theorem d_Ex_scaled_46 : decode b_Ex_scaled 46 = .ok (.dreturn, 1) := by decide +kernel
theorem d_Ex_settle_0 : decode b_Ex_settle 0 = .ok (.lconst 0, 1) := by decide +kernel
theorem d_Ex_settle_1 : decode b_Ex_settle 1 = .ok (.lstore_n 1, 1) := by decide +kernel
theorem d_Ex_settle_2 : decode b_Ex_settle 2 = .ok (.iconst 0, 1) := by decide +kernel
theorem d_Ex_settle_3 : decode b_Ex_settle 3 = .ok (.istore_n 3, 1) := by decide +kernel
theorem d_Ex_settle_4 : decode b_Ex_settle 4 = .ok (.iload_n 3, 1) := by decide +kernel
theorem d_Ex_settle_5 : decode b_Ex_settle 5 = .ok (.bipush 111, 2) := by decide +kernel
theorem d_Ex_settle_7 : decode b_Ex_settle 7 = .ok (.if_icmp .ge 37, 3) := by decide +kernel
theorem d_Ex_settle_10 : decode b_Ex_settle 10 = .ok (.aload_n 0, 1) := by decide +kernel
theorem d_Ex_settle_11 : decode b_Ex_settle 11 = .ok (.getfield 9, 3) := by decide +kernel
theorem d_Ex_settle_14 : decode b_Ex_settle 14 = .ok (.iload_n 3, 1) := by decide +kernel
theorem d_Ex_settle_15 : decode b_Ex_settle 15 = .ok (.laload, 1) := by decide +kernel
theorem d_Ex_settle_16 : decode b_Ex_settle 16 = .ok (.lload_n 1, 1) := by decide +kernel
theorem d_Ex_settle_17 : decode b_Ex_settle 17 = .ok (.ladd, 1) := by decide +kernel
theorem d_Ex_settle_18 : decode b_Ex_settle 18 = .ok (.lstore 4, 2) := by decide +kernel
theorem d_Ex_settle_20 : decode b_Ex_settle 20 = .ok (.aload_n 0, 1) := by decide +kernel
theorem d_Ex_settle_21 : decode b_Ex_settle 21 = .ok (.getfield 9, 3) := by decide +kernel
theorem d_Ex_settle_24 : decode b_Ex_settle 24 = .ok (.iload_n 3, 1) := by decide +kernel
theorem d_Ex_settle_25 : decode b_Ex_settle 25 = .ok (.lload 4, 2) := by decide +kernel
theorem d_Ex_settle_27 : decode b_Ex_settle 27 = .ok (.ldc2_w 35, 3) := by decide +kernel
theorem d_Ex_settle_30 : decode b_Ex_settle 30 = .ok (.land, 1) := by decide +kernel
theorem d_Ex_settle_31 : decode b_Ex_settle 31 = .ok (.lastore, 1) := by decide +kernel
theorem d_Ex_settle_32 : decode b_Ex_settle 32 = .ok (.lload 4, 2) := by decide +kernel
theorem d_Ex_settle_34 : decode b_Ex_settle 34 = .ok (.bipush 27, 2) := by decide +kernel
theorem d_Ex_settle_36 : decode b_Ex_settle 36 = .ok (.lshr, 1) := by decide +kernel
theorem d_Ex_settle_37 : decode b_Ex_settle 37 = .ok (.lstore_n 1, 1) := by decide +kernel
theorem d_Ex_settle_38 : decode b_Ex_settle 38 = .ok (.iinc 3 1, 3) := by decide +kernel
theorem d_Ex_settle_41 : decode b_Ex_settle 41 = .ok (.goto (-37), 3) := by decide +kernel
theorem d_Ex_settle_44 : decode b_Ex_settle 44 = .ok (.aload_n 0, 1) := by decide +kernel
theorem d_Ex_settle_45 : decode b_Ex_settle 45 = .ok (.getfield 9, 3) := by decide +kernel
theorem d_Ex_settle_48 : decode b_Ex_settle 48 = .ok (.bipush 111, 2) := by decide +kernel
theorem d_Ex_settle_50 : decode b_Ex_settle 50 = .ok (.dup2, 1) := by decide +kernel
theorem d_Ex_settle_51 : decode b_Ex_settle 51 = .ok (.laload, 1) := by decide +kernel
theorem d_Ex_settle_52 : decode b_Ex_settle 52 = .ok (.lload_n 1, 1) := by decide +kernel
theorem d_Ex_settle_53 : decode b_Ex_settle 53 = .ok (.ladd, 1) := by decide +kernel
theorem d_Ex_settle_54 : decode b_Ex_settle 54 = .ok (.lastore, 1) := by decide +kernel
theorem d_Ex_settle_55 : decode b_Ex_settle 55 = .ok (.return_, 1) := by decide +kernel
theorem d_Ex_signum_0 : decode b_Ex_signum 0 = .ok (.aload_n 0, 1) := by decide +kernel
theorem d_Ex_signum_1 : decode b_Ex_signum 1 = .ok (.invokevirtual 45, 3) := by decide +kernel
theorem d_Ex_signum_4 : decode b_Ex_signum 4 = .ok (.aload_n 0, 1) := by decide +kernel
theorem d_Ex_signum_5 : decode b_Ex_signum 5 = .ok (.getfield 9, 3) := by decide +kernel
theorem d_Ex_signum_8 : decode b_Ex_signum 8 = .ok (.bipush 111, 2) := by decide +kernel
theorem d_Ex_signum_10 : decode b_Ex_signum 10 = .ok (.laload, 1) := by decide +kernel
theorem d_Ex_signum_11 : decode b_Ex_signum 11 = .ok (.lconst 0, 1) := by decide +kernel
theorem d_Ex_signum_12 : decode b_Ex_signum 12 = .ok (.lcmp, 1) := by decide +kernel
theorem d_Ex_signum_13 : decode b_Ex_signum 13 = .ok (.ifCond .ge 5, 3) := by decide +kernel
theorem d_Ex_signum_16 : decode b_Ex_signum 16 = .ok (.iconst (-1), 1) := by decide +kernel
theorem d_Ex_signum_17 : decode b_Ex_signum 17 = .ok (.ireturn, 1) := by decide +kernel
theorem d_Ex_signum_18 : decode b_Ex_signum 18 = .ok (.aload_n 0, 1) := by decide +kernel
theorem d_Ex_signum_19 : decode b_Ex_signum 19 = .ok (.invokevirtual 48, 3) := by decide +kernel
theorem d_Ex_signum_22 : decode b_Ex_signum 22 = .ok (.ifCond .ge 7, 3) := by decide +kernel
theorem d_Ex_signum_25 : decode b_Ex_signum 25 = .ok (.iconst 0, 1) := by decide +kernel
theorem d_Ex_signum_26 : decode b_Ex_signum 26 = .ok (.goto 4, 3) := by decide +kernel
theorem d_Ex_signum_29 : decode b_Ex_signum 29 = .ok (.iconst 1, 1) := by decide +kernel
theorem d_Ex_signum_30 : decode b_Ex_signum 30 = .ok (.ireturn, 1) := by decide +kernel
theorem d_Ex_topPlace_0 : decode b_Ex_topPlace 0 = .ok (.bipush 111, 2) := by decide +kernel
theorem d_Ex_topPlace_2 : decode b_Ex_topPlace 2 = .ok (.istore_n 1, 1) := by decide +kernel
theorem d_Ex_topPlace_3 : decode b_Ex_topPlace 3 = .ok (.iload_n 1, 1) := by decide +kernel
theorem d_Ex_topPlace_4 : decode b_Ex_topPlace 4 = .ok (.ifCond .lt 38, 3) := by decide +kernel
theorem d_Ex_topPlace_7 : decode b_Ex_topPlace 7 = .ok (.aload_n 0, 1) := by decide +kernel
theorem d_Ex_topPlace_8 : decode b_Ex_topPlace 8 = .ok (.getfield 9, 3) := by decide +kernel
theorem d_Ex_topPlace_11 : decode b_Ex_topPlace 11 = .ok (.iload_n 1, 1) := by decide +kernel
theorem d_Ex_topPlace_12 : decode b_Ex_topPlace 12 = .ok (.laload, 1) := by decide +kernel
theorem d_Ex_topPlace_13 : decode b_Ex_topPlace 13 = .ok (.lconst 0, 1) := by decide +kernel
theorem d_Ex_topPlace_14 : decode b_Ex_topPlace 14 = .ok (.lcmp, 1) := by decide +kernel
theorem d_Ex_topPlace_15 : decode b_Ex_topPlace 15 = .ok (.ifCond .eq 21, 3) := by decide +kernel
theorem d_Ex_topPlace_18 : decode b_Ex_topPlace 18 = .ok (.iload_n 1, 1) := by decide +kernel
theorem d_Ex_topPlace_19 : decode b_Ex_topPlace 19 = .ok (.bipush 27, 2) := by decide +kernel
theorem d_Ex_topPlace_21 : decode b_Ex_topPlace 21 = .ok (.imul, 1) := by decide +kernel
theorem d_Ex_topPlace_22 : decode b_Ex_topPlace 22 = .ok (.bipush 63, 2) := by decide +kernel
theorem d_Ex_topPlace_24 : decode b_Ex_topPlace 24 = .ok (.iadd, 1) := by decide +kernel
theorem d_Ex_topPlace_25 : decode b_Ex_topPlace 25 = .ok (.aload_n 0, 1) := by decide +kernel
theorem d_Ex_topPlace_26 : decode b_Ex_topPlace 26 = .ok (.getfield 9, 3) := by decide +kernel
theorem d_Ex_topPlace_29 : decode b_Ex_topPlace 29 = .ok (.iload_n 1, 1) := by decide +kernel
theorem d_Ex_topPlace_30 : decode b_Ex_topPlace 30 = .ok (.laload, 1) := by decide +kernel
theorem d_Ex_topPlace_31 : decode b_Ex_topPlace 31 = .ok (.invokestatic 100, 3) := by decide +kernel
theorem d_Ex_topPlace_34 : decode b_Ex_topPlace 34 = .ok (.isub, 1) := by decide +kernel
theorem d_Ex_topPlace_35 : decode b_Ex_topPlace 35 = .ok (.ireturn, 1) := by decide +kernel
theorem d_Ex_topPlace_36 : decode b_Ex_topPlace 36 = .ok (.iinc 1 (-1), 3) := by decide +kernel
theorem d_Ex_topPlace_39 : decode b_Ex_topPlace 39 = .ok (.goto (-36), 3) := by decide +kernel
theorem d_Ex_topPlace_42 : decode b_Ex_topPlace 42 = .ok (.iconst (-1), 1) := by decide +kernel
theorem d_Ex_topPlace_43 : decode b_Ex_topPlace 43 = .ok (.ireturn, 1) := by decide +kernel
theorem d_Li_init_0 : decode b_Li_init 0 = .ok (.aload_n 0, 1) := by decide +kernel
theorem d_Li_init_1 : decode b_Li_init 1 = .ok (.invokespecial 1, 3) := by decide +kernel
theorem d_Li_init_4 : decode b_Li_init 4 = .ok (.aload_n 0, 1) := by decide +kernel
theorem d_Li_init_5 : decode b_Li_init 5 = .ok (.iload_n 1, 1) := by decide +kernel
theorem d_Li_init_6 : decode b_Li_init 6 = .ok (.iconst 0, 1) := by decide +kernel
theorem d_Li_init_7 : decode b_Li_init 7 = .ok (.invokestatic 7, 3) := by decide +kernel
theorem d_Li_init_10 : decode b_Li_init 10 = .ok (.newarray .int, 2) := by decide +kernel
theorem d_Li_init_12 : decode b_Li_init 12 = .ok (.putfield 13, 3) := by decide +kernel
theorem d_Li_init_15 : decode b_Li_init 15 = .ok (.aload_n 0, 1) := by decide +kernel
theorem d_Li_init_16 : decode b_Li_init 16 = .ok (.new 19, 3) := by decide +kernel
theorem d_Li_init_19 : decode b_Li_init 19 = .ok (.dup, 1) := by decide +kernel
theorem d_Li_init_20 : decode b_Li_init 20 = .ok (.iload_n 1, 1) := by decide +kernel
theorem d_Li_init_21 : decode b_Li_init 21 = .ok (.invokespecial 21, 3) := by decide +kernel
theorem d_Li_init_24 : decode b_Li_init 24 = .ok (.putfield 24, 3) := by decide +kernel
theorem d_Li_init_27 : decode b_Li_init 27 = .ok (.aload_n 0, 1) := by decide +kernel
theorem d_Li_init_28 : decode b_Li_init 28 = .ok (.new 19, 3) := by decide +kernel
theorem d_Li_init_31 : decode b_Li_init 31 = .ok (.dup, 1) := by decide +kernel
theorem d_Li_init_32 : decode b_Li_init 32 = .ok (.iload_n 1, 1) := by decide +kernel
theorem d_Li_init_33 : decode b_Li_init 33 = .ok (.invokespecial 21, 3) := by decide +kernel
theorem d_Li_init_36 : decode b_Li_init 36 = .ok (.putfield 28, 3) := by decide +kernel
theorem d_Li_init_39 : decode b_Li_init 39 = .ok (.aload_n 0, 1) := by decide +kernel
theorem d_Li_init_40 : decode b_Li_init 40 = .ok (.new 19, 3) := by decide +kernel
theorem d_Li_init_43 : decode b_Li_init 43 = .ok (.dup, 1) := by decide +kernel
theorem d_Li_init_44 : decode b_Li_init 44 = .ok (.iload_n 1, 1) := by decide +kernel
theorem d_Li_init_45 : decode b_Li_init 45 = .ok (.invokespecial 21, 3) := by decide +kernel
theorem d_Li_init_48 : decode b_Li_init 48 = .ok (.putfield 31, 3) := by decide +kernel
theorem d_Li_init_51 : decode b_Li_init 51 = .ok (.return_, 1) := by decide +kernel
theorem d_Li_allows_0 : decode b_Li_allows 0 = .ok (.iload_n 0, 1) := by decide +kernel
theorem d_Li_allows_1 : decode b_Li_allows 1 = .ok (.ifCond .lt 8, 3) := by decide +kernel
theorem d_Li_allows_4 : decode b_Li_allows 4 = .ok (.iload_n 0, 1) := by decide +kernel
theorem d_Li_allows_5 : decode b_Li_allows 5 = .ok (.iconst 3, 1) := by decide +kernel
theorem d_Li_allows_6 : decode b_Li_allows 6 = .ok (.if_icmp .le 5, 3) := by decide +kernel
theorem d_Li_allows_9 : decode b_Li_allows 9 = .ok (.iconst 0, 1) := by decide +kernel
theorem d_Li_allows_10 : decode b_Li_allows 10 = .ok (.ireturn, 1) := by decide +kernel
theorem d_Li_allows_11 : decode b_Li_allows 11 = .ok (.iload_n 0, 1) := by decide +kernel
theorem d_Li_allows_12 : decode b_Li_allows 12 = .ok (.iconst 1, 1) := by decide +kernel
theorem d_Li_allows_13 : decode b_Li_allows 13 = .ok (.iand, 1) := by decide +kernel
theorem d_Li_allows_14 : decode b_Li_allows 14 = .ok (.ifCond .eq 10, 3) := by decide +kernel
theorem d_Li_allows_17 : decode b_Li_allows 17 = .ok (.dload_n 1, 1) := by decide +kernel
theorem d_Li_allows_18 : decode b_Li_allows 18 = .ok (.invokestatic 34, 3) := by decide +kernel
theorem d_Li_allows_21 : decode b_Li_allows 21 = .ok (.ifCond .eq 20, 3) := by decide +kernel
theorem d_Li_allows_24 : decode b_Li_allows 24 = .ok (.iload_n 0, 1) := by decide +kernel
theorem d_Li_allows_25 : decode b_Li_allows 25 = .ok (.iconst 2, 1) := by decide +kernel
theorem d_Li_allows_26 : decode b_Li_allows 26 = .ok (.iand, 1) := by decide +kernel
theorem d_Li_allows_27 : decode b_Li_allows 27 = .ok (.ifCond .eq 10, 3) := by decide +kernel
theorem d_Li_allows_30 : decode b_Li_allows 30 = .ok (.dload_n 3, 1) := by decide +kernel
theorem d_Li_allows_31 : decode b_Li_allows 31 = .ok (.invokestatic 34, 3) := by decide +kernel
theorem d_Li_allows_34 : decode b_Li_allows 34 = .ok (.ifCond .eq 7, 3) := by decide +kernel
theorem d_Li_allows_37 : decode b_Li_allows 37 = .ok (.iconst 1, 1) := by decide +kernel
theorem d_Li_allows_38 : decode b_Li_allows 38 = .ok (.goto 4, 3) := by decide +kernel
theorem d_Li_allows_41 : decode b_Li_allows 41 = .ok (.iconst 0, 1) := by decide +kernel
theorem d_Li_allows_42 : decode b_Li_allows 42 = .ok (.ireturn, 1) := by decide +kernel
theorem d_Li_append_0 : decode b_Li_append 0 = .ok (.aload_n 0, 1) := by decide +kernel
theorem d_Li_append_1 : decode b_Li_append 1 = .ok (.getfield 38, 3) := by decide +kernel
theorem d_Li_append_4 : decode b_Li_append 4 = .ok (.istore 6, 2) := by decide +kernel
theorem d_Li_append_6 : decode b_Li_append 6 = .ok (.iload 6, 2) := by decide +kernel
theorem d_Li_append_8 : decode b_Li_append 8 = .ok (.ifCond .lt 13, 3) := by decide +kernel
theorem d_Li_append_11 : decode b_Li_append 11 = .ok (.iload 6, 2) := by decide +kernel
theorem d_Li_append_13 : decode b_Li_append 13 = .ok (.aload_n 0, 1) := by decide +kernel
theorem d_Li_append_14 : decode b_Li_append 14 = .ok (.getfield 13, 3) := by decide +kernel
theorem d_Li_append_17 : decode b_Li_append 17 = .ok (.arraylength, 1) := by decide +kernel
theorem d_Li_append_18 : decode b_Li_append 18 = .ok (.if_icmp .lt 5, 3) := by decide +kernel
theorem d_Li_append_21 : decode b_Li_append 21 = .ok (.iconst (-1), 1) := by decide +kernel
theorem d_Li_append_22 : decode b_Li_append 22 = .ok (.ireturn, 1) := by decide +kernel
theorem d_Li_append_23 : decode b_Li_append 23 = .ok (.aload_n 0, 1) := by decide +kernel
theorem d_Li_append_24 : decode b_Li_append 24 = .ok (.getfield 13, 3) := by decide +kernel
theorem d_Li_append_27 : decode b_Li_append 27 = .ok (.iload 6, 2) := by decide +kernel
theorem d_Li_append_29 : decode b_Li_append 29 = .ok (.iload_n 1, 1) := by decide +kernel
theorem d_Li_append_30 : decode b_Li_append 30 = .ok (.iastore, 1) := by decide +kernel
theorem d_Li_append_31 : decode b_Li_append 31 = .ok (.iload_n 1, 1) := by decide +kernel
theorem d_Li_append_32 : decode b_Li_append 32 = .ok (.iconst 1, 1) := by decide +kernel
theorem d_Li_append_33 : decode b_Li_append 33 = .ok (.iand, 1) := by decide +kernel
theorem d_Li_append_34 : decode b_Li_append 34 = .ok (.ifCond .eq 14, 3) := by decide +kernel
theorem d_Li_append_37 : decode b_Li_append 37 = .ok (.aload_n 0, 1) := by decide +kernel
theorem d_Li_append_38 : decode b_Li_append 38 = .ok (.getfield 24, 3) := by decide +kernel
theorem d_Li_append_41 : decode b_Li_append 41 = .ok (.iload 6, 2) := by decide +kernel
theorem d_Li_append_43 : decode b_Li_append 43 = .ok (.dload_n 2, 1) := by decide +kernel
theorem d_Li_append_44 : decode b_Li_append 44 = .ok (.iconst 0, 1) := by decide +kernel
theorem d_Li_append_45 : decode b_Li_append 45 = .ok (.invokevirtual 42, 3) := by decide +kernel
theorem d_Li_append_48 : decode b_Li_append 48 = .ok (.iload_n 1, 1) := by decide +kernel
theorem d_Li_append_49 : decode b_Li_append 49 = .ok (.iconst 2, 1) := by decide +kernel
theorem d_Li_append_50 : decode b_Li_append 50 = .ok (.iand, 1) := by decide +kernel
theorem d_Li_append_51 : decode b_Li_append 51 = .ok (.ifCond .eq 15, 3) := by decide +kernel
theorem d_Li_append_54 : decode b_Li_append 54 = .ok (.aload_n 0, 1) := by decide +kernel
theorem d_Li_append_55 : decode b_Li_append 55 = .ok (.getfield 28, 3) := by decide +kernel
theorem d_Li_append_58 : decode b_Li_append 58 = .ok (.iload 6, 2) := by decide +kernel
theorem d_Li_append_60 : decode b_Li_append 60 = .ok (.dload 4, 2) := by decide +kernel
theorem d_Li_append_62 : decode b_Li_append 62 = .ok (.iconst 0, 1) := by decide +kernel
theorem d_Li_append_63 : decode b_Li_append 63 = .ok (.invokevirtual 42, 3) := by decide +kernel
theorem d_Li_append_66 : decode b_Li_append 66 = .ok (.aload_n 0, 1) := by decide +kernel
theorem d_Li_append_67 : decode b_Li_append 67 = .ok (.dup, 1) := by decide +kernel
theorem d_Li_append_68 : decode b_Li_append 68 = .ok (.getfield 38, 3) := by decide +kernel
theorem d_Li_append_71 : decode b_Li_append 71 = .ok (.iconst 1, 1) := by decide +kernel
theorem d_Li_append_72 : decode b_Li_append 72 = .ok (.iadd, 1) := by decide +kernel
theorem d_Li_append_73 : decode b_Li_append 73 = .ok (.putfield 38, 3) := by decide +kernel
theorem d_Li_append_76 : decode b_Li_append 76 = .ok (.iload 6, 2) := by decide +kernel
theorem d_Li_append_78 : decode b_Li_append 78 = .ok (.ireturn, 1) := by decide +kernel
theorem d_Li_hasHigh_0 : decode b_Li_hasHigh 0 = .ok (.iload_n 1, 1) := by decide +kernel
theorem d_Li_hasHigh_1 : decode b_Li_hasHigh 1 = .ok (.ifCond .lt 27, 3) := by decide +kernel
theorem d_Li_hasHigh_4 : decode b_Li_hasHigh 4 = .ok (.iload_n 1, 1) := by decide +kernel
theorem d_Li_hasHigh_5 : decode b_Li_hasHigh 5 = .ok (.aload_n 0, 1) := by decide +kernel
theorem d_Li_hasHigh_6 : decode b_Li_hasHigh 6 = .ok (.getfield 13, 3) := by decide +kernel
theorem d_Li_hasHigh_9 : decode b_Li_hasHigh 9 = .ok (.arraylength, 1) := by decide +kernel
theorem d_Li_hasHigh_10 : decode b_Li_hasHigh 10 = .ok (.if_icmp .ge 18, 3) := by decide +kernel
theorem d_Li_hasHigh_13 : decode b_Li_hasHigh 13 = .ok (.aload_n 0, 1) := by decide +kernel
theorem d_Li_hasHigh_14 : decode b_Li_hasHigh 14 = .ok (.getfield 13, 3) := by decide +kernel
theorem d_Li_hasHigh_17 : decode b_Li_hasHigh 17 = .ok (.iload_n 1, 1) := by decide +kernel
theorem d_Li_hasHigh_18 : decode b_Li_hasHigh 18 = .ok (.iaload, 1) := by decide +kernel
theorem d_Li_hasHigh_19 : decode b_Li_hasHigh 19 = .ok (.iconst 2, 1) := by decide +kernel
theorem d_Li_hasHigh_20 : decode b_Li_hasHigh 20 = .ok (.iand, 1) := by decide +kernel
theorem d_Li_hasHigh_21 : decode b_Li_hasHigh 21 = .ok (.ifCond .eq 7, 3) := by decide +kernel
theorem d_Li_hasHigh_24 : decode b_Li_hasHigh 24 = .ok (.iconst 1, 1) := by decide +kernel
theorem d_Li_hasHigh_25 : decode b_Li_hasHigh 25 = .ok (.goto 4, 3) := by decide +kernel
theorem d_Li_hasHigh_28 : decode b_Li_hasHigh 28 = .ok (.iconst 0, 1) := by decide +kernel
theorem d_Li_hasHigh_29 : decode b_Li_hasHigh 29 = .ok (.ireturn, 1) := by decide +kernel
theorem d_Li_hasLow_0 : decode b_Li_hasLow 0 = .ok (.iload_n 1, 1) := by decide +kernel
theorem d_Li_hasLow_1 : decode b_Li_hasLow 1 = .ok (.ifCond .lt 27, 3) := by decide +kernel
theorem d_Li_hasLow_4 : decode b_Li_hasLow 4 = .ok (.iload_n 1, 1) := by decide +kernel
theorem d_Li_hasLow_5 : decode b_Li_hasLow 5 = .ok (.aload_n 0, 1) := by decide +kernel
theorem d_Li_hasLow_6 : decode b_Li_hasLow 6 = .ok (.getfield 13, 3) := by decide +kernel
theorem d_Li_hasLow_9 : decode b_Li_hasLow 9 = .ok (.arraylength, 1) := by decide +kernel
theorem d_Li_hasLow_10 : decode b_Li_hasLow 10 = .ok (.if_icmp .ge 18, 3) := by decide +kernel
theorem d_Li_hasLow_13 : decode b_Li_hasLow 13 = .ok (.aload_n 0, 1) := by decide +kernel
theorem d_Li_hasLow_14 : decode b_Li_hasLow 14 = .ok (.getfield 13, 3) := by decide +kernel
theorem d_Li_hasLow_17 : decode b_Li_hasLow 17 = .ok (.iload_n 1, 1) := by decide +kernel
theorem d_Li_hasLow_18 : decode b_Li_hasLow 18 = .ok (.iaload, 1) := by decide +kernel
theorem d_Li_hasLow_19 : decode b_Li_hasLow 19 = .ok (.iconst 1, 1) := by decide +kernel
theorem d_Li_hasLow_20 : decode b_Li_hasLow 20 = .ok (.iand, 1) := by decide +kernel
theorem d_Li_hasLow_21 : decode b_Li_hasLow 21 = .ok (.ifCond .eq 7, 3) := by decide +kernel
theorem d_Li_hasLow_24 : decode b_Li_hasLow 24 = .ok (.iconst 1, 1) := by decide +kernel
theorem d_Li_hasLow_25 : decode b_Li_hasLow 25 = .ok (.goto 4, 3) := by decide +kernel
theorem d_Li_hasLow_28 : decode b_Li_hasLow 28 = .ok (.iconst 0, 1) := by decide +kernel
theorem d_Li_hasLow_29 : decode b_Li_hasLow 29 = .ok (.ireturn, 1) := by decide +kernel
theorem d_Li_holds_0 : decode b_Li_holds 0 = .ok (.iload_n 1, 1) := by decide +kernel
theorem d_Li_holds_1 : decode b_Li_holds 1 = .ok (.ifCond .lt 15, 3) := by decide +kernel
theorem d_Li_holds_4 : decode b_Li_holds 4 = .ok (.iload_n 1, 1) := by decide +kernel
theorem d_Li_holds_5 : decode b_Li_holds 5 = .ok (.aload_n 0, 1) := by decide +kernel
theorem d_Li_holds_6 : decode b_Li_holds 6 = .ok (.getfield 38, 3) := by decide +kernel
theorem d_Li_holds_9 : decode b_Li_holds 9 = .ok (.if_icmp .ge 7, 3) := by decide +kernel
theorem d_Li_holds_12 : decode b_Li_holds 12 = .ok (.iconst 1, 1) := by decide +kernel
theorem d_Li_holds_13 : decode b_Li_holds 13 = .ok (.goto 4, 3) := by decide +kernel
theorem d_Li_holds_16 : decode b_Li_holds 16 = .ok (.iconst 0, 1) := by decide +kernel
theorem d_Li_holds_17 : decode b_Li_holds 17 = .ok (.ireturn, 1) := by decide +kernel
theorem d_Li_isFull_0 : decode b_Li_isFull 0 = .ok (.aload_n 0, 1) := by decide +kernel
theorem d_Li_isFull_1 : decode b_Li_isFull 1 = .ok (.getfield 38, 3) := by decide +kernel
theorem d_Li_isFull_4 : decode b_Li_isFull 4 = .ok (.aload_n 0, 1) := by decide +kernel
theorem d_Li_isFull_5 : decode b_Li_isFull 5 = .ok (.getfield 13, 3) := by decide +kernel
theorem d_Li_isFull_8 : decode b_Li_isFull 8 = .ok (.arraylength, 1) := by decide +kernel
theorem d_Li_isFull_9 : decode b_Li_isFull 9 = .ok (.if_icmp .lt 7, 3) := by decide +kernel
theorem d_Li_isFull_12 : decode b_Li_isFull 12 = .ok (.iconst 1, 1) := by decide +kernel
theorem d_Li_isFull_13 : decode b_Li_isFull 13 = .ok (.goto 4, 3) := by decide +kernel
theorem d_Li_isFull_16 : decode b_Li_isFull 16 = .ok (.iconst 0, 1) := by decide +kernel
theorem d_Li_isFull_17 : decode b_Li_isFull 17 = .ok (.ireturn, 1) := by decide +kernel
theorem d_Nu_init_0 : decode b_Nu_init 0 = .ok (.aload_n 0, 1) := by decide +kernel
theorem d_Nu_init_1 : decode b_Nu_init 1 = .ok (.invokespecial 1, 3) := by decide +kernel
theorem d_Nu_init_4 : decode b_Nu_init 4 = .ok (.iload_n 1, 1) := by decide +kernel
theorem d_Nu_init_5 : decode b_Nu_init 5 = .ok (.iconst 0, 1) := by decide +kernel
theorem d_Nu_init_6 : decode b_Nu_init 6 = .ok (.invokestatic 7, 3) := by decide +kernel
theorem d_Nu_init_9 : decode b_Nu_init 9 = .ok (.istore_n 2, 1) := by decide +kernel
theorem d_Nu_init_10 : decode b_Nu_init 10 = .ok (.aload_n 0, 1) := by decide +kernel
theorem d_Nu_init_11 : decode b_Nu_init 11 = .ok (.iload_n 2, 1) := by decide +kernel
theorem d_Nu_init_12 : decode b_Nu_init 12 = .ok (.newarray .long, 2) := by decide +kernel
theorem d_Nu_init_14 : decode b_Nu_init 14 = .ok (.putfield 13, 3) := by decide +kernel
theorem d_Nu_init_17 : decode b_Nu_init 17 = .ok (.aload_n 0, 1) := by decide +kernel
theorem d_Nu_init_18 : decode b_Nu_init 18 = .ok (.iload_n 2, 1) := by decide +kernel
theorem d_Nu_init_19 : decode b_Nu_init 19 = .ok (.newarray .int, 2) := by decide +kernel
theorem d_Nu_init_21 : decode b_Nu_init 21 = .ok (.putfield 19, 3) := by decide +kernel
theorem d_Nu_init_24 : decode b_Nu_init 24 = .ok (.return_, 1) := by decide +kernel
theorem d_Nu_allows_0 : decode b_Nu_allows 0 = .ok (.ldc2_w 23, 3) := by decide +kernel
theorem d_Nu_allows_3 : decode b_Nu_allows 3 = .ok (.dstore_n 2, 1) := by decide +kernel
theorem d_Nu_allows_4 : decode b_Nu_allows 4 = .ok (.dload_n 0, 1) := by decide +kernel
theorem d_Nu_allows_5 : decode b_Nu_allows 5 = .ok (.dload_n 2, 1) := by decide +kernel
theorem d_Nu_allows_6 : decode b_Nu_allows 6 = .ok (.dneg, 1) := by decide +kernel
theorem d_Nu_allows_7 : decode b_Nu_allows 7 = .ok (.dcmp .l, 1) := by decide +kernel
theorem d_Nu_allows_8 : decode b_Nu_allows 8 = .ok (.ifCond .lt 9, 3) := by decide +kernel
theorem d_Nu_allows_11 : decode b_Nu_allows 11 = .ok (.dload_n 0, 1) := by decide +kernel
theorem d_Nu_allows_12 : decode b_Nu_allows 12 = .ok (.dload_n 2, 1) := by decide +kernel
theorem d_Nu_allows_13 : decode b_Nu_allows 13 = .ok (.dcmp .g, 1) := by decide +kernel
theorem d_Nu_allows_14 : decode b_Nu_allows 14 = .ok (.ifCond .le 5, 3) := by decide +kernel
theorem d_Nu_allows_17 : decode b_Nu_allows 17 = .ok (.iconst 0, 1) := by decide +kernel
theorem d_Nu_allows_18 : decode b_Nu_allows 18 = .ok (.ireturn, 1) := by decide +kernel
theorem d_Nu_allows_19 : decode b_Nu_allows 19 = .ok (.dload_n 0, 1) := by decide +kernel
theorem d_Nu_allows_20 : decode b_Nu_allows 20 = .ok (.dconst 0, 1) := by decide +kernel
theorem d_Nu_allows_21 : decode b_Nu_allows 21 = .ok (.dcmp .g, 1) := by decide +kernel
theorem d_Nu_allows_22 : decode b_Nu_allows 22 = .ok (.ifCond .ge 8, 3) := by decide +kernel
theorem d_Nu_allows_25 : decode b_Nu_allows 25 = .ok (.dload_n 0, 1) := by decide +kernel
theorem d_Nu_allows_26 : decode b_Nu_allows 26 = .ok (.dneg, 1) := by decide +kernel
theorem d_Nu_allows_27 : decode b_Nu_allows 27 = .ok (.goto 4, 3) := by decide +kernel
theorem d_Nu_allows_30 : decode b_Nu_allows 30 = .ok (.dload_n 0, 1) := by decide +kernel
theorem d_Nu_allows_31 : decode b_Nu_allows 31 = .ok (.dstore 4, 2) := by decide +kernel
theorem d_Nu_allows_33 : decode b_Nu_allows 33 = .ok (.dload 4, 2) := by decide +kernel
theorem d_Nu_allows_35 : decode b_Nu_allows 35 = .ok (.dconst 0, 1) := by decide +kernel
theorem d_Nu_allows_36 : decode b_Nu_allows 36 = .ok (.dcmp .l, 1) := by decide +kernel
theorem d_Nu_allows_37 : decode b_Nu_allows 37 = .ok (.ifCond .eq 12, 3) := by decide +kernel
theorem d_Nu_allows_40 : decode b_Nu_allows 40 = .ok (.dload 4, 2) := by decide +kernel
theorem d_Nu_allows_42 : decode b_Nu_allows 42 = .ok (.dload_n 2, 1) := by decide +kernel
theorem d_Nu_allows_43 : decode b_Nu_allows 43 = .ok (.dmul, 1) := by decide +kernel
theorem d_Nu_allows_44 : decode b_Nu_allows 44 = .ok (.dconst 1, 1) := by decide +kernel
theorem d_Nu_allows_45 : decode b_Nu_allows 45 = .ok (.dcmp .l, 1) := by decide +kernel
theorem d_Nu_allows_46 : decode b_Nu_allows 46 = .ok (.ifCond .lt 7, 3) := by decide +kernel
theorem d_Nu_allows_49 : decode b_Nu_allows 49 = .ok (.iconst 1, 1) := by decide +kernel
theorem d_Nu_allows_50 : decode b_Nu_allows 50 = .ok (.goto 4, 3) := by decide +kernel
theorem d_Nu_allows_53 : decode b_Nu_allows 53 = .ok (.iconst 0, 1) := by decide +kernel
theorem d_Nu_allows_54 : decode b_Nu_allows 54 = .ok (.ireturn, 1) := by decide +kernel
theorem d_Nu_exponent_0 : decode b_Nu_exponent 0 = .ok (.iload_n 1, 1) := by decide +kernel
theorem d_Nu_exponent_1 : decode b_Nu_exponent 1 = .ok (.ifCond .lt 21, 3) := by decide +kernel
theorem d_Nu_exponent_4 : decode b_Nu_exponent 4 = .ok (.iload_n 1, 1) := by decide +kernel
theorem d_Nu_exponent_5 : decode b_Nu_exponent 5 = .ok (.aload_n 0, 1) := by decide +kernel
theorem d_Nu_exponent_6 : decode b_Nu_exponent 6 = .ok (.getfield 19, 3) := by decide +kernel
theorem d_Nu_exponent_9 : decode b_Nu_exponent 9 = .ok (.arraylength, 1) := by decide +kernel
theorem d_Nu_exponent_10 : decode b_Nu_exponent 10 = .ok (.if_icmp .ge 12, 3) := by decide +kernel
theorem d_Nu_exponent_13 : decode b_Nu_exponent 13 = .ok (.aload_n 0, 1) := by decide +kernel
theorem d_Nu_exponent_14 : decode b_Nu_exponent 14 = .ok (.getfield 19, 3) := by decide +kernel
theorem d_Nu_exponent_17 : decode b_Nu_exponent 17 = .ok (.iload_n 1, 1) := by decide +kernel
theorem d_Nu_exponent_18 : decode b_Nu_exponent 18 = .ok (.iaload, 1) := by decide +kernel
theorem d_Nu_exponent_19 : decode b_Nu_exponent 19 = .ok (.goto 4, 3) := by decide +kernel
theorem d_Nu_exponent_22 : decode b_Nu_exponent 22 = .ok (.iconst 0, 1) := by decide +kernel
theorem d_Nu_exponent_23 : decode b_Nu_exponent 23 = .ok (.ireturn, 1) := by decide +kernel
theorem d_Nu_mantissa_0 : decode b_Nu_mantissa 0 = .ok (.iload_n 1, 1) := by decide +kernel
theorem d_Nu_mantissa_1 : decode b_Nu_mantissa 1 = .ok (.ifCond .lt 21, 3) := by decide +kernel
theorem d_Nu_mantissa_4 : decode b_Nu_mantissa 4 = .ok (.iload_n 1, 1) := by decide +kernel
theorem d_Nu_mantissa_5 : decode b_Nu_mantissa 5 = .ok (.aload_n 0, 1) := by decide +kernel
theorem d_Nu_mantissa_6 : decode b_Nu_mantissa 6 = .ok (.getfield 13, 3) := by decide +kernel
theorem d_Nu_mantissa_9 : decode b_Nu_mantissa 9 = .ok (.arraylength, 1) := by decide +kernel
theorem d_Nu_mantissa_10 : decode b_Nu_mantissa 10 = .ok (.if_icmp .ge 12, 3) := by decide +kernel
theorem d_Nu_mantissa_13 : decode b_Nu_mantissa 13 = .ok (.aload_n 0, 1) := by decide +kernel
theorem d_Nu_mantissa_14 : decode b_Nu_mantissa 14 = .ok (.getfield 13, 3) := by decide +kernel
theorem d_Nu_mantissa_17 : decode b_Nu_mantissa 17 = .ok (.iload_n 1, 1) := by decide +kernel
theorem d_Nu_mantissa_18 : decode b_Nu_mantissa 18 = .ok (.laload, 1) := by decide +kernel
theorem d_Nu_mantissa_19 : decode b_Nu_mantissa 19 = .ok (.goto 4, 3) := by decide +kernel
theorem d_Nu_mantissa_22 : decode b_Nu_mantissa 22 = .ok (.lconst 0, 1) := by decide +kernel
theorem d_Nu_mantissa_23 : decode b_Nu_mantissa 23 = .ok (.lreturn, 1) := by decide +kernel
theorem d_Nu_put_0 : decode b_Nu_put 0 = .ok (.iload_n 1, 1) := by decide +kernel
theorem d_Nu_put_1 : decode b_Nu_put 1 = .ok (.ifCond .lt 12, 3) := by decide +kernel
theorem d_Nu_put_4 : decode b_Nu_put 4 = .ok (.iload_n 1, 1) := by decide +kernel
theorem d_Nu_put_5 : decode b_Nu_put 5 = .ok (.aload_n 0, 1) := by decide +kernel
theorem d_Nu_put_6 : decode b_Nu_put 6 = .ok (.getfield 13, 3) := by decide +kernel
theorem d_Nu_put_9 : decode b_Nu_put 9 = .ok (.arraylength, 1) := by decide +kernel
theorem d_Nu_put_10 : decode b_Nu_put 10 = .ok (.if_icmp .lt 4, 3) := by decide +kernel
theorem d_Nu_put_13 : decode b_Nu_put 13 = .ok (.return_, 1) := by decide +kernel
theorem d_Nu_put_14 : decode b_Nu_put 14 = .ok (.dload_n 2, 1) := by decide +kernel
theorem d_Nu_put_15 : decode b_Nu_put 15 = .ok (.dconst 0, 1) := by decide +kernel
theorem d_Nu_put_16 : decode b_Nu_put 16 = .ok (.dcmp .g, 1) := by decide +kernel
theorem d_Nu_put_17 : decode b_Nu_put 17 = .ok (.ifCond .ge 8, 3) := by decide +kernel
theorem d_Nu_put_20 : decode b_Nu_put 20 = .ok (.dload_n 2, 1) := by decide +kernel
theorem d_Nu_put_21 : decode b_Nu_put 21 = .ok (.dneg, 1) := by decide +kernel
theorem d_Nu_put_22 : decode b_Nu_put 22 = .ok (.goto 4, 3) := by decide +kernel
theorem d_Nu_put_25 : decode b_Nu_put 25 = .ok (.dload_n 2, 1) := by decide +kernel
theorem d_Nu_put_26 : decode b_Nu_put 26 = .ok (.dstore 5, 2) := by decide +kernel
theorem d_Nu_put_28 : decode b_Nu_put 28 = .ok (.ldc2_w 25, 3) := by decide +kernel
theorem d_Nu_put_31 : decode b_Nu_put 31 = .ok (.dstore 7, 2) := by decide +kernel
theorem d_Nu_put_33 : decode b_Nu_put 33 = .ok (.ldc2_w 27, 3) := by decide +kernel
theorem d_Nu_put_36 : decode b_Nu_put 36 = .ok (.dstore 9, 2) := by decide +kernel
theorem d_Nu_put_38 : decode b_Nu_put 38 = .ok (.iload 4, 2) := by decide +kernel
theorem d_Nu_put_40 : decode b_Nu_put 40 = .ok (.istore 11, 2) := by decide +kernel
theorem d_Nu_put_42 : decode b_Nu_put 42 = .ok (.iconst 0, 1) := by decide +kernel
theorem d_Nu_put_43 : decode b_Nu_put 43 = .ok (.istore 12, 2) := by decide +kernel
theorem d_Nu_put_45 : decode b_Nu_put 45 = .ok (.iload 12, 2) := by decide +kernel
theorem d_Nu_put_47 : decode b_Nu_put 47 = .ok (.bipush 120, 2) := by decide +kernel
theorem d_Nu_put_49 : decode b_Nu_put 49 = .ok (.if_icmp .ge 35, 3) := by decide +kernel
theorem d_Nu_put_52 : decode b_Nu_put 52 = .ok (.dload 5, 2) := by decide +kernel
theorem d_Nu_put_54 : decode b_Nu_put 54 = .ok (.dconst 0, 1) := by decide +kernel
theorem d_Nu_put_55 : decode b_Nu_put 55 = .ok (.dcmp .l, 1) := by decide +kernel
theorem d_Nu_put_56 : decode b_Nu_put 56 = .ok (.ifCond .le 28, 3) := by decide +kernel
theorem d_Nu_put_59 : decode b_Nu_put 59 = .ok (.dload 5, 2) := by decide +kernel
theorem d_Nu_put_61 : decode b_Nu_put 61 = .ok (.dload 7, 2) := by decide +kernel
theorem d_Nu_put_63 : decode b_Nu_put 63 = .ok (.dcmp .g, 1) := by decide +kernel
theorem d_Nu_put_64 : decode b_Nu_put 64 = .ok (.ifCond .ge 20, 3) := by decide +kernel
theorem d_Nu_put_67 : decode b_Nu_put 67 = .ok (.dload 5, 2) := by decide +kernel
theorem d_Nu_put_69 : decode b_Nu_put 69 = .ok (.ldc2_w 29, 3) := by decide +kernel
theorem d_Nu_put_72 : decode b_Nu_put 72 = .ok (.dmul, 1) := by decide +kernel
theorem d_Nu_put_73 : decode b_Nu_put 73 = .ok (.dstore 5, 2) := by decide +kernel
theorem d_Nu_put_75 : decode b_Nu_put 75 = .ok (.iinc 11 (-1), 3) := by decide +kernel
theorem d_Nu_put_78 : decode b_Nu_put 78 = .ok (.iinc 12 1, 3) := by decide +kernel
theorem d_Nu_put_81 : decode b_Nu_put 81 = .ok (.goto (-36), 3) := by decide +kernel
theorem d_Nu_put_84 : decode b_Nu_put 84 = .ok (.iconst 0, 1) := by decide +kernel
theorem d_Nu_put_85 : decode b_Nu_put 85 = .ok (.istore 12, 2) := by decide +kernel
theorem d_Nu_put_87 : decode b_Nu_put 87 = .ok (.iload 12, 2) := by decide +kernel
theorem d_Nu_put_89 : decode b_Nu_put 89 = .ok (.bipush 120, 2) := by decide +kernel
theorem d_Nu_put_91 : decode b_Nu_put 91 = .ok (.if_icmp .ge 28, 3) := by decide +kernel
theorem d_Nu_put_94 : decode b_Nu_put 94 = .ok (.dload 5, 2) := by decide +kernel
theorem d_Nu_put_96 : decode b_Nu_put 96 = .ok (.dload 9, 2) := by decide +kernel
theorem d_Nu_put_98 : decode b_Nu_put 98 = .ok (.dcmp .l, 1) := by decide +kernel
theorem d_Nu_put_99 : decode b_Nu_put 99 = .ok (.ifCond .lt 20, 3) := by decide +kernel
theorem d_Nu_put_102 : decode b_Nu_put 102 = .ok (.dload 5, 2) := by decide +kernel
theorem d_Nu_put_104 : decode b_Nu_put 104 = .ok (.ldc2_w 29, 3) := by decide +kernel
theorem d_Nu_put_107 : decode b_Nu_put 107 = .ok (.ddiv, 1) := by decide +kernel
theorem d_Nu_put_108 : decode b_Nu_put 108 = .ok (.dstore 5, 2) := by decide +kernel
theorem d_Nu_put_110 : decode b_Nu_put 110 = .ok (.iinc 11 1, 3) := by decide +kernel
theorem d_Nu_put_113 : decode b_Nu_put 113 = .ok (.iinc 12 1, 3) := by decide +kernel
theorem d_Nu_put_116 : decode b_Nu_put 116 = .ok (.goto (-29), 3) := by decide +kernel
theorem d_Nu_put_119 : decode b_Nu_put 119 = .ok (.dload 5, 2) := by decide +kernel
theorem d_Nu_put_121 : decode b_Nu_put 121 = .ok (.d2l, 1) := by decide +kernel
theorem d_Nu_put_122 : decode b_Nu_put 122 = .ok (.lstore 12, 2) := by decide +kernel
theorem d_Nu_put_124 : decode b_Nu_put 124 = .ok (.aload_n 0, 1) := by decide +kernel
theorem d_Nu_put_125 : decode b_Nu_put 125 = .ok (.getfield 13, 3) := by decide +kernel
theorem d_Nu_put_128 : decode b_Nu_put 128 = .ok (.iload_n 1, 1) := by decide +kernel
theorem d_Nu_put_129 : decode b_Nu_put 129 = .ok (.dload_n 2, 1) := by decide +kernel
theorem d_Nu_put_130 : decode b_Nu_put 130 = .ok (.dconst 0, 1) := by decide +kernel
theorem d_Nu_put_131 : decode b_Nu_put 131 = .ok (.dcmp .g, 1) := by decide +kernel
theorem d_Nu_put_132 : decode b_Nu_put 132 = .ok (.ifCond .ge 9, 3) := by decide +kernel
theorem d_Nu_put_135 : decode b_Nu_put 135 = .ok (.lload 12, 2) := by decide +kernel
theorem d_Nu_put_137 : decode b_Nu_put 137 = .ok (.lneg, 1) := by decide +kernel
theorem d_Nu_put_138 : decode b_Nu_put 138 = .ok (.goto 5, 3) := by decide +kernel
theorem d_Nu_put_141 : decode b_Nu_put 141 = .ok (.lload 12, 2) := by decide +kernel
theorem d_Nu_put_143 : decode b_Nu_put 143 = .ok (.lastore, 1) := by decide +kernel
theorem d_Nu_put_144 : decode b_Nu_put 144 = .ok (.aload_n 0, 1) := by decide +kernel
theorem d_Nu_put_145 : decode b_Nu_put 145 = .ok (.getfield 19, 3) := by decide +kernel
theorem d_Nu_put_148 : decode b_Nu_put 148 = .ok (.iload_n 1, 1) := by decide +kernel
theorem d_Nu_put_149 : decode b_Nu_put 149 = .ok (.iload 11, 2) := by decide +kernel
theorem d_Nu_put_151 : decode b_Nu_put 151 = .ok (.iastore, 1) := by decide +kernel
theorem d_Nu_put_152 : decode b_Nu_put 152 = .ok (.return_, 1) := by decide +kernel
