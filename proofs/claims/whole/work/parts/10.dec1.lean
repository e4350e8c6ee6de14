theorem d_Ex_hasBitUnder_0 : decode b_Ex_hasBitUnder 0 = .ok (.iload_n 1, 1) := by decide +kernel
theorem d_Ex_hasBitUnder_1 : decode b_Ex_hasBitUnder 1 = .ok (.bipush 27, 2) := by decide +kernel
theorem d_Ex_hasBitUnder_3 : decode b_Ex_hasBitUnder 3 = .ok (.invokestatic 25, 3) := by decide +kernel
theorem d_Ex_hasBitUnder_6 : decode b_Ex_hasBitUnder 6 = .ok (.istore_n 2, 1) := by decide +kernel
theorem d_Ex_hasBitUnder_7 : decode b_Ex_hasBitUnder 7 = .ok (.iconst 0, 1) := by decide +kernel
theorem d_Ex_hasBitUnder_8 : decode b_Ex_hasBitUnder 8 = .ok (.istore_n 3, 1) := by decide +kernel
theorem d_Ex_hasBitUnder_9 : decode b_Ex_hasBitUnder 9 = .ok (.iload_n 3, 1) := by decide +kernel
theorem d_Ex_hasBitUnder_10 : decode b_Ex_hasBitUnder 10 = .ok (.iload_n 2, 1) := by decide +kernel
theorem d_Ex_hasBitUnder_11 : decode b_Ex_hasBitUnder 11 = .ok (.if_icmp .ge 28, 3) := by decide +kernel
theorem d_Ex_hasBitUnder_14 : decode b_Ex_hasBitUnder 14 = .ok (.iload_n 3, 1) := by decide +kernel
theorem d_Ex_hasBitUnder_15 : decode b_Ex_hasBitUnder 15 = .ok (.bipush 112, 2) := by decide +kernel
theorem d_Ex_hasBitUnder_17 : decode b_Ex_hasBitUnder 17 = .ok (.if_icmp .ge 22, 3) := by decide +kernel
theorem d_Ex_hasBitUnder_20 : decode b_Ex_hasBitUnder 20 = .ok (.aload_n 0, 1) := by decide +kernel
theorem d_Ex_hasBitUnder_21 : decode b_Ex_hasBitUnder 21 = .ok (.getfield 9, 3) := by decide +kernel
theorem d_Ex_hasBitUnder_24 : decode b_Ex_hasBitUnder 24 = .ok (.iload_n 3, 1) := by decide +kernel
theorem d_Ex_hasBitUnder_25 : decode b_Ex_hasBitUnder 25 = .ok (.laload, 1) := by decide +kernel
theorem d_Ex_hasBitUnder_26 : decode b_Ex_hasBitUnder 26 = .ok (.lconst 0, 1) := by decide +kernel
theorem d_Ex_hasBitUnder_27 : decode b_Ex_hasBitUnder 27 = .ok (.lcmp, 1) := by decide +kernel
theorem d_Ex_hasBitUnder_28 : decode b_Ex_hasBitUnder 28 = .ok (.ifCond .eq 5, 3) := by decide +kernel
theorem d_Ex_hasBitUnder_31 : decode b_Ex_hasBitUnder 31 = .ok (.iconst 1, 1) := by decide +kernel
theorem d_Ex_hasBitUnder_32 : decode b_Ex_hasBitUnder 32 = .ok (.ireturn, 1) := by decide +kernel
theorem d_Ex_hasBitUnder_33 : decode b_Ex_hasBitUnder 33 = .ok (.iinc 3 1, 3) := by decide +kernel
theorem d_Ex_hasBitUnder_36 : decode b_Ex_hasBitUnder 36 = .ok (.goto (-27), 3) := by decide +kernel
theorem d_Ex_hasBitUnder_39 : decode b_Ex_hasBitUnder 39 = .ok (.lconst 1, 1) := by decide +kernel
theorem d_Ex_hasBitUnder_40 : decode b_Ex_hasBitUnder 40 = .ok (.iload_n 1, 1) := by decide +kernel
theorem d_Ex_hasBitUnder_41 : decode b_Ex_hasBitUnder 41 = .ok (.bipush 27, 2) := by decide +kernel
theorem d_Ex_hasBitUnder_43 : decode b_Ex_hasBitUnder 43 = .ok (.invokestatic 31, 3) := by decide +kernel
theorem d_Ex_hasBitUnder_46 : decode b_Ex_hasBitUnder 46 = .ok (.lshl, 1) := by decide +kernel
theorem d_Ex_hasBitUnder_47 : decode b_Ex_hasBitUnder 47 = .ok (.lconst 1, 1) := by decide +kernel
theorem d_Ex_hasBitUnder_48 : decode b_Ex_hasBitUnder 48 = .ok (.lsub, 1) := by decide +kernel
theorem d_Ex_hasBitUnder_49 : decode b_Ex_hasBitUnder 49 = .ok (.lstore_n 3, 1) := by decide +kernel
theorem d_Ex_hasBitUnder_50 : decode b_Ex_hasBitUnder 50 = .ok (.iload_n 2, 1) := by decide +kernel
theorem d_Ex_hasBitUnder_51 : decode b_Ex_hasBitUnder 51 = .ok (.ifCond .lt 26, 3) := by decide +kernel
theorem d_Ex_hasBitUnder_54 : decode b_Ex_hasBitUnder 54 = .ok (.iload_n 2, 1) := by decide +kernel
theorem d_Ex_hasBitUnder_55 : decode b_Ex_hasBitUnder 55 = .ok (.bipush 112, 2) := by decide +kernel
theorem d_Ex_hasBitUnder_57 : decode b_Ex_hasBitUnder 57 = .ok (.if_icmp .ge 20, 3) := by decide +kernel
theorem d_Ex_hasBitUnder_60 : decode b_Ex_hasBitUnder 60 = .ok (.aload_n 0, 1) := by decide +kernel
theorem d_Ex_hasBitUnder_61 : decode b_Ex_hasBitUnder 61 = .ok (.getfield 9, 3) := by decide +kernel
theorem d_Ex_hasBitUnder_64 : decode b_Ex_hasBitUnder 64 = .ok (.iload_n 2, 1) := by decide +kernel
theorem d_Ex_hasBitUnder_65 : decode b_Ex_hasBitUnder 65 = .ok (.laload, 1) := by decide +kernel
theorem d_Ex_hasBitUnder_66 : decode b_Ex_hasBitUnder 66 = .ok (.lload_n 3, 1) := by decide +kernel
theorem d_Ex_hasBitUnder_67 : decode b_Ex_hasBitUnder 67 = .ok (.land, 1) := by decide +kernel
theorem d_Ex_hasBitUnder_68 : decode b_Ex_hasBitUnder 68 = .ok (.lconst 0, 1) := by decide +kernel
theorem d_Ex_hasBitUnder_69 : decode b_Ex_hasBitUnder 69 = .ok (.lcmp, 1) := by decide +kernel
theorem d_Ex_hasBitUnder_70 : decode b_Ex_hasBitUnder 70 = .ok (.ifCond .eq 7, 3) := by decide +kernel
theorem d_Ex_hasBitUnder_73 : decode b_Ex_hasBitUnder 73 = .ok (.iconst 1, 1) := by decide +kernel
theorem d_Ex_hasBitUnder_74 : decode b_Ex_hasBitUnder 74 = .ok (.goto 4, 3) := by decide +kernel
theorem d_Ex_hasBitUnder_77 : decode b_Ex_hasBitUnder 77 = .ok (.iconst 0, 1) := by decide +kernel
theorem d_Ex_hasBitUnder_78 : decode b_Ex_hasBitUnder 78 = .ok (.ireturn, 1) := by decide +kernel
theorem d_Ex_signum_0 : decode b_Ex_signum 0 = .ok (.aload_n 0, 1) := by decide +kernel
theorem d_Ex_signum_1 : decode b_Ex_signum 1 = .ok (.invokevirtual 45, 3) := by decide +kernel
theorem d_Ex_signum_4 : decode b_Ex_signum 4 = .ok (.aload_n 0, 1) := by decide +kernel
theorem d_Ex_signum_5 : decode b_Ex_signum 5 = .ok (.getfield 9, 3) := by decide +kernel
theorem d_Ex_signum_8 : decode b_Ex_signum 8 = .ok (.bipush 111, 2) := by decide +kernel
theorem d_Ex_signum_10 : decode b_Ex_signum 10 = .ok (.laload, 1) := by decide +kernel
theorem d_Ex_signum_11 : decode b_Ex_signum 11 = .ok (.lconst 0, 1) := by decide +kernel
theorem d_Ex_signum_12 : decode b_Ex_signum 12 = .ok (.lcmp, 1) := by decide +kernel
theorem d_Ex_signum_13 : decode b_Ex_signum 13 = .ok (.ifCond .ge 5, 3) := by decide +kernel
theorem d_Ex_signum_16 : decode b_Ex_signum 16 = .ok (.iconst (-1), 1) := by decide +kernel
theorem d_Ex_signum_17 : decode b_Ex_signum 17 = .ok (.ireturn, 1) := by decide +kernel
theorem d_Ex_signum_18 : decode b_Ex_signum 18 = .ok (.aload_n 0, 1) := by decide +kernel
theorem d_Ex_signum_19 : decode b_Ex_signum 19 = .ok (.invokevirtual 48, 3) := by decide +kernel
theorem d_Ex_signum_22 : decode b_Ex_signum 22 = .ok (.ifCond .ge 7, 3) := by decide +kernel
theorem d_Ex_signum_25 : decode b_Ex_signum 25 = .ok (.iconst 0, 1) := by decide +kernel
theorem d_Ex_signum_26 : decode b_Ex_signum 26 = .ok (.goto 4, 3) := by decide +kernel
theorem d_Ex_signum_29 : decode b_Ex_signum 29 = .ok (.iconst 1, 1) := by decide +kernel
theorem d_Ex_signum_30 : decode b_Ex_signum 30 = .ok (.ireturn, 1) := by decide +kernel
theorem d_Ex_negate_0 : decode b_Ex_negate 0 = .ok (.iconst 0, 1) := by decide +kernel
theorem d_Ex_negate_1 : decode b_Ex_negate 1 = .ok (.istore_n 1, 1) := by decide +kernel
theorem d_Ex_negate_2 : decode b_Ex_negate 2 = .ok (.iload_n 1, 1) := by decide +kernel
theorem d_Ex_negate_3 : decode b_Ex_negate 3 = .ok (.bipush 112, 2) := by decide +kernel
theorem d_Ex_negate_5 : decode b_Ex_negate 5 = .ok (.if_icmp .ge 22, 3) := by decide +kernel
theorem d_Ex_negate_8 : decode b_Ex_negate 8 = .ok (.aload_n 0, 1) := by decide +kernel
theorem d_Ex_negate_9 : decode b_Ex_negate 9 = .ok (.getfield 9, 3) := by decide +kernel
theorem d_Ex_negate_12 : decode b_Ex_negate 12 = .ok (.iload_n 1, 1) := by decide +kernel
theorem d_Ex_negate_13 : decode b_Ex_negate 13 = .ok (.aload_n 0, 1) := by decide +kernel
theorem d_Ex_negate_14 : decode b_Ex_negate 14 = .ok (.getfield 9, 3) := by decide +kernel
theorem d_Ex_negate_17 : decode b_Ex_negate 17 = .ok (.iload_n 1, 1) := by decide +kernel
theorem d_Ex_negate_18 : decode b_Ex_negate 18 = .ok (.laload, 1) := by decide +kernel
theorem d_Ex_negate_19 : decode b_Ex_negate 19 = .ok (.lneg, 1) := by decide +kernel
theorem d_Ex_negate_20 : decode b_Ex_negate 20 = .ok (.lastore, 1) := by decide +kernel
theorem d_Ex_negate_21 : decode b_Ex_negate 21 = .ok (.iinc 1 1, 3) := by decide +kernel
theorem d_Ex_negate_24 : decode b_Ex_negate 24 = .ok (.goto (-22), 3) := by decide +kernel
theorem d_Ex_negate_27 : decode b_Ex_negate 27 = .ok (.aload_n 0, 1) := by decide +kernel
theorem d_Ex_negate_28 : decode b_Ex_negate 28 = .ok (.invokevirtual 45, 3) := by decide +kernel
theorem d_Ex_negate_31 : decode b_Ex_negate 31 = .ok (.return_, 1) := by decide +kernel
theorem d_Ex_raiseTo_0 : decode b_Ex_raiseTo 0 = .ok (.aload_n 0, 1) := by decide +kernel
theorem d_Ex_raiseTo_1 : decode b_Ex_raiseTo 1 = .ok (.invokevirtual 45, 3) := by decide +kernel
theorem d_Ex_raiseTo_4 : decode b_Ex_raiseTo 4 = .ok (.aload_n 1, 1) := by decide +kernel
theorem d_Ex_raiseTo_5 : decode b_Ex_raiseTo 5 = .ok (.invokevirtual 45, 3) := by decide +kernel
theorem d_Ex_raiseTo_8 : decode b_Ex_raiseTo 8 = .ok (.aload_n 0, 1) := by decide +kernel
theorem d_Ex_raiseTo_9 : decode b_Ex_raiseTo 9 = .ok (.aload_n 1, 1) := by decide +kernel
theorem d_Ex_raiseTo_10 : decode b_Ex_raiseTo 10 = .ok (.invokevirtual 52, 3) := by decide +kernel
theorem d_Ex_raiseTo_13 : decode b_Ex_raiseTo 13 = .ok (.ifCond .eq 18, 3) := by decide +kernel
theorem d_Ex_raiseTo_16 : decode b_Ex_raiseTo 16 = .ok (.aload_n 1, 1) := by decide +kernel
theorem d_Ex_raiseTo_17 : decode b_Ex_raiseTo 17 = .ok (.getfield 9, 3) := by decide +kernel
theorem d_Ex_raiseTo_20 : decode b_Ex_raiseTo 20 = .ok (.iconst 0, 1) := by decide +kernel
theorem d_Ex_raiseTo_21 : decode b_Ex_raiseTo 21 = .ok (.aload_n 0, 1) := by decide +kernel
theorem d_Ex_raiseTo_22 : decode b_Ex_raiseTo 22 = .ok (.getfield 9, 3) := by decide +kernel
theorem d_Ex_raiseTo_25 : decode b_Ex_raiseTo 25 = .ok (.iconst 0, 1) := by decide +kernel
theorem d_Ex_raiseTo_26 : decode b_Ex_raiseTo 26 = .ok (.bipush 112, 2) := by decide +kernel
theorem d_Ex_raiseTo_28 : decode b_Ex_raiseTo 28 = .ok (.invokestatic 56, 3) := by decide +kernel
theorem d_Ex_raiseTo_31 : decode b_Ex_raiseTo 31 = .ok (.return_, 1) := by decide +kernel
