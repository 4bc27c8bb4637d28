theorem dX8_until_36 : decode cX8_until 36 = .ok (.if_icmp .gt 44, 3) := by decide +kernel
theorem dX8_until_39 : decode cX8_until 39 = .ok (.aload_n 0, 1) := by decide +kernel
theorem dX8_until_40 : decode cX8_until 40 = .ok (.getfield 22, 3) := by decide +kernel
theorem dX8_until_43 : decode cX8_until 43 = .ok (.getfield 133, 3) := by decide +kernel
theorem dX8_until_46 : decode cX8_until 46 = .ok (.sipush 9999, 3) := by decide +kernel
theorem dX8_until_49 : decode cX8_until 49 = .ok (.if_icmp .ge 31, 3) := by decide +kernel
theorem dX8_until_52 : decode cX8_until 52 = .ok (.aload_n 0, 1) := by decide +kernel
theorem dX8_until_53 : decode cX8_until 53 = .ok (.aload_n 0, 1) := by decide +kernel
theorem dX8_until_54 : decode cX8_until 54 = .ok (.getfield 22, 3) := by decide +kernel
theorem dX8_until_57 : decode cX8_until 57 = .ok (.invokevirtual 173, 3) := by decide +kernel
theorem dX8_until_60 : decode cX8_until 60 = .ok (.pop, 1) := by decide +kernel
theorem dX8_until_61 : decode cX8_until 61 = .ok (.aload_n 0, 1) := by decide +kernel
theorem dX8_until_62 : decode cX8_until 62 = .ok (.getfield 22, 3) := by decide +kernel
theorem dX8_until_65 : decode cX8_until 65 = .ok (.iload_n 1, 1) := by decide +kernel
theorem dX8_until_66 : decode cX8_until 66 = .ok (.invokevirtual 167, 3) := by decide +kernel
theorem dX8_until_69 : decode cX8_until 69 = .ok (.ifCond .ne 5, 3) := by decide +kernel
theorem dX8_until_72 : decode cX8_until 72 = .ok (.iload_n 2, 1) := by decide +kernel
theorem dX8_until_73 : decode cX8_until 73 = .ok (.ireturn, 1) := by decide +kernel
theorem dX8_until_74 : decode cX8_until 74 = .ok (.iinc 2 1, 3) := by decide +kernel
theorem dX8_until_77 : decode cX8_until 77 = .ok (.goto (-44), 3) := by decide +kernel
theorem dX8_until_80 : decode cX8_until 80 = .ok (.iconst (-1), 1) := by decide +kernel
theorem dX8_until_81 : decode cX8_until 81 = .ok (.ireturn, 1) := by decide +kernel
theorem dX8_odds_0 : decode cX8_odds 0 = .ok (.aload_n 0, 1) := by decide +kernel
theorem dX8_odds_1 : decode cX8_odds 1 = .ok (.iload_n 2, 1) := by decide +kernel
theorem dX8_odds_2 : decode cX8_odds 2 = .ok (.iload_n 3, 1) := by decide +kernel
theorem dX8_odds_3 : decode cX8_odds 3 = .ok (.invokevirtual 309, 3) := by decide +kernel
theorem dX8_odds_6 : decode cX8_odds 6 = .ok (.ifCond .ne 7, 3) := by decide +kernel
theorem dX8_odds_9 : decode cX8_odds 9 = .ok (.ldc2_w 312, 3) := by decide +kernel
theorem dX8_odds_12 : decode cX8_odds 12 = .ok (.lreturn, 1) := by decide +kernel
theorem dX8_odds_13 : decode cX8_odds 13 = .ok (.aload_n 0, 1) := by decide +kernel
theorem dX8_odds_14 : decode cX8_odds 14 = .ok (.iload_n 1, 1) := by decide +kernel
theorem dX8_odds_15 : decode cX8_odds 15 = .ok (.iload_n 2, 1) := by decide +kernel
theorem dX8_odds_16 : decode cX8_odds 16 = .ok (.iload_n 3, 1) := by decide +kernel
theorem dX8_odds_17 : decode cX8_odds 17 = .ok (.invokevirtual 314, 3) := by decide +kernel
theorem dX8_odds_20 : decode cX8_odds 20 = .ok (.aload_n 0, 1) := by decide +kernel
theorem dX8_odds_21 : decode cX8_odds 21 = .ok (.iload_n 2, 1) := by decide +kernel
theorem dX8_odds_22 : decode cX8_odds 22 = .ok (.iload_n 3, 1) := by decide +kernel
theorem dX8_odds_23 : decode cX8_odds 23 = .ok (.invokevirtual 318, 3) := by decide +kernel
theorem dX8_odds_26 : decode cX8_odds 26 = .ok (.iload 4, 2) := by decide +kernel
theorem dX8_odds_28 : decode cX8_odds 28 = .ok (.invokestatic 322, 3) := by decide +kernel
theorem dX8_odds_31 : decode cX8_odds 31 = .ok (.lreturn, 1) := by decide +kernel
theorem dX8_fair_0 : decode cX8_fair 0 = .ok (.aload_n 0, 1) := by decide +kernel
theorem dX8_fair_1 : decode cX8_fair 1 = .ok (.iload_n 2, 1) := by decide +kernel
theorem dX8_fair_2 : decode cX8_fair 2 = .ok (.iload_n 3, 1) := by decide +kernel
theorem dX8_fair_3 : decode cX8_fair 3 = .ok (.invokevirtual 309, 3) := by decide +kernel
theorem dX8_fair_6 : decode cX8_fair 6 = .ok (.ifCond .eq 15, 3) := by decide +kernel
theorem dX8_fair_9 : decode cX8_fair 9 = .ok (.iload 4, 2) := by decide +kernel
theorem dX8_fair_11 : decode cX8_fair 11 = .ok (.iconst 0, 1) := by decide +kernel
theorem dX8_fair_12 : decode cX8_fair 12 = .ok (.sipush 999, 3) := by decide +kernel
theorem dX8_fair_15 : decode cX8_fair 15 = .ok (.invokestatic 61, 3) := by decide +kernel
theorem dX8_fair_18 : decode cX8_fair 18 = .ok (.ifCond .ne 7, 3) := by decide +kernel
theorem dX8_fair_21 : decode cX8_fair 21 = .ok (.ldc2_w 312, 3) := by decide +kernel
theorem dX8_fair_24 : decode cX8_fair 24 = .ok (.lreturn, 1) := by decide +kernel
theorem dX8_fair_25 : decode cX8_fair 25 = .ok (.aload_n 0, 1) := by decide +kernel
theorem dX8_fair_26 : decode cX8_fair 26 = .ok (.iload_n 2, 1) := by decide +kernel
theorem dX8_fair_27 : decode cX8_fair 27 = .ok (.iload_n 3, 1) := by decide +kernel
theorem dX8_fair_28 : decode cX8_fair 28 = .ok (.invokevirtual 318, 3) := by decide +kernel
theorem dX8_fair_31 : decode cX8_fair 31 = .ok (.lstore 6, 2) := by decide +kernel
theorem dX8_fair_33 : decode cX8_fair 33 = .ok (.iload 4, 2) := by decide +kernel
theorem dX8_fair_35 : decode cX8_fair 35 = .ok (.i2l, 1) := by decide +kernel
theorem dX8_fair_36 : decode cX8_fair 36 = .ok (.lload 6, 2) := by decide +kernel
theorem dX8_fair_38 : decode cX8_fair 38 = .ok (.aload_n 0, 1) := by decide +kernel
theorem dX8_fair_39 : decode cX8_fair 39 = .ok (.iload_n 1, 1) := by decide +kernel
theorem dX8_fair_40 : decode cX8_fair 40 = .ok (.iload_n 2, 1) := by decide +kernel
theorem dX8_fair_41 : decode cX8_fair 41 = .ok (.iload_n 3, 1) := by decide +kernel
theorem dX8_fair_42 : decode cX8_fair 42 = .ok (.invokevirtual 314, 3) := by decide +kernel
theorem dX8_fair_45 : decode cX8_fair 45 = .ok (.lsub, 1) := by decide +kernel
theorem dX8_fair_46 : decode cX8_fair 46 = .ok (.lmul, 1) := by decide +kernel
theorem dX8_fair_47 : decode cX8_fair 47 = .ok (.lload 6, 2) := by decide +kernel
theorem dX8_fair_49 : decode cX8_fair 49 = .ok (.iload 5, 2) := by decide +kernel
theorem dX8_fair_51 : decode cX8_fair 51 = .ok (.invokestatic 322, 3) := by decide +kernel
theorem dX8_fair_54 : decode cX8_fair 54 = .ok (.lreturn, 1) := by decide +kernel
theorem dX8_mayReckonOdds_0 : decode cX8_mayReckonOdds 0 = .ok (.aload_n 0, 1) := by decide +kernel
theorem dX8_mayReckonOdds_1 : decode cX8_mayReckonOdds 1 = .ok (.iload_n 1, 1) := by decide +kernel
theorem dX8_mayReckonOdds_2 : decode cX8_mayReckonOdds 2 = .ok (.invokevirtual 124, 3) := by decide +kernel
theorem dX8_mayReckonOdds_5 : decode cX8_mayReckonOdds 5 = .ok (.ifCond .eq 37, 3) := by decide +kernel
theorem dX8_mayReckonOdds_8 : decode cX8_mayReckonOdds 8 = .ok (.iload_n 2, 1) := by decide +kernel
theorem dX8_mayReckonOdds_9 : decode cX8_mayReckonOdds 9 = .ok (.iconst 1, 1) := by decide +kernel
theorem dX8_mayReckonOdds_10 : decode cX8_mayReckonOdds 10 = .ok (.iconst 4, 1) := by decide +kernel
theorem dX8_mayReckonOdds_11 : decode cX8_mayReckonOdds 11 = .ok (.invokestatic 61, 3) := by decide +kernel
theorem dX8_mayReckonOdds_14 : decode cX8_mayReckonOdds 14 = .ok (.ifCond .eq 28, 3) := by decide +kernel
theorem dX8_mayReckonOdds_17 : decode cX8_mayReckonOdds 17 = .ok (.iload_n 1, 1) := by decide +kernel
theorem dX8_mayReckonOdds_18 : decode cX8_mayReckonOdds 18 = .ok (.aload_n 0, 1) := by decide +kernel
theorem dX8_mayReckonOdds_19 : decode cX8_mayReckonOdds 19 = .ok (.getfield 10, 3) := by decide +kernel
theorem dX8_mayReckonOdds_22 : decode cX8_mayReckonOdds 22 = .ok (.getfield 79, 3) := by decide +kernel
theorem dX8_mayReckonOdds_25 : decode cX8_mayReckonOdds 25 = .ok (.getfield 160, 3) := by decide +kernel
theorem dX8_mayReckonOdds_28 : decode cX8_mayReckonOdds 28 = .ok (.iconst (-1), 1) := by decide +kernel
theorem dX8_mayReckonOdds_29 : decode cX8_mayReckonOdds 29 = .ok (.ixor, 1) := by decide +kernel
theorem dX8_mayReckonOdds_30 : decode cX8_mayReckonOdds 30 = .ok (.iand, 1) := by decide +kernel
theorem dX8_mayReckonOdds_31 : decode cX8_mayReckonOdds 31 = .ok (.invokestatic 279, 3) := by decide +kernel
theorem dX8_mayReckonOdds_34 : decode cX8_mayReckonOdds 34 = .ok (.iconst 3, 1) := by decide +kernel
theorem dX8_mayReckonOdds_35 : decode cX8_mayReckonOdds 35 = .ok (.if_icmp .gt 7, 3) := by decide +kernel
theorem dX8_mayReckonOdds_38 : decode cX8_mayReckonOdds 38 = .ok (.iconst 1, 1) := by decide +kernel
theorem dX8_mayReckonOdds_39 : decode cX8_mayReckonOdds 39 = .ok (.goto 4, 3) := by decide +kernel
theorem dX8_mayReckonOdds_42 : decode cX8_mayReckonOdds 42 = .ok (.iconst 0, 1) := by decide +kernel
theorem dX8_mayReckonOdds_43 : decode cX8_mayReckonOdds 43 = .ok (.ireturn, 1) := by decide +kernel
theorem dX8_allChances_0 : decode cX8_allChances 0 = .ok (.bipush 10, 2) := by decide +kernel
theorem dX8_allChances_2 : decode cX8_allChances 2 = .ok (.iload_n 2, 1) := by decide +kernel
theorem dX8_allChances_3 : decode cX8_allChances 3 = .ok (.iload_n 1, 1) := by decide +kernel
theorem dX8_allChances_4 : decode cX8_allChances 4 = .ok (.aload_n 0, 1) := by decide +kernel
theorem dX8_allChances_5 : decode cX8_allChances 5 = .ok (.getfield 10, 3) := by decide +kernel
theorem dX8_allChances_8 : decode cX8_allChances 8 = .ok (.getfield 79, 3) := by decide +kernel
theorem dX8_allChances_11 : decode cX8_allChances 11 = .ok (.getfield 160, 3) := by decide +kernel
theorem dX8_allChances_14 : decode cX8_allChances 14 = .ok (.iconst (-1), 1) := by decide +kernel
theorem dX8_allChances_15 : decode cX8_allChances 15 = .ok (.ixor, 1) := by decide +kernel
theorem dX8_allChances_16 : decode cX8_allChances 16 = .ok (.iand, 1) := by decide +kernel
theorem dX8_allChances_17 : decode cX8_allChances 17 = .ok (.invokestatic 279, 3) := by decide +kernel
theorem dX8_allChances_20 : decode cX8_allChances 20 = .ok (.imul, 1) := by decide +kernel
theorem dX8_allChances_21 : decode cX8_allChances 21 = .ok (.invokestatic 326, 3) := by decide +kernel
theorem dX8_allChances_24 : decode cX8_allChances 24 = .ok (.lreturn, 1) := by decide +kernel
theorem dX8_chances_0 : decode cX8_chances 0 = .ok (.lconst 1, 1) := by decide +kernel
theorem dX8_chances_1 : decode cX8_chances 1 = .ok (.lstore 4, 2) := by decide +kernel
theorem dX8_chances_3 : decode cX8_chances 3 = .ok (.lconst 1, 1) := by decide +kernel
theorem dX8_chances_4 : decode cX8_chances 4 = .ok (.lstore 6, 2) := by decide +kernel
theorem dX8_chances_6 : decode cX8_chances 6 = .ok (.iconst 0, 1) := by decide +kernel
theorem dX8_chances_7 : decode cX8_chances 7 = .ok (.istore 8, 2) := by decide +kernel
theorem dX8_chances_9 : decode cX8_chances 9 = .ok (.iload 8, 2) := by decide +kernel
theorem dX8_chances_11 : decode cX8_chances 11 = .ok (.aload_n 0, 1) := by decide +kernel
theorem dX8_chances_12 : decode cX8_chances 12 = .ok (.getfield 10, 3) := by decide +kernel
theorem dX8_chances_15 : decode cX8_chances 15 = .ok (.getfield 65, 3) := by decide +kernel
theorem dX8_chances_18 : decode cX8_chances 18 = .ok (.getfield 130, 3) := by decide +kernel
theorem dX8_chances_21 : decode cX8_chances 21 = .ok (.if_icmp .ge 75, 3) := by decide +kernel
theorem dX8_chances_24 : decode cX8_chances 24 = .ok (.iload_n 2, 1) := by decide +kernel
theorem dX8_chances_25 : decode cX8_chances 25 = .ok (.aload_n 0, 1) := by decide +kernel
theorem dX8_chances_26 : decode cX8_chances 26 = .ok (.getfield 10, 3) := by decide +kernel
theorem dX8_chances_29 : decode cX8_chances 29 = .ok (.getfield 79, 3) := by decide +kernel
theorem dX8_chances_32 : decode cX8_chances 32 = .ok (.getfield 160, 3) := by decide +kernel
theorem dX8_chances_35 : decode cX8_chances 35 = .ok (.iconst (-1), 1) := by decide +kernel
theorem dX8_chances_36 : decode cX8_chances 36 = .ok (.ixor, 1) := by decide +kernel
theorem dX8_chances_37 : decode cX8_chances 37 = .ok (.iand, 1) := by decide +kernel
theorem dX8_chances_38 : decode cX8_chances 38 = .ok (.iload 8, 2) := by decide +kernel
theorem dX8_chances_40 : decode cX8_chances 40 = .ok (.invokestatic 163, 3) := by decide +kernel
theorem dX8_chances_43 : decode cX8_chances 43 = .ok (.iand, 1) := by decide +kernel
theorem dX8_chances_44 : decode cX8_chances 44 = .ok (.ifCond .eq 46, 3) := by decide +kernel
theorem dX8_chances_47 : decode cX8_chances 47 = .ok (.bipush 10, 2) := by decide +kernel
theorem dX8_chances_49 : decode cX8_chances 49 = .ok (.aload_n 0, 1) := by decide +kernel
theorem dX8_chances_50 : decode cX8_chances 50 = .ok (.getfield 10, 3) := by decide +kernel
theorem dX8_chances_53 : decode cX8_chances 53 = .ok (.getfield 65, 3) := by decide +kernel
theorem dX8_chances_56 : decode cX8_chances 56 = .ok (.iload 8, 2) := by decide +kernel
theorem dX8_chances_58 : decode cX8_chances 58 = .ok (.iconst 0, 1) := by decide +kernel
theorem dX8_chances_59 : decode cX8_chances 59 = .ok (.invokevirtual 143, 3) := by decide +kernel
theorem dX8_chances_62 : decode cX8_chances 62 = .ok (.isub, 1) := by decide +kernel
theorem dX8_chances_63 : decode cX8_chances 63 = .ok (.iload_n 3, 1) := by decide +kernel
theorem dX8_chances_64 : decode cX8_chances 64 = .ok (.invokestatic 326, 3) := by decide +kernel
theorem dX8_chances_67 : decode cX8_chances 67 = .ok (.lstore 9, 2) := by decide +kernel
theorem dX8_chances_69 : decode cX8_chances 69 = .ok (.lload 4, 2) := by decide +kernel
theorem dX8_chances_71 : decode cX8_chances 71 = .ok (.bipush 10, 2) := by decide +kernel
theorem dX8_chances_73 : decode cX8_chances 73 = .ok (.iload_n 3, 1) := by decide +kernel
theorem dX8_chances_74 : decode cX8_chances 74 = .ok (.invokestatic 326, 3) := by decide +kernel
theorem dX8_chances_77 : decode cX8_chances 77 = .ok (.lload 9, 2) := by decide +kernel
theorem dX8_chances_79 : decode cX8_chances 79 = .ok (.lsub, 1) := by decide +kernel
theorem dX8_chances_80 : decode cX8_chances 80 = .ok (.lmul, 1) := by decide +kernel
theorem dX8_chances_81 : decode cX8_chances 81 = .ok (.lstore 4, 2) := by decide +kernel
theorem dX8_chances_83 : decode cX8_chances 83 = .ok (.lload 6, 2) := by decide +kernel
theorem dX8_chances_85 : decode cX8_chances 85 = .ok (.lload 9, 2) := by decide +kernel
theorem dX8_chances_87 : decode cX8_chances 87 = .ok (.lmul, 1) := by decide +kernel
theorem dX8_chances_88 : decode cX8_chances 88 = .ok (.lstore 6, 2) := by decide +kernel
theorem dX8_chances_90 : decode cX8_chances 90 = .ok (.iinc 8 1, 3) := by decide +kernel
theorem dX8_chances_93 : decode cX8_chances 93 = .ok (.goto (-84), 3) := by decide +kernel
theorem dX8_chances_96 : decode cX8_chances 96 = .ok (.iload_n 1, 1) := by decide +kernel
theorem dX8_chances_97 : decode cX8_chances 97 = .ok (.ifCond .eq 6, 3) := by decide +kernel
theorem dX8_chances_100 : decode cX8_chances 100 = .ok (.lload 4, 2) := by decide +kernel
theorem dX8_chances_102 : decode cX8_chances 102 = .ok (.lreturn, 1) := by decide +kernel
theorem dX8_chances_103 : decode cX8_chances 103 = .ok (.iload_n 2, 1) := by decide +kernel
theorem dX8_chances_104 : decode cX8_chances 104 = .ok (.aload_n 0, 1) := by decide +kernel
theorem dX8_chances_105 : decode cX8_chances 105 = .ok (.getfield 10, 3) := by decide +kernel
theorem dX8_chances_108 : decode cX8_chances 108 = .ok (.getfield 79, 3) := by decide +kernel
theorem dX8_chances_111 : decode cX8_chances 111 = .ok (.getfield 160, 3) := by decide +kernel
theorem dX8_chances_114 : decode cX8_chances 114 = .ok (.iand, 1) := by decide +kernel
theorem dX8_chances_115 : decode cX8_chances 115 = .ok (.ifCond .eq 12, 3) := by decide +kernel
theorem dX8_chances_118 : decode cX8_chances 118 = .ok (.aload_n 0, 1) := by decide +kernel
theorem dX8_chances_119 : decode cX8_chances 119 = .ok (.iload_n 2, 1) := by decide +kernel
theorem dX8_chances_120 : decode cX8_chances 120 = .ok (.iload_n 3, 1) := by decide +kernel
theorem dX8_chances_121 : decode cX8_chances 121 = .ok (.invokevirtual 318, 3) := by decide +kernel
theorem dX8_chances_124 : decode cX8_chances 124 = .ok (.goto 12, 3) := by decide +kernel
theorem dX8_chances_127 : decode cX8_chances 127 = .ok (.aload_n 0, 1) := by decide +kernel
theorem dX8_chances_128 : decode cX8_chances 128 = .ok (.iload_n 2, 1) := by decide +kernel
theorem dX8_chances_129 : decode cX8_chances 129 = .ok (.iload_n 3, 1) := by decide +kernel
theorem dX8_chances_130 : decode cX8_chances 130 = .ok (.invokevirtual 318, 3) := by decide +kernel
theorem dX8_chances_133 : decode cX8_chances 133 = .ok (.lload 6, 2) := by decide +kernel
theorem dX8_chances_135 : decode cX8_chances 135 = .ok (.lsub, 1) := by decide +kernel
theorem dX8_chances_136 : decode cX8_chances 136 = .ok (.lreturn, 1) := by decide +kernel
theorem dX8_power_0 : decode cX8_power 0 = .ok (.lconst 1, 1) := by decide +kernel
theorem dX8_power_1 : decode cX8_power 1 = .ok (.lstore_n 2, 1) := by decide +kernel
theorem dX8_power_2 : decode cX8_power 2 = .ok (.iconst 0, 1) := by decide +kernel
theorem dX8_power_3 : decode cX8_power 3 = .ok (.istore 4, 2) := by decide +kernel
theorem dX8_power_5 : decode cX8_power 5 = .ok (.iload 4, 2) := by decide +kernel
theorem dX8_power_7 : decode cX8_power 7 = .ok (.iload_n 1, 1) := by decide +kernel
theorem dX8_power_8 : decode cX8_power 8 = .ok (.if_icmp .ge 14, 3) := by decide +kernel
theorem dX8_power_11 : decode cX8_power 11 = .ok (.lload_n 2, 1) := by decide +kernel
theorem dX8_power_12 : decode cX8_power 12 = .ok (.iload_n 0, 1) := by decide +kernel
theorem dX8_power_13 : decode cX8_power 13 = .ok (.i2l, 1) := by decide +kernel
theorem dX8_power_14 : decode cX8_power 14 = .ok (.lmul, 1) := by decide +kernel
theorem dX8_power_15 : decode cX8_power 15 = .ok (.lstore_n 2, 1) := by decide +kernel
theorem dX8_power_16 : decode cX8_power 16 = .ok (.iinc 4 1, 3) := by decide +kernel
theorem dX8_power_19 : decode cX8_power 19 = .ok (.goto (-14), 3) := by decide +kernel
theorem dX8_power_22 : decode cX8_power 22 = .ok (.lload_n 2, 1) := by decide +kernel
theorem dX8_power_23 : decode cX8_power 23 = .ok (.lreturn, 1) := by decide +kernel
theorem dX8_lowestTerm_0 : decode cX8_lowestTerm 0 = .ok (.lload_n 2, 1) := by decide +kernel
theorem dX8_lowestTerm_1 : decode cX8_lowestTerm 1 = .ok (.lstore 5, 2) := by decide +kernel
theorem dX8_lowestTerm_3 : decode cX8_lowestTerm 3 = .ok (.lload_n 0, 1) := by decide +kernel
theorem dX8_lowestTerm_4 : decode cX8_lowestTerm 4 = .ok (.lstore 7, 2) := by decide +kernel
theorem dX8_lowestTerm_6 : decode cX8_lowestTerm 6 = .ok (.iconst 0, 1) := by decide +kernel
theorem dX8_lowestTerm_7 : decode cX8_lowestTerm 7 = .ok (.istore 9, 2) := by decide +kernel
theorem dX8_lowestTerm_9 : decode cX8_lowestTerm 9 = .ok (.iload 9, 2) := by decide +kernel
theorem dX8_lowestTerm_11 : decode cX8_lowestTerm 11 = .ok (.bipush 100, 2) := by decide +kernel
theorem dX8_lowestTerm_13 : decode cX8_lowestTerm 13 = .ok (.if_icmp .ge 31, 3) := by decide +kernel
theorem dX8_lowestTerm_16 : decode cX8_lowestTerm 16 = .ok (.lload 7, 2) := by decide +kernel
theorem dX8_lowestTerm_18 : decode cX8_lowestTerm 18 = .ok (.lconst 0, 1) := by decide +kernel
theorem dX8_lowestTerm_19 : decode cX8_lowestTerm 19 = .ok (.lcmp, 1) := by decide +kernel
theorem dX8_lowestTerm_20 : decode cX8_lowestTerm 20 = .ok (.ifCond .eq 24, 3) := by decide +kernel
theorem dX8_lowestTerm_23 : decode cX8_lowestTerm 23 = .ok (.lload 5, 2) := by decide +kernel
theorem dX8_lowestTerm_25 : decode cX8_lowestTerm 25 = .ok (.lload 7, 2) := by decide +kernel
theorem dX8_lowestTerm_27 : decode cX8_lowestTerm 27 = .ok (.lrem, 1) := by decide +kernel
theorem dX8_lowestTerm_28 : decode cX8_lowestTerm 28 = .ok (.lstore 10, 2) := by decide +kernel
theorem dX8_lowestTerm_30 : decode cX8_lowestTerm 30 = .ok (.lload 7, 2) := by decide +kernel
theorem dX8_lowestTerm_32 : decode cX8_lowestTerm 32 = .ok (.lstore 5, 2) := by decide +kernel
theorem dX8_lowestTerm_34 : decode cX8_lowestTerm 34 = .ok (.lload 10, 2) := by decide +kernel
theorem dX8_lowestTerm_36 : decode cX8_lowestTerm 36 = .ok (.lstore 7, 2) := by decide +kernel
theorem dX8_lowestTerm_38 : decode cX8_lowestTerm 38 = .ok (.iinc 9 1, 3) := by decide +kernel
theorem dX8_lowestTerm_41 : decode cX8_lowestTerm 41 = .ok (.goto (-32), 3) := by decide +kernel
theorem dX8_lowestTerm_44 : decode cX8_lowestTerm 44 = .ok (.iload 4, 2) := by decide +kernel
theorem dX8_lowestTerm_46 : decode cX8_lowestTerm 46 = .ok (.ifCond .eq 7, 3) := by decide +kernel
theorem dX8_lowestTerm_49 : decode cX8_lowestTerm 49 = .ok (.lload_n 2, 1) := by decide +kernel
theorem dX8_lowestTerm_50 : decode cX8_lowestTerm 50 = .ok (.goto 4, 3) := by decide +kernel
theorem dX8_lowestTerm_53 : decode cX8_lowestTerm 53 = .ok (.lload_n 0, 1) := by decide +kernel
theorem dX8_lowestTerm_54 : decode cX8_lowestTerm 54 = .ok (.lstore 9, 2) := by decide +kernel
theorem dX8_lowestTerm_56 : decode cX8_lowestTerm 56 = .ok (.lload 5, 2) := by decide +kernel
theorem dX8_lowestTerm_58 : decode cX8_lowestTerm 58 = .ok (.lconst 0, 1) := by decide +kernel
theorem dX8_lowestTerm_59 : decode cX8_lowestTerm 59 = .ok (.lcmp, 1) := by decide +kernel
theorem dX8_lowestTerm_60 : decode cX8_lowestTerm 60 = .ok (.ifCond .ne 8, 3) := by decide +kernel
theorem dX8_lowestTerm_63 : decode cX8_lowestTerm 63 = .ok (.lload 9, 2) := by decide +kernel
theorem dX8_lowestTerm_65 : decode cX8_lowestTerm 65 = .ok (.goto 8, 3) := by decide +kernel
theorem dX8_lowestTerm_68 : decode cX8_lowestTerm 68 = .ok (.lload 9, 2) := by decide +kernel
theorem dX8_lowestTerm_70 : decode cX8_lowestTerm 70 = .ok (.lload 5, 2) := by decide +kernel
theorem dX8_lowestTerm_72 : decode cX8_lowestTerm 72 = .ok (.ldiv, 1) := by decide +kernel
theorem dX8_lowestTerm_73 : decode cX8_lowestTerm 73 = .ok (.lreturn, 1) := by decide +kernel
theorem dX8_least_0 : decode cX8_least 0 = .ok (.aload_n 0, 1) := by decide +kernel
theorem dX8_least_1 : decode cX8_least 1 = .ok (.iload_n 1, 1) := by decide +kernel
theorem dX8_least_2 : decode cX8_least 2 = .ok (.invokevirtual 329, 3) := by decide +kernel
theorem dX8_least_5 : decode cX8_least 5 = .ok (.ifCond .ne 5, 3) := by decide +kernel
theorem dX8_least_8 : decode cX8_least 8 = .ok (.iconst (-1), 1) := by decide +kernel
theorem dX8_least_9 : decode cX8_least 9 = .ok (.ireturn, 1) := by decide +kernel
theorem dX8_least_10 : decode cX8_least 10 = .ok (.aload_n 0, 1) := by decide +kernel
theorem dX8_least_11 : decode cX8_least 11 = .ok (.iload_n 1, 1) := by decide +kernel
theorem dX8_least_12 : decode cX8_least 12 = .ok (.invokevirtual 332, 3) := by decide +kernel
theorem dX8_least_15 : decode cX8_least 15 = .ok (.aload_n 0, 1) := by decide +kernel
theorem dX8_least_16 : decode cX8_least 16 = .ok (.getfield 10, 3) := by decide +kernel
theorem dX8_least_19 : decode cX8_least 19 = .ok (.getfield 79, 3) := by decide +kernel
theorem dX8_least_22 : decode cX8_least 22 = .ok (.getfield 160, 3) := by decide +kernel
theorem dX8_least_25 : decode cX8_least 25 = .ok (.iconst (-1), 1) := by decide +kernel
theorem dX8_least_26 : decode cX8_least 26 = .ok (.ixor, 1) := by decide +kernel
theorem dX8_least_27 : decode cX8_least 27 = .ok (.iand, 1) := by decide +kernel
theorem dX8_least_28 : decode cX8_least 28 = .ok (.istore_n 3, 1) := by decide +kernel
theorem dX8_least_29 : decode cX8_least 29 = .ok (.iload_n 3, 1) := by decide +kernel
theorem dX8_least_30 : decode cX8_least 30 = .ok (.istore 4, 2) := by decide +kernel
theorem dX8_least_32 : decode cX8_least 32 = .ok (.aload_n 0, 1) := by decide +kernel
theorem dX8_least_33 : decode cX8_least 33 = .ok (.iload 4, 2) := by decide +kernel
theorem dX8_least_35 : decode cX8_least 35 = .ok (.invokevirtual 335, 3) := by decide +kernel
theorem dX8_least_38 : decode cX8_least 38 = .ok (.istore 5, 2) := by decide +kernel
theorem dX8_least_40 : decode cX8_least 40 = .ok (.iconst 0, 1) := by decide +kernel
theorem dX8_least_41 : decode cX8_least 41 = .ok (.istore 6, 2) := by decide +kernel
theorem dX8_least_43 : decode cX8_least 43 = .ok (.iload 6, 2) := by decide +kernel
theorem dX8_least_45 : decode cX8_least 45 = .ok (.iload_n 3, 1) := by decide +kernel
theorem dX8_least_46 : decode cX8_least 46 = .ok (.if_icmp .ge 62, 3) := by decide +kernel
theorem dX8_least_49 : decode cX8_least 49 = .ok (.iload 6, 2) := by decide +kernel
theorem dX8_least_51 : decode cX8_least 51 = .ok (.iload_n 3, 1) := by decide +kernel
theorem dX8_least_52 : decode cX8_least 52 = .ok (.iconst (-1), 1) := by decide +kernel
theorem dX8_least_53 : decode cX8_least 53 = .ok (.ixor, 1) := by decide +kernel
theorem dX8_least_54 : decode cX8_least 54 = .ok (.iand, 1) := by decide +kernel
theorem dX8_least_55 : decode cX8_least 55 = .ok (.ifCond .ne 47, 3) := by decide +kernel
theorem dX8_least_58 : decode cX8_least 58 = .ok (.aload_n 0, 1) := by decide +kernel
theorem dX8_least_59 : decode cX8_least 59 = .ok (.iload 6, 2) := by decide +kernel
theorem dX8_least_61 : decode cX8_least 61 = .ok (.invokevirtual 335, 3) := by decide +kernel
theorem dX8_least_64 : decode cX8_least 64 = .ok (.iload 5, 2) := by decide +kernel
theorem dX8_least_66 : decode cX8_least 66 = .ok (.if_icmp .ge 36, 3) := by decide +kernel
theorem dX8_least_69 : decode cX8_least 69 = .ok (.aload_n 0, 1) := by decide +kernel
theorem dX8_least_70 : decode cX8_least 70 = .ok (.iload_n 1, 1) := by decide +kernel
theorem dX8_least_71 : decode cX8_least 71 = .ok (.aload_n 0, 1) := by decide +kernel
theorem dX8_least_72 : decode cX8_least 72 = .ok (.getfield 10, 3) := by decide +kernel
theorem dX8_least_75 : decode cX8_least 75 = .ok (.getfield 79, 3) := by decide +kernel
theorem dX8_least_78 : decode cX8_least 78 = .ok (.getfield 160, 3) := by decide +kernel
theorem dX8_least_81 : decode cX8_least 81 = .ok (.iload 6, 2) := by decide +kernel
theorem dX8_least_83 : decode cX8_least 83 = .ok (.ior, 1) := by decide +kernel
theorem dX8_least_84 : decode cX8_least 84 = .ok (.invokevirtual 338, 3) := by decide +kernel
theorem dX8_least_87 : decode cX8_least 87 = .ok (.ifCond .eq 15, 3) := by decide +kernel
theorem dX8_least_90 : decode cX8_least 90 = .ok (.iload 6, 2) := by decide +kernel
theorem dX8_least_92 : decode cX8_least 92 = .ok (.istore 4, 2) := by decide +kernel
theorem dX8_least_94 : decode cX8_least 94 = .ok (.aload_n 0, 1) := by decide +kernel
theorem dX8_least_95 : decode cX8_least 95 = .ok (.iload 6, 2) := by decide +kernel
theorem dX8_least_97 : decode cX8_least 97 = .ok (.invokevirtual 335, 3) := by decide +kernel
theorem dX8_least_100 : decode cX8_least 100 = .ok (.istore 5, 2) := by decide +kernel
theorem dX8_least_102 : decode cX8_least 102 = .ok (.iinc 6 1, 3) := by decide +kernel
theorem dX8_least_105 : decode cX8_least 105 = .ok (.goto (-62), 3) := by decide +kernel
theorem dX8_least_108 : decode cX8_least 108 = .ok (.iload_n 2, 1) := by decide +kernel
theorem dX8_least_109 : decode cX8_least 109 = .ok (.ifCond .eq 12, 3) := by decide +kernel
theorem dX8_least_112 : decode cX8_least 112 = .ok (.aload_n 0, 1) := by decide +kernel
theorem dX8_least_113 : decode cX8_least 113 = .ok (.iload 4, 2) := by decide +kernel
theorem dX8_least_115 : decode cX8_least 115 = .ok (.invokevirtual 341, 3) := by decide +kernel
theorem dX8_least_118 : decode cX8_least 118 = .ok (.goto 5, 3) := by decide +kernel
theorem dX8_least_121 : decode cX8_least 121 = .ok (.iload 4, 2) := by decide +kernel
theorem dX8_least_123 : decode cX8_least 123 = .ok (.ireturn, 1) := by decide +kernel
theorem dX8_weightOf_0 : decode cX8_weightOf 0 = .ok (.aload_n 0, 1) := by decide +kernel
theorem dX8_weightOf_1 : decode cX8_weightOf 1 = .ok (.iload_n 1, 1) := by decide +kernel
theorem dX8_weightOf_2 : decode cX8_weightOf 2 = .ok (.invokevirtual 341, 3) := by decide +kernel
theorem dX8_weightOf_5 : decode cX8_weightOf 5 = .ok (.bipush 9, 2) := by decide +kernel
theorem dX8_weightOf_7 : decode cX8_weightOf 7 = .ok (.imul, 1) := by decide +kernel
theorem dX8_weightOf_8 : decode cX8_weightOf 8 = .ok (.iload_n 1, 1) := by decide +kernel
theorem dX8_weightOf_9 : decode cX8_weightOf 9 = .ok (.invokestatic 279, 3) := by decide +kernel
theorem dX8_weightOf_12 : decode cX8_weightOf 12 = .ok (.iadd, 1) := by decide +kernel
theorem dX8_weightOf_13 : decode cX8_weightOf 13 = .ok (.ireturn, 1) := by decide +kernel
theorem dX8_factsOf_0 : decode cX8_factsOf 0 = .ok (.iconst 0, 1) := by decide +kernel
theorem dX8_factsOf_1 : decode cX8_factsOf 1 = .ok (.istore_n 2, 1) := by decide +kernel
theorem dX8_factsOf_2 : decode cX8_factsOf 2 = .ok (.iconst 0, 1) := by decide +kernel
theorem dX8_factsOf_3 : decode cX8_factsOf 3 = .ok (.istore_n 3, 1) := by decide +kernel
theorem dX8_factsOf_4 : decode cX8_factsOf 4 = .ok (.iload_n 3, 1) := by decide +kernel
theorem dX8_factsOf_5 : decode cX8_factsOf 5 = .ok (.aload_n 0, 1) := by decide +kernel
theorem dX8_factsOf_6 : decode cX8_factsOf 6 = .ok (.getfield 10, 3) := by decide +kernel
theorem dX8_factsOf_9 : decode cX8_factsOf 9 = .ok (.getfield 79, 3) := by decide +kernel
theorem dX8_factsOf_12 : decode cX8_factsOf 12 = .ok (.getfield 127, 3) := by decide +kernel
theorem dX8_factsOf_15 : decode cX8_factsOf 15 = .ok (.getfield 130, 3) := by decide +kernel
theorem dX8_factsOf_18 : decode cX8_factsOf 18 = .ok (.if_icmp .ge 40, 3) := by decide +kernel
theorem dX8_factsOf_21 : decode cX8_factsOf 21 = .ok (.iload_n 2, 1) := by decide +kernel
theorem dX8_factsOf_22 : decode cX8_factsOf 22 = .ok (.iload_n 1, 1) := by decide +kernel
theorem dX8_factsOf_23 : decode cX8_factsOf 23 = .ok (.iload_n 3, 1) := by decide +kernel
theorem dX8_factsOf_24 : decode cX8_factsOf 24 = .ok (.invokestatic 163, 3) := by decide +kernel
theorem dX8_factsOf_27 : decode cX8_factsOf 27 = .ok (.iand, 1) := by decide +kernel
theorem dX8_factsOf_28 : decode cX8_factsOf 28 = .ok (.ifCond .ne 7, 3) := by decide +kernel
theorem dX8_factsOf_31 : decode cX8_factsOf 31 = .ok (.iconst 0, 1) := by decide +kernel
theorem dX8_factsOf_32 : decode cX8_factsOf 32 = .ok (.goto 18, 3) := by decide +kernel
theorem dX8_factsOf_35 : decode cX8_factsOf 35 = .ok (.aload_n 0, 1) := by decide +kernel
theorem dX8_factsOf_36 : decode cX8_factsOf 36 = .ok (.getfield 10, 3) := by decide +kernel
theorem dX8_factsOf_39 : decode cX8_factsOf 39 = .ok (.getfield 79, 3) := by decide +kernel
theorem dX8_factsOf_42 : decode cX8_factsOf 42 = .ok (.getfield 127, 3) := by decide +kernel
theorem dX8_factsOf_45 : decode cX8_factsOf 45 = .ok (.iload_n 3, 1) := by decide +kernel
theorem dX8_factsOf_46 : decode cX8_factsOf 46 = .ok (.iconst 2, 1) := by decide +kernel
theorem dX8_factsOf_47 : decode cX8_factsOf 47 = .ok (.invokevirtual 143, 3) := by decide +kernel
theorem dX8_factsOf_50 : decode cX8_factsOf 50 = .ok (.ior, 1) := by decide +kernel
theorem dX8_factsOf_51 : decode cX8_factsOf 51 = .ok (.istore_n 2, 1) := by decide +kernel
theorem dX8_factsOf_52 : decode cX8_factsOf 52 = .ok (.iinc 3 1, 3) := by decide +kernel
theorem dX8_factsOf_55 : decode cX8_factsOf 55 = .ok (.goto (-51), 3) := by decide +kernel
theorem dX8_factsOf_58 : decode cX8_factsOf 58 = .ok (.iload_n 2, 1) := by decide +kernel
theorem dX8_factsOf_59 : decode cX8_factsOf 59 = .ok (.ireturn, 1) := by decide +kernel
theorem dX8_costOf_0 : decode cX8_costOf 0 = .ok (.iconst 0, 1) := by decide +kernel
theorem dX8_costOf_1 : decode cX8_costOf 1 = .ok (.istore_n 2, 1) := by decide +kernel
theorem dX8_costOf_2 : decode cX8_costOf 2 = .ok (.iconst 0, 1) := by decide +kernel
theorem dX8_costOf_3 : decode cX8_costOf 3 = .ok (.istore_n 3, 1) := by decide +kernel
theorem dX8_costOf_4 : decode cX8_costOf 4 = .ok (.iload_n 3, 1) := by decide +kernel
theorem dX8_costOf_5 : decode cX8_costOf 5 = .ok (.aload_n 0, 1) := by decide +kernel
theorem dX8_costOf_6 : decode cX8_costOf 6 = .ok (.getfield 10, 3) := by decide +kernel
theorem dX8_costOf_9 : decode cX8_costOf 9 = .ok (.getfield 65, 3) := by decide +kernel
theorem dX8_costOf_12 : decode cX8_costOf 12 = .ok (.getfield 130, 3) := by decide +kernel
theorem dX8_costOf_15 : decode cX8_costOf 15 = .ok (.if_icmp .ge 37, 3) := by decide +kernel
theorem dX8_costOf_18 : decode cX8_costOf 18 = .ok (.iload_n 2, 1) := by decide +kernel
theorem dX8_costOf_19 : decode cX8_costOf 19 = .ok (.iload_n 1, 1) := by decide +kernel
theorem dX8_costOf_20 : decode cX8_costOf 20 = .ok (.iload_n 3, 1) := by decide +kernel
theorem dX8_costOf_21 : decode cX8_costOf 21 = .ok (.invokestatic 163, 3) := by decide +kernel
theorem dX8_costOf_24 : decode cX8_costOf 24 = .ok (.iand, 1) := by decide +kernel
theorem dX8_costOf_25 : decode cX8_costOf 25 = .ok (.ifCond .ne 7, 3) := by decide +kernel
theorem dX8_costOf_28 : decode cX8_costOf 28 = .ok (.iconst 0, 1) := by decide +kernel
theorem dX8_costOf_29 : decode cX8_costOf 29 = .ok (.goto 15, 3) := by decide +kernel
theorem dX8_costOf_32 : decode cX8_costOf 32 = .ok (.aload_n 0, 1) := by decide +kernel
theorem dX8_costOf_33 : decode cX8_costOf 33 = .ok (.getfield 10, 3) := by decide +kernel
theorem dX8_costOf_36 : decode cX8_costOf 36 = .ok (.getfield 65, 3) := by decide +kernel
theorem dX8_costOf_39 : decode cX8_costOf 39 = .ok (.iload_n 3, 1) := by decide +kernel
theorem dX8_costOf_40 : decode cX8_costOf 40 = .ok (.iconst 1, 1) := by decide +kernel
theorem dX8_costOf_41 : decode cX8_costOf 41 = .ok (.invokevirtual 143, 3) := by decide +kernel
theorem dX8_costOf_44 : decode cX8_costOf 44 = .ok (.iadd, 1) := by decide +kernel
theorem dX8_costOf_45 : decode cX8_costOf 45 = .ok (.istore_n 2, 1) := by decide +kernel
theorem dX8_costOf_46 : decode cX8_costOf 46 = .ok (.iinc 3 1, 3) := by decide +kernel
theorem dX8_costOf_49 : decode cX8_costOf 49 = .ok (.goto (-45), 3) := by decide +kernel
theorem dX8_costOf_52 : decode cX8_costOf 52 = .ok (.iload_n 2, 1) := by decide +kernel
theorem dX8_costOf_53 : decode cX8_costOf 53 = .ok (.ireturn, 1) := by decide +kernel
theorem dX8_eachHolds_0 : decode cX8_eachHolds 0 = .ok (.iconst 0, 1) := by decide +kernel
theorem dX8_eachHolds_1 : decode cX8_eachHolds 1 = .ok (.istore_n 3, 1) := by decide +kernel
theorem dX8_eachHolds_2 : decode cX8_eachHolds 2 = .ok (.iload_n 3, 1) := by decide +kernel
theorem dX8_eachHolds_3 : decode cX8_eachHolds 3 = .ok (.aload_n 0, 1) := by decide +kernel
theorem dX8_eachHolds_4 : decode cX8_eachHolds 4 = .ok (.getfield 10, 3) := by decide +kernel
theorem dX8_eachHolds_7 : decode cX8_eachHolds 7 = .ok (.getfield 79, 3) := by decide +kernel
theorem dX8_eachHolds_10 : decode cX8_eachHolds 10 = .ok (.getfield 127, 3) := by decide +kernel
theorem dX8_eachHolds_13 : decode cX8_eachHolds 13 = .ok (.getfield 130, 3) := by decide +kernel
theorem dX8_eachHolds_16 : decode cX8_eachHolds 16 = .ok (.if_icmp .ge 35, 3) := by decide +kernel
theorem dX8_eachHolds_19 : decode cX8_eachHolds 19 = .ok (.iload_n 1, 1) := by decide +kernel
theorem dX8_eachHolds_20 : decode cX8_eachHolds 20 = .ok (.iload_n 3, 1) := by decide +kernel
theorem dX8_eachHolds_21 : decode cX8_eachHolds 21 = .ok (.invokestatic 163, 3) := by decide +kernel
theorem dX8_eachHolds_24 : decode cX8_eachHolds 24 = .ok (.iand, 1) := by decide +kernel
theorem dX8_eachHolds_25 : decode cX8_eachHolds 25 = .ok (.ifCond .eq 20, 3) := by decide +kernel
theorem dX8_eachHolds_28 : decode cX8_eachHolds 28 = .ok (.aload_n 0, 1) := by decide +kernel
theorem dX8_eachHolds_29 : decode cX8_eachHolds 29 = .ok (.getfield 10, 3) := by decide +kernel
theorem dX8_eachHolds_32 : decode cX8_eachHolds 32 = .ok (.getfield 79, 3) := by decide +kernel
theorem dX8_eachHolds_35 : decode cX8_eachHolds 35 = .ok (.iload_n 3, 1) := by decide +kernel
theorem dX8_eachHolds_36 : decode cX8_eachHolds 36 = .ok (.iload_n 2, 1) := by decide +kernel
theorem dX8_eachHolds_37 : decode cX8_eachHolds 37 = .ok (.invokevirtual 344, 3) := by decide +kernel
theorem dX8_eachHolds_40 : decode cX8_eachHolds 40 = .ok (.ifCond .ne 5, 3) := by decide +kernel
theorem dX8_eachHolds_43 : decode cX8_eachHolds 43 = .ok (.iconst 0, 1) := by decide +kernel
theorem dX8_eachHolds_44 : decode cX8_eachHolds 44 = .ok (.ireturn, 1) := by decide +kernel
theorem dX8_eachHolds_45 : decode cX8_eachHolds 45 = .ok (.iinc 3 1, 3) := by decide +kernel
theorem dX8_eachHolds_48 : decode cX8_eachHolds 48 = .ok (.goto (-46), 3) := by decide +kernel
theorem dX8_eachHolds_51 : decode cX8_eachHolds 51 = .ok (.iconst 1, 1) := by decide +kernel
theorem dX8_eachHolds_52 : decode cX8_eachHolds 52 = .ok (.ireturn, 1) := by decide +kernel
theorem dX8_stop_0 : decode cX8_stop 0 = .ok (.aload_n 0, 1) := by decide +kernel
theorem dX8_stop_1 : decode cX8_stop 1 = .ok (.iload_n 1, 1) := by decide +kernel
theorem dX8_stop_2 : decode cX8_stop 2 = .ok (.invokevirtual 329, 3) := by decide +kernel
theorem dX8_stop_5 : decode cX8_stop 5 = .ok (.ifCond .ne 5, 3) := by decide +kernel
theorem dX8_stop_8 : decode cX8_stop 8 = .ok (.iconst (-1), 1) := by decide +kernel
theorem dX8_stop_9 : decode cX8_stop 9 = .ok (.ireturn, 1) := by decide +kernel
theorem dX8_stop_10 : decode cX8_stop 10 = .ok (.aload_n 0, 1) := by decide +kernel
theorem dX8_stop_11 : decode cX8_stop 11 = .ok (.iload_n 1, 1) := by decide +kernel
theorem dX8_stop_12 : decode cX8_stop 12 = .ok (.invokevirtual 332, 3) := by decide +kernel
theorem dX8_stop_15 : decode cX8_stop 15 = .ok (.istore_n 2, 1) := by decide +kernel
theorem dX8_stop_16 : decode cX8_stop 16 = .ok (.iload_n 2, 1) := by decide +kernel
theorem dX8_stop_17 : decode cX8_stop 17 = .ok (.istore_n 3, 1) := by decide +kernel
theorem dX8_stop_18 : decode cX8_stop 18 = .ok (.iconst 0, 1) := by decide +kernel
theorem dX8_stop_19 : decode cX8_stop 19 = .ok (.istore 4, 2) := by decide +kernel
theorem dX8_stop_21 : decode cX8_stop 21 = .ok (.iload 4, 2) := by decide +kernel
theorem dX8_stop_23 : decode cX8_stop 23 = .ok (.iload_n 2, 1) := by decide +kernel
theorem dX8_stop_24 : decode cX8_stop 24 = .ok (.if_icmp .ge 47, 3) := by decide +kernel
theorem dX8_stop_27 : decode cX8_stop 27 = .ok (.iload 4, 2) := by decide +kernel
theorem dX8_stop_29 : decode cX8_stop 29 = .ok (.iload_n 2, 1) := by decide +kernel
theorem dX8_stop_30 : decode cX8_stop 30 = .ok (.iconst (-1), 1) := by decide +kernel
theorem dX8_stop_31 : decode cX8_stop 31 = .ok (.ixor, 1) := by decide +kernel
theorem dX8_stop_32 : decode cX8_stop 32 = .ok (.iand, 1) := by decide +kernel
theorem dX8_stop_33 : decode cX8_stop 33 = .ok (.ifCond .ne 32, 3) := by decide +kernel
theorem dX8_stop_36 : decode cX8_stop 36 = .ok (.iload 4, 2) := by decide +kernel
theorem dX8_stop_38 : decode cX8_stop 38 = .ok (.invokestatic 279, 3) := by decide +kernel
theorem dX8_stop_41 : decode cX8_stop 41 = .ok (.iload_n 3, 1) := by decide +kernel
theorem dX8_stop_42 : decode cX8_stop 42 = .ok (.invokestatic 279, 3) := by decide +kernel
theorem dX8_stop_45 : decode cX8_stop 45 = .ok (.if_icmp .ge 20, 3) := by decide +kernel
theorem dX8_stop_48 : decode cX8_stop 48 = .ok (.aload_n 0, 1) := by decide +kernel
theorem dX8_stop_49 : decode cX8_stop 49 = .ok (.iload_n 1, 1) := by decide +kernel
theorem dX8_stop_50 : decode cX8_stop 50 = .ok (.iload_n 2, 1) := by decide +kernel
theorem dX8_stop_51 : decode cX8_stop 51 = .ok (.iload 4, 2) := by decide +kernel
theorem dX8_stop_53 : decode cX8_stop 53 = .ok (.iconst (-1), 1) := by decide +kernel
theorem dX8_stop_54 : decode cX8_stop 54 = .ok (.ixor, 1) := by decide +kernel
theorem dX8_stop_55 : decode cX8_stop 55 = .ok (.iand, 1) := by decide +kernel
theorem dX8_stop_56 : decode cX8_stop 56 = .ok (.invokevirtual 347, 3) := by decide +kernel
theorem dX8_stop_59 : decode cX8_stop 59 = .ok (.ifCond .eq 6, 3) := by decide +kernel
theorem dX8_stop_62 : decode cX8_stop 62 = .ok (.iload 4, 2) := by decide +kernel
theorem dX8_stop_64 : decode cX8_stop 64 = .ok (.istore_n 3, 1) := by decide +kernel
theorem dX8_stop_65 : decode cX8_stop 65 = .ok (.iinc 4 1, 3) := by decide +kernel
theorem dX8_stop_68 : decode cX8_stop 68 = .ok (.goto (-47), 3) := by decide +kernel
theorem dX8_stop_71 : decode cX8_stop 71 = .ok (.iload_n 3, 1) := by decide +kernel
theorem dX8_stop_72 : decode cX8_stop 72 = .ok (.ireturn, 1) := by decide +kernel
theorem dX8_noneHolds_0 : decode cX8_noneHolds 0 = .ok (.iconst 0, 1) := by decide +kernel
theorem dX8_noneHolds_1 : decode cX8_noneHolds 1 = .ok (.istore_n 3, 1) := by decide +kernel
theorem dX8_noneHolds_2 : decode cX8_noneHolds 2 = .ok (.iload_n 3, 1) := by decide +kernel
theorem dX8_noneHolds_3 : decode cX8_noneHolds 3 = .ok (.aload_n 0, 1) := by decide +kernel
theorem dX8_noneHolds_4 : decode cX8_noneHolds 4 = .ok (.getfield 10, 3) := by decide +kernel
theorem dX8_noneHolds_7 : decode cX8_noneHolds 7 = .ok (.getfield 79, 3) := by decide +kernel
theorem dX8_noneHolds_10 : decode cX8_noneHolds 10 = .ok (.getfield 127, 3) := by decide +kernel
theorem dX8_noneHolds_13 : decode cX8_noneHolds 13 = .ok (.getfield 130, 3) := by decide +kernel
theorem dX8_noneHolds_16 : decode cX8_noneHolds 16 = .ok (.if_icmp .ge 35, 3) := by decide +kernel
theorem dX8_noneHolds_19 : decode cX8_noneHolds 19 = .ok (.iload_n 1, 1) := by decide +kernel
theorem dX8_noneHolds_20 : decode cX8_noneHolds 20 = .ok (.iload_n 3, 1) := by decide +kernel
theorem dX8_noneHolds_21 : decode cX8_noneHolds 21 = .ok (.invokestatic 163, 3) := by decide +kernel
theorem dX8_noneHolds_24 : decode cX8_noneHolds 24 = .ok (.iand, 1) := by decide +kernel
theorem dX8_noneHolds_25 : decode cX8_noneHolds 25 = .ok (.ifCond .eq 20, 3) := by decide +kernel
theorem dX8_noneHolds_28 : decode cX8_noneHolds 28 = .ok (.aload_n 0, 1) := by decide +kernel
theorem dX8_noneHolds_29 : decode cX8_noneHolds 29 = .ok (.getfield 10, 3) := by decide +kernel
theorem dX8_noneHolds_32 : decode cX8_noneHolds 32 = .ok (.getfield 79, 3) := by decide +kernel
theorem dX8_noneHolds_35 : decode cX8_noneHolds 35 = .ok (.iload_n 3, 1) := by decide +kernel
theorem dX8_noneHolds_36 : decode cX8_noneHolds 36 = .ok (.iload_n 2, 1) := by decide +kernel
theorem dX8_noneHolds_37 : decode cX8_noneHolds 37 = .ok (.invokevirtual 344, 3) := by decide +kernel
theorem dX8_noneHolds_40 : decode cX8_noneHolds 40 = .ok (.ifCond .eq 5, 3) := by decide +kernel
theorem dX8_noneHolds_43 : decode cX8_noneHolds 43 = .ok (.iconst 0, 1) := by decide +kernel
theorem dX8_noneHolds_44 : decode cX8_noneHolds 44 = .ok (.ireturn, 1) := by decide +kernel
theorem dX8_noneHolds_45 : decode cX8_noneHolds 45 = .ok (.iinc 3 1, 3) := by decide +kernel
theorem dX8_noneHolds_48 : decode cX8_noneHolds 48 = .ok (.goto (-46), 3) := by decide +kernel
theorem dX8_noneHolds_51 : decode cX8_noneHolds 51 = .ok (.iconst 1, 1) := by decide +kernel
theorem dX8_noneHolds_52 : decode cX8_noneHolds 52 = .ok (.ireturn, 1) := by decide +kernel
theorem dX8_allOpen_0 : decode cX8_allOpen 0 = .ok (.iconst 0, 1) := by decide +kernel
theorem dX8_allOpen_1 : decode cX8_allOpen 1 = .ok (.istore_n 2, 1) := by decide +kernel
theorem dX8_allOpen_2 : decode cX8_allOpen 2 = .ok (.iconst 0, 1) := by decide +kernel
theorem dX8_allOpen_3 : decode cX8_allOpen 3 = .ok (.istore_n 3, 1) := by decide +kernel
theorem dX8_allOpen_4 : decode cX8_allOpen 4 = .ok (.iload_n 3, 1) := by decide +kernel
theorem dX8_allOpen_5 : decode cX8_allOpen 5 = .ok (.aload_n 0, 1) := by decide +kernel
theorem dX8_allOpen_6 : decode cX8_allOpen 6 = .ok (.getfield 10, 3) := by decide +kernel
theorem dX8_allOpen_9 : decode cX8_allOpen 9 = .ok (.getfield 79, 3) := by decide +kernel
theorem dX8_allOpen_12 : decode cX8_allOpen 12 = .ok (.getfield 127, 3) := by decide +kernel
theorem dX8_allOpen_15 : decode cX8_allOpen 15 = .ok (.getfield 130, 3) := by decide +kernel
theorem dX8_allOpen_18 : decode cX8_allOpen 18 = .ok (.if_icmp .ge 34, 3) := by decide +kernel
theorem dX8_allOpen_21 : decode cX8_allOpen 21 = .ok (.iload_n 2, 1) := by decide +kernel
theorem dX8_allOpen_22 : decode cX8_allOpen 22 = .ok (.aload_n 0, 1) := by decide +kernel
theorem dX8_allOpen_23 : decode cX8_allOpen 23 = .ok (.getfield 10, 3) := by decide +kernel
theorem dX8_allOpen_26 : decode cX8_allOpen 26 = .ok (.getfield 79, 3) := by decide +kernel
theorem dX8_allOpen_29 : decode cX8_allOpen 29 = .ok (.iload_n 3, 1) := by decide +kernel
theorem dX8_allOpen_30 : decode cX8_allOpen 30 = .ok (.invokevirtual 167, 3) := by decide +kernel
theorem dX8_allOpen_33 : decode cX8_allOpen 33 = .ok (.ifCond .eq 10, 3) := by decide +kernel
theorem dX8_allOpen_36 : decode cX8_allOpen 36 = .ok (.iload_n 3, 1) := by decide +kernel
theorem dX8_allOpen_37 : decode cX8_allOpen 37 = .ok (.invokestatic 163, 3) := by decide +kernel
theorem dX8_allOpen_40 : decode cX8_allOpen 40 = .ok (.goto 4, 3) := by decide +kernel
theorem dX8_allOpen_43 : decode cX8_allOpen 43 = .ok (.iconst 0, 1) := by decide +kernel
theorem dX8_allOpen_44 : decode cX8_allOpen 44 = .ok (.ior, 1) := by decide +kernel
theorem dX8_allOpen_45 : decode cX8_allOpen 45 = .ok (.istore_n 2, 1) := by decide +kernel
theorem dX8_allOpen_46 : decode cX8_allOpen 46 = .ok (.iinc 3 1, 3) := by decide +kernel
theorem dX8_allOpen_49 : decode cX8_allOpen 49 = .ok (.goto (-45), 3) := by decide +kernel
theorem dX8_allOpen_52 : decode cX8_allOpen 52 = .ok (.iload_n 1, 1) := by decide +kernel
theorem dX8_allOpen_53 : decode cX8_allOpen 53 = .ok (.ifCond .le 15, 3) := by decide +kernel
theorem dX8_allOpen_56 : decode cX8_allOpen 56 = .ok (.iload_n 1, 1) := by decide +kernel
theorem dX8_allOpen_57 : decode cX8_allOpen 57 = .ok (.iload_n 2, 1) := by decide +kernel
theorem dX8_allOpen_58 : decode cX8_allOpen 58 = .ok (.iconst (-1), 1) := by decide +kernel
theorem dX8_allOpen_59 : decode cX8_allOpen 59 = .ok (.ixor, 1) := by decide +kernel
theorem dX8_allOpen_60 : decode cX8_allOpen 60 = .ok (.iand, 1) := by decide +kernel
theorem dX8_allOpen_61 : decode cX8_allOpen 61 = .ok (.ifCond .ne 7, 3) := by decide +kernel
theorem dX8_allOpen_64 : decode cX8_allOpen 64 = .ok (.iconst 1, 1) := by decide +kernel
theorem dX8_allOpen_65 : decode cX8_allOpen 65 = .ok (.goto 4, 3) := by decide +kernel
theorem dX8_allOpen_68 : decode cX8_allOpen 68 = .ok (.iconst 0, 1) := by decide +kernel
theorem dX8_allOpen_69 : decode cX8_allOpen 69 = .ok (.ireturn, 1) := by decide +kernel
theorem dX8_offer_0 : decode cX8_offer 0 = .ok (.aload_n 0, 1) := by decide +kernel
theorem dX8_offer_1 : decode cX8_offer 1 = .ok (.getfield 10, 3) := by decide +kernel
theorem dX8_offer_4 : decode cX8_offer 4 = .ok (.getfield 350, 3) := by decide +kernel
theorem dX8_offer_7 : decode cX8_offer 7 = .ok (.astore 5, 2) := by decide +kernel
theorem dX8_offer_9 : decode cX8_offer 9 = .ok (.iload_n 3, 1) := by decide +kernel
theorem dX8_offer_10 : decode cX8_offer 10 = .ok (.iconst (-1), 1) := by decide +kernel
theorem dX8_offer_11 : decode cX8_offer 11 = .ok (.if_icmp .ne 10, 3) := by decide +kernel
theorem dX8_offer_14 : decode cX8_offer 14 = .ok (.aload 5, 2) := by decide +kernel
theorem dX8_offer_16 : decode cX8_offer 16 = .ok (.invokevirtual 353, 3) := by decide +kernel
theorem dX8_offer_19 : decode cX8_offer 19 = .ok (.iconst 0, 1) := by decide +kernel
theorem dX8_offer_20 : decode cX8_offer 20 = .ok (.ireturn, 1) := by decide +kernel
theorem dX8_offer_21 : decode cX8_offer 21 = .ok (.aload_n 0, 1) := by decide +kernel
theorem dX8_offer_22 : decode cX8_offer 22 = .ok (.iload_n 2, 1) := by decide +kernel
theorem dX8_offer_23 : decode cX8_offer 23 = .ok (.invokevirtual 124, 3) := by decide +kernel
theorem dX8_offer_26 : decode cX8_offer 26 = .ok (.ifCond .eq 36, 3) := by decide +kernel
theorem dX8_offer_29 : decode cX8_offer 29 = .ok (.iload_n 3, 1) := by decide +kernel
theorem dX8_offer_30 : decode cX8_offer 30 = .ok (.iconst 0, 1) := by decide +kernel
theorem dX8_offer_31 : decode cX8_offer 31 = .ok (.sipush 999, 3) := by decide +kernel
theorem dX8_offer_34 : decode cX8_offer 34 = .ok (.invokestatic 61, 3) := by decide +kernel
theorem dX8_offer_37 : decode cX8_offer 37 = .ok (.ifCond .eq 25, 3) := by decide +kernel
theorem dX8_offer_40 : decode cX8_offer 40 = .ok (.iload 4, 2) := by decide +kernel
theorem dX8_offer_42 : decode cX8_offer 42 = .ok (.iconst 0, 1) := by decide +kernel
theorem dX8_offer_43 : decode cX8_offer 43 = .ok (.sipush 999, 3) := by decide +kernel
theorem dX8_offer_46 : decode cX8_offer 46 = .ok (.invokestatic 61, 3) := by decide +kernel
theorem dX8_offer_49 : decode cX8_offer 49 = .ok (.ifCond .eq 13, 3) := by decide +kernel
theorem dX8_offer_52 : decode cX8_offer 52 = .ok (.aload 5, 2) := by decide +kernel
theorem dX8_offer_54 : decode cX8_offer 54 = .ok (.getfield 130, 3) := by decide +kernel
theorem dX8_offer_57 : decode cX8_offer 57 = .ok (.bipush 8, 2) := by decide +kernel
theorem dX8_offer_59 : decode cX8_offer 59 = .ok (.if_icmp .lt 6, 3) := by decide +kernel
theorem dX8_offer_62 : decode cX8_offer 62 = .ok (.bipush (-2), 2) := by decide +kernel
theorem dX8_offer_64 : decode cX8_offer 64 = .ok (.ireturn, 1) := by decide +kernel
theorem dX8_offer_65 : decode cX8_offer 65 = .ok (.aload 5, 2) := by decide +kernel
theorem dX8_offer_67 : decode cX8_offer 67 = .ok (.invokevirtual 69, 3) := by decide +kernel
theorem dX8_offer_70 : decode cX8_offer 70 = .ok (.istore 6, 2) := by decide +kernel
theorem dX8_offer_72 : decode cX8_offer 72 = .ok (.aload 5, 2) := by decide +kernel
theorem dX8_offer_74 : decode cX8_offer 74 = .ok (.iload 6, 2) := by decide +kernel
theorem dX8_offer_76 : decode cX8_offer 76 = .ok (.iconst 0, 1) := by decide +kernel
theorem dX8_offer_77 : decode cX8_offer 77 = .ok (.iload_n 1, 1) := by decide +kernel
theorem dX8_offer_78 : decode cX8_offer 78 = .ok (.ifCond .eq 7, 3) := by decide +kernel
theorem dX8_offer_81 : decode cX8_offer 81 = .ok (.iconst 1, 1) := by decide +kernel
theorem dX8_offer_82 : decode cX8_offer 82 = .ok (.goto 4, 3) := by decide +kernel
theorem dX8_offer_85 : decode cX8_offer 85 = .ok (.iconst 0, 1) := by decide +kernel
theorem dX8_offer_86 : decode cX8_offer 86 = .ok (.invokevirtual 75, 3) := by decide +kernel
theorem dX8_offer_89 : decode cX8_offer 89 = .ok (.aload 5, 2) := by decide +kernel
theorem dX8_offer_91 : decode cX8_offer 91 = .ok (.iload 6, 2) := by decide +kernel
theorem dX8_offer_93 : decode cX8_offer 93 = .ok (.iconst 1, 1) := by decide +kernel
theorem dX8_offer_94 : decode cX8_offer 94 = .ok (.iload_n 2, 1) := by decide +kernel
theorem dX8_offer_95 : decode cX8_offer 95 = .ok (.invokevirtual 75, 3) := by decide +kernel
theorem dX8_offer_98 : decode cX8_offer 98 = .ok (.aload 5, 2) := by decide +kernel
theorem dX8_offer_100 : decode cX8_offer 100 = .ok (.iload 6, 2) := by decide +kernel
theorem dX8_offer_102 : decode cX8_offer 102 = .ok (.iconst 2, 1) := by decide +kernel
theorem dX8_offer_103 : decode cX8_offer 103 = .ok (.iload_n 3, 1) := by decide +kernel
theorem dX8_offer_104 : decode cX8_offer 104 = .ok (.invokevirtual 75, 3) := by decide +kernel
theorem dX8_offer_107 : decode cX8_offer 107 = .ok (.aload 5, 2) := by decide +kernel
theorem dX8_offer_109 : decode cX8_offer 109 = .ok (.iload 6, 2) := by decide +kernel
theorem dX8_offer_111 : decode cX8_offer 111 = .ok (.iconst 3, 1) := by decide +kernel
theorem dX8_offer_112 : decode cX8_offer 112 = .ok (.iload 4, 2) := by decide +kernel
theorem dX8_offer_114 : decode cX8_offer 114 = .ok (.invokevirtual 75, 3) := by decide +kernel
theorem dX8_offer_117 : decode cX8_offer 117 = .ok (.aload 5, 2) := by decide +kernel
theorem dX8_offer_119 : decode cX8_offer 119 = .ok (.getfield 130, 3) := by decide +kernel
theorem dX8_offer_122 : decode cX8_offer 122 = .ok (.ireturn, 1) := by decide +kernel
theorem dX8_purse_0 : decode cX8_purse 0 = .ok (.iload_n 1, 1) := by decide +kernel
theorem dX8_purse_1 : decode cX8_purse 1 = .ok (.iconst 0, 1) := by decide +kernel
theorem dX8_purse_2 : decode cX8_purse 2 = .ok (.sipush 9999, 3) := by decide +kernel
theorem dX8_purse_5 : decode cX8_purse 5 = .ok (.invokestatic 61, 3) := by decide +kernel
theorem dX8_purse_8 : decode cX8_purse 8 = .ok (.ifCond .ne 5, 3) := by decide +kernel
theorem dX8_purse_11 : decode cX8_purse 11 = .ok (.iconst (-1), 1) := by decide +kernel
theorem dX8_purse_12 : decode cX8_purse 12 = .ok (.ireturn, 1) := by decide +kernel
theorem dX8_purse_13 : decode cX8_purse 13 = .ok (.iconst 0, 1) := by decide +kernel
theorem dX8_purse_14 : decode cX8_purse 14 = .ok (.istore_n 3, 1) := by decide +kernel
theorem dX8_purse_15 : decode cX8_purse 15 = .ok (.iconst 0, 1) := by decide +kernel
theorem dX8_purse_16 : decode cX8_purse 16 = .ok (.istore 4, 2) := by decide +kernel
theorem dX8_purse_18 : decode cX8_purse 18 = .ok (.iconst 1, 1) := by decide +kernel
theorem dX8_purse_19 : decode cX8_purse 19 = .ok (.istore 5, 2) := by decide +kernel
theorem dX8_purse_21 : decode cX8_purse 21 = .ok (.iload 5, 2) := by decide +kernel
theorem dX8_purse_23 : decode cX8_purse 23 = .ok (.aload_n 0, 1) := by decide +kernel
theorem dX8_purse_24 : decode cX8_purse 24 = .ok (.getfield 10, 3) := by decide +kernel
theorem dX8_purse_27 : decode cX8_purse 27 = .ok (.getfield 350, 3) := by decide +kernel
theorem dX8_purse_30 : decode cX8_purse 30 = .ok (.getfield 130, 3) := by decide +kernel
theorem dX8_purse_33 : decode cX8_purse 33 = .ok (.invokestatic 163, 3) := by decide +kernel
theorem dX8_purse_36 : decode cX8_purse 36 = .ok (.if_icmp .ge 46, 3) := by decide +kernel
theorem dX8_purse_39 : decode cX8_purse 39 = .ok (.aload_n 0, 1) := by decide +kernel
theorem dX8_purse_40 : decode cX8_purse 40 = .ok (.iload 5, 2) := by decide +kernel
theorem dX8_purse_42 : decode cX8_purse 42 = .ok (.iconst 2, 1) := by decide +kernel
theorem dX8_purse_43 : decode cX8_purse 43 = .ok (.invokevirtual 356, 3) := by decide +kernel
theorem dX8_purse_46 : decode cX8_purse 46 = .ok (.istore 6, 2) := by decide +kernel
theorem dX8_purse_48 : decode cX8_purse 48 = .ok (.iload 6, 2) := by decide +kernel
theorem dX8_purse_50 : decode cX8_purse 50 = .ok (.iload 4, 2) := by decide +kernel
theorem dX8_purse_52 : decode cX8_purse 52 = .ok (.if_icmp .le 24, 3) := by decide +kernel
theorem dX8_purse_55 : decode cX8_purse 55 = .ok (.aload_n 0, 1) := by decide +kernel
theorem dX8_purse_56 : decode cX8_purse 56 = .ok (.iload 5, 2) := by decide +kernel
theorem dX8_purse_58 : decode cX8_purse 58 = .ok (.iconst 3, 1) := by decide +kernel
theorem dX8_purse_59 : decode cX8_purse 59 = .ok (.invokevirtual 356, 3) := by decide +kernel
theorem dX8_purse_62 : decode cX8_purse 62 = .ok (.iload_n 1, 1) := by decide +kernel
theorem dX8_purse_63 : decode cX8_purse 63 = .ok (.iload 6, 2) := by decide +kernel
theorem dX8_purse_65 : decode cX8_purse 65 = .ok (.iadd, 1) := by decide +kernel
theorem dX8_purse_66 : decode cX8_purse 66 = .ok (.if_icmp .gt 10, 3) := by decide +kernel
theorem dX8_purse_69 : decode cX8_purse 69 = .ok (.iload 5, 2) := by decide +kernel
theorem dX8_purse_71 : decode cX8_purse 71 = .ok (.istore_n 3, 1) := by decide +kernel
theorem dX8_purse_72 : decode cX8_purse 72 = .ok (.iload 6, 2) := by decide +kernel
theorem dX8_purse_74 : decode cX8_purse 74 = .ok (.istore 4, 2) := by decide +kernel
theorem dX8_purse_76 : decode cX8_purse 76 = .ok (.iinc 5 1, 3) := by decide +kernel
theorem dX8_purse_79 : decode cX8_purse 79 = .ok (.goto (-58), 3) := by decide +kernel
theorem dX8_purse_82 : decode cX8_purse 82 = .ok (.iload_n 2, 1) := by decide +kernel
theorem dX8_purse_83 : decode cX8_purse 83 = .ok (.ifCond .eq 8, 3) := by decide +kernel
theorem dX8_purse_86 : decode cX8_purse 86 = .ok (.iload 4, 2) := by decide +kernel
theorem dX8_purse_88 : decode cX8_purse 88 = .ok (.goto 4, 3) := by decide +kernel
theorem dX8_purse_91 : decode cX8_purse 91 = .ok (.iload_n 3, 1) := by decide +kernel
theorem dX8_purse_92 : decode cX8_purse 92 = .ok (.ireturn, 1) := by decide +kernel
theorem dX8_worst_0 : decode cX8_worst 0 = .ok (.iload_n 1, 1) := by decide +kernel
theorem dX8_worst_1 : decode cX8_worst 1 = .ok (.iconst 0, 1) := by decide +kernel
theorem dX8_worst_2 : decode cX8_worst 2 = .ok (.aload_n 0, 1) := by decide +kernel
theorem dX8_worst_3 : decode cX8_worst 3 = .ok (.getfield 10, 3) := by decide +kernel
theorem dX8_worst_6 : decode cX8_worst 6 = .ok (.getfield 350, 3) := by decide +kernel
theorem dX8_worst_9 : decode cX8_worst 9 = .ok (.getfield 130, 3) := by decide +kernel
theorem dX8_worst_12 : decode cX8_worst 12 = .ok (.invokestatic 163, 3) := by decide +kernel
theorem dX8_worst_15 : decode cX8_worst 15 = .ok (.iconst 1, 1) := by decide +kernel
theorem dX8_worst_16 : decode cX8_worst 16 = .ok (.isub, 1) := by decide +kernel
theorem dX8_worst_17 : decode cX8_worst 17 = .ok (.invokestatic 61, 3) := by decide +kernel
theorem dX8_worst_20 : decode cX8_worst 20 = .ok (.ifCond .ne 5, 3) := by decide +kernel
theorem dX8_worst_23 : decode cX8_worst 23 = .ok (.iconst (-1), 1) := by decide +kernel
theorem dX8_worst_24 : decode cX8_worst 24 = .ok (.ireturn, 1) := by decide +kernel
theorem dX8_worst_25 : decode cX8_worst 25 = .ok (.aload_n 0, 1) := by decide +kernel
theorem dX8_worst_26 : decode cX8_worst 26 = .ok (.iload_n 1, 1) := by decide +kernel
theorem dX8_worst_27 : decode cX8_worst 27 = .ok (.iconst 3, 1) := by decide +kernel
theorem dX8_worst_28 : decode cX8_worst 28 = .ok (.invokevirtual 356, 3) := by decide +kernel
theorem dX8_worst_31 : decode cX8_worst 31 = .ok (.ireturn, 1) := by decide +kernel
theorem dX8_sumOf_0 : decode cX8_sumOf 0 = .ok (.iconst 0, 1) := by decide +kernel
theorem dX8_sumOf_1 : decode cX8_sumOf 1 = .ok (.istore_n 3, 1) := by decide +kernel
theorem dX8_sumOf_2 : decode cX8_sumOf 2 = .ok (.iconst 0, 1) := by decide +kernel
theorem dX8_sumOf_3 : decode cX8_sumOf 3 = .ok (.istore 4, 2) := by decide +kernel
theorem dX8_sumOf_5 : decode cX8_sumOf 5 = .ok (.iload 4, 2) := by decide +kernel
theorem dX8_sumOf_7 : decode cX8_sumOf 7 = .ok (.aload_n 0, 1) := by decide +kernel
theorem dX8_sumOf_8 : decode cX8_sumOf 8 = .ok (.getfield 10, 3) := by decide +kernel
theorem dX8_sumOf_11 : decode cX8_sumOf 11 = .ok (.getfield 350, 3) := by decide +kernel
theorem dX8_sumOf_14 : decode cX8_sumOf 14 = .ok (.getfield 130, 3) := by decide +kernel
theorem dX8_sumOf_17 : decode cX8_sumOf 17 = .ok (.if_icmp .ge 39, 3) := by decide +kernel
theorem dX8_sumOf_20 : decode cX8_sumOf 20 = .ok (.iload_n 3, 1) := by decide +kernel
theorem dX8_sumOf_21 : decode cX8_sumOf 21 = .ok (.iload_n 1, 1) := by decide +kernel
theorem dX8_sumOf_22 : decode cX8_sumOf 22 = .ok (.iload 4, 2) := by decide +kernel
theorem dX8_sumOf_24 : decode cX8_sumOf 24 = .ok (.invokestatic 163, 3) := by decide +kernel
theorem dX8_sumOf_27 : decode cX8_sumOf 27 = .ok (.iand, 1) := by decide +kernel
theorem dX8_sumOf_28 : decode cX8_sumOf 28 = .ok (.ifCond .ne 7, 3) := by decide +kernel
theorem dX8_sumOf_31 : decode cX8_sumOf 31 = .ok (.iconst 0, 1) := by decide +kernel
theorem dX8_sumOf_32 : decode cX8_sumOf 32 = .ok (.goto 16, 3) := by decide +kernel
theorem dX8_sumOf_35 : decode cX8_sumOf 35 = .ok (.aload_n 0, 1) := by decide +kernel
theorem dX8_sumOf_36 : decode cX8_sumOf 36 = .ok (.getfield 10, 3) := by decide +kernel
theorem dX8_sumOf_39 : decode cX8_sumOf 39 = .ok (.getfield 350, 3) := by decide +kernel
theorem dX8_sumOf_42 : decode cX8_sumOf 42 = .ok (.iload 4, 2) := by decide +kernel
theorem dX8_sumOf_44 : decode cX8_sumOf 44 = .ok (.iload_n 2, 1) := by decide +kernel
theorem dX8_sumOf_45 : decode cX8_sumOf 45 = .ok (.invokevirtual 143, 3) := by decide +kernel
theorem dX8_sumOf_48 : decode cX8_sumOf 48 = .ok (.iadd, 1) := by decide +kernel
theorem dX8_sumOf_49 : decode cX8_sumOf 49 = .ok (.istore_n 3, 1) := by decide +kernel
theorem dX8_sumOf_50 : decode cX8_sumOf 50 = .ok (.iinc 4 1, 3) := by decide +kernel
theorem dX8_sumOf_53 : decode cX8_sumOf 53 = .ok (.goto (-48), 3) := by decide +kernel
theorem dX8_sumOf_56 : decode cX8_sumOf 56 = .ok (.iload_n 3, 1) := by decide +kernel
theorem dX8_sumOf_57 : decode cX8_sumOf 57 = .ok (.ireturn, 1) := by decide +kernel
theorem dX8_duel_0 : decode cX8_duel 0 = .ok (.aload_n 0, 1) := by decide +kernel
theorem dX8_duel_1 : decode cX8_duel 1 = .ok (.getfield 10, 3) := by decide +kernel
theorem dX8_duel_4 : decode cX8_duel 4 = .ok (.getfield 350, 3) := by decide +kernel
theorem dX8_duel_7 : decode cX8_duel 7 = .ok (.getfield 130, 3) := by decide +kernel
theorem dX8_duel_10 : decode cX8_duel 10 = .ok (.ifCond .ne 6, 3) := by decide +kernel
theorem dX8_duel_13 : decode cX8_duel 13 = .ok (.bipush (-2), 2) := by decide +kernel
theorem dX8_duel_15 : decode cX8_duel 15 = .ok (.ireturn, 1) := by decide +kernel
theorem dX8_duel_16 : decode cX8_duel 16 = .ok (.aload_n 0, 1) := by decide +kernel
theorem dX8_duel_17 : decode cX8_duel 17 = .ok (.getfield 43, 3) := by decide +kernel
theorem dX8_duel_20 : decode cX8_duel 20 = .ok (.aload_n 0, 1) := by decide +kernel
theorem dX8_duel_21 : decode cX8_duel 21 = .ok (.getfield 10, 3) := by decide +kernel
theorem dX8_duel_24 : decode cX8_duel 24 = .ok (.getfield 350, 3) := by decide +kernel
theorem dX8_duel_27 : decode cX8_duel 27 = .ok (.invokevirtual 359, 3) := by decide +kernel
theorem dX8_duel_30 : decode cX8_duel 30 = .ok (.iload_n 2, 1) := by decide +kernel
theorem dX8_duel_31 : decode cX8_duel 31 = .ok (.ifCond .eq 12, 3) := by decide +kernel
theorem dX8_duel_34 : decode cX8_duel 34 = .ok (.aload_n 0, 1) := by decide +kernel
theorem dX8_duel_35 : decode cX8_duel 35 = .ok (.getfield 43, 3) := by decide +kernel
theorem dX8_duel_38 : decode cX8_duel 38 = .ok (.iload_n 1, 1) := by decide +kernel
theorem dX8_duel_39 : decode cX8_duel 39 = .ok (.invokevirtual 363, 3) := by decide +kernel
theorem dX8_duel_42 : decode cX8_duel 42 = .ok (.ireturn, 1) := by decide +kernel
theorem dX8_duel_43 : decode cX8_duel 43 = .ok (.aload_n 0, 1) := by decide +kernel
theorem dX8_duel_44 : decode cX8_duel 44 = .ok (.getfield 43, 3) := by decide +kernel
theorem dX8_duel_47 : decode cX8_duel 47 = .ok (.aload_n 0, 1) := by decide +kernel
theorem dX8_duel_48 : decode cX8_duel 48 = .ok (.getfield 43, 3) := by decide +kernel
theorem dX8_duel_51 : decode cX8_duel 51 = .ok (.getfield 367, 3) := by decide +kernel
theorem dX8_duel_54 : decode cX8_duel 54 = .ok (.iconst 0, 1) := by decide +kernel
theorem dX8_duel_55 : decode cX8_duel 55 = .ok (.iload_n 1, 1) := by decide +kernel
theorem dX8_duel_56 : decode cX8_duel 56 = .ok (.bipush 8, 2) := by decide +kernel
theorem dX8_duel_58 : decode cX8_duel 58 = .ok (.invokevirtual 369, 3) := by decide +kernel
theorem dX8_duel_61 : decode cX8_duel 61 = .ok (.ifCond .eq 7, 3) := by decide +kernel
theorem dX8_duel_64 : decode cX8_duel 64 = .ok (.iconst 1, 1) := by decide +kernel
theorem dX8_duel_65 : decode cX8_duel 65 = .ok (.goto 4, 3) := by decide +kernel
theorem dX8_duel_68 : decode cX8_duel 68 = .ok (.iconst 0, 1) := by decide +kernel
theorem dX8_duel_69 : decode cX8_duel 69 = .ok (.ireturn, 1) := by decide +kernel
theorem dX8_heard_0 : decode cX8_heard 0 = .ok (.iload_n 1, 1) := by decide +kernel
theorem dX8_heard_1 : decode cX8_heard 1 = .ok (.iconst (-1), 1) := by decide +kernel
theorem dX8_heard_2 : decode cX8_heard 2 = .ok (.if_icmp .ne 15, 3) := by decide +kernel
theorem dX8_heard_5 : decode cX8_heard 5 = .ok (.aload_n 0, 1) := by decide +kernel
theorem dX8_heard_6 : decode cX8_heard 6 = .ok (.getfield 10, 3) := by decide +kernel
theorem dX8_heard_9 : decode cX8_heard 9 = .ok (.getfield 373, 3) := by decide +kernel
theorem dX8_heard_12 : decode cX8_heard 12 = .ok (.invokevirtual 353, 3) := by decide +kernel
theorem dX8_heard_15 : decode cX8_heard 15 = .ok (.iconst 0, 1) := by decide +kernel
theorem dX8_heard_16 : decode cX8_heard 16 = .ok (.ireturn, 1) := by decide +kernel
theorem dX8_heard_17 : decode cX8_heard 17 = .ok (.aload_n 0, 1) := by decide +kernel
theorem dX8_heard_18 : decode cX8_heard 18 = .ok (.getfield 10, 3) := by decide +kernel
theorem dX8_heard_21 : decode cX8_heard 21 = .ok (.getfield 65, 3) := by decide +kernel
theorem dX8_heard_24 : decode cX8_heard 24 = .ok (.iload_n 1, 1) := by decide +kernel
theorem dX8_heard_25 : decode cX8_heard 25 = .ok (.invokevirtual 140, 3) := by decide +kernel
theorem dX8_heard_28 : decode cX8_heard 28 = .ok (.ifCond .eq 26, 3) := by decide +kernel
theorem dX8_heard_31 : decode cX8_heard 31 = .ok (.aload_n 0, 1) := by decide +kernel
theorem dX8_heard_32 : decode cX8_heard 32 = .ok (.getfield 10, 3) := by decide +kernel
theorem dX8_heard_35 : decode cX8_heard 35 = .ok (.getfield 373, 3) := by decide +kernel
theorem dX8_heard_38 : decode cX8_heard 38 = .ok (.iload_n 1, 1) := by decide +kernel
theorem dX8_heard_39 : decode cX8_heard 39 = .ok (.iload_n 2, 1) := by decide +kernel
theorem dX8_heard_40 : decode cX8_heard 40 = .ok (.ifCond .eq 7, 3) := by decide +kernel
theorem dX8_heard_43 : decode cX8_heard 43 = .ok (.iconst 1, 1) := by decide +kernel
theorem dX8_heard_44 : decode cX8_heard 44 = .ok (.goto 4, 3) := by decide +kernel
theorem dX8_heard_47 : decode cX8_heard 47 = .ok (.iconst 0, 1) := by decide +kernel
theorem dX8_heard_48 : decode cX8_heard 48 = .ok (.invokestatic 376, 3) := by decide +kernel
theorem dX8_heard_51 : decode cX8_heard 51 = .ok (.goto 5, 3) := by decide +kernel
theorem dX8_heard_54 : decode cX8_heard 54 = .ok (.bipush (-2), 2) := by decide +kernel
theorem dX8_heard_56 : decode cX8_heard 56 = .ok (.ireturn, 1) := by decide +kernel
theorem dX8_addPair_0 : decode cX8_addPair 0 = .ok (.aload_n 0, 1) := by decide +kernel
theorem dX8_addPair_1 : decode cX8_addPair 1 = .ok (.invokevirtual 69, 3) := by decide +kernel
theorem dX8_addPair_4 : decode cX8_addPair 4 = .ok (.istore_n 3, 1) := by decide +kernel
theorem dX8_addPair_5 : decode cX8_addPair 5 = .ok (.iload_n 3, 1) := by decide +kernel
theorem dX8_addPair_6 : decode cX8_addPair 6 = .ok (.iconst (-1), 1) := by decide +kernel
theorem dX8_addPair_7 : decode cX8_addPair 7 = .ok (.if_icmp .ne 6, 3) := by decide +kernel
theorem dX8_addPair_10 : decode cX8_addPair 10 = .ok (.bipush (-2), 2) := by decide +kernel
theorem dX8_addPair_12 : decode cX8_addPair 12 = .ok (.ireturn, 1) := by decide +kernel
theorem dX8_addPair_13 : decode cX8_addPair 13 = .ok (.aload_n 0, 1) := by decide +kernel
theorem dX8_addPair_14 : decode cX8_addPair 14 = .ok (.iload_n 3, 1) := by decide +kernel
theorem dX8_addPair_15 : decode cX8_addPair 15 = .ok (.iconst 0, 1) := by decide +kernel
theorem dX8_addPair_16 : decode cX8_addPair 16 = .ok (.iload_n 1, 1) := by decide +kernel
theorem dX8_addPair_17 : decode cX8_addPair 17 = .ok (.invokevirtual 75, 3) := by decide +kernel
theorem dX8_addPair_20 : decode cX8_addPair 20 = .ok (.aload_n 0, 1) := by decide +kernel
theorem dX8_addPair_21 : decode cX8_addPair 21 = .ok (.iload_n 3, 1) := by decide +kernel
theorem dX8_addPair_22 : decode cX8_addPair 22 = .ok (.iconst 1, 1) := by decide +kernel
theorem dX8_addPair_23 : decode cX8_addPair 23 = .ok (.iload_n 2, 1) := by decide +kernel
theorem dX8_addPair_24 : decode cX8_addPair 24 = .ok (.invokevirtual 75, 3) := by decide +kernel
theorem dX8_addPair_27 : decode cX8_addPair 27 = .ok (.aload_n 0, 1) := by decide +kernel
theorem dX8_addPair_28 : decode cX8_addPair 28 = .ok (.getfield 130, 3) := by decide +kernel
theorem dX8_addPair_31 : decode cX8_addPair 31 = .ok (.ireturn, 1) := by decide +kernel
theorem dX8_worlds_0 : decode cX8_worlds 0 = .ok (.aload_n 0, 1) := by decide +kernel
theorem dX8_worlds_1 : decode cX8_worlds 1 = .ok (.getfield 10, 3) := by decide +kernel
theorem dX8_worlds_4 : decode cX8_worlds 4 = .ok (.getfield 79, 3) := by decide +kernel
theorem dX8_worlds_7 : decode cX8_worlds 7 = .ok (.getfield 127, 3) := by decide +kernel
theorem dX8_worlds_10 : decode cX8_worlds 10 = .ok (.iload_n 1, 1) := by decide +kernel
theorem dX8_worlds_11 : decode cX8_worlds 11 = .ok (.invokevirtual 140, 3) := by decide +kernel
theorem dX8_worlds_14 : decode cX8_worlds 14 = .ok (.ifCond .eq 12, 3) := by decide +kernel
theorem dX8_worlds_17 : decode cX8_worlds 17 = .ok (.iload_n 2, 1) := by decide +kernel
theorem dX8_worlds_18 : decode cX8_worlds 18 = .ok (.iconst 0, 1) := by decide +kernel
theorem dX8_worlds_19 : decode cX8_worlds 19 = .ok (.iconst 1, 1) := by decide +kernel
theorem dX8_worlds_20 : decode cX8_worlds 20 = .ok (.invokestatic 61, 3) := by decide +kernel
theorem dX8_worlds_23 : decode cX8_worlds 23 = .ok (.ifCond .ne 5, 3) := by decide +kernel
theorem dX8_worlds_26 : decode cX8_worlds 26 = .ok (.iconst (-1), 1) := by decide +kernel
theorem dX8_worlds_27 : decode cX8_worlds 27 = .ok (.ireturn, 1) := by decide +kernel
theorem dX8_worlds_28 : decode cX8_worlds 28 = .ok (.aload_n 0, 1) := by decide +kernel
theorem dX8_worlds_29 : decode cX8_worlds 29 = .ok (.invokevirtual 380, 3) := by decide +kernel
theorem dX8_worlds_32 : decode cX8_worlds 32 = .ok (.ifCond .eq 5, 3) := by decide +kernel
theorem dX8_worlds_35 : decode cX8_worlds 35 = .ok (.iconst 0, 1) := by decide +kernel
theorem dX8_worlds_36 : decode cX8_worlds 36 = .ok (.ireturn, 1) := by decide +kernel
theorem dX8_worlds_37 : decode cX8_worlds 37 = .ok (.aload_n 0, 1) := by decide +kernel
theorem dX8_worlds_38 : decode cX8_worlds 38 = .ok (.iconst 0, 1) := by decide +kernel
theorem dX8_worlds_39 : decode cX8_worlds 39 = .ok (.invokevirtual 384, 3) := by decide +kernel
theorem dX8_worlds_42 : decode cX8_worlds 42 = .ok (.istore_n 3, 1) := by decide +kernel
theorem dX8_worlds_43 : decode cX8_worlds 43 = .ok (.iload_n 2, 1) := by decide +kernel
theorem dX8_worlds_44 : decode cX8_worlds 44 = .ok (.ifCond .ne 11, 3) := by decide +kernel
theorem dX8_worlds_47 : decode cX8_worlds 47 = .ok (.aload_n 0, 1) := by decide +kernel
theorem dX8_worlds_48 : decode cX8_worlds 48 = .ok (.iload_n 3, 1) := by decide +kernel
theorem dX8_worlds_49 : decode cX8_worlds 49 = .ok (.invokevirtual 387, 3) := by decide +kernel
theorem dX8_worlds_52 : decode cX8_worlds 52 = .ok (.goto 14, 3) := by decide +kernel
theorem dX8_worlds_55 : decode cX8_worlds 55 = .ok (.aload_n 0, 1) := by decide +kernel
theorem dX8_worlds_56 : decode cX8_worlds 56 = .ok (.iload_n 1, 1) := by decide +kernel
theorem dX8_worlds_57 : decode cX8_worlds 57 = .ok (.iload_n 3, 1) := by decide +kernel
theorem dX8_worlds_58 : decode cX8_worlds 58 = .ok (.aload_n 0, 1) := by decide +kernel
theorem dX8_worlds_59 : decode cX8_worlds 59 = .ok (.iconst 1, 1) := by decide +kernel
theorem dX8_worlds_60 : decode cX8_worlds 60 = .ok (.invokevirtual 384, 3) := by decide +kernel
theorem dX8_worlds_63 : decode cX8_worlds 63 = .ok (.invokevirtual 390, 3) := by decide +kernel
theorem dX8_worlds_66 : decode cX8_worlds 66 = .ok (.ireturn, 1) := by decide +kernel
theorem dX8_heardFacts_0 : decode cX8_heardFacts 0 = .ok (.iconst 0, 1) := by decide +kernel
theorem dX8_heardFacts_1 : decode cX8_heardFacts 1 = .ok (.istore_n 2, 1) := by decide +kernel
theorem dX8_heardFacts_2 : decode cX8_heardFacts 2 = .ok (.iconst 0, 1) := by decide +kernel
theorem dX8_heardFacts_3 : decode cX8_heardFacts 3 = .ok (.istore_n 3, 1) := by decide +kernel
theorem dX8_heardFacts_4 : decode cX8_heardFacts 4 = .ok (.iload_n 3, 1) := by decide +kernel
theorem dX8_heardFacts_5 : decode cX8_heardFacts 5 = .ok (.aload_n 0, 1) := by decide +kernel
theorem dX8_heardFacts_6 : decode cX8_heardFacts 6 = .ok (.getfield 10, 3) := by decide +kernel
theorem dX8_heardFacts_9 : decode cX8_heardFacts 9 = .ok (.getfield 373, 3) := by decide +kernel
theorem dX8_heardFacts_12 : decode cX8_heardFacts 12 = .ok (.getfield 130, 3) := by decide +kernel
theorem dX8_heardFacts_15 : decode cX8_heardFacts 15 = .ok (.if_icmp .ge 47, 3) := by decide +kernel
theorem dX8_heardFacts_18 : decode cX8_heardFacts 18 = .ok (.iload_n 1, 1) := by decide +kernel
theorem dX8_heardFacts_19 : decode cX8_heardFacts 19 = .ok (.ifCond .eq 19, 3) := by decide +kernel
theorem dX8_heardFacts_22 : decode cX8_heardFacts 22 = .ok (.aload_n 0, 1) := by decide +kernel
theorem dX8_heardFacts_23 : decode cX8_heardFacts 23 = .ok (.getfield 10, 3) := by decide +kernel
theorem dX8_heardFacts_26 : decode cX8_heardFacts 26 = .ok (.getfield 373, 3) := by decide +kernel
theorem dX8_heardFacts_29 : decode cX8_heardFacts 29 = .ok (.iload_n 3, 1) := by decide +kernel
theorem dX8_heardFacts_30 : decode cX8_heardFacts 30 = .ok (.iconst 1, 1) := by decide +kernel
theorem dX8_heardFacts_31 : decode cX8_heardFacts 31 = .ok (.invokevirtual 143, 3) := by decide +kernel
theorem dX8_heardFacts_34 : decode cX8_heardFacts 34 = .ok (.iconst 1, 1) := by decide +kernel
theorem dX8_heardFacts_35 : decode cX8_heardFacts 35 = .ok (.if_icmp .ne 21, 3) := by decide +kernel
theorem dX8_heardFacts_38 : decode cX8_heardFacts 38 = .ok (.iload_n 2, 1) := by decide +kernel
theorem dX8_heardFacts_39 : decode cX8_heardFacts 39 = .ok (.aload_n 0, 1) := by decide +kernel
theorem dX8_heardFacts_40 : decode cX8_heardFacts 40 = .ok (.getfield 10, 3) := by decide +kernel
theorem dX8_heardFacts_43 : decode cX8_heardFacts 43 = .ok (.getfield 373, 3) := by decide +kernel
theorem dX8_heardFacts_46 : decode cX8_heardFacts 46 = .ok (.iload_n 3, 1) := by decide +kernel
theorem dX8_heardFacts_47 : decode cX8_heardFacts 47 = .ok (.iconst 0, 1) := by decide +kernel
theorem dX8_heardFacts_48 : decode cX8_heardFacts 48 = .ok (.invokevirtual 143, 3) := by decide +kernel
theorem dX8_heardFacts_51 : decode cX8_heardFacts 51 = .ok (.invokestatic 163, 3) := by decide +kernel
theorem dX8_heardFacts_54 : decode cX8_heardFacts 54 = .ok (.ior, 1) := by decide +kernel
theorem dX8_heardFacts_55 : decode cX8_heardFacts 55 = .ok (.istore_n 2, 1) := by decide +kernel
theorem dX8_heardFacts_56 : decode cX8_heardFacts 56 = .ok (.iinc 3 1, 3) := by decide +kernel
theorem dX8_heardFacts_59 : decode cX8_heardFacts 59 = .ok (.goto (-55), 3) := by decide +kernel
theorem dX8_heardFacts_62 : decode cX8_heardFacts 62 = .ok (.iload_n 2, 1) := by decide +kernel
theorem dX8_heardFacts_63 : decode cX8_heardFacts 63 = .ok (.ireturn, 1) := by decide +kernel
theorem dX8_isContradicted_0 : decode cX8_isContradicted 0 = .ok (.aload_n 0, 1) := by decide +kernel
theorem dX8_isContradicted_1 : decode cX8_isContradicted 1 = .ok (.iconst 1, 1) := by decide +kernel
theorem dX8_isContradicted_2 : decode cX8_isContradicted 2 = .ok (.invokevirtual 384, 3) := by decide +kernel
theorem dX8_isContradicted_5 : decode cX8_isContradicted 5 = .ok (.istore_n 1, 1) := by decide +kernel
theorem dX8_isContradicted_6 : decode cX8_isContradicted 6 = .ok (.iconst 0, 1) := by decide +kernel
theorem dX8_isContradicted_7 : decode cX8_isContradicted 7 = .ok (.istore_n 2, 1) := by decide +kernel
theorem dX8_isContradicted_8 : decode cX8_isContradicted 8 = .ok (.iload_n 2, 1) := by decide +kernel
theorem dX8_isContradicted_9 : decode cX8_isContradicted 9 = .ok (.aload_n 0, 1) := by decide +kernel
theorem dX8_isContradicted_10 : decode cX8_isContradicted 10 = .ok (.getfield 10, 3) := by decide +kernel
theorem dX8_isContradicted_13 : decode cX8_isContradicted 13 = .ok (.getfield 373, 3) := by decide +kernel
theorem dX8_isContradicted_16 : decode cX8_isContradicted 16 = .ok (.getfield 130, 3) := by decide +kernel
theorem dX8_isContradicted_19 : decode cX8_isContradicted 19 = .ok (.if_icmp .ge 46, 3) := by decide +kernel
theorem dX8_isContradicted_22 : decode cX8_isContradicted 22 = .ok (.aload_n 0, 1) := by decide +kernel
theorem dX8_isContradicted_23 : decode cX8_isContradicted 23 = .ok (.getfield 10, 3) := by decide +kernel
theorem dX8_isContradicted_26 : decode cX8_isContradicted 26 = .ok (.getfield 373, 3) := by decide +kernel
theorem dX8_isContradicted_29 : decode cX8_isContradicted 29 = .ok (.iload_n 2, 1) := by decide +kernel
theorem dX8_isContradicted_30 : decode cX8_isContradicted 30 = .ok (.iconst 1, 1) := by decide +kernel
theorem dX8_isContradicted_31 : decode cX8_isContradicted 31 = .ok (.invokevirtual 143, 3) := by decide +kernel
theorem dX8_isContradicted_34 : decode cX8_isContradicted 34 = .ok (.ifCond .ne 25, 3) := by decide +kernel
theorem dX8_isContradicted_37 : decode cX8_isContradicted 37 = .ok (.iload_n 1, 1) := by decide +kernel
theorem dX8_isContradicted_38 : decode cX8_isContradicted 38 = .ok (.aload_n 0, 1) := by decide +kernel
theorem dX8_isContradicted_39 : decode cX8_isContradicted 39 = .ok (.getfield 10, 3) := by decide +kernel
theorem dX8_isContradicted_42 : decode cX8_isContradicted 42 = .ok (.getfield 373, 3) := by decide +kernel
theorem dX8_isContradicted_45 : decode cX8_isContradicted 45 = .ok (.iload_n 2, 1) := by decide +kernel
theorem dX8_isContradicted_46 : decode cX8_isContradicted 46 = .ok (.iconst 0, 1) := by decide +kernel
theorem dX8_isContradicted_47 : decode cX8_isContradicted 47 = .ok (.invokevirtual 143, 3) := by decide +kernel
theorem dX8_isContradicted_50 : decode cX8_isContradicted 50 = .ok (.invokestatic 163, 3) := by decide +kernel
theorem dX8_isContradicted_53 : decode cX8_isContradicted 53 = .ok (.iand, 1) := by decide +kernel
theorem dX8_isContradicted_54 : decode cX8_isContradicted 54 = .ok (.ifCond .eq 5, 3) := by decide +kernel
theorem dX8_isContradicted_57 : decode cX8_isContradicted 57 = .ok (.iconst 1, 1) := by decide +kernel
theorem dX8_isContradicted_58 : decode cX8_isContradicted 58 = .ok (.ireturn, 1) := by decide +kernel
theorem dX8_isContradicted_59 : decode cX8_isContradicted 59 = .ok (.iinc 2 1, 3) := by decide +kernel
theorem dX8_isContradicted_62 : decode cX8_isContradicted 62 = .ok (.goto (-54), 3) := by decide +kernel
theorem dX8_isContradicted_65 : decode cX8_isContradicted 65 = .ok (.iconst 0, 1) := by decide +kernel
theorem dX8_isContradicted_66 : decode cX8_isContradicted 66 = .ok (.ireturn, 1) := by decide +kernel
theorem dX8_countWorlds_0 : decode cX8_countWorlds 0 = .ok (.aload_n 0, 1) := by decide +kernel
theorem dX8_countWorlds_1 : decode cX8_countWorlds 1 = .ok (.invokevirtual 393, 3) := by decide +kernel
theorem dX8_countWorlds_4 : decode cX8_countWorlds 4 = .ok (.iload_n 1, 1) := by decide +kernel
theorem dX8_countWorlds_5 : decode cX8_countWorlds 5 = .ok (.iconst (-1), 1) := by decide +kernel
theorem dX8_countWorlds_6 : decode cX8_countWorlds 6 = .ok (.ixor, 1) := by decide +kernel
theorem dX8_countWorlds_7 : decode cX8_countWorlds 7 = .ok (.iand, 1) := by decide +kernel
theorem dX8_countWorlds_8 : decode cX8_countWorlds 8 = .ok (.invokestatic 279, 3) := by decide +kernel
theorem dX8_countWorlds_11 : decode cX8_countWorlds 11 = .ok (.invokestatic 163, 3) := by decide +kernel
theorem dX8_countWorlds_14 : decode cX8_countWorlds 14 = .ok (.ireturn, 1) := by decide +kernel
theorem dX8_countSo_0 : decode cX8_countSo 0 = .ok (.aload_n 0, 1) := by decide +kernel
theorem dX8_countSo_1 : decode cX8_countSo 1 = .ok (.getfield 10, 3) := by decide +kernel
theorem dX8_countSo_4 : decode cX8_countSo 4 = .ok (.getfield 79, 3) := by decide +kernel
theorem dX8_countSo_7 : decode cX8_countSo 7 = .ok (.getfield 127, 3) := by decide +kernel
theorem dX8_countSo_10 : decode cX8_countSo 10 = .ok (.iload_n 1, 1) := by decide +kernel
theorem dX8_countSo_11 : decode cX8_countSo 11 = .ok (.iconst 2, 1) := by decide +kernel
theorem dX8_countSo_12 : decode cX8_countSo 12 = .ok (.invokevirtual 143, 3) := by decide +kernel
theorem dX8_countSo_15 : decode cX8_countSo 15 = .ok (.istore 4, 2) := by decide +kernel
theorem dX8_countSo_17 : decode cX8_countSo 17 = .ok (.aload_n 0, 1) := by decide +kernel
theorem dX8_countSo_18 : decode cX8_countSo 18 = .ok (.iload_n 2, 1) := by decide +kernel
theorem dX8_countSo_19 : decode cX8_countSo 19 = .ok (.iload 4, 2) := by decide +kernel
theorem dX8_countSo_21 : decode cX8_countSo 21 = .ok (.ior, 1) := by decide +kernel
theorem dX8_countSo_22 : decode cX8_countSo 22 = .ok (.invokevirtual 387, 3) := by decide +kernel
theorem dX8_countSo_25 : decode cX8_countSo 25 = .ok (.istore 5, 2) := by decide +kernel
theorem dX8_countSo_27 : decode cX8_countSo 27 = .ok (.aload_n 0, 1) := by decide +kernel
theorem dX8_countSo_28 : decode cX8_countSo 28 = .ok (.getfield 10, 3) := by decide +kernel
theorem dX8_countSo_31 : decode cX8_countSo 31 = .ok (.getfield 79, 3) := by decide +kernel
theorem dX8_countSo_34 : decode cX8_countSo 34 = .ok (.getfield 127, 3) := by decide +kernel
theorem dX8_countSo_37 : decode cX8_countSo 37 = .ok (.iload_n 1, 1) := by decide +kernel
theorem dX8_countSo_38 : decode cX8_countSo 38 = .ok (.iconst 1, 1) := by decide +kernel
theorem dX8_countSo_39 : decode cX8_countSo 39 = .ok (.invokevirtual 143, 3) := by decide +kernel
theorem dX8_countSo_42 : decode cX8_countSo 42 = .ok (.iconst 1, 1) := by decide +kernel
theorem dX8_countSo_43 : decode cX8_countSo 43 = .ok (.if_icmp .ne 21, 3) := by decide +kernel
theorem dX8_countSo_46 : decode cX8_countSo 46 = .ok (.iload 4, 2) := by decide +kernel
theorem dX8_countSo_48 : decode cX8_countSo 48 = .ok (.iload_n 2, 1) := by decide +kernel
theorem dX8_countSo_49 : decode cX8_countSo 49 = .ok (.iand, 1) := by decide +kernel
theorem dX8_countSo_50 : decode cX8_countSo 50 = .ok (.iload_n 3, 1) := by decide +kernel
theorem dX8_countSo_51 : decode cX8_countSo 51 = .ok (.iconst (-1), 1) := by decide +kernel
theorem dX8_countSo_52 : decode cX8_countSo 52 = .ok (.ixor, 1) := by decide +kernel
theorem dX8_countSo_53 : decode cX8_countSo 53 = .ok (.iand, 1) := by decide +kernel
theorem dX8_countSo_54 : decode cX8_countSo 54 = .ok (.ifCond .ne 8, 3) := by decide +kernel
theorem dX8_countSo_57 : decode cX8_countSo 57 = .ok (.iload 5, 2) := by decide +kernel
theorem dX8_countSo_59 : decode cX8_countSo 59 = .ok (.goto 4, 3) := by decide +kernel
theorem dX8_countSo_62 : decode cX8_countSo 62 = .ok (.iconst 0, 1) := by decide +kernel
theorem dX8_countSo_63 : decode cX8_countSo 63 = .ok (.ireturn, 1) := by decide +kernel
theorem dX8_countSo_64 : decode cX8_countSo 64 = .ok (.iload 4, 2) := by decide +kernel
theorem dX8_countSo_66 : decode cX8_countSo 66 = .ok (.iload_n 3, 1) := by decide +kernel
theorem dX8_countSo_67 : decode cX8_countSo 67 = .ok (.iand, 1) := by decide +kernel
theorem dX8_countSo_68 : decode cX8_countSo 68 = .ok (.ifCond .eq 11, 3) := by decide +kernel
theorem dX8_countSo_71 : decode cX8_countSo 71 = .ok (.aload_n 0, 1) := by decide +kernel
theorem dX8_countSo_72 : decode cX8_countSo 72 = .ok (.iload_n 2, 1) := by decide +kernel
theorem dX8_countSo_73 : decode cX8_countSo 73 = .ok (.invokevirtual 387, 3) := by decide +kernel
theorem dX8_countSo_76 : decode cX8_countSo 76 = .ok (.goto 11, 3) := by decide +kernel
theorem dX8_countSo_79 : decode cX8_countSo 79 = .ok (.aload_n 0, 1) := by decide +kernel
theorem dX8_countSo_80 : decode cX8_countSo 80 = .ok (.iload_n 2, 1) := by decide +kernel
theorem dX8_countSo_81 : decode cX8_countSo 81 = .ok (.invokevirtual 387, 3) := by decide +kernel
theorem dX8_countSo_84 : decode cX8_countSo 84 = .ok (.iload 5, 2) := by decide +kernel
theorem dX8_countSo_86 : decode cX8_countSo 86 = .ok (.isub, 1) := by decide +kernel
theorem dX8_countSo_87 : decode cX8_countSo 87 = .ok (.ireturn, 1) := by decide +kernel
theorem dX8_tells_0 : decode cX8_tells 0 = .ok (.aload_n 0, 1) := by decide +kernel
theorem dX8_tells_1 : decode cX8_tells 1 = .ok (.getfield 10, 3) := by decide +kernel
theorem dX8_tells_4 : decode cX8_tells 4 = .ok (.getfield 79, 3) := by decide +kernel
theorem dX8_tells_7 : decode cX8_tells 7 = .ok (.getfield 127, 3) := by decide +kernel
theorem dX8_tells_10 : decode cX8_tells 10 = .ok (.iload_n 1, 1) := by decide +kernel
theorem dX8_tells_11 : decode cX8_tells 11 = .ok (.invokevirtual 140, 3) := by decide +kernel
theorem dX8_tells_14 : decode cX8_tells 14 = .ok (.ifCond .eq 10, 3) := by decide +kernel
theorem dX8_tells_17 : decode cX8_tells 17 = .ok (.aload_n 0, 1) := by decide +kernel
theorem dX8_tells_18 : decode cX8_tells 18 = .ok (.invokevirtual 380, 3) := by decide +kernel
theorem dX8_tells_21 : decode cX8_tells 21 = .ok (.ifCond .eq 5, 3) := by decide +kernel
theorem dX8_tells_24 : decode cX8_tells 24 = .ok (.iconst (-1), 1) := by decide +kernel
theorem dX8_tells_25 : decode cX8_tells 25 = .ok (.ireturn, 1) := by decide +kernel
theorem dX8_tells_26 : decode cX8_tells 26 = .ok (.aload_n 0, 1) := by decide +kernel
theorem dX8_tells_27 : decode cX8_tells 27 = .ok (.iconst 0, 1) := by decide +kernel
theorem dX8_tells_28 : decode cX8_tells 28 = .ok (.invokevirtual 384, 3) := by decide +kernel
theorem dX8_tells_31 : decode cX8_tells 31 = .ok (.istore_n 2, 1) := by decide +kernel
theorem dX8_tells_32 : decode cX8_tells 32 = .ok (.aload_n 0, 1) := by decide +kernel
theorem dX8_tells_33 : decode cX8_tells 33 = .ok (.iconst 1, 1) := by decide +kernel
theorem dX8_tells_34 : decode cX8_tells 34 = .ok (.invokevirtual 384, 3) := by decide +kernel
theorem dX8_tells_37 : decode cX8_tells 37 = .ok (.istore_n 3, 1) := by decide +kernel
theorem dX8_tells_38 : decode cX8_tells 38 = .ok (.iconst (-1), 1) := by decide +kernel
theorem dX8_tells_39 : decode cX8_tells 39 = .ok (.istore 4, 2) := by decide +kernel
theorem dX8_tells_41 : decode cX8_tells 41 = .ok (.iconst 0, 1) := by decide +kernel
theorem dX8_tells_42 : decode cX8_tells 42 = .ok (.istore 5, 2) := by decide +kernel
theorem dX8_tells_44 : decode cX8_tells 44 = .ok (.iconst 0, 1) := by decide +kernel
theorem dX8_tells_45 : decode cX8_tells 45 = .ok (.istore 6, 2) := by decide +kernel
theorem dX8_tells_47 : decode cX8_tells 47 = .ok (.iload 6, 2) := by decide +kernel
theorem dX8_tells_49 : decode cX8_tells 49 = .ok (.aload_n 0, 1) := by decide +kernel
theorem dX8_tells_50 : decode cX8_tells 50 = .ok (.getfield 10, 3) := by decide +kernel
theorem dX8_tells_53 : decode cX8_tells 53 = .ok (.getfield 65, 3) := by decide +kernel
theorem dX8_tells_56 : decode cX8_tells 56 = .ok (.getfield 130, 3) := by decide +kernel
theorem dX8_tells_59 : decode cX8_tells 59 = .ok (.if_icmp .ge 75, 3) := by decide +kernel
theorem dX8_tells_62 : decode cX8_tells 62 = .ok (.iload_n 2, 1) := by decide +kernel
theorem dX8_tells_63 : decode cX8_tells 63 = .ok (.iload 6, 2) := by decide +kernel
theorem dX8_tells_65 : decode cX8_tells 65 = .ok (.invokestatic 163, 3) := by decide +kernel
theorem dX8_tells_68 : decode cX8_tells 68 = .ok (.iand, 1) := by decide +kernel
theorem dX8_tells_69 : decode cX8_tells 69 = .ok (.ifCond .ne 59, 3) := by decide +kernel
theorem dX8_tells_72 : decode cX8_tells 72 = .ok (.aload_n 0, 1) := by decide +kernel
theorem dX8_tells_73 : decode cX8_tells 73 = .ok (.iload_n 1, 1) := by decide +kernel
theorem dX8_tells_74 : decode cX8_tells 74 = .ok (.iload_n 2, 1) := by decide +kernel
theorem dX8_tells_75 : decode cX8_tells 75 = .ok (.iload 6, 2) := by decide +kernel
theorem dX8_tells_77 : decode cX8_tells 77 = .ok (.invokestatic 163, 3) := by decide +kernel
theorem dX8_tells_80 : decode cX8_tells 80 = .ok (.ior, 1) := by decide +kernel
theorem dX8_tells_81 : decode cX8_tells 81 = .ok (.iload_n 3, 1) := by decide +kernel
theorem dX8_tells_82 : decode cX8_tells 82 = .ok (.iload 6, 2) := by decide +kernel
theorem dX8_tells_84 : decode cX8_tells 84 = .ok (.invokestatic 163, 3) := by decide +kernel
theorem dX8_tells_87 : decode cX8_tells 87 = .ok (.ior, 1) := by decide +kernel
theorem dX8_tells_88 : decode cX8_tells 88 = .ok (.invokevirtual 396, 3) := by decide +kernel
theorem dX8_tells_91 : decode cX8_tells 91 = .ok (.aload_n 0, 1) := by decide +kernel
theorem dX8_tells_92 : decode cX8_tells 92 = .ok (.iload_n 1, 1) := by decide +kernel
theorem dX8_tells_93 : decode cX8_tells 93 = .ok (.iload_n 2, 1) := by decide +kernel
theorem dX8_tells_94 : decode cX8_tells 94 = .ok (.iload 6, 2) := by decide +kernel
theorem dX8_tells_96 : decode cX8_tells 96 = .ok (.invokestatic 163, 3) := by decide +kernel
theorem dX8_tells_99 : decode cX8_tells 99 = .ok (.ior, 1) := by decide +kernel
theorem dX8_tells_100 : decode cX8_tells 100 = .ok (.iload_n 3, 1) := by decide +kernel
theorem dX8_tells_101 : decode cX8_tells 101 = .ok (.invokevirtual 396, 3) := by decide +kernel
theorem dX8_tells_104 : decode cX8_tells 104 = .ok (.iadd, 1) := by decide +kernel
theorem dX8_tells_105 : decode cX8_tells 105 = .ok (.istore 7, 2) := by decide +kernel
theorem dX8_tells_107 : decode cX8_tells 107 = .ok (.iload 4, 2) := by decide +kernel
theorem dX8_tells_109 : decode cX8_tells 109 = .ok (.iconst (-1), 1) := by decide +kernel
theorem dX8_tells_110 : decode cX8_tells 110 = .ok (.if_icmp .eq 10, 3) := by decide +kernel
theorem dX8_tells_113 : decode cX8_tells 113 = .ok (.iload 7, 2) := by decide +kernel
theorem dX8_tells_115 : decode cX8_tells 115 = .ok (.iload 5, 2) := by decide +kernel
theorem dX8_tells_117 : decode cX8_tells 117 = .ok (.if_icmp .ge 11, 3) := by decide +kernel
theorem dX8_tells_120 : decode cX8_tells 120 = .ok (.iload 6, 2) := by decide +kernel
theorem dX8_tells_122 : decode cX8_tells 122 = .ok (.istore 4, 2) := by decide +kernel
theorem dX8_tells_124 : decode cX8_tells 124 = .ok (.iload 7, 2) := by decide +kernel
theorem dX8_tells_126 : decode cX8_tells 126 = .ok (.istore 5, 2) := by decide +kernel
theorem dX8_tells_128 : decode cX8_tells 128 = .ok (.iinc 6 1, 3) := by decide +kernel
theorem dX8_tells_131 : decode cX8_tells 131 = .ok (.goto (-84), 3) := by decide +kernel
theorem dX8_tells_134 : decode cX8_tells 134 = .ok (.iload 4, 2) := by decide +kernel
theorem dX8_tells_136 : decode cX8_tells 136 = .ok (.ireturn, 1) := by decide +kernel
theorem dX8_countWrong_0 : decode cX8_countWrong 0 = .ok (.aload_n 0, 1) := by decide +kernel
theorem dX8_countWrong_1 : decode cX8_countWrong 1 = .ok (.iload_n 1, 1) := by decide +kernel
theorem dX8_countWrong_2 : decode cX8_countWrong 2 = .ok (.iload_n 2, 1) := by decide +kernel
theorem dX8_countWrong_3 : decode cX8_countWrong 3 = .ok (.iload_n 3, 1) := by decide +kernel
theorem dX8_countWrong_4 : decode cX8_countWrong 4 = .ok (.invokevirtual 390, 3) := by decide +kernel
theorem dX8_countWrong_7 : decode cX8_countWrong 7 = .ok (.istore 4, 2) := by decide +kernel
theorem dX8_countWrong_9 : decode cX8_countWrong 9 = .ok (.iload 4, 2) := by decide +kernel
theorem dX8_countWrong_11 : decode cX8_countWrong 11 = .ok (.aload_n 0, 1) := by decide +kernel
theorem dX8_countWrong_12 : decode cX8_countWrong 12 = .ok (.iload_n 2, 1) := by decide +kernel
theorem dX8_countWrong_13 : decode cX8_countWrong 13 = .ok (.invokevirtual 387, 3) := by decide +kernel
theorem dX8_countWrong_16 : decode cX8_countWrong 16 = .ok (.iload 4, 2) := by decide +kernel
theorem dX8_countWrong_18 : decode cX8_countWrong 18 = .ok (.isub, 1) := by decide +kernel
theorem dX8_countWrong_19 : decode cX8_countWrong 19 = .ok (.invokestatic 224, 3) := by decide +kernel
theorem dX8_countWrong_22 : decode cX8_countWrong 22 = .ok (.ireturn, 1) := by decide +kernel
theorem dX8_owed_0 : decode cX8_owed 0 = .ok (.iload_n 1, 1) := by decide +kernel
theorem dX8_owed_1 : decode cX8_owed 1 = .ok (.iconst (-1), 1) := by decide +kernel
theorem dX8_owed_2 : decode cX8_owed 2 = .ok (.if_icmp .ne 15, 3) := by decide +kernel
theorem dX8_owed_5 : decode cX8_owed 5 = .ok (.aload_n 0, 1) := by decide +kernel
theorem dX8_owed_6 : decode cX8_owed 6 = .ok (.getfield 10, 3) := by decide +kernel
theorem dX8_owed_9 : decode cX8_owed 9 = .ok (.getfield 399, 3) := by decide +kernel
theorem dX8_owed_12 : decode cX8_owed 12 = .ok (.invokevirtual 353, 3) := by decide +kernel
theorem dX8_owed_15 : decode cX8_owed 15 = .ok (.iconst 0, 1) := by decide +kernel
theorem dX8_owed_16 : decode cX8_owed 16 = .ok (.ireturn, 1) := by decide +kernel
theorem dX8_owed_17 : decode cX8_owed 17 = .ok (.aload_n 0, 1) := by decide +kernel
theorem dX8_owed_18 : decode cX8_owed 18 = .ok (.getfield 10, 3) := by decide +kernel
theorem dX8_owed_21 : decode cX8_owed 21 = .ok (.getfield 79, 3) := by decide +kernel
theorem dX8_owed_24 : decode cX8_owed 24 = .ok (.getfield 127, 3) := by decide +kernel
theorem dX8_owed_27 : decode cX8_owed 27 = .ok (.iload_n 1, 1) := by decide +kernel
theorem dX8_owed_28 : decode cX8_owed 28 = .ok (.invokevirtual 140, 3) := by decide +kernel
theorem dX8_owed_31 : decode cX8_owed 31 = .ok (.ifCond .eq 14, 3) := by decide +kernel
theorem dX8_owed_34 : decode cX8_owed 34 = .ok (.iload_n 2, 1) := by decide +kernel
theorem dX8_owed_35 : decode cX8_owed 35 = .ok (.iconst 0, 1) := by decide +kernel
theorem dX8_owed_36 : decode cX8_owed 36 = .ok (.sipush 9999, 3) := by decide +kernel
theorem dX8_owed_39 : decode cX8_owed 39 = .ok (.invokestatic 61, 3) := by decide +kernel
theorem dX8_owed_42 : decode cX8_owed 42 = .ok (.ifCond .ne 6, 3) := by decide +kernel
theorem dX8_owed_45 : decode cX8_owed 45 = .ok (.bipush (-2), 2) := by decide +kernel
theorem dX8_owed_47 : decode cX8_owed 47 = .ok (.ireturn, 1) := by decide +kernel
theorem dX8_owed_48 : decode cX8_owed 48 = .ok (.aload_n 0, 1) := by decide +kernel
theorem dX8_owed_49 : decode cX8_owed 49 = .ok (.getfield 10, 3) := by decide +kernel
theorem dX8_owed_52 : decode cX8_owed 52 = .ok (.getfield 399, 3) := by decide +kernel
theorem dX8_owed_55 : decode cX8_owed 55 = .ok (.iload_n 1, 1) := by decide +kernel
theorem dX8_owed_56 : decode cX8_owed 56 = .ok (.iload_n 2, 1) := by decide +kernel
theorem dX8_owed_57 : decode cX8_owed 57 = .ok (.invokestatic 376, 3) := by decide +kernel
theorem dX8_owed_60 : decode cX8_owed 60 = .ok (.ireturn, 1) := by decide +kernel
theorem dX8_whose_0 : decode cX8_whose 0 = .ok (.iconst 0, 1) := by decide +kernel
theorem dX8_whose_1 : decode cX8_whose 1 = .ok (.istore_n 1, 1) := by decide +kernel
theorem dX8_whose_2 : decode cX8_whose 2 = .ok (.iconst 0, 1) := by decide +kernel
theorem dX8_whose_3 : decode cX8_whose 3 = .ok (.istore_n 2, 1) := by decide +kernel
theorem dX8_whose_4 : decode cX8_whose 4 = .ok (.iload_n 2, 1) := by decide +kernel
theorem dX8_whose_5 : decode cX8_whose 5 = .ok (.aload_n 0, 1) := by decide +kernel
theorem dX8_whose_6 : decode cX8_whose 6 = .ok (.getfield 10, 3) := by decide +kernel
theorem dX8_whose_9 : decode cX8_whose 9 = .ok (.getfield 89, 3) := by decide +kernel
theorem dX8_whose_12 : decode cX8_whose 12 = .ok (.if_icmp .ge 35, 3) := by decide +kernel
theorem dX8_whose_15 : decode cX8_whose 15 = .ok (.iload_n 1, 1) := by decide +kernel
theorem dX8_whose_16 : decode cX8_whose 16 = .ok (.aload_n 0, 1) := by decide +kernel
theorem dX8_whose_17 : decode cX8_whose 17 = .ok (.aload_n 0, 1) := by decide +kernel
theorem dX8_whose_18 : decode cX8_whose 18 = .ok (.getfield 10, 3) := by decide +kernel
theorem dX8_whose_21 : decode cX8_whose 21 = .ok (.iload_n 2, 1) := by decide +kernel
theorem dX8_whose_22 : decode cX8_whose 22 = .ok (.invokevirtual 208, 3) := by decide +kernel
theorem dX8_whose_25 : decode cX8_whose 25 = .ok (.invokevirtual 402, 3) := by decide +kernel
theorem dX8_whose_28 : decode cX8_whose 28 = .ok (.ifCond .eq 10, 3) := by decide +kernel
theorem dX8_whose_31 : decode cX8_whose 31 = .ok (.iload_n 2, 1) := by decide +kernel
theorem dX8_whose_32 : decode cX8_whose 32 = .ok (.invokestatic 163, 3) := by decide +kernel
theorem dX8_whose_35 : decode cX8_whose 35 = .ok (.goto 4, 3) := by decide +kernel
theorem dX8_whose_38 : decode cX8_whose 38 = .ok (.iconst 0, 1) := by decide +kernel
theorem dX8_whose_39 : decode cX8_whose 39 = .ok (.ior, 1) := by decide +kernel
theorem dX8_whose_40 : decode cX8_whose 40 = .ok (.istore_n 1, 1) := by decide +kernel
theorem dX8_whose_41 : decode cX8_whose 41 = .ok (.iinc 2 1, 3) := by decide +kernel
theorem dX8_whose_44 : decode cX8_whose 44 = .ok (.goto (-40), 3) := by decide +kernel
theorem dX8_whose_47 : decode cX8_whose 47 = .ok (.iload_n 1, 1) := by decide +kernel
theorem dX8_whose_48 : decode cX8_whose 48 = .ok (.ireturn, 1) := by decide +kernel
theorem dX8_agrees_0 : decode cX8_agrees 0 = .ok (.iconst 0, 1) := by decide +kernel
theorem dX8_agrees_1 : decode cX8_agrees 1 = .ok (.istore_n 2, 1) := by decide +kernel
theorem dX8_agrees_2 : decode cX8_agrees 2 = .ok (.iload_n 2, 1) := by decide +kernel
theorem dX8_agrees_3 : decode cX8_agrees 3 = .ok (.aload_n 0, 1) := by decide +kernel
theorem dX8_agrees_4 : decode cX8_agrees 4 = .ok (.getfield 10, 3) := by decide +kernel
theorem dX8_agrees_7 : decode cX8_agrees 7 = .ok (.getfield 399, 3) := by decide +kernel
theorem dX8_agrees_10 : decode cX8_agrees 10 = .ok (.getfield 130, 3) := by decide +kernel
theorem dX8_agrees_13 : decode cX8_agrees 13 = .ok (.if_icmp .ge 69, 3) := by decide +kernel
theorem dX8_agrees_16 : decode cX8_agrees 16 = .ok (.aload_n 0, 1) := by decide +kernel
theorem dX8_agrees_17 : decode cX8_agrees 17 = .ok (.getfield 10, 3) := by decide +kernel
theorem dX8_agrees_20 : decode cX8_agrees 20 = .ok (.getfield 399, 3) := by decide +kernel
theorem dX8_agrees_23 : decode cX8_agrees 23 = .ok (.iload_n 2, 1) := by decide +kernel
theorem dX8_agrees_24 : decode cX8_agrees 24 = .ok (.iconst 0, 1) := by decide +kernel
theorem dX8_agrees_25 : decode cX8_agrees 25 = .ok (.invokevirtual 143, 3) := by decide +kernel
theorem dX8_agrees_28 : decode cX8_agrees 28 = .ok (.istore_n 3, 1) := by decide +kernel
theorem dX8_agrees_29 : decode cX8_agrees 29 = .ok (.aload_n 0, 1) := by decide +kernel
theorem dX8_agrees_30 : decode cX8_agrees 30 = .ok (.getfield 10, 3) := by decide +kernel
theorem dX8_agrees_33 : decode cX8_agrees 33 = .ok (.getfield 79, 3) := by decide +kernel
theorem dX8_agrees_36 : decode cX8_agrees 36 = .ok (.getfield 127, 3) := by decide +kernel
theorem dX8_agrees_39 : decode cX8_agrees 39 = .ok (.iload_n 3, 1) := by decide +kernel
theorem dX8_agrees_40 : decode cX8_agrees 40 = .ok (.invokevirtual 140, 3) := by decide +kernel
theorem dX8_agrees_43 : decode cX8_agrees 43 = .ok (.ifCond .eq 33, 3) := by decide +kernel
theorem dX8_agrees_46 : decode cX8_agrees 46 = .ok (.aload_n 0, 1) := by decide +kernel
theorem dX8_agrees_47 : decode cX8_agrees 47 = .ok (.aload_n 1, 1) := by decide +kernel
theorem dX8_agrees_48 : decode cX8_agrees 48 = .ok (.aload_n 0, 1) := by decide +kernel
theorem dX8_agrees_49 : decode cX8_agrees 49 = .ok (.getfield 10, 3) := by decide +kernel
theorem dX8_agrees_52 : decode cX8_agrees 52 = .ok (.getfield 79, 3) := by decide +kernel
theorem dX8_agrees_55 : decode cX8_agrees 55 = .ok (.iload_n 3, 1) := by decide +kernel
theorem dX8_agrees_56 : decode cX8_agrees 56 = .ok (.invokevirtual 201, 3) := by decide +kernel
theorem dX8_agrees_59 : decode cX8_agrees 59 = .ok (.aload_n 0, 1) := by decide +kernel
theorem dX8_agrees_60 : decode cX8_agrees 60 = .ok (.getfield 10, 3) := by decide +kernel
theorem dX8_agrees_63 : decode cX8_agrees 63 = .ok (.getfield 399, 3) := by decide +kernel
theorem dX8_agrees_66 : decode cX8_agrees 66 = .ok (.iload_n 2, 1) := by decide +kernel
theorem dX8_agrees_67 : decode cX8_agrees 67 = .ok (.iconst 1, 1) := by decide +kernel
theorem dX8_agrees_68 : decode cX8_agrees 68 = .ok (.invokevirtual 143, 3) := by decide +kernel
theorem dX8_agrees_71 : decode cX8_agrees 71 = .ok (.if_icmp .eq 5, 3) := by decide +kernel
theorem dX8_agrees_74 : decode cX8_agrees 74 = .ok (.iconst 0, 1) := by decide +kernel
theorem dX8_agrees_75 : decode cX8_agrees 75 = .ok (.ireturn, 1) := by decide +kernel
theorem dX8_agrees_76 : decode cX8_agrees 76 = .ok (.iinc 2 1, 3) := by decide +kernel
theorem dX8_agrees_79 : decode cX8_agrees 79 = .ok (.goto (-77), 3) := by decide +kernel
theorem dX8_agrees_82 : decode cX8_agrees 82 = .ok (.iconst 1, 1) := by decide +kernel
theorem dX8_agrees_83 : decode cX8_agrees 83 = .ok (.ireturn, 1) := by decide +kernel
theorem dX8_famous_0 : decode cX8_famous 0 = .ok (.aload_n 0, 1) := by decide +kernel
theorem dX8_famous_1 : decode cX8_famous 1 = .ok (.iconst 1, 1) := by decide +kernel
theorem dX8_famous_2 : decode cX8_famous 2 = .ok (.invokevirtual 406, 3) := by decide +kernel
theorem dX8_famous_5 : decode cX8_famous 5 = .ok (.ireturn, 1) := by decide +kernel
theorem dX8_richest_0 : decode cX8_richest 0 = .ok (.aload_n 0, 1) := by decide +kernel
theorem dX8_richest_1 : decode cX8_richest 1 = .ok (.iconst 0, 1) := by decide +kernel
theorem dX8_richest_2 : decode cX8_richest 2 = .ok (.invokevirtual 406, 3) := by decide +kernel
theorem dX8_richest_5 : decode cX8_richest 5 = .ok (.ireturn, 1) := by decide +kernel
theorem dX8_firstOfMost_0 : decode cX8_firstOfMost 0 = .ok (.aload_n 0, 1) := by decide +kernel
theorem dX8_firstOfMost_1 : decode cX8_firstOfMost 1 = .ok (.getfield 10, 3) := by decide +kernel
theorem dX8_firstOfMost_4 : decode cX8_firstOfMost 4 = .ok (.getfield 79, 3) := by decide +kernel
theorem dX8_firstOfMost_7 : decode cX8_firstOfMost 7 = .ok (.getfield 82, 3) := by decide +kernel
theorem dX8_firstOfMost_10 : decode cX8_firstOfMost 10 = .ok (.astore_n 2, 1) := by decide +kernel
theorem dX8_firstOfMost_11 : decode cX8_firstOfMost 11 = .ok (.iconst (-1), 1) := by decide +kernel
theorem dX8_firstOfMost_12 : decode cX8_firstOfMost 12 = .ok (.istore_n 3, 1) := by decide +kernel
theorem dX8_firstOfMost_13 : decode cX8_firstOfMost 13 = .ok (.iconst (-1), 1) := by decide +kernel
theorem dX8_firstOfMost_14 : decode cX8_firstOfMost 14 = .ok (.istore 4, 2) := by decide +kernel
theorem dX8_firstOfMost_16 : decode cX8_firstOfMost 16 = .ok (.iconst 0, 1) := by decide +kernel
theorem dX8_firstOfMost_17 : decode cX8_firstOfMost 17 = .ok (.istore 5, 2) := by decide +kernel
theorem dX8_firstOfMost_19 : decode cX8_firstOfMost 19 = .ok (.iload 5, 2) := by decide +kernel
theorem dX8_firstOfMost_21 : decode cX8_firstOfMost 21 = .ok (.aload_n 2, 1) := by decide +kernel
theorem dX8_firstOfMost_22 : decode cX8_firstOfMost 22 = .ok (.getfield 130, 3) := by decide +kernel
theorem dX8_firstOfMost_25 : decode cX8_firstOfMost 25 = .ok (.if_icmp .ge 33, 3) := by decide +kernel
theorem dX8_firstOfMost_28 : decode cX8_firstOfMost 28 = .ok (.aload_n 2, 1) := by decide +kernel
theorem dX8_firstOfMost_29 : decode cX8_firstOfMost 29 = .ok (.iload 5, 2) := by decide +kernel
theorem dX8_firstOfMost_31 : decode cX8_firstOfMost 31 = .ok (.iload_n 1, 1) := by decide +kernel
theorem dX8_firstOfMost_32 : decode cX8_firstOfMost 32 = .ok (.invokevirtual 143, 3) := by decide +kernel
theorem dX8_firstOfMost_35 : decode cX8_firstOfMost 35 = .ok (.iload 4, 2) := by decide +kernel
theorem dX8_firstOfMost_37 : decode cX8_firstOfMost 37 = .ok (.if_icmp .le 15, 3) := by decide +kernel
theorem dX8_firstOfMost_40 : decode cX8_firstOfMost 40 = .ok (.iload 5, 2) := by decide +kernel
theorem dX8_firstOfMost_42 : decode cX8_firstOfMost 42 = .ok (.istore_n 3, 1) := by decide +kernel
theorem dX8_firstOfMost_43 : decode cX8_firstOfMost 43 = .ok (.aload_n 2, 1) := by decide +kernel
theorem dX8_firstOfMost_44 : decode cX8_firstOfMost 44 = .ok (.iload 5, 2) := by decide +kernel
theorem dX8_firstOfMost_46 : decode cX8_firstOfMost 46 = .ok (.iload_n 1, 1) := by decide +kernel
theorem dX8_firstOfMost_47 : decode cX8_firstOfMost 47 = .ok (.invokevirtual 143, 3) := by decide +kernel
theorem dX8_firstOfMost_50 : decode cX8_firstOfMost 50 = .ok (.istore 4, 2) := by decide +kernel
theorem dX8_firstOfMost_52 : decode cX8_firstOfMost 52 = .ok (.iinc 5 1, 3) := by decide +kernel
theorem dX8_firstOfMost_55 : decode cX8_firstOfMost 55 = .ok (.goto (-36), 3) := by decide +kernel
theorem dX8_firstOfMost_58 : decode cX8_firstOfMost 58 = .ok (.iload_n 3, 1) := by decide +kernel
theorem dX8_firstOfMost_59 : decode cX8_firstOfMost 59 = .ok (.ireturn, 1) := by decide +kernel
theorem dX8_ruined_0 : decode cX8_ruined 0 = .ok (.iconst 0, 1) := by decide +kernel
theorem dX8_ruined_1 : decode cX8_ruined 1 = .ok (.istore_n 1, 1) := by decide +kernel
theorem dX8_ruined_2 : decode cX8_ruined 2 = .ok (.iconst 0, 1) := by decide +kernel
theorem dX8_ruined_3 : decode cX8_ruined 3 = .ok (.istore_n 2, 1) := by decide +kernel
theorem dX8_ruined_4 : decode cX8_ruined 4 = .ok (.iload_n 2, 1) := by decide +kernel
theorem dX8_ruined_5 : decode cX8_ruined 5 = .ok (.aload_n 0, 1) := by decide +kernel
theorem dX8_ruined_6 : decode cX8_ruined 6 = .ok (.getfield 10, 3) := by decide +kernel
theorem dX8_ruined_9 : decode cX8_ruined 9 = .ok (.getfield 79, 3) := by decide +kernel
theorem dX8_ruined_12 : decode cX8_ruined 12 = .ok (.getfield 82, 3) := by decide +kernel
theorem dX8_ruined_15 : decode cX8_ruined 15 = .ok (.getfield 130, 3) := by decide +kernel
theorem dX8_ruined_18 : decode cX8_ruined 18 = .ok (.if_icmp .ge 39, 3) := by decide +kernel
theorem dX8_ruined_21 : decode cX8_ruined 21 = .ok (.iload_n 1, 1) := by decide +kernel
theorem dX8_ruined_22 : decode cX8_ruined 22 = .ok (.aload_n 0, 1) := by decide +kernel
theorem dX8_ruined_23 : decode cX8_ruined 23 = .ok (.getfield 10, 3) := by decide +kernel
theorem dX8_ruined_26 : decode cX8_ruined 26 = .ok (.getfield 79, 3) := by decide +kernel
theorem dX8_ruined_29 : decode cX8_ruined 29 = .ok (.getfield 82, 3) := by decide +kernel
theorem dX8_ruined_32 : decode cX8_ruined 32 = .ok (.iload_n 2, 1) := by decide +kernel
theorem dX8_ruined_33 : decode cX8_ruined 33 = .ok (.iconst 2, 1) := by decide +kernel
theorem dX8_ruined_34 : decode cX8_ruined 34 = .ok (.invokevirtual 143, 3) := by decide +kernel
theorem dX8_ruined_37 : decode cX8_ruined 37 = .ok (.iconst 1, 1) := by decide +kernel
theorem dX8_ruined_38 : decode cX8_ruined 38 = .ok (.if_icmp .ne 10, 3) := by decide +kernel
theorem dX8_ruined_41 : decode cX8_ruined 41 = .ok (.iload_n 2, 1) := by decide +kernel
theorem dX8_ruined_42 : decode cX8_ruined 42 = .ok (.invokestatic 163, 3) := by decide +kernel
theorem dX8_ruined_45 : decode cX8_ruined 45 = .ok (.goto 4, 3) := by decide +kernel
theorem dX8_ruined_48 : decode cX8_ruined 48 = .ok (.iconst 0, 1) := by decide +kernel
theorem dX8_ruined_49 : decode cX8_ruined 49 = .ok (.ior, 1) := by decide +kernel
theorem dX8_ruined_50 : decode cX8_ruined 50 = .ok (.istore_n 1, 1) := by decide +kernel
theorem dX8_ruined_51 : decode cX8_ruined 51 = .ok (.iinc 2 1, 3) := by decide +kernel
theorem dX8_ruined_54 : decode cX8_ruined 54 = .ok (.goto (-50), 3) := by decide +kernel
theorem dX8_ruined_57 : decode cX8_ruined 57 = .ok (.iload_n 1, 1) := by decide +kernel
theorem dX8_ruined_58 : decode cX8_ruined 58 = .ok (.ireturn, 1) := by decide +kernel
theorem dX8_idle_0 : decode cX8_idle 0 = .ok (.iconst 0, 1) := by decide +kernel
theorem dX8_idle_1 : decode cX8_idle 1 = .ok (.istore_n 1, 1) := by decide +kernel
theorem dX8_idle_2 : decode cX8_idle 2 = .ok (.iconst 0, 1) := by decide +kernel
theorem dX8_idle_3 : decode cX8_idle 3 = .ok (.istore_n 2, 1) := by decide +kernel
theorem dX8_idle_4 : decode cX8_idle 4 = .ok (.iload_n 2, 1) := by decide +kernel
theorem dX8_idle_5 : decode cX8_idle 5 = .ok (.aload_n 0, 1) := by decide +kernel
theorem dX8_idle_6 : decode cX8_idle 6 = .ok (.getfield 10, 3) := by decide +kernel
theorem dX8_idle_9 : decode cX8_idle 9 = .ok (.getfield 79, 3) := by decide +kernel
theorem dX8_idle_12 : decode cX8_idle 12 = .ok (.getfield 82, 3) := by decide +kernel
theorem dX8_idle_15 : decode cX8_idle 15 = .ok (.getfield 130, 3) := by decide +kernel
theorem dX8_idle_18 : decode cX8_idle 18 = .ok (.if_icmp .ge 34, 3) := by decide +kernel
theorem dX8_idle_21 : decode cX8_idle 21 = .ok (.iload_n 1, 1) := by decide +kernel
theorem dX8_idle_22 : decode cX8_idle 22 = .ok (.aload_n 0, 1) := by decide +kernel
theorem dX8_idle_23 : decode cX8_idle 23 = .ok (.getfield 10, 3) := by decide +kernel
theorem dX8_idle_26 : decode cX8_idle 26 = .ok (.getfield 79, 3) := by decide +kernel
theorem dX8_idle_29 : decode cX8_idle 29 = .ok (.iload_n 2, 1) := by decide +kernel
theorem dX8_idle_30 : decode cX8_idle 30 = .ok (.invokevirtual 260, 3) := by decide +kernel
theorem dX8_idle_33 : decode cX8_idle 33 = .ok (.ifCond .ne 10, 3) := by decide +kernel
theorem dX8_idle_36 : decode cX8_idle 36 = .ok (.iload_n 2, 1) := by decide +kernel
theorem dX8_idle_37 : decode cX8_idle 37 = .ok (.invokestatic 163, 3) := by decide +kernel
theorem dX8_idle_40 : decode cX8_idle 40 = .ok (.goto 4, 3) := by decide +kernel
theorem dX8_idle_43 : decode cX8_idle 43 = .ok (.iconst 0, 1) := by decide +kernel
theorem dX8_idle_44 : decode cX8_idle 44 = .ok (.ior, 1) := by decide +kernel
theorem dX8_idle_45 : decode cX8_idle 45 = .ok (.istore_n 1, 1) := by decide +kernel
theorem dX8_idle_46 : decode cX8_idle 46 = .ok (.iinc 2 1, 3) := by decide +kernel
theorem dX8_idle_49 : decode cX8_idle 49 = .ok (.goto (-45), 3) := by decide +kernel
theorem dX8_idle_52 : decode cX8_idle 52 = .ok (.iload_n 1, 1) := by decide +kernel
theorem dX8_idle_53 : decode cX8_idle 53 = .ok (.ireturn, 1) := by decide +kernel
theorem dX8_ledger_0 : decode cX8_ledger 0 = .ok (.iload_n 1, 1) := by decide +kernel
theorem dX8_ledger_1 : decode cX8_ledger 1 = .ok (.iconst 0, 1) := by decide +kernel
theorem dX8_ledger_2 : decode cX8_ledger 2 = .ok (.iconst 2, 1) := by decide +kernel
theorem dX8_ledger_3 : decode cX8_ledger 3 = .ok (.invokestatic 61, 3) := by decide +kernel
theorem dX8_ledger_6 : decode cX8_ledger 6 = .ok (.ifCond .ne 6, 3) := by decide +kernel
theorem dX8_ledger_9 : decode cX8_ledger 9 = .ok (.bipush (-2), 2) := by decide +kernel
theorem dX8_ledger_11 : decode cX8_ledger 11 = .ok (.ireturn, 1) := by decide +kernel
theorem dX8_ledger_12 : decode cX8_ledger 12 = .ok (.iconst 0, 1) := by decide +kernel
theorem dX8_ledger_13 : decode cX8_ledger 13 = .ok (.istore_n 2, 1) := by decide +kernel
theorem dX8_ledger_14 : decode cX8_ledger 14 = .ok (.iconst 0, 1) := by decide +kernel
theorem dX8_ledger_15 : decode cX8_ledger 15 = .ok (.istore_n 3, 1) := by decide +kernel
theorem dX8_ledger_16 : decode cX8_ledger 16 = .ok (.iload_n 3, 1) := by decide +kernel
theorem dX8_ledger_17 : decode cX8_ledger 17 = .ok (.aload_n 0, 1) := by decide +kernel
theorem dX8_ledger_18 : decode cX8_ledger 18 = .ok (.getfield 10, 3) := by decide +kernel
theorem dX8_ledger_21 : decode cX8_ledger 21 = .ok (.getfield 79, 3) := by decide +kernel
theorem dX8_ledger_24 : decode cX8_ledger 24 = .ok (.getfield 266, 3) := by decide +kernel
theorem dX8_ledger_27 : decode cX8_ledger 27 = .ok (.getfield 130, 3) := by decide +kernel
theorem dX8_ledger_30 : decode cX8_ledger 30 = .ok (.if_icmp .ge 44, 3) := by decide +kernel
theorem dX8_ledger_33 : decode cX8_ledger 33 = .ok (.iload_n 2, 1) := by decide +kernel
theorem dX8_ledger_34 : decode cX8_ledger 34 = .ok (.aload_n 0, 1) := by decide +kernel
theorem dX8_ledger_35 : decode cX8_ledger 35 = .ok (.getfield 10, 3) := by decide +kernel
theorem dX8_ledger_38 : decode cX8_ledger 38 = .ok (.getfield 79, 3) := by decide +kernel
theorem dX8_ledger_41 : decode cX8_ledger 41 = .ok (.iload_n 3, 1) := by decide +kernel
theorem dX8_ledger_42 : decode cX8_ledger 42 = .ok (.iconst 2, 1) := by decide +kernel
theorem dX8_ledger_43 : decode cX8_ledger 43 = .ok (.invokevirtual 269, 3) := by decide +kernel
theorem dX8_ledger_46 : decode cX8_ledger 46 = .ok (.iload_n 1, 1) := by decide +kernel
theorem dX8_ledger_47 : decode cX8_ledger 47 = .ok (.if_icmp .ne 18, 3) := by decide +kernel
theorem dX8_ledger_50 : decode cX8_ledger 50 = .ok (.aload_n 0, 1) := by decide +kernel
theorem dX8_ledger_51 : decode cX8_ledger 51 = .ok (.getfield 10, 3) := by decide +kernel
theorem dX8_ledger_54 : decode cX8_ledger 54 = .ok (.getfield 79, 3) := by decide +kernel
theorem dX8_ledger_57 : decode cX8_ledger 57 = .ok (.iload_n 3, 1) := by decide +kernel
theorem dX8_ledger_58 : decode cX8_ledger 58 = .ok (.iconst 3, 1) := by decide +kernel
theorem dX8_ledger_59 : decode cX8_ledger 59 = .ok (.invokevirtual 269, 3) := by decide +kernel
theorem dX8_ledger_62 : decode cX8_ledger 62 = .ok (.goto 4, 3) := by decide +kernel
theorem dX8_ledger_65 : decode cX8_ledger 65 = .ok (.iconst 0, 1) := by decide +kernel
theorem dX8_ledger_66 : decode cX8_ledger 66 = .ok (.iadd, 1) := by decide +kernel
theorem dX8_ledger_67 : decode cX8_ledger 67 = .ok (.istore_n 2, 1) := by decide +kernel
theorem dX8_ledger_68 : decode cX8_ledger 68 = .ok (.iinc 3 1, 3) := by decide +kernel
theorem dX8_ledger_71 : decode cX8_ledger 71 = .ok (.goto (-55), 3) := by decide +kernel
theorem dX8_ledger_74 : decode cX8_ledger 74 = .ok (.iload_n 2, 1) := by decide +kernel
theorem dX8_ledger_75 : decode cX8_ledger 75 = .ok (.ireturn, 1) := by decide +kernel
theorem dX8_image_0 : decode cX8_image 0 = .ok (.aload_n 0, 1) := by decide +kernel
theorem dX8_image_1 : decode cX8_image 1 = .ok (.getfield 16, 3) := by decide +kernel
theorem dX8_image_4 : decode cX8_image 4 = .ok (.aload_n 0, 1) := by decide +kernel
theorem dX8_image_5 : decode cX8_image 5 = .ok (.getfield 10, 3) := by decide +kernel
theorem dX8_image_8 : decode cX8_image 8 = .ok (.invokevirtual 409, 3) := by decide +kernel
theorem dX8_image_11 : decode cX8_image 11 = .ok (.aload_n 0, 1) := by decide +kernel
theorem dX8_image_12 : decode cX8_image 12 = .ok (.getfield 10, 3) := by decide +kernel
theorem dX8_image_15 : decode cX8_image 15 = .ok (.getfield 79, 3) := by decide +kernel
theorem dX8_image_18 : decode cX8_image 18 = .ok (.getfield 133, 3) := by decide +kernel
theorem dX8_image_21 : decode cX8_image 21 = .ok (.ireturn, 1) := by decide +kernel
theorem dX8_back_0 : decode cX8_back 0 = .ok (.aload_n 0, 1) := by decide +kernel
theorem dX8_back_1 : decode cX8_back 1 = .ok (.getfield 10, 3) := by decide +kernel
theorem dX8_back_4 : decode cX8_back 4 = .ok (.aload_n 0, 1) := by decide +kernel
theorem dX8_back_5 : decode cX8_back 5 = .ok (.getfield 16, 3) := by decide +kernel
theorem dX8_back_8 : decode cX8_back 8 = .ok (.invokevirtual 409, 3) := by decide +kernel
theorem dX8_back_11 : decode cX8_back 11 = .ok (.aload_n 0, 1) := by decide +kernel
theorem dX8_back_12 : decode cX8_back 12 = .ok (.getfield 10, 3) := by decide +kernel
theorem dX8_back_15 : decode cX8_back 15 = .ok (.getfield 79, 3) := by decide +kernel
theorem dX8_back_18 : decode cX8_back 18 = .ok (.getfield 133, 3) := by decide +kernel
theorem dX8_back_21 : decode cX8_back 21 = .ok (.ireturn, 1) := by decide +kernel
theorem dX8_about_0 : decode cX8_about 0 = .ok (.iload_n 1, 1) := by decide +kernel
theorem dX8_about_1 : decode cX8_about 1 = .ok (.tableswitch 138 0 8 #[51, 62, 76, 84, 92, 100, 111, 122, 133], 51) := by decide +kernel
theorem dX8_about_52 : decode cX8_about 52 = .ok (.aload_n 0, 1) := by decide +kernel
theorem dX8_about_53 : decode cX8_about 53 = .ok (.getfield 10, 3) := by decide +kernel
theorem dX8_about_56 : decode cX8_about 56 = .ok (.getfield 65, 3) := by decide +kernel
theorem dX8_about_59 : decode cX8_about 59 = .ok (.getfield 130, 3) := by decide +kernel
theorem dX8_about_62 : decode cX8_about 62 = .ok (.ireturn, 1) := by decide +kernel
theorem dX8_about_63 : decode cX8_about 63 = .ok (.aload_n 0, 1) := by decide +kernel
theorem dX8_about_64 : decode cX8_about 64 = .ok (.getfield 10, 3) := by decide +kernel
theorem dX8_about_67 : decode cX8_about 67 = .ok (.getfield 79, 3) := by decide +kernel
theorem dX8_about_70 : decode cX8_about 70 = .ok (.getfield 82, 3) := by decide +kernel
theorem dX8_about_73 : decode cX8_about 73 = .ok (.getfield 130, 3) := by decide +kernel
theorem dX8_about_76 : decode cX8_about 76 = .ok (.ireturn, 1) := by decide +kernel
theorem dX8_about_77 : decode cX8_about 77 = .ok (.aload_n 0, 1) := by decide +kernel
theorem dX8_about_78 : decode cX8_about 78 = .ok (.getfield 10, 3) := by decide +kernel
theorem dX8_about_81 : decode cX8_about 81 = .ok (.getfield 89, 3) := by decide +kernel
theorem dX8_about_84 : decode cX8_about 84 = .ok (.ireturn, 1) := by decide +kernel
theorem dX8_about_85 : decode cX8_about 85 = .ok (.aload_n 0, 1) := by decide +kernel
theorem dX8_about_86 : decode cX8_about 86 = .ok (.getfield 10, 3) := by decide +kernel
theorem dX8_about_89 : decode cX8_about 89 = .ok (.getfield 106, 3) := by decide +kernel
theorem dX8_about_92 : decode cX8_about 92 = .ok (.ireturn, 1) := by decide +kernel
theorem dX8_about_93 : decode cX8_about 93 = .ok (.aload_n 0, 1) := by decide +kernel
theorem dX8_about_94 : decode cX8_about 94 = .ok (.getfield 10, 3) := by decide +kernel
theorem dX8_about_97 : decode cX8_about 97 = .ok (.getfield 413, 3) := by decide +kernel
theorem dX8_about_100 : decode cX8_about 100 = .ok (.ireturn, 1) := by decide +kernel
theorem dX8_about_101 : decode cX8_about 101 = .ok (.aload_n 0, 1) := by decide +kernel
theorem dX8_about_102 : decode cX8_about 102 = .ok (.getfield 10, 3) := by decide +kernel
theorem dX8_about_105 : decode cX8_about 105 = .ok (.getfield 350, 3) := by decide +kernel
theorem dX8_about_108 : decode cX8_about 108 = .ok (.getfield 130, 3) := by decide +kernel
theorem dX8_about_111 : decode cX8_about 111 = .ok (.ireturn, 1) := by decide +kernel
theorem dX8_about_112 : decode cX8_about 112 = .ok (.aload_n 0, 1) := by decide +kernel
theorem dX8_about_113 : decode cX8_about 113 = .ok (.getfield 10, 3) := by decide +kernel
theorem dX8_about_116 : decode cX8_about 116 = .ok (.getfield 373, 3) := by decide +kernel
theorem dX8_about_119 : decode cX8_about 119 = .ok (.getfield 130, 3) := by decide +kernel
theorem dX8_about_122 : decode cX8_about 122 = .ok (.ireturn, 1) := by decide +kernel
theorem dX8_about_123 : decode cX8_about 123 = .ok (.aload_n 0, 1) := by decide +kernel
theorem dX8_about_124 : decode cX8_about 124 = .ok (.getfield 10, 3) := by decide +kernel
theorem dX8_about_127 : decode cX8_about 127 = .ok (.getfield 399, 3) := by decide +kernel
theorem dX8_about_130 : decode cX8_about 130 = .ok (.getfield 130, 3) := by decide +kernel
theorem dX8_about_133 : decode cX8_about 133 = .ok (.ireturn, 1) := by decide +kernel
theorem dX8_about_134 : decode cX8_about 134 = .ok (.aload_n 0, 1) := by decide +kernel
theorem dX8_about_135 : decode cX8_about 135 = .ok (.getfield 51, 3) := by decide +kernel
theorem dX8_about_138 : decode cX8_about 138 = .ok (.ireturn, 1) := by decide +kernel
theorem dX8_about_139 : decode cX8_about 139 = .ok (.bipush (-2), 2) := by decide +kernel
theorem dX8_about_141 : decode cX8_about 141 = .ok (.ireturn, 1) := by decide +kernel
theorem dX8_someFacts_0 : decode cX8_someFacts 0 = .ok (.iload_n 1, 1) := by decide +kernel
theorem dX8_someFacts_1 : decode cX8_someFacts 1 = .ok (.iconst 1, 1) := by decide +kernel
theorem dX8_someFacts_2 : decode cX8_someFacts 2 = .ok (.aload_n 0, 1) := by decide +kernel
theorem dX8_someFacts_3 : decode cX8_someFacts 3 = .ok (.invokevirtual 393, 3) := by decide +kernel
theorem dX8_someFacts_6 : decode cX8_someFacts 6 = .ok (.invokestatic 61, 3) := by decide +kernel
theorem dX8_someFacts_9 : decode cX8_someFacts 9 = .ok (.ireturn, 1) := by decide +kernel
theorem dX8_everyFact_0 : decode cX8_everyFact 0 = .ok (.aload_n 0, 1) := by decide +kernel
theorem dX8_everyFact_1 : decode cX8_everyFact 1 = .ok (.getfield 10, 3) := by decide +kernel
theorem dX8_everyFact_4 : decode cX8_everyFact 4 = .ok (.getfield 65, 3) := by decide +kernel
theorem dX8_everyFact_7 : decode cX8_everyFact 7 = .ok (.getfield 130, 3) := by decide +kernel
theorem dX8_everyFact_10 : decode cX8_everyFact 10 = .ok (.invokestatic 163, 3) := by decide +kernel
theorem dX8_everyFact_13 : decode cX8_everyFact 13 = .ok (.iconst 1, 1) := by decide +kernel
theorem dX8_everyFact_14 : decode cX8_everyFact 14 = .ok (.isub, 1) := by decide +kernel
theorem dX8_everyFact_15 : decode cX8_everyFact 15 = .ok (.ireturn, 1) := by decide +kernel
theorem dX8_met_0 : decode cX8_met 0 = .ok (.iload_n 0, 1) := by decide +kernel
theorem dX8_met_1 : decode cX8_met 1 = .ok (.ifCond .eq 19, 3) := by decide +kernel
theorem dX8_met_4 : decode cX8_met 4 = .ok (.iload_n 1, 1) := by decide +kernel
theorem dX8_met_5 : decode cX8_met 5 = .ok (.iload_n 2, 1) := by decide +kernel
theorem dX8_met_6 : decode cX8_met 6 = .ok (.iconst (-1), 1) := by decide +kernel
theorem dX8_met_7 : decode cX8_met 7 = .ok (.ixor, 1) := by decide +kernel
theorem dX8_met_8 : decode cX8_met 8 = .ok (.iand, 1) := by decide +kernel
theorem dX8_met_9 : decode cX8_met 9 = .ok (.ifCond .ne 7, 3) := by decide +kernel
theorem dX8_met_12 : decode cX8_met 12 = .ok (.iconst 1, 1) := by decide +kernel
theorem dX8_met_13 : decode cX8_met 13 = .ok (.goto 18, 3) := by decide +kernel
theorem dX8_met_16 : decode cX8_met 16 = .ok (.iconst 0, 1) := by decide +kernel
theorem dX8_met_17 : decode cX8_met 17 = .ok (.goto 14, 3) := by decide +kernel
theorem dX8_met_20 : decode cX8_met 20 = .ok (.iload_n 1, 1) := by decide +kernel
theorem dX8_met_21 : decode cX8_met 21 = .ok (.iload_n 2, 1) := by decide +kernel
theorem dX8_met_22 : decode cX8_met 22 = .ok (.iand, 1) := by decide +kernel
theorem dX8_met_23 : decode cX8_met 23 = .ok (.ifCond .eq 7, 3) := by decide +kernel
theorem dX8_met_26 : decode cX8_met 26 = .ok (.iconst 1, 1) := by decide +kernel
theorem dX8_met_27 : decode cX8_met 27 = .ok (.goto 4, 3) := by decide +kernel
theorem dX8_met_30 : decode cX8_met 30 = .ok (.iconst 0, 1) := by decide +kernel
theorem dX8_met_31 : decode cX8_met 31 = .ok (.ireturn, 1) := by decide +kernel
theorem dX8_within_0 : decode cX8_within 0 = .ok (.iload_n 0, 1) := by decide +kernel
theorem dX8_within_1 : decode cX8_within 1 = .ok (.iload_n 1, 1) := by decide +kernel
theorem dX8_within_2 : decode cX8_within 2 = .ok (.if_icmp .lt 12, 3) := by decide +kernel
theorem dX8_within_5 : decode cX8_within 5 = .ok (.iload_n 0, 1) := by decide +kernel
theorem dX8_within_6 : decode cX8_within 6 = .ok (.iload_n 2, 1) := by decide +kernel
theorem dX8_within_7 : decode cX8_within 7 = .ok (.if_icmp .gt 7, 3) := by decide +kernel
theorem dX8_within_10 : decode cX8_within 10 = .ok (.iconst 1, 1) := by decide +kernel
theorem dX8_within_11 : decode cX8_within 11 = .ok (.goto 4, 3) := by decide +kernel
theorem dX8_within_14 : decode cX8_within 14 = .ok (.iconst 0, 1) := by decide +kernel
theorem dX8_within_15 : decode cX8_within 15 = .ok (.ireturn, 1) := by decide +kernel
theorem dX8_clamp_0 : decode cX8_clamp 0 = .ok (.iload_n 1, 1) := by decide +kernel
theorem dX8_clamp_1 : decode cX8_clamp 1 = .ok (.iload_n 2, 1) := by decide +kernel
theorem dX8_clamp_2 : decode cX8_clamp 2 = .ok (.iload_n 0, 1) := by decide +kernel
theorem dX8_clamp_3 : decode cX8_clamp 3 = .ok (.invokestatic 224, 3) := by decide +kernel
theorem dX8_clamp_6 : decode cX8_clamp 6 = .ok (.invokestatic 416, 3) := by decide +kernel
theorem dX8_clamp_9 : decode cX8_clamp 9 = .ok (.ireturn, 1) := by decide +kernel
theorem dX8_bit_0 : decode cX8_bit 0 = .ok (.iconst 1, 1) := by decide +kernel
theorem dX8_bit_1 : decode cX8_bit 1 = .ok (.iload_n 0, 1) := by decide +kernel
theorem dX8_bit_2 : decode cX8_bit 2 = .ok (.ishl, 1) := by decide +kernel
theorem dX8_bit_3 : decode cX8_bit 3 = .ok (.ireturn, 1) := by decide +kernel
