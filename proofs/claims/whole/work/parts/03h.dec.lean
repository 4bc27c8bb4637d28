theorem dX9_fair_30 : decode cX9_fair 30 = .ok (.getfield 447, 3) := by decide +kernel
theorem dX9_fair_33 : decode cX9_fair 33 = .ok (.aload_n 0, 1) := by decide +kernel
theorem dX9_fair_34 : decode cX9_fair 34 = .ok (.getfield 450, 3) := by decide +kernel
theorem dX9_fair_37 : decode cX9_fair 37 = .ok (.lsub, 1) := by decide +kernel
theorem dX9_fair_38 : decode cX9_fair 38 = .ok (.lmul, 1) := by decide +kernel
theorem dX9_fair_39 : decode cX9_fair 39 = .ok (.lstore 6, 2) := by decide +kernel
theorem dX9_fair_41 : decode cX9_fair 41 = .ok (.iload 5, 2) := by decide +kernel
theorem dX9_fair_43 : decode cX9_fair 43 = .ok (.ifCond .eq 10, 3) := by decide +kernel
theorem dX9_fair_46 : decode cX9_fair 46 = .ok (.aload_n 0, 1) := by decide +kernel
theorem dX9_fair_47 : decode cX9_fair 47 = .ok (.getfield 447, 3) := by decide +kernel
theorem dX9_fair_50 : decode cX9_fair 50 = .ok (.goto 5, 3) := by decide +kernel
theorem dX9_fair_53 : decode cX9_fair 53 = .ok (.lload 6, 2) := by decide +kernel
theorem dX9_fair_55 : decode cX9_fair 55 = .ok (.lload 6, 2) := by decide +kernel
theorem dX9_fair_57 : decode cX9_fair 57 = .ok (.aload_n 0, 1) := by decide +kernel
theorem dX9_fair_58 : decode cX9_fair 58 = .ok (.getfield 447, 3) := by decide +kernel
theorem dX9_fair_61 : decode cX9_fair 61 = .ok (.invokestatic 458, 3) := by decide +kernel
theorem dX9_fair_64 : decode cX9_fair 64 = .ok (.ldiv, 1) := by decide +kernel
theorem dX9_fair_65 : decode cX9_fair 65 = .ok (.lreturn, 1) := by decide +kernel
theorem dX9_areOpen_0 : decode cX9_areOpen 0 = .ok (.iload_n 1, 1) := by decide +kernel
theorem dX9_areOpen_1 : decode cX9_areOpen 1 = .ok (.iconst 1, 1) := by decide +kernel
theorem dX9_areOpen_2 : decode cX9_areOpen 2 = .ok (.iconst 1, 1) := by decide +kernel
theorem dX9_areOpen_3 : decode cX9_areOpen 3 = .ok (.aload_n 0, 1) := by decide +kernel
theorem dX9_areOpen_4 : decode cX9_areOpen 4 = .ok (.getfield 7, 3) := by decide +kernel
theorem dX9_areOpen_7 : decode cX9_areOpen 7 = .ok (.bipush 11, 2) := by decide +kernel
theorem dX9_areOpen_9 : decode cX9_areOpen 9 = .ok (.iaload, 1) := by decide +kernel
theorem dX9_areOpen_10 : decode cX9_areOpen 10 = .ok (.ishl, 1) := by decide +kernel
theorem dX9_areOpen_11 : decode cX9_areOpen 11 = .ok (.iconst 1, 1) := by decide +kernel
theorem dX9_areOpen_12 : decode cX9_areOpen 12 = .ok (.isub, 1) := by decide +kernel
theorem dX9_areOpen_13 : decode cX9_areOpen 13 = .ok (.invokestatic 63, 3) := by decide +kernel
theorem dX9_areOpen_16 : decode cX9_areOpen 16 = .ok (.ifCond .ne 5, 3) := by decide +kernel
theorem dX9_areOpen_19 : decode cX9_areOpen 19 = .ok (.iconst 0, 1) := by decide +kernel
theorem dX9_areOpen_20 : decode cX9_areOpen 20 = .ok (.ireturn, 1) := by decide +kernel
theorem dX9_areOpen_21 : decode cX9_areOpen 21 = .ok (.iconst 0, 1) := by decide +kernel
theorem dX9_areOpen_22 : decode cX9_areOpen 22 = .ok (.istore_n 2, 1) := by decide +kernel
theorem dX9_areOpen_23 : decode cX9_areOpen 23 = .ok (.iload_n 2, 1) := by decide +kernel
theorem dX9_areOpen_24 : decode cX9_areOpen 24 = .ok (.aload_n 0, 1) := by decide +kernel
theorem dX9_areOpen_25 : decode cX9_areOpen 25 = .ok (.getfield 7, 3) := by decide +kernel
theorem dX9_areOpen_28 : decode cX9_areOpen 28 = .ok (.bipush 11, 2) := by decide +kernel
theorem dX9_areOpen_30 : decode cX9_areOpen 30 = .ok (.iaload, 1) := by decide +kernel
theorem dX9_areOpen_31 : decode cX9_areOpen 31 = .ok (.if_icmp .ge 27, 3) := by decide +kernel
theorem dX9_areOpen_34 : decode cX9_areOpen 34 = .ok (.iload_n 1, 1) := by decide +kernel
theorem dX9_areOpen_35 : decode cX9_areOpen 35 = .ok (.iload_n 2, 1) := by decide +kernel
theorem dX9_areOpen_36 : decode cX9_areOpen 36 = .ok (.invokestatic 261, 3) := by decide +kernel
theorem dX9_areOpen_39 : decode cX9_areOpen 39 = .ok (.ifCond .eq 13, 3) := by decide +kernel
theorem dX9_areOpen_42 : decode cX9_areOpen 42 = .ok (.aload_n 0, 1) := by decide +kernel
theorem dX9_areOpen_43 : decode cX9_areOpen 43 = .ok (.iload_n 2, 1) := by decide +kernel
theorem dX9_areOpen_44 : decode cX9_areOpen 44 = .ok (.invokevirtual 353, 3) := by decide +kernel
theorem dX9_areOpen_47 : decode cX9_areOpen 47 = .ok (.ifCond .ne 5, 3) := by decide +kernel
theorem dX9_areOpen_50 : decode cX9_areOpen 50 = .ok (.iconst 0, 1) := by decide +kernel
theorem dX9_areOpen_51 : decode cX9_areOpen 51 = .ok (.ireturn, 1) := by decide +kernel
theorem dX9_areOpen_52 : decode cX9_areOpen 52 = .ok (.iinc 2 1, 3) := by decide +kernel
theorem dX9_areOpen_55 : decode cX9_areOpen 55 = .ok (.goto (-32), 3) := by decide +kernel
theorem dX9_areOpen_58 : decode cX9_areOpen 58 = .ok (.iconst 1, 1) := by decide +kernel
theorem dX9_areOpen_59 : decode cX9_areOpen 59 = .ok (.ireturn, 1) := by decide +kernel
theorem dX9_soAmong_0 : decode cX9_soAmong 0 = .ok (.iconst 0, 1) := by decide +kernel
theorem dX9_soAmong_1 : decode cX9_soAmong 1 = .ok (.istore_n 3, 1) := by decide +kernel
theorem dX9_soAmong_2 : decode cX9_soAmong 2 = .ok (.iconst 0, 1) := by decide +kernel
theorem dX9_soAmong_3 : decode cX9_soAmong 3 = .ok (.istore 4, 2) := by decide +kernel
theorem dX9_soAmong_5 : decode cX9_soAmong 5 = .ok (.iload 4, 2) := by decide +kernel
theorem dX9_soAmong_7 : decode cX9_soAmong 7 = .ok (.aload_n 0, 1) := by decide +kernel
theorem dX9_soAmong_8 : decode cX9_soAmong 8 = .ok (.getfield 7, 3) := by decide +kernel
theorem dX9_soAmong_11 : decode cX9_soAmong 11 = .ok (.bipush 11, 2) := by decide +kernel
theorem dX9_soAmong_13 : decode cX9_soAmong 13 = .ok (.iaload, 1) := by decide +kernel
theorem dX9_soAmong_14 : decode cX9_soAmong 14 = .ok (.if_icmp .ge 36, 3) := by decide +kernel
theorem dX9_soAmong_17 : decode cX9_soAmong 17 = .ok (.iload_n 3, 1) := by decide +kernel
theorem dX9_soAmong_18 : decode cX9_soAmong 18 = .ok (.iload_n 1, 1) := by decide +kernel
theorem dX9_soAmong_19 : decode cX9_soAmong 19 = .ok (.iload 4, 2) := by decide +kernel
theorem dX9_soAmong_21 : decode cX9_soAmong 21 = .ok (.invokestatic 261, 3) := by decide +kernel
theorem dX9_soAmong_24 : decode cX9_soAmong 24 = .ok (.ifCond .eq 17, 3) := by decide +kernel
theorem dX9_soAmong_27 : decode cX9_soAmong 27 = .ok (.aload_n 0, 1) := by decide +kernel
theorem dX9_soAmong_28 : decode cX9_soAmong 28 = .ok (.iload 4, 2) := by decide +kernel
theorem dX9_soAmong_30 : decode cX9_soAmong 30 = .ok (.iload_n 2, 1) := by decide +kernel
theorem dX9_soAmong_31 : decode cX9_soAmong 31 = .ok (.invokevirtual 356, 3) := by decide +kernel
theorem dX9_soAmong_34 : decode cX9_soAmong 34 = .ok (.ifCond .eq 7, 3) := by decide +kernel
theorem dX9_soAmong_37 : decode cX9_soAmong 37 = .ok (.iconst 1, 1) := by decide +kernel
theorem dX9_soAmong_38 : decode cX9_soAmong 38 = .ok (.goto 4, 3) := by decide +kernel
theorem dX9_soAmong_41 : decode cX9_soAmong 41 = .ok (.iconst 0, 1) := by decide +kernel
theorem dX9_soAmong_42 : decode cX9_soAmong 42 = .ok (.iadd, 1) := by decide +kernel
theorem dX9_soAmong_43 : decode cX9_soAmong 43 = .ok (.istore_n 3, 1) := by decide +kernel
theorem dX9_soAmong_44 : decode cX9_soAmong 44 = .ok (.iinc 4 1, 3) := by decide +kernel
theorem dX9_soAmong_47 : decode cX9_soAmong 47 = .ok (.goto (-42), 3) := by decide +kernel
theorem dX9_soAmong_50 : decode cX9_soAmong 50 = .ok (.iload_n 3, 1) := by decide +kernel
theorem dX9_soAmong_51 : decode cX9_soAmong 51 = .ok (.ireturn, 1) := by decide +kernel
theorem dX9_costOf_0 : decode cX9_costOf 0 = .ok (.iconst 0, 1) := by decide +kernel
theorem dX9_costOf_1 : decode cX9_costOf 1 = .ok (.istore_n 2, 1) := by decide +kernel
theorem dX9_costOf_2 : decode cX9_costOf 2 = .ok (.iconst 0, 1) := by decide +kernel
theorem dX9_costOf_3 : decode cX9_costOf 3 = .ok (.istore_n 3, 1) := by decide +kernel
theorem dX9_costOf_4 : decode cX9_costOf 4 = .ok (.iload_n 3, 1) := by decide +kernel
theorem dX9_costOf_5 : decode cX9_costOf 5 = .ok (.aload_n 0, 1) := by decide +kernel
theorem dX9_costOf_6 : decode cX9_costOf 6 = .ok (.getfield 7, 3) := by decide +kernel
theorem dX9_costOf_9 : decode cX9_costOf 9 = .ok (.iconst 0, 1) := by decide +kernel
theorem dX9_costOf_10 : decode cX9_costOf 10 = .ok (.iaload, 1) := by decide +kernel
theorem dX9_costOf_11 : decode cX9_costOf 11 = .ok (.if_icmp .ge 37, 3) := by decide +kernel
theorem dX9_costOf_14 : decode cX9_costOf 14 = .ok (.iload_n 2, 1) := by decide +kernel
theorem dX9_costOf_15 : decode cX9_costOf 15 = .ok (.iload_n 1, 1) := by decide +kernel
theorem dX9_costOf_16 : decode cX9_costOf 16 = .ok (.iload_n 3, 1) := by decide +kernel
theorem dX9_costOf_17 : decode cX9_costOf 17 = .ok (.invokestatic 261, 3) := by decide +kernel
theorem dX9_costOf_20 : decode cX9_costOf 20 = .ok (.ifCond .eq 19, 3) := by decide +kernel
theorem dX9_costOf_23 : decode cX9_costOf 23 = .ok (.aload_n 0, 1) := by decide +kernel
theorem dX9_costOf_24 : decode cX9_costOf 24 = .ok (.getfield 7, 3) := by decide +kernel
theorem dX9_costOf_27 : decode cX9_costOf 27 = .ok (.bipush 110, 2) := by decide +kernel
theorem dX9_costOf_29 : decode cX9_costOf 29 = .ok (.iconst 2, 1) := by decide +kernel
theorem dX9_costOf_30 : decode cX9_costOf 30 = .ok (.iload_n 3, 1) := by decide +kernel
theorem dX9_costOf_31 : decode cX9_costOf 31 = .ok (.imul, 1) := by decide +kernel
theorem dX9_costOf_32 : decode cX9_costOf 32 = .ok (.iadd, 1) := by decide +kernel
theorem dX9_costOf_33 : decode cX9_costOf 33 = .ok (.iconst 1, 1) := by decide +kernel
theorem dX9_costOf_34 : decode cX9_costOf 34 = .ok (.iadd, 1) := by decide +kernel
theorem dX9_costOf_35 : decode cX9_costOf 35 = .ok (.iaload, 1) := by decide +kernel
theorem dX9_costOf_36 : decode cX9_costOf 36 = .ok (.goto 4, 3) := by decide +kernel
theorem dX9_costOf_39 : decode cX9_costOf 39 = .ok (.iconst 0, 1) := by decide +kernel
theorem dX9_costOf_40 : decode cX9_costOf 40 = .ok (.iadd, 1) := by decide +kernel
theorem dX9_costOf_41 : decode cX9_costOf 41 = .ok (.istore_n 2, 1) := by decide +kernel
theorem dX9_costOf_42 : decode cX9_costOf 42 = .ok (.iinc 3 1, 3) := by decide +kernel
theorem dX9_costOf_45 : decode cX9_costOf 45 = .ok (.goto (-41), 3) := by decide +kernel
theorem dX9_costOf_48 : decode cX9_costOf 48 = .ok (.iload_n 2, 1) := by decide +kernel
theorem dX9_costOf_49 : decode cX9_costOf 49 = .ok (.ireturn, 1) := by decide +kernel
theorem dX9_allFacts_0 : decode cX9_allFacts 0 = .ok (.iconst 1, 1) := by decide +kernel
theorem dX9_allFacts_1 : decode cX9_allFacts 1 = .ok (.aload_n 0, 1) := by decide +kernel
theorem dX9_allFacts_2 : decode cX9_allFacts 2 = .ok (.getfield 7, 3) := by decide +kernel
theorem dX9_allFacts_5 : decode cX9_allFacts 5 = .ok (.iconst 0, 1) := by decide +kernel
theorem dX9_allFacts_6 : decode cX9_allFacts 6 = .ok (.iaload, 1) := by decide +kernel
theorem dX9_allFacts_7 : decode cX9_allFacts 7 = .ok (.ishl, 1) := by decide +kernel
theorem dX9_allFacts_8 : decode cX9_allFacts 8 = .ok (.iconst 1, 1) := by decide +kernel
theorem dX9_allFacts_9 : decode cX9_allFacts 9 = .ok (.isub, 1) := by decide +kernel
theorem dX9_allFacts_10 : decode cX9_allFacts 10 = .ok (.ireturn, 1) := by decide +kernel
theorem dX9_least_0 : decode cX9_least 0 = .ok (.aload_n 0, 1) := by decide +kernel
theorem dX9_least_1 : decode cX9_least 1 = .ok (.iload_n 1, 1) := by decide +kernel
theorem dX9_least_2 : decode cX9_least 2 = .ok (.invokevirtual 461, 3) := by decide +kernel
theorem dX9_least_5 : decode cX9_least 5 = .ok (.ifCond .ne 5, 3) := by decide +kernel
theorem dX9_least_8 : decode cX9_least 8 = .ok (.iconst (-1), 1) := by decide +kernel
theorem dX9_least_9 : decode cX9_least 9 = .ok (.ireturn, 1) := by decide +kernel
theorem dX9_least_10 : decode cX9_least 10 = .ok (.aload_n 0, 1) := by decide +kernel
theorem dX9_least_11 : decode cX9_least 11 = .ok (.invokevirtual 464, 3) := by decide +kernel
theorem dX9_least_14 : decode cX9_least 14 = .ok (.aload_n 0, 1) := by decide +kernel
theorem dX9_least_15 : decode cX9_least 15 = .ok (.getfield 7, 3) := by decide +kernel
theorem dX9_least_18 : decode cX9_least 18 = .ok (.bipush 10, 2) := by decide +kernel
theorem dX9_least_20 : decode cX9_least 20 = .ok (.iaload, 1) := by decide +kernel
theorem dX9_least_21 : decode cX9_least 21 = .ok (.iconst (-1), 1) := by decide +kernel
theorem dX9_least_22 : decode cX9_least 22 = .ok (.ixor, 1) := by decide +kernel
theorem dX9_least_23 : decode cX9_least 23 = .ok (.iand, 1) := by decide +kernel
theorem dX9_least_24 : decode cX9_least 24 = .ok (.istore_n 3, 1) := by decide +kernel
theorem dX9_least_25 : decode cX9_least 25 = .ok (.iload_n 3, 1) := by decide +kernel
theorem dX9_least_26 : decode cX9_least 26 = .ok (.istore 4, 2) := by decide +kernel
theorem dX9_least_28 : decode cX9_least 28 = .ok (.iload 4, 2) := by decide +kernel
theorem dX9_least_30 : decode cX9_least 30 = .ok (.ifCond .lt 86, 3) := by decide +kernel
theorem dX9_least_33 : decode cX9_least 33 = .ok (.iload 4, 2) := by decide +kernel
theorem dX9_least_35 : decode cX9_least 35 = .ok (.aload_n 0, 1) := by decide +kernel
theorem dX9_least_36 : decode cX9_least 36 = .ok (.getfield 7, 3) := by decide +kernel
theorem dX9_least_39 : decode cX9_least 39 = .ok (.bipush 10, 2) := by decide +kernel
theorem dX9_least_41 : decode cX9_least 41 = .ok (.iaload, 1) := by decide +kernel
theorem dX9_least_42 : decode cX9_least 42 = .ok (.iand, 1) := by decide +kernel
theorem dX9_least_43 : decode cX9_least 43 = .ok (.ifCond .ne 67, 3) := by decide +kernel
theorem dX9_least_46 : decode cX9_least 46 = .ok (.aload_n 0, 1) := by decide +kernel
theorem dX9_least_47 : decode cX9_least 47 = .ok (.iload_n 1, 1) := by decide +kernel
theorem dX9_least_48 : decode cX9_least 48 = .ok (.aload_n 0, 1) := by decide +kernel
theorem dX9_least_49 : decode cX9_least 49 = .ok (.getfield 7, 3) := by decide +kernel
theorem dX9_least_52 : decode cX9_least 52 = .ok (.bipush 10, 2) := by decide +kernel
theorem dX9_least_54 : decode cX9_least 54 = .ok (.iaload, 1) := by decide +kernel
theorem dX9_least_55 : decode cX9_least 55 = .ok (.iload 4, 2) := by decide +kernel
theorem dX9_least_57 : decode cX9_least 57 = .ok (.ior, 1) := by decide +kernel
theorem dX9_least_58 : decode cX9_least 58 = .ok (.invokevirtual 467, 3) := by decide +kernel
theorem dX9_least_61 : decode cX9_least 61 = .ok (.iload_n 1, 1) := by decide +kernel
theorem dX9_least_62 : decode cX9_least 62 = .ok (.invokestatic 310, 3) := by decide +kernel
theorem dX9_least_65 : decode cX9_least 65 = .ok (.if_icmp .ge 6, 3) := by decide +kernel
theorem dX9_least_68 : decode cX9_least 68 = .ok (.goto 42, 3) := by decide +kernel
theorem dX9_least_71 : decode cX9_least 71 = .ok (.aload_n 0, 1) := by decide +kernel
theorem dX9_least_72 : decode cX9_least 72 = .ok (.iload 4, 2) := by decide +kernel
theorem dX9_least_74 : decode cX9_least 74 = .ok (.invokevirtual 470, 3) := by decide +kernel
theorem dX9_least_77 : decode cX9_least 77 = .ok (.aload_n 0, 1) := by decide +kernel
theorem dX9_least_78 : decode cX9_least 78 = .ok (.iload_n 3, 1) := by decide +kernel
theorem dX9_least_79 : decode cX9_least 79 = .ok (.invokevirtual 470, 3) := by decide +kernel
theorem dX9_least_82 : decode cX9_least 82 = .ok (.isub, 1) := by decide +kernel
theorem dX9_least_83 : decode cX9_least 83 = .ok (.istore 5, 2) := by decide +kernel
theorem dX9_least_85 : decode cX9_least 85 = .ok (.iload 5, 2) := by decide +kernel
theorem dX9_least_87 : decode cX9_least 87 = .ok (.ifCond .lt 20, 3) := by decide +kernel
theorem dX9_least_90 : decode cX9_least 90 = .ok (.iload 5, 2) := by decide +kernel
theorem dX9_least_92 : decode cX9_least 92 = .ok (.ifCond .ne 18, 3) := by decide +kernel
theorem dX9_least_95 : decode cX9_least 95 = .ok (.iload 4, 2) := by decide +kernel
theorem dX9_least_97 : decode cX9_least 97 = .ok (.invokestatic 310, 3) := by decide +kernel
theorem dX9_least_100 : decode cX9_least 100 = .ok (.iload_n 3, 1) := by decide +kernel
theorem dX9_least_101 : decode cX9_least 101 = .ok (.invokestatic 310, 3) := by decide +kernel
theorem dX9_least_104 : decode cX9_least 104 = .ok (.if_icmp .gt 6, 3) := by decide +kernel
theorem dX9_least_107 : decode cX9_least 107 = .ok (.iload 4, 2) := by decide +kernel
theorem dX9_least_109 : decode cX9_least 109 = .ok (.istore_n 3, 1) := by decide +kernel
theorem dX9_least_110 : decode cX9_least 110 = .ok (.iinc 4 (-1), 3) := by decide +kernel
theorem dX9_least_113 : decode cX9_least 113 = .ok (.goto (-85), 3) := by decide +kernel
theorem dX9_least_116 : decode cX9_least 116 = .ok (.iload_n 2, 1) := by decide +kernel
theorem dX9_least_117 : decode cX9_least 117 = .ok (.ifCond .eq 11, 3) := by decide +kernel
theorem dX9_least_120 : decode cX9_least 120 = .ok (.aload_n 0, 1) := by decide +kernel
theorem dX9_least_121 : decode cX9_least 121 = .ok (.iload_n 3, 1) := by decide +kernel
theorem dX9_least_122 : decode cX9_least 122 = .ok (.invokevirtual 470, 3) := by decide +kernel
theorem dX9_least_125 : decode cX9_least 125 = .ok (.goto 4, 3) := by decide +kernel
theorem dX9_least_128 : decode cX9_least 128 = .ok (.iload_n 3, 1) := by decide +kernel
theorem dX9_least_129 : decode cX9_least 129 = .ok (.ireturn, 1) := by decide +kernel
theorem dX9_stop_0 : decode cX9_stop 0 = .ok (.aload_n 0, 1) := by decide +kernel
theorem dX9_stop_1 : decode cX9_stop 1 = .ok (.iload_n 1, 1) := by decide +kernel
theorem dX9_stop_2 : decode cX9_stop 2 = .ok (.invokevirtual 461, 3) := by decide +kernel
theorem dX9_stop_5 : decode cX9_stop 5 = .ok (.ifCond .ne 5, 3) := by decide +kernel
theorem dX9_stop_8 : decode cX9_stop 8 = .ok (.iconst (-1), 1) := by decide +kernel
theorem dX9_stop_9 : decode cX9_stop 9 = .ok (.ireturn, 1) := by decide +kernel
theorem dX9_stop_10 : decode cX9_stop 10 = .ok (.aload_n 0, 1) := by decide +kernel
theorem dX9_stop_11 : decode cX9_stop 11 = .ok (.invokevirtual 464, 3) := by decide +kernel
theorem dX9_stop_14 : decode cX9_stop 14 = .ok (.istore_n 2, 1) := by decide +kernel
theorem dX9_stop_15 : decode cX9_stop 15 = .ok (.iload_n 2, 1) := by decide +kernel
theorem dX9_stop_16 : decode cX9_stop 16 = .ok (.istore_n 3, 1) := by decide +kernel
theorem dX9_stop_17 : decode cX9_stop 17 = .ok (.iload_n 3, 1) := by decide +kernel
theorem dX9_stop_18 : decode cX9_stop 18 = .ok (.ifCond .lt 38, 3) := by decide +kernel
theorem dX9_stop_21 : decode cX9_stop 21 = .ok (.iload_n 3, 1) := by decide +kernel
theorem dX9_stop_22 : decode cX9_stop 22 = .ok (.invokestatic 310, 3) := by decide +kernel
theorem dX9_stop_25 : decode cX9_stop 25 = .ok (.iload_n 2, 1) := by decide +kernel
theorem dX9_stop_26 : decode cX9_stop 26 = .ok (.invokestatic 310, 3) := by decide +kernel
theorem dX9_stop_29 : decode cX9_stop 29 = .ok (.if_icmp .gt 21, 3) := by decide +kernel
theorem dX9_stop_32 : decode cX9_stop 32 = .ok (.aload_n 0, 1) := by decide +kernel
theorem dX9_stop_33 : decode cX9_stop 33 = .ok (.iload_n 1, 1) := by decide +kernel
theorem dX9_stop_34 : decode cX9_stop 34 = .ok (.aload_n 0, 1) := by decide +kernel
theorem dX9_stop_35 : decode cX9_stop 35 = .ok (.invokevirtual 464, 3) := by decide +kernel
theorem dX9_stop_38 : decode cX9_stop 38 = .ok (.iload_n 3, 1) := by decide +kernel
theorem dX9_stop_39 : decode cX9_stop 39 = .ok (.iconst (-1), 1) := by decide +kernel
theorem dX9_stop_40 : decode cX9_stop 40 = .ok (.ixor, 1) := by decide +kernel
theorem dX9_stop_41 : decode cX9_stop 41 = .ok (.iand, 1) := by decide +kernel
theorem dX9_stop_42 : decode cX9_stop 42 = .ok (.invokevirtual 467, 3) := by decide +kernel
theorem dX9_stop_45 : decode cX9_stop 45 = .ok (.ifCond .ne 5, 3) := by decide +kernel
theorem dX9_stop_48 : decode cX9_stop 48 = .ok (.iload_n 3, 1) := by decide +kernel
theorem dX9_stop_49 : decode cX9_stop 49 = .ok (.istore_n 2, 1) := by decide +kernel
theorem dX9_stop_50 : decode cX9_stop 50 = .ok (.iinc 3 (-1), 3) := by decide +kernel
theorem dX9_stop_53 : decode cX9_stop 53 = .ok (.goto (-36), 3) := by decide +kernel
theorem dX9_stop_56 : decode cX9_stop 56 = .ok (.iload_n 2, 1) := by decide +kernel
theorem dX9_stop_57 : decode cX9_stop 57 = .ok (.ireturn, 1) := by decide +kernel
theorem dX9_offer_0 : decode cX9_offer 0 = .ok (.iload_n 3, 1) := by decide +kernel
theorem dX9_offer_1 : decode cX9_offer 1 = .ok (.iconst (-1), 1) := by decide +kernel
theorem dX9_offer_2 : decode cX9_offer 2 = .ok (.if_icmp .ne 12, 3) := by decide +kernel
theorem dX9_offer_5 : decode cX9_offer 5 = .ok (.aload_n 0, 1) := by decide +kernel
theorem dX9_offer_6 : decode cX9_offer 6 = .ok (.getfield 7, 3) := by decide +kernel
theorem dX9_offer_9 : decode cX9_offer 9 = .ok (.iconst 5, 1) := by decide +kernel
theorem dX9_offer_10 : decode cX9_offer 10 = .ok (.iconst 0, 1) := by decide +kernel
theorem dX9_offer_11 : decode cX9_offer 11 = .ok (.iastore, 1) := by decide +kernel
theorem dX9_offer_12 : decode cX9_offer 12 = .ok (.iconst 0, 1) := by decide +kernel
theorem dX9_offer_13 : decode cX9_offer 13 = .ok (.ireturn, 1) := by decide +kernel
theorem dX9_offer_14 : decode cX9_offer 14 = .ok (.aload_n 0, 1) := by decide +kernel
theorem dX9_offer_15 : decode cX9_offer 15 = .ok (.iload_n 2, 1) := by decide +kernel
theorem dX9_offer_16 : decode cX9_offer 16 = .ok (.invokevirtual 371, 3) := by decide +kernel
theorem dX9_offer_19 : decode cX9_offer 19 = .ok (.ifCond .eq 37, 3) := by decide +kernel
theorem dX9_offer_22 : decode cX9_offer 22 = .ok (.iload_n 3, 1) := by decide +kernel
theorem dX9_offer_23 : decode cX9_offer 23 = .ok (.iconst 0, 1) := by decide +kernel
theorem dX9_offer_24 : decode cX9_offer 24 = .ok (.sipush 999, 3) := by decide +kernel
theorem dX9_offer_27 : decode cX9_offer 27 = .ok (.invokestatic 63, 3) := by decide +kernel
theorem dX9_offer_30 : decode cX9_offer 30 = .ok (.ifCond .eq 26, 3) := by decide +kernel
theorem dX9_offer_33 : decode cX9_offer 33 = .ok (.iload 4, 2) := by decide +kernel
theorem dX9_offer_35 : decode cX9_offer 35 = .ok (.iconst 0, 1) := by decide +kernel
theorem dX9_offer_36 : decode cX9_offer 36 = .ok (.sipush 999, 3) := by decide +kernel
theorem dX9_offer_39 : decode cX9_offer 39 = .ok (.invokestatic 63, 3) := by decide +kernel
theorem dX9_offer_42 : decode cX9_offer 42 = .ok (.ifCond .eq 14, 3) := by decide +kernel
theorem dX9_offer_45 : decode cX9_offer 45 = .ok (.aload_n 0, 1) := by decide +kernel
theorem dX9_offer_46 : decode cX9_offer 46 = .ok (.getfield 7, 3) := by decide +kernel
theorem dX9_offer_49 : decode cX9_offer 49 = .ok (.iconst 5, 1) := by decide +kernel
theorem dX9_offer_50 : decode cX9_offer 50 = .ok (.iaload, 1) := by decide +kernel
theorem dX9_offer_51 : decode cX9_offer 51 = .ok (.bipush 8, 2) := by decide +kernel
theorem dX9_offer_53 : decode cX9_offer 53 = .ok (.if_icmp .ne 6, 3) := by decide +kernel
theorem dX9_offer_56 : decode cX9_offer 56 = .ok (.bipush (-2), 2) := by decide +kernel
theorem dX9_offer_58 : decode cX9_offer 58 = .ok (.ireturn, 1) := by decide +kernel
theorem dX9_offer_59 : decode cX9_offer 59 = .ok (.bipush 126, 2) := by decide +kernel
theorem dX9_offer_61 : decode cX9_offer 61 = .ok (.iconst 4, 1) := by decide +kernel
theorem dX9_offer_62 : decode cX9_offer 62 = .ok (.aload_n 0, 1) := by decide +kernel
theorem dX9_offer_63 : decode cX9_offer 63 = .ok (.getfield 7, 3) := by decide +kernel
theorem dX9_offer_66 : decode cX9_offer 66 = .ok (.iconst 5, 1) := by decide +kernel
theorem dX9_offer_67 : decode cX9_offer 67 = .ok (.iaload, 1) := by decide +kernel
theorem dX9_offer_68 : decode cX9_offer 68 = .ok (.imul, 1) := by decide +kernel
theorem dX9_offer_69 : decode cX9_offer 69 = .ok (.iadd, 1) := by decide +kernel
theorem dX9_offer_70 : decode cX9_offer 70 = .ok (.istore 5, 2) := by decide +kernel
theorem dX9_offer_72 : decode cX9_offer 72 = .ok (.aload_n 0, 1) := by decide +kernel
theorem dX9_offer_73 : decode cX9_offer 73 = .ok (.getfield 7, 3) := by decide +kernel
theorem dX9_offer_76 : decode cX9_offer 76 = .ok (.iload 5, 2) := by decide +kernel
theorem dX9_offer_78 : decode cX9_offer 78 = .ok (.iload_n 1, 1) := by decide +kernel
theorem dX9_offer_79 : decode cX9_offer 79 = .ok (.ifCond .eq 7, 3) := by decide +kernel
theorem dX9_offer_82 : decode cX9_offer 82 = .ok (.iconst 1, 1) := by decide +kernel
theorem dX9_offer_83 : decode cX9_offer 83 = .ok (.goto 4, 3) := by decide +kernel
theorem dX9_offer_86 : decode cX9_offer 86 = .ok (.iconst 0, 1) := by decide +kernel
theorem dX9_offer_87 : decode cX9_offer 87 = .ok (.iastore, 1) := by decide +kernel
theorem dX9_offer_88 : decode cX9_offer 88 = .ok (.aload_n 0, 1) := by decide +kernel
theorem dX9_offer_89 : decode cX9_offer 89 = .ok (.getfield 7, 3) := by decide +kernel
theorem dX9_offer_92 : decode cX9_offer 92 = .ok (.iload 5, 2) := by decide +kernel
theorem dX9_offer_94 : decode cX9_offer 94 = .ok (.iconst 1, 1) := by decide +kernel
theorem dX9_offer_95 : decode cX9_offer 95 = .ok (.iadd, 1) := by decide +kernel
theorem dX9_offer_96 : decode cX9_offer 96 = .ok (.iload_n 2, 1) := by decide +kernel
theorem dX9_offer_97 : decode cX9_offer 97 = .ok (.iastore, 1) := by decide +kernel
theorem dX9_offer_98 : decode cX9_offer 98 = .ok (.aload_n 0, 1) := by decide +kernel
theorem dX9_offer_99 : decode cX9_offer 99 = .ok (.getfield 7, 3) := by decide +kernel
theorem dX9_offer_102 : decode cX9_offer 102 = .ok (.iload 5, 2) := by decide +kernel
theorem dX9_offer_104 : decode cX9_offer 104 = .ok (.iconst 2, 1) := by decide +kernel
theorem dX9_offer_105 : decode cX9_offer 105 = .ok (.iadd, 1) := by decide +kernel
theorem dX9_offer_106 : decode cX9_offer 106 = .ok (.iload_n 3, 1) := by decide +kernel
theorem dX9_offer_107 : decode cX9_offer 107 = .ok (.iastore, 1) := by decide +kernel
theorem dX9_offer_108 : decode cX9_offer 108 = .ok (.aload_n 0, 1) := by decide +kernel
theorem dX9_offer_109 : decode cX9_offer 109 = .ok (.getfield 7, 3) := by decide +kernel
theorem dX9_offer_112 : decode cX9_offer 112 = .ok (.iload 5, 2) := by decide +kernel
theorem dX9_offer_114 : decode cX9_offer 114 = .ok (.iconst 3, 1) := by decide +kernel
theorem dX9_offer_115 : decode cX9_offer 115 = .ok (.iadd, 1) := by decide +kernel
theorem dX9_offer_116 : decode cX9_offer 116 = .ok (.iload 4, 2) := by decide +kernel
theorem dX9_offer_118 : decode cX9_offer 118 = .ok (.iastore, 1) := by decide +kernel
theorem dX9_offer_119 : decode cX9_offer 119 = .ok (.aload_n 0, 1) := by decide +kernel
theorem dX9_offer_120 : decode cX9_offer 120 = .ok (.getfield 7, 3) := by decide +kernel
theorem dX9_offer_123 : decode cX9_offer 123 = .ok (.iconst 5, 1) := by decide +kernel
theorem dX9_offer_124 : decode cX9_offer 124 = .ok (.dup2, 1) := by decide +kernel
theorem dX9_offer_125 : decode cX9_offer 125 = .ok (.iaload, 1) := by decide +kernel
theorem dX9_offer_126 : decode cX9_offer 126 = .ok (.iconst 1, 1) := by decide +kernel
theorem dX9_offer_127 : decode cX9_offer 127 = .ok (.iadd, 1) := by decide +kernel
theorem dX9_offer_128 : decode cX9_offer 128 = .ok (.iastore, 1) := by decide +kernel
theorem dX9_offer_129 : decode cX9_offer 129 = .ok (.aload_n 0, 1) := by decide +kernel
theorem dX9_offer_130 : decode cX9_offer 130 = .ok (.getfield 7, 3) := by decide +kernel
theorem dX9_offer_133 : decode cX9_offer 133 = .ok (.iconst 5, 1) := by decide +kernel
theorem dX9_offer_134 : decode cX9_offer 134 = .ok (.iaload, 1) := by decide +kernel
theorem dX9_offer_135 : decode cX9_offer 135 = .ok (.ireturn, 1) := by decide +kernel
theorem dX9_isWordSo_0 : decode cX9_isWordSo 0 = .ok (.aload_n 0, 1) := by decide +kernel
theorem dX9_isWordSo_1 : decode cX9_isWordSo 1 = .ok (.getfield 7, 3) := by decide +kernel
theorem dX9_isWordSo_4 : decode cX9_isWordSo 4 = .ok (.bipush 126, 2) := by decide +kernel
theorem dX9_isWordSo_6 : decode cX9_isWordSo 6 = .ok (.iconst 4, 1) := by decide +kernel
theorem dX9_isWordSo_7 : decode cX9_isWordSo 7 = .ok (.iload_n 1, 1) := by decide +kernel
theorem dX9_isWordSo_8 : decode cX9_isWordSo 8 = .ok (.imul, 1) := by decide +kernel
theorem dX9_isWordSo_9 : decode cX9_isWordSo 9 = .ok (.iadd, 1) := by decide +kernel
theorem dX9_isWordSo_10 : decode cX9_isWordSo 10 = .ok (.iaload, 1) := by decide +kernel
theorem dX9_isWordSo_11 : decode cX9_isWordSo 11 = .ok (.iconst 1, 1) := by decide +kernel
theorem dX9_isWordSo_12 : decode cX9_isWordSo 12 = .ok (.if_icmp .ne 7, 3) := by decide +kernel
theorem dX9_isWordSo_15 : decode cX9_isWordSo 15 = .ok (.iconst 1, 1) := by decide +kernel
theorem dX9_isWordSo_16 : decode cX9_isWordSo 16 = .ok (.goto 4, 3) := by decide +kernel
theorem dX9_isWordSo_19 : decode cX9_isWordSo 19 = .ok (.iconst 0, 1) := by decide +kernel
theorem dX9_isWordSo_20 : decode cX9_isWordSo 20 = .ok (.aload_n 0, 1) := by decide +kernel
theorem dX9_isWordSo_21 : decode cX9_isWordSo 21 = .ok (.getfield 7, 3) := by decide +kernel
theorem dX9_isWordSo_24 : decode cX9_isWordSo 24 = .ok (.bipush 126, 2) := by decide +kernel
theorem dX9_isWordSo_26 : decode cX9_isWordSo 26 = .ok (.iconst 4, 1) := by decide +kernel
theorem dX9_isWordSo_27 : decode cX9_isWordSo 27 = .ok (.iload_n 1, 1) := by decide +kernel
theorem dX9_isWordSo_28 : decode cX9_isWordSo 28 = .ok (.imul, 1) := by decide +kernel
theorem dX9_isWordSo_29 : decode cX9_isWordSo 29 = .ok (.iadd, 1) := by decide +kernel
theorem dX9_isWordSo_30 : decode cX9_isWordSo 30 = .ok (.iconst 1, 1) := by decide +kernel
theorem dX9_isWordSo_31 : decode cX9_isWordSo 31 = .ok (.iadd, 1) := by decide +kernel
theorem dX9_isWordSo_32 : decode cX9_isWordSo 32 = .ok (.iaload, 1) := by decide +kernel
theorem dX9_isWordSo_33 : decode cX9_isWordSo 33 = .ok (.iload_n 2, 1) := by decide +kernel
theorem dX9_isWordSo_34 : decode cX9_isWordSo 34 = .ok (.invokestatic 71, 3) := by decide +kernel
theorem dX9_isWordSo_37 : decode cX9_isWordSo 37 = .ok (.ireturn, 1) := by decide +kernel
theorem dX9_layWrong_0 : decode cX9_layWrong 0 = .ok (.iconst 0, 1) := by decide +kernel
theorem dX9_layWrong_1 : decode cX9_layWrong 1 = .ok (.istore_n 1, 1) := by decide +kernel
theorem dX9_layWrong_2 : decode cX9_layWrong 2 = .ok (.iload_n 1, 1) := by decide +kernel
theorem dX9_layWrong_3 : decode cX9_layWrong 3 = .ok (.aload_n 0, 1) := by decide +kernel
theorem dX9_layWrong_4 : decode cX9_layWrong 4 = .ok (.invokevirtual 464, 3) := by decide +kernel
theorem dX9_layWrong_7 : decode cX9_layWrong 7 = .ok (.if_icmp .gt 59, 3) := by decide +kernel
theorem dX9_layWrong_10 : decode cX9_layWrong 10 = .ok (.aload_n 0, 1) := by decide +kernel
theorem dX9_layWrong_11 : decode cX9_layWrong 11 = .ok (.getfield 50, 3) := by decide +kernel
theorem dX9_layWrong_14 : decode cX9_layWrong 14 = .ok (.iload_n 1, 1) := by decide +kernel
theorem dX9_layWrong_15 : decode cX9_layWrong 15 = .ok (.iconst 0, 1) := by decide +kernel
theorem dX9_layWrong_16 : decode cX9_layWrong 16 = .ok (.iastore, 1) := by decide +kernel
theorem dX9_layWrong_17 : decode cX9_layWrong 17 = .ok (.iconst 0, 1) := by decide +kernel
theorem dX9_layWrong_18 : decode cX9_layWrong 18 = .ok (.istore_n 2, 1) := by decide +kernel
theorem dX9_layWrong_19 : decode cX9_layWrong 19 = .ok (.iload_n 2, 1) := by decide +kernel
theorem dX9_layWrong_20 : decode cX9_layWrong 20 = .ok (.aload_n 0, 1) := by decide +kernel
theorem dX9_layWrong_21 : decode cX9_layWrong 21 = .ok (.getfield 7, 3) := by decide +kernel
theorem dX9_layWrong_24 : decode cX9_layWrong 24 = .ok (.iconst 5, 1) := by decide +kernel
theorem dX9_layWrong_25 : decode cX9_layWrong 25 = .ok (.iaload, 1) := by decide +kernel
theorem dX9_layWrong_26 : decode cX9_layWrong 26 = .ok (.if_icmp .ge 34, 3) := by decide +kernel
theorem dX9_layWrong_29 : decode cX9_layWrong 29 = .ok (.aload_n 0, 1) := by decide +kernel
theorem dX9_layWrong_30 : decode cX9_layWrong 30 = .ok (.getfield 50, 3) := by decide +kernel
theorem dX9_layWrong_33 : decode cX9_layWrong 33 = .ok (.iload_n 1, 1) := by decide +kernel
theorem dX9_layWrong_34 : decode cX9_layWrong 34 = .ok (.dup2, 1) := by decide +kernel
theorem dX9_layWrong_35 : decode cX9_layWrong 35 = .ok (.iaload, 1) := by decide +kernel
theorem dX9_layWrong_36 : decode cX9_layWrong 36 = .ok (.aload_n 0, 1) := by decide +kernel
theorem dX9_layWrong_37 : decode cX9_layWrong 37 = .ok (.iload_n 2, 1) := by decide +kernel
theorem dX9_layWrong_38 : decode cX9_layWrong 38 = .ok (.iload_n 1, 1) := by decide +kernel
theorem dX9_layWrong_39 : decode cX9_layWrong 39 = .ok (.invokevirtual 473, 3) := by decide +kernel
theorem dX9_layWrong_42 : decode cX9_layWrong 42 = .ok (.ifCond .eq 7, 3) := by decide +kernel
theorem dX9_layWrong_45 : decode cX9_layWrong 45 = .ok (.iconst 0, 1) := by decide +kernel
theorem dX9_layWrong_46 : decode cX9_layWrong 46 = .ok (.goto 6, 3) := by decide +kernel
theorem dX9_layWrong_49 : decode cX9_layWrong 49 = .ok (.iconst 1, 1) := by decide +kernel
theorem dX9_layWrong_50 : decode cX9_layWrong 50 = .ok (.iload_n 2, 1) := by decide +kernel
theorem dX9_layWrong_51 : decode cX9_layWrong 51 = .ok (.ishl, 1) := by decide +kernel
theorem dX9_layWrong_52 : decode cX9_layWrong 52 = .ok (.ior, 1) := by decide +kernel
theorem dX9_layWrong_53 : decode cX9_layWrong 53 = .ok (.iastore, 1) := by decide +kernel
theorem dX9_layWrong_54 : decode cX9_layWrong 54 = .ok (.iinc 2 1, 3) := by decide +kernel
theorem dX9_layWrong_57 : decode cX9_layWrong 57 = .ok (.goto (-38), 3) := by decide +kernel
theorem dX9_layWrong_60 : decode cX9_layWrong 60 = .ok (.iinc 1 1, 3) := by decide +kernel
theorem dX9_layWrong_63 : decode cX9_layWrong 63 = .ok (.goto (-61), 3) := by decide +kernel
theorem dX9_layWrong_66 : decode cX9_layWrong 66 = .ok (.return_, 1) := by decide +kernel
theorem dX9_sumOf_0 : decode cX9_sumOf 0 = .ok (.iconst 0, 1) := by decide +kernel
theorem dX9_sumOf_1 : decode cX9_sumOf 1 = .ok (.istore_n 3, 1) := by decide +kernel
theorem dX9_sumOf_2 : decode cX9_sumOf 2 = .ok (.iconst 0, 1) := by decide +kernel
theorem dX9_sumOf_3 : decode cX9_sumOf 3 = .ok (.istore 4, 2) := by decide +kernel
theorem dX9_sumOf_5 : decode cX9_sumOf 5 = .ok (.iload 4, 2) := by decide +kernel
theorem dX9_sumOf_7 : decode cX9_sumOf 7 = .ok (.aload_n 0, 1) := by decide +kernel
theorem dX9_sumOf_8 : decode cX9_sumOf 8 = .ok (.getfield 7, 3) := by decide +kernel
theorem dX9_sumOf_11 : decode cX9_sumOf 11 = .ok (.iconst 5, 1) := by decide +kernel
theorem dX9_sumOf_12 : decode cX9_sumOf 12 = .ok (.iaload, 1) := by decide +kernel
theorem dX9_sumOf_13 : decode cX9_sumOf 13 = .ok (.if_icmp .ge 39, 3) := by decide +kernel
theorem dX9_sumOf_16 : decode cX9_sumOf 16 = .ok (.iload_n 3, 1) := by decide +kernel
theorem dX9_sumOf_17 : decode cX9_sumOf 17 = .ok (.iload_n 1, 1) := by decide +kernel
theorem dX9_sumOf_18 : decode cX9_sumOf 18 = .ok (.iload 4, 2) := by decide +kernel
theorem dX9_sumOf_20 : decode cX9_sumOf 20 = .ok (.invokestatic 261, 3) := by decide +kernel
theorem dX9_sumOf_23 : decode cX9_sumOf 23 = .ok (.ifCond .eq 20, 3) := by decide +kernel
theorem dX9_sumOf_26 : decode cX9_sumOf 26 = .ok (.aload_n 0, 1) := by decide +kernel
theorem dX9_sumOf_27 : decode cX9_sumOf 27 = .ok (.getfield 7, 3) := by decide +kernel
theorem dX9_sumOf_30 : decode cX9_sumOf 30 = .ok (.bipush 126, 2) := by decide +kernel
theorem dX9_sumOf_32 : decode cX9_sumOf 32 = .ok (.iconst 4, 1) := by decide +kernel
theorem dX9_sumOf_33 : decode cX9_sumOf 33 = .ok (.iload 4, 2) := by decide +kernel
theorem dX9_sumOf_35 : decode cX9_sumOf 35 = .ok (.imul, 1) := by decide +kernel
theorem dX9_sumOf_36 : decode cX9_sumOf 36 = .ok (.iadd, 1) := by decide +kernel
theorem dX9_sumOf_37 : decode cX9_sumOf 37 = .ok (.iload_n 2, 1) := by decide +kernel
theorem dX9_sumOf_38 : decode cX9_sumOf 38 = .ok (.iadd, 1) := by decide +kernel
theorem dX9_sumOf_39 : decode cX9_sumOf 39 = .ok (.iaload, 1) := by decide +kernel
theorem dX9_sumOf_40 : decode cX9_sumOf 40 = .ok (.goto 4, 3) := by decide +kernel
theorem dX9_sumOf_43 : decode cX9_sumOf 43 = .ok (.iconst 0, 1) := by decide +kernel
theorem dX9_sumOf_44 : decode cX9_sumOf 44 = .ok (.iadd, 1) := by decide +kernel
theorem dX9_sumOf_45 : decode cX9_sumOf 45 = .ok (.istore_n 3, 1) := by decide +kernel
theorem dX9_sumOf_46 : decode cX9_sumOf 46 = .ok (.iinc 4 1, 3) := by decide +kernel
theorem dX9_sumOf_49 : decode cX9_sumOf 49 = .ok (.goto (-44), 3) := by decide +kernel
theorem dX9_sumOf_52 : decode cX9_sumOf 52 = .ok (.iload_n 3, 1) := by decide +kernel
theorem dX9_sumOf_53 : decode cX9_sumOf 53 = .ok (.ireturn, 1) := by decide +kernel
theorem dX9_worstOf_0 : decode cX9_worstOf 0 = .ok (.iconst 0, 1) := by decide +kernel
theorem dX9_worstOf_1 : decode cX9_worstOf 1 = .ok (.istore_n 2, 1) := by decide +kernel
theorem dX9_worstOf_2 : decode cX9_worstOf 2 = .ok (.iconst 0, 1) := by decide +kernel
theorem dX9_worstOf_3 : decode cX9_worstOf 3 = .ok (.istore_n 3, 1) := by decide +kernel
theorem dX9_worstOf_4 : decode cX9_worstOf 4 = .ok (.iload_n 3, 1) := by decide +kernel
theorem dX9_worstOf_5 : decode cX9_worstOf 5 = .ok (.aload_n 0, 1) := by decide +kernel
theorem dX9_worstOf_6 : decode cX9_worstOf 6 = .ok (.invokevirtual 464, 3) := by decide +kernel
theorem dX9_worstOf_9 : decode cX9_worstOf 9 = .ok (.if_icmp .gt 37, 3) := by decide +kernel
theorem dX9_worstOf_12 : decode cX9_worstOf 12 = .ok (.aload_n 0, 1) := by decide +kernel
theorem dX9_worstOf_13 : decode cX9_worstOf 13 = .ok (.iload_n 1, 1) := by decide +kernel
theorem dX9_worstOf_14 : decode cX9_worstOf 14 = .ok (.aload_n 0, 1) := by decide +kernel
theorem dX9_worstOf_15 : decode cX9_worstOf 15 = .ok (.getfield 50, 3) := by decide +kernel
theorem dX9_worstOf_18 : decode cX9_worstOf 18 = .ok (.iload_n 3, 1) := by decide +kernel
theorem dX9_worstOf_19 : decode cX9_worstOf 19 = .ok (.iaload, 1) := by decide +kernel
theorem dX9_worstOf_20 : decode cX9_worstOf 20 = .ok (.iand, 1) := by decide +kernel
theorem dX9_worstOf_21 : decode cX9_worstOf 21 = .ok (.iconst 3, 1) := by decide +kernel
theorem dX9_worstOf_22 : decode cX9_worstOf 22 = .ok (.invokevirtual 476, 3) := by decide +kernel
theorem dX9_worstOf_25 : decode cX9_worstOf 25 = .ok (.istore 4, 2) := by decide +kernel
theorem dX9_worstOf_27 : decode cX9_worstOf 27 = .ok (.iload 4, 2) := by decide +kernel
theorem dX9_worstOf_29 : decode cX9_worstOf 29 = .ok (.iload_n 2, 1) := by decide +kernel
theorem dX9_worstOf_30 : decode cX9_worstOf 30 = .ok (.if_icmp .le 8, 3) := by decide +kernel
theorem dX9_worstOf_33 : decode cX9_worstOf 33 = .ok (.iload 4, 2) := by decide +kernel
theorem dX9_worstOf_35 : decode cX9_worstOf 35 = .ok (.goto 4, 3) := by decide +kernel
theorem dX9_worstOf_38 : decode cX9_worstOf 38 = .ok (.iload_n 2, 1) := by decide +kernel
theorem dX9_worstOf_39 : decode cX9_worstOf 39 = .ok (.istore_n 2, 1) := by decide +kernel
theorem dX9_worstOf_40 : decode cX9_worstOf 40 = .ok (.iinc 3 1, 3) := by decide +kernel
theorem dX9_worstOf_43 : decode cX9_worstOf 43 = .ok (.goto (-39), 3) := by decide +kernel
theorem dX9_worstOf_46 : decode cX9_worstOf 46 = .ok (.iload_n 2, 1) := by decide +kernel
theorem dX9_worstOf_47 : decode cX9_worstOf 47 = .ok (.ireturn, 1) := by decide +kernel
theorem dX9_worst_0 : decode cX9_worst 0 = .ok (.iload_n 1, 1) := by decide +kernel
theorem dX9_worst_1 : decode cX9_worst 1 = .ok (.iconst 0, 1) := by decide +kernel
theorem dX9_worst_2 : decode cX9_worst 2 = .ok (.iconst 1, 1) := by decide +kernel
theorem dX9_worst_3 : decode cX9_worst 3 = .ok (.aload_n 0, 1) := by decide +kernel
theorem dX9_worst_4 : decode cX9_worst 4 = .ok (.getfield 7, 3) := by decide +kernel
theorem dX9_worst_7 : decode cX9_worst 7 = .ok (.iconst 5, 1) := by decide +kernel
theorem dX9_worst_8 : decode cX9_worst 8 = .ok (.iaload, 1) := by decide +kernel
theorem dX9_worst_9 : decode cX9_worst 9 = .ok (.ishl, 1) := by decide +kernel
theorem dX9_worst_10 : decode cX9_worst 10 = .ok (.iconst 1, 1) := by decide +kernel
theorem dX9_worst_11 : decode cX9_worst 11 = .ok (.isub, 1) := by decide +kernel
theorem dX9_worst_12 : decode cX9_worst 12 = .ok (.invokestatic 63, 3) := by decide +kernel
theorem dX9_worst_15 : decode cX9_worst 15 = .ok (.ifCond .ne 5, 3) := by decide +kernel
theorem dX9_worst_18 : decode cX9_worst 18 = .ok (.iconst (-1), 1) := by decide +kernel
theorem dX9_worst_19 : decode cX9_worst 19 = .ok (.ireturn, 1) := by decide +kernel
theorem dX9_worst_20 : decode cX9_worst 20 = .ok (.aload_n 0, 1) := by decide +kernel
theorem dX9_worst_21 : decode cX9_worst 21 = .ok (.invokevirtual 479, 3) := by decide +kernel
theorem dX9_worst_24 : decode cX9_worst 24 = .ok (.aload_n 0, 1) := by decide +kernel
theorem dX9_worst_25 : decode cX9_worst 25 = .ok (.iload_n 1, 1) := by decide +kernel
theorem dX9_worst_26 : decode cX9_worst 26 = .ok (.invokevirtual 482, 3) := by decide +kernel
theorem dX9_worst_29 : decode cX9_worst 29 = .ok (.ireturn, 1) := by decide +kernel
theorem dX9_purse_0 : decode cX9_purse 0 = .ok (.iload_n 1, 1) := by decide +kernel
theorem dX9_purse_1 : decode cX9_purse 1 = .ok (.iconst 0, 1) := by decide +kernel
theorem dX9_purse_2 : decode cX9_purse 2 = .ok (.sipush 9999, 3) := by decide +kernel
theorem dX9_purse_5 : decode cX9_purse 5 = .ok (.invokestatic 63, 3) := by decide +kernel
theorem dX9_purse_8 : decode cX9_purse 8 = .ok (.ifCond .ne 5, 3) := by decide +kernel
theorem dX9_purse_11 : decode cX9_purse 11 = .ok (.iconst (-1), 1) := by decide +kernel
theorem dX9_purse_12 : decode cX9_purse 12 = .ok (.ireturn, 1) := by decide +kernel
theorem dX9_purse_13 : decode cX9_purse 13 = .ok (.aload_n 0, 1) := by decide +kernel
theorem dX9_purse_14 : decode cX9_purse 14 = .ok (.invokevirtual 479, 3) := by decide +kernel
theorem dX9_purse_17 : decode cX9_purse 17 = .ok (.iconst 0, 1) := by decide +kernel
theorem dX9_purse_18 : decode cX9_purse 18 = .ok (.istore_n 3, 1) := by decide +kernel
theorem dX9_purse_19 : decode cX9_purse 19 = .ok (.iconst 1, 1) := by decide +kernel
theorem dX9_purse_20 : decode cX9_purse 20 = .ok (.istore 4, 2) := by decide +kernel
theorem dX9_purse_22 : decode cX9_purse 22 = .ok (.iload 4, 2) := by decide +kernel
theorem dX9_purse_24 : decode cX9_purse 24 = .ok (.iconst 1, 1) := by decide +kernel
theorem dX9_purse_25 : decode cX9_purse 25 = .ok (.aload_n 0, 1) := by decide +kernel
theorem dX9_purse_26 : decode cX9_purse 26 = .ok (.getfield 7, 3) := by decide +kernel
theorem dX9_purse_29 : decode cX9_purse 29 = .ok (.iconst 5, 1) := by decide +kernel
theorem dX9_purse_30 : decode cX9_purse 30 = .ok (.iaload, 1) := by decide +kernel
theorem dX9_purse_31 : decode cX9_purse 31 = .ok (.ishl, 1) := by decide +kernel
theorem dX9_purse_32 : decode cX9_purse 32 = .ok (.if_icmp .ge 46, 3) := by decide +kernel
theorem dX9_purse_35 : decode cX9_purse 35 = .ok (.aload_n 0, 1) := by decide +kernel
theorem dX9_purse_36 : decode cX9_purse 36 = .ok (.iload 4, 2) := by decide +kernel
theorem dX9_purse_38 : decode cX9_purse 38 = .ok (.iconst 2, 1) := by decide +kernel
theorem dX9_purse_39 : decode cX9_purse 39 = .ok (.invokevirtual 476, 3) := by decide +kernel
theorem dX9_purse_42 : decode cX9_purse 42 = .ok (.aload_n 0, 1) := by decide +kernel
theorem dX9_purse_43 : decode cX9_purse 43 = .ok (.iload_n 3, 1) := by decide +kernel
theorem dX9_purse_44 : decode cX9_purse 44 = .ok (.iconst 2, 1) := by decide +kernel
theorem dX9_purse_45 : decode cX9_purse 45 = .ok (.invokevirtual 476, 3) := by decide +kernel
theorem dX9_purse_48 : decode cX9_purse 48 = .ok (.if_icmp .le 24, 3) := by decide +kernel
theorem dX9_purse_51 : decode cX9_purse 51 = .ok (.aload_n 0, 1) := by decide +kernel
theorem dX9_purse_52 : decode cX9_purse 52 = .ok (.iload 4, 2) := by decide +kernel
theorem dX9_purse_54 : decode cX9_purse 54 = .ok (.invokevirtual 482, 3) := by decide +kernel
theorem dX9_purse_57 : decode cX9_purse 57 = .ok (.iload_n 1, 1) := by decide +kernel
theorem dX9_purse_58 : decode cX9_purse 58 = .ok (.aload_n 0, 1) := by decide +kernel
theorem dX9_purse_59 : decode cX9_purse 59 = .ok (.iload 4, 2) := by decide +kernel
theorem dX9_purse_61 : decode cX9_purse 61 = .ok (.iconst 2, 1) := by decide +kernel
theorem dX9_purse_62 : decode cX9_purse 62 = .ok (.invokevirtual 476, 3) := by decide +kernel
theorem dX9_purse_65 : decode cX9_purse 65 = .ok (.iadd, 1) := by decide +kernel
theorem dX9_purse_66 : decode cX9_purse 66 = .ok (.if_icmp .gt 6, 3) := by decide +kernel
theorem dX9_purse_69 : decode cX9_purse 69 = .ok (.iload 4, 2) := by decide +kernel
theorem dX9_purse_71 : decode cX9_purse 71 = .ok (.istore_n 3, 1) := by decide +kernel
theorem dX9_purse_72 : decode cX9_purse 72 = .ok (.iinc 4 1, 3) := by decide +kernel
theorem dX9_purse_75 : decode cX9_purse 75 = .ok (.goto (-53), 3) := by decide +kernel
theorem dX9_purse_78 : decode cX9_purse 78 = .ok (.iload_n 2, 1) := by decide +kernel
theorem dX9_purse_79 : decode cX9_purse 79 = .ok (.ifCond .eq 12, 3) := by decide +kernel
theorem dX9_purse_82 : decode cX9_purse 82 = .ok (.aload_n 0, 1) := by decide +kernel
theorem dX9_purse_83 : decode cX9_purse 83 = .ok (.iload_n 3, 1) := by decide +kernel
theorem dX9_purse_84 : decode cX9_purse 84 = .ok (.iconst 2, 1) := by decide +kernel
theorem dX9_purse_85 : decode cX9_purse 85 = .ok (.invokevirtual 476, 3) := by decide +kernel
theorem dX9_purse_88 : decode cX9_purse 88 = .ok (.goto 4, 3) := by decide +kernel
theorem dX9_purse_91 : decode cX9_purse 91 = .ok (.iload_n 3, 1) := by decide +kernel
theorem dX9_purse_92 : decode cX9_purse 92 = .ok (.ireturn, 1) := by decide +kernel
theorem dX9_heard_0 : decode cX9_heard 0 = .ok (.iload_n 1, 1) := by decide +kernel
theorem dX9_heard_1 : decode cX9_heard 1 = .ok (.iconst (-1), 1) := by decide +kernel
theorem dX9_heard_2 : decode cX9_heard 2 = .ok (.if_icmp .ne 13, 3) := by decide +kernel
theorem dX9_heard_5 : decode cX9_heard 5 = .ok (.aload_n 0, 1) := by decide +kernel
theorem dX9_heard_6 : decode cX9_heard 6 = .ok (.getfield 7, 3) := by decide +kernel
theorem dX9_heard_9 : decode cX9_heard 9 = .ok (.bipush 6, 2) := by decide +kernel
theorem dX9_heard_11 : decode cX9_heard 11 = .ok (.iconst 0, 1) := by decide +kernel
theorem dX9_heard_12 : decode cX9_heard 12 = .ok (.iastore, 1) := by decide +kernel
theorem dX9_heard_13 : decode cX9_heard 13 = .ok (.iconst 0, 1) := by decide +kernel
theorem dX9_heard_14 : decode cX9_heard 14 = .ok (.ireturn, 1) := by decide +kernel
theorem dX9_heard_15 : decode cX9_heard 15 = .ok (.aload_n 0, 1) := by decide +kernel
theorem dX9_heard_16 : decode cX9_heard 16 = .ok (.iload_n 1, 1) := by decide +kernel
theorem dX9_heard_17 : decode cX9_heard 17 = .ok (.invokevirtual 381, 3) := by decide +kernel
theorem dX9_heard_20 : decode cX9_heard 20 = .ok (.ifCond .eq 15, 3) := by decide +kernel
theorem dX9_heard_23 : decode cX9_heard 23 = .ok (.aload_n 0, 1) := by decide +kernel
theorem dX9_heard_24 : decode cX9_heard 24 = .ok (.getfield 7, 3) := by decide +kernel
theorem dX9_heard_27 : decode cX9_heard 27 = .ok (.bipush 6, 2) := by decide +kernel
theorem dX9_heard_29 : decode cX9_heard 29 = .ok (.iaload, 1) := by decide +kernel
theorem dX9_heard_30 : decode cX9_heard 30 = .ok (.bipush 8, 2) := by decide +kernel
theorem dX9_heard_32 : decode cX9_heard 32 = .ok (.if_icmp .ne 6, 3) := by decide +kernel
theorem dX9_heard_35 : decode cX9_heard 35 = .ok (.bipush (-2), 2) := by decide +kernel
theorem dX9_heard_37 : decode cX9_heard 37 = .ok (.ireturn, 1) := by decide +kernel
theorem dX9_heard_38 : decode cX9_heard 38 = .ok (.aload_n 0, 1) := by decide +kernel
theorem dX9_heard_39 : decode cX9_heard 39 = .ok (.getfield 7, 3) := by decide +kernel
theorem dX9_heard_42 : decode cX9_heard 42 = .ok (.sipush 158, 3) := by decide +kernel
theorem dX9_heard_45 : decode cX9_heard 45 = .ok (.iconst 2, 1) := by decide +kernel
theorem dX9_heard_46 : decode cX9_heard 46 = .ok (.aload_n 0, 1) := by decide +kernel
theorem dX9_heard_47 : decode cX9_heard 47 = .ok (.getfield 7, 3) := by decide +kernel
theorem dX9_heard_50 : decode cX9_heard 50 = .ok (.bipush 6, 2) := by decide +kernel
theorem dX9_heard_52 : decode cX9_heard 52 = .ok (.iaload, 1) := by decide +kernel
theorem dX9_heard_53 : decode cX9_heard 53 = .ok (.imul, 1) := by decide +kernel
theorem dX9_heard_54 : decode cX9_heard 54 = .ok (.iadd, 1) := by decide +kernel
theorem dX9_heard_55 : decode cX9_heard 55 = .ok (.iload_n 1, 1) := by decide +kernel
theorem dX9_heard_56 : decode cX9_heard 56 = .ok (.iastore, 1) := by decide +kernel
theorem dX9_heard_57 : decode cX9_heard 57 = .ok (.aload_n 0, 1) := by decide +kernel
theorem dX9_heard_58 : decode cX9_heard 58 = .ok (.getfield 7, 3) := by decide +kernel
theorem dX9_heard_61 : decode cX9_heard 61 = .ok (.sipush 158, 3) := by decide +kernel
theorem dX9_heard_64 : decode cX9_heard 64 = .ok (.iconst 2, 1) := by decide +kernel
theorem dX9_heard_65 : decode cX9_heard 65 = .ok (.aload_n 0, 1) := by decide +kernel
theorem dX9_heard_66 : decode cX9_heard 66 = .ok (.getfield 7, 3) := by decide +kernel
theorem dX9_heard_69 : decode cX9_heard 69 = .ok (.bipush 6, 2) := by decide +kernel
theorem dX9_heard_71 : decode cX9_heard 71 = .ok (.iaload, 1) := by decide +kernel
theorem dX9_heard_72 : decode cX9_heard 72 = .ok (.imul, 1) := by decide +kernel
theorem dX9_heard_73 : decode cX9_heard 73 = .ok (.iadd, 1) := by decide +kernel
theorem dX9_heard_74 : decode cX9_heard 74 = .ok (.iconst 1, 1) := by decide +kernel
theorem dX9_heard_75 : decode cX9_heard 75 = .ok (.iadd, 1) := by decide +kernel
theorem dX9_heard_76 : decode cX9_heard 76 = .ok (.iload_n 2, 1) := by decide +kernel
theorem dX9_heard_77 : decode cX9_heard 77 = .ok (.ifCond .eq 7, 3) := by decide +kernel
theorem dX9_heard_80 : decode cX9_heard 80 = .ok (.iconst 1, 1) := by decide +kernel
theorem dX9_heard_81 : decode cX9_heard 81 = .ok (.goto 4, 3) := by decide +kernel
theorem dX9_heard_84 : decode cX9_heard 84 = .ok (.iconst 0, 1) := by decide +kernel
theorem dX9_heard_85 : decode cX9_heard 85 = .ok (.iastore, 1) := by decide +kernel
theorem dX9_heard_86 : decode cX9_heard 86 = .ok (.aload_n 0, 1) := by decide +kernel
theorem dX9_heard_87 : decode cX9_heard 87 = .ok (.getfield 7, 3) := by decide +kernel
theorem dX9_heard_90 : decode cX9_heard 90 = .ok (.bipush 6, 2) := by decide +kernel
theorem dX9_heard_92 : decode cX9_heard 92 = .ok (.dup2, 1) := by decide +kernel
theorem dX9_heard_93 : decode cX9_heard 93 = .ok (.iaload, 1) := by decide +kernel
theorem dX9_heard_94 : decode cX9_heard 94 = .ok (.iconst 1, 1) := by decide +kernel
theorem dX9_heard_95 : decode cX9_heard 95 = .ok (.iadd, 1) := by decide +kernel
theorem dX9_heard_96 : decode cX9_heard 96 = .ok (.iastore, 1) := by decide +kernel
theorem dX9_heard_97 : decode cX9_heard 97 = .ok (.aload_n 0, 1) := by decide +kernel
theorem dX9_heard_98 : decode cX9_heard 98 = .ok (.getfield 7, 3) := by decide +kernel
theorem dX9_heard_101 : decode cX9_heard 101 = .ok (.bipush 6, 2) := by decide +kernel
theorem dX9_heard_103 : decode cX9_heard 103 = .ok (.iaload, 1) := by decide +kernel
theorem dX9_heard_104 : decode cX9_heard 104 = .ok (.ireturn, 1) := by decide +kernel
theorem dX9_isWorld_0 : decode cX9_isWorld 0 = .ok (.iconst 0, 1) := by decide +kernel
theorem dX9_isWorld_1 : decode cX9_isWorld 1 = .ok (.istore_n 2, 1) := by decide +kernel
theorem dX9_isWorld_2 : decode cX9_isWorld 2 = .ok (.iload_n 2, 1) := by decide +kernel
theorem dX9_isWorld_3 : decode cX9_isWorld 3 = .ok (.aload_n 0, 1) := by decide +kernel
theorem dX9_isWorld_4 : decode cX9_isWorld 4 = .ok (.getfield 7, 3) := by decide +kernel
theorem dX9_isWorld_7 : decode cX9_isWorld 7 = .ok (.bipush 6, 2) := by decide +kernel
theorem dX9_isWorld_9 : decode cX9_isWorld 9 = .ok (.iaload, 1) := by decide +kernel
theorem dX9_isWorld_10 : decode cX9_isWorld 10 = .ok (.if_icmp .ge 44, 3) := by decide +kernel
theorem dX9_isWorld_13 : decode cX9_isWorld 13 = .ok (.iload_n 1, 1) := by decide +kernel
theorem dX9_isWorld_14 : decode cX9_isWorld 14 = .ok (.aload_n 0, 1) := by decide +kernel
theorem dX9_isWorld_15 : decode cX9_isWorld 15 = .ok (.getfield 7, 3) := by decide +kernel
theorem dX9_isWorld_18 : decode cX9_isWorld 18 = .ok (.sipush 158, 3) := by decide +kernel
theorem dX9_isWorld_21 : decode cX9_isWorld 21 = .ok (.iconst 2, 1) := by decide +kernel
theorem dX9_isWorld_22 : decode cX9_isWorld 22 = .ok (.iload_n 2, 1) := by decide +kernel
theorem dX9_isWorld_23 : decode cX9_isWorld 23 = .ok (.imul, 1) := by decide +kernel
theorem dX9_isWorld_24 : decode cX9_isWorld 24 = .ok (.iadd, 1) := by decide +kernel
theorem dX9_isWorld_25 : decode cX9_isWorld 25 = .ok (.iaload, 1) := by decide +kernel
theorem dX9_isWorld_26 : decode cX9_isWorld 26 = .ok (.ishr, 1) := by decide +kernel
theorem dX9_isWorld_27 : decode cX9_isWorld 27 = .ok (.iconst 1, 1) := by decide +kernel
theorem dX9_isWorld_28 : decode cX9_isWorld 28 = .ok (.iand, 1) := by decide +kernel
theorem dX9_isWorld_29 : decode cX9_isWorld 29 = .ok (.aload_n 0, 1) := by decide +kernel
theorem dX9_isWorld_30 : decode cX9_isWorld 30 = .ok (.getfield 7, 3) := by decide +kernel
theorem dX9_isWorld_33 : decode cX9_isWorld 33 = .ok (.sipush 158, 3) := by decide +kernel
theorem dX9_isWorld_36 : decode cX9_isWorld 36 = .ok (.iconst 2, 1) := by decide +kernel
theorem dX9_isWorld_37 : decode cX9_isWorld 37 = .ok (.iload_n 2, 1) := by decide +kernel
theorem dX9_isWorld_38 : decode cX9_isWorld 38 = .ok (.imul, 1) := by decide +kernel
theorem dX9_isWorld_39 : decode cX9_isWorld 39 = .ok (.iadd, 1) := by decide +kernel
theorem dX9_isWorld_40 : decode cX9_isWorld 40 = .ok (.iconst 1, 1) := by decide +kernel
theorem dX9_isWorld_41 : decode cX9_isWorld 41 = .ok (.iadd, 1) := by decide +kernel
theorem dX9_isWorld_42 : decode cX9_isWorld 42 = .ok (.iaload, 1) := by decide +kernel
theorem dX9_isWorld_43 : decode cX9_isWorld 43 = .ok (.if_icmp .eq 5, 3) := by decide +kernel
theorem dX9_isWorld_46 : decode cX9_isWorld 46 = .ok (.iconst 0, 1) := by decide +kernel
theorem dX9_isWorld_47 : decode cX9_isWorld 47 = .ok (.ireturn, 1) := by decide +kernel
theorem dX9_isWorld_48 : decode cX9_isWorld 48 = .ok (.iinc 2 1, 3) := by decide +kernel
theorem dX9_isWorld_51 : decode cX9_isWorld 51 = .ok (.goto (-49), 3) := by decide +kernel
theorem dX9_isWorld_54 : decode cX9_isWorld 54 = .ok (.iconst 1, 1) := by decide +kernel
theorem dX9_isWorld_55 : decode cX9_isWorld 55 = .ok (.ireturn, 1) := by decide +kernel
theorem dX9_worldsOf_0 : decode cX9_worldsOf 0 = .ok (.iconst 0, 1) := by decide +kernel
theorem dX9_worldsOf_1 : decode cX9_worldsOf 1 = .ok (.istore 5, 2) := by decide +kernel
theorem dX9_worldsOf_3 : decode cX9_worldsOf 3 = .ok (.iconst 0, 1) := by decide +kernel
theorem dX9_worldsOf_4 : decode cX9_worldsOf 4 = .ok (.istore 6, 2) := by decide +kernel
theorem dX9_worldsOf_6 : decode cX9_worldsOf 6 = .ok (.iload 6, 2) := by decide +kernel
theorem dX9_worldsOf_8 : decode cX9_worldsOf 8 = .ok (.aload_n 0, 1) := by decide +kernel
theorem dX9_worldsOf_9 : decode cX9_worldsOf 9 = .ok (.invokevirtual 464, 3) := by decide +kernel
theorem dX9_worldsOf_12 : decode cX9_worldsOf 12 = .ok (.if_icmp .gt 62, 3) := by decide +kernel
theorem dX9_worldsOf_15 : decode cX9_worldsOf 15 = .ok (.iload 5, 2) := by decide +kernel
theorem dX9_worldsOf_17 : decode cX9_worldsOf 17 = .ok (.aload_n 0, 1) := by decide +kernel
theorem dX9_worldsOf_18 : decode cX9_worldsOf 18 = .ok (.iload 6, 2) := by decide +kernel
theorem dX9_worldsOf_20 : decode cX9_worldsOf 20 = .ok (.invokevirtual 485, 3) := by decide +kernel
theorem dX9_worldsOf_23 : decode cX9_worldsOf 23 = .ok (.ifCond .eq 41, 3) := by decide +kernel
theorem dX9_worldsOf_26 : decode cX9_worldsOf 26 = .ok (.iload 6, 2) := by decide +kernel
theorem dX9_worldsOf_28 : decode cX9_worldsOf 28 = .ok (.iload_n 3, 1) := by decide +kernel
theorem dX9_worldsOf_29 : decode cX9_worldsOf 29 = .ok (.iand, 1) := by decide +kernel
theorem dX9_worldsOf_30 : decode cX9_worldsOf 30 = .ok (.iload 4, 2) := by decide +kernel
theorem dX9_worldsOf_32 : decode cX9_worldsOf 32 = .ok (.if_icmp .ne 32, 3) := by decide +kernel
theorem dX9_worldsOf_35 : decode cX9_worldsOf 35 = .ok (.iload_n 2, 1) := by decide +kernel
theorem dX9_worldsOf_36 : decode cX9_worldsOf 36 = .ok (.iconst (-1), 1) := by decide +kernel
theorem dX9_worldsOf_37 : decode cX9_worldsOf 37 = .ok (.if_icmp .eq 23, 3) := by decide +kernel
theorem dX9_worldsOf_40 : decode cX9_worldsOf 40 = .ok (.aload_n 0, 1) := by decide +kernel
theorem dX9_worldsOf_41 : decode cX9_worldsOf 41 = .ok (.iload_n 1, 1) := by decide +kernel
theorem dX9_worldsOf_42 : decode cX9_worldsOf 42 = .ok (.iload 6, 2) := by decide +kernel
theorem dX9_worldsOf_44 : decode cX9_worldsOf 44 = .ok (.invokevirtual 356, 3) := by decide +kernel
theorem dX9_worldsOf_47 : decode cX9_worldsOf 47 = .ok (.iload_n 2, 1) := by decide +kernel
theorem dX9_worldsOf_48 : decode cX9_worldsOf 48 = .ok (.iconst 1, 1) := by decide +kernel
theorem dX9_worldsOf_49 : decode cX9_worldsOf 49 = .ok (.if_icmp .ne 7, 3) := by decide +kernel
theorem dX9_worldsOf_52 : decode cX9_worldsOf 52 = .ok (.iconst 1, 1) := by decide +kernel
theorem dX9_worldsOf_53 : decode cX9_worldsOf 53 = .ok (.goto 4, 3) := by decide +kernel
theorem dX9_worldsOf_56 : decode cX9_worldsOf 56 = .ok (.iconst 0, 1) := by decide +kernel
theorem dX9_worldsOf_57 : decode cX9_worldsOf 57 = .ok (.if_icmp .ne 7, 3) := by decide +kernel
theorem dX9_worldsOf_60 : decode cX9_worldsOf 60 = .ok (.iconst 1, 1) := by decide +kernel
theorem dX9_worldsOf_61 : decode cX9_worldsOf 61 = .ok (.goto 4, 3) := by decide +kernel
theorem dX9_worldsOf_64 : decode cX9_worldsOf 64 = .ok (.iconst 0, 1) := by decide +kernel
theorem dX9_worldsOf_65 : decode cX9_worldsOf 65 = .ok (.iadd, 1) := by decide +kernel
theorem dX9_worldsOf_66 : decode cX9_worldsOf 66 = .ok (.istore 5, 2) := by decide +kernel
theorem dX9_worldsOf_68 : decode cX9_worldsOf 68 = .ok (.iinc 6 1, 3) := by decide +kernel
theorem dX9_worldsOf_71 : decode cX9_worldsOf 71 = .ok (.goto (-65), 3) := by decide +kernel
theorem dX9_worldsOf_74 : decode cX9_worldsOf 74 = .ok (.iload 5, 2) := by decide +kernel
theorem dX9_worldsOf_76 : decode cX9_worldsOf 76 = .ok (.ireturn, 1) := by decide +kernel
theorem dX9_worlds_0 : decode cX9_worlds 0 = .ok (.aload_n 0, 1) := by decide +kernel
theorem dX9_worlds_1 : decode cX9_worlds 1 = .ok (.iload_n 1, 1) := by decide +kernel
theorem dX9_worlds_2 : decode cX9_worlds 2 = .ok (.invokevirtual 75, 3) := by decide +kernel
theorem dX9_worlds_5 : decode cX9_worlds 5 = .ok (.ifCond .eq 31, 3) := by decide +kernel
theorem dX9_worlds_8 : decode cX9_worlds 8 = .ok (.iload_n 2, 1) := by decide +kernel
theorem dX9_worlds_9 : decode cX9_worlds 9 = .ok (.iconst 0, 1) := by decide +kernel
theorem dX9_worlds_10 : decode cX9_worlds 10 = .ok (.iconst 1, 1) := by decide +kernel
theorem dX9_worlds_11 : decode cX9_worlds 11 = .ok (.invokestatic 63, 3) := by decide +kernel
theorem dX9_worlds_14 : decode cX9_worlds 14 = .ok (.ifCond .eq 22, 3) := by decide +kernel
theorem dX9_worlds_17 : decode cX9_worlds 17 = .ok (.aload_n 0, 1) := by decide +kernel
theorem dX9_worlds_18 : decode cX9_worlds 18 = .ok (.iload_n 1, 1) := by decide +kernel
theorem dX9_worlds_19 : decode cX9_worlds 19 = .ok (.iload_n 2, 1) := by decide +kernel
theorem dX9_worlds_20 : decode cX9_worlds 20 = .ok (.ifCond .ne 7, 3) := by decide +kernel
theorem dX9_worlds_23 : decode cX9_worlds 23 = .ok (.iconst (-1), 1) := by decide +kernel
theorem dX9_worlds_24 : decode cX9_worlds 24 = .ok (.goto 4, 3) := by decide +kernel
theorem dX9_worlds_27 : decode cX9_worlds 27 = .ok (.iconst 1, 1) := by decide +kernel
theorem dX9_worlds_28 : decode cX9_worlds 28 = .ok (.iconst 0, 1) := by decide +kernel
theorem dX9_worlds_29 : decode cX9_worlds 29 = .ok (.iconst 0, 1) := by decide +kernel
theorem dX9_worlds_30 : decode cX9_worlds 30 = .ok (.invokevirtual 488, 3) := by decide +kernel
theorem dX9_worlds_33 : decode cX9_worlds 33 = .ok (.goto 4, 3) := by decide +kernel
theorem dX9_worlds_36 : decode cX9_worlds 36 = .ok (.iconst (-1), 1) := by decide +kernel
theorem dX9_worlds_37 : decode cX9_worlds 37 = .ok (.ireturn, 1) := by decide +kernel
theorem dX9_heardOf_0 : decode cX9_heardOf 0 = .ok (.iconst 0, 1) := by decide +kernel
theorem dX9_heardOf_1 : decode cX9_heardOf 1 = .ok (.istore_n 1, 1) := by decide +kernel
theorem dX9_heardOf_2 : decode cX9_heardOf 2 = .ok (.iconst 0, 1) := by decide +kernel
theorem dX9_heardOf_3 : decode cX9_heardOf 3 = .ok (.istore_n 2, 1) := by decide +kernel
theorem dX9_heardOf_4 : decode cX9_heardOf 4 = .ok (.iload_n 2, 1) := by decide +kernel
theorem dX9_heardOf_5 : decode cX9_heardOf 5 = .ok (.aload_n 0, 1) := by decide +kernel
theorem dX9_heardOf_6 : decode cX9_heardOf 6 = .ok (.getfield 7, 3) := by decide +kernel
theorem dX9_heardOf_9 : decode cX9_heardOf 9 = .ok (.bipush 6, 2) := by decide +kernel
theorem dX9_heardOf_11 : decode cX9_heardOf 11 = .ok (.iaload, 1) := by decide +kernel
theorem dX9_heardOf_12 : decode cX9_heardOf 12 = .ok (.if_icmp .ge 26, 3) := by decide +kernel
theorem dX9_heardOf_15 : decode cX9_heardOf 15 = .ok (.iload_n 1, 1) := by decide +kernel
theorem dX9_heardOf_16 : decode cX9_heardOf 16 = .ok (.iconst 1, 1) := by decide +kernel
theorem dX9_heardOf_17 : decode cX9_heardOf 17 = .ok (.aload_n 0, 1) := by decide +kernel
theorem dX9_heardOf_18 : decode cX9_heardOf 18 = .ok (.getfield 7, 3) := by decide +kernel
theorem dX9_heardOf_21 : decode cX9_heardOf 21 = .ok (.sipush 158, 3) := by decide +kernel
theorem dX9_heardOf_24 : decode cX9_heardOf 24 = .ok (.iconst 2, 1) := by decide +kernel
theorem dX9_heardOf_25 : decode cX9_heardOf 25 = .ok (.iload_n 2, 1) := by decide +kernel
theorem dX9_heardOf_26 : decode cX9_heardOf 26 = .ok (.imul, 1) := by decide +kernel
theorem dX9_heardOf_27 : decode cX9_heardOf 27 = .ok (.iadd, 1) := by decide +kernel
theorem dX9_heardOf_28 : decode cX9_heardOf 28 = .ok (.iaload, 1) := by decide +kernel
theorem dX9_heardOf_29 : decode cX9_heardOf 29 = .ok (.ishl, 1) := by decide +kernel
theorem dX9_heardOf_30 : decode cX9_heardOf 30 = .ok (.ior, 1) := by decide +kernel
theorem dX9_heardOf_31 : decode cX9_heardOf 31 = .ok (.istore_n 1, 1) := by decide +kernel
theorem dX9_heardOf_32 : decode cX9_heardOf 32 = .ok (.iinc 2 1, 3) := by decide +kernel
theorem dX9_heardOf_35 : decode cX9_heardOf 35 = .ok (.goto (-31), 3) := by decide +kernel
theorem dX9_heardOf_38 : decode cX9_heardOf 38 = .ok (.iload_n 1, 1) := by decide +kernel
theorem dX9_heardOf_39 : decode cX9_heardOf 39 = .ok (.ireturn, 1) := by decide +kernel
theorem dX9_wrongBy_0 : decode cX9_wrongBy 0 = .ok (.aload_n 0, 1) := by decide +kernel
theorem dX9_wrongBy_1 : decode cX9_wrongBy 1 = .ok (.iload_n 1, 1) := by decide +kernel
theorem dX9_wrongBy_2 : decode cX9_wrongBy 2 = .ok (.iconst 1, 1) := by decide +kernel
theorem dX9_wrongBy_3 : decode cX9_wrongBy 3 = .ok (.iload_n 2, 1) := by decide +kernel
theorem dX9_wrongBy_4 : decode cX9_wrongBy 4 = .ok (.iload_n 3, 1) := by decide +kernel
theorem dX9_wrongBy_5 : decode cX9_wrongBy 5 = .ok (.invokevirtual 488, 3) := by decide +kernel
theorem dX9_wrongBy_8 : decode cX9_wrongBy 8 = .ok (.istore 4, 2) := by decide +kernel
theorem dX9_wrongBy_10 : decode cX9_wrongBy 10 = .ok (.aload_n 0, 1) := by decide +kernel
theorem dX9_wrongBy_11 : decode cX9_wrongBy 11 = .ok (.iload_n 1, 1) := by decide +kernel
theorem dX9_wrongBy_12 : decode cX9_wrongBy 12 = .ok (.iconst 0, 1) := by decide +kernel
theorem dX9_wrongBy_13 : decode cX9_wrongBy 13 = .ok (.iload_n 2, 1) := by decide +kernel
theorem dX9_wrongBy_14 : decode cX9_wrongBy 14 = .ok (.iload_n 3, 1) := by decide +kernel
theorem dX9_wrongBy_15 : decode cX9_wrongBy 15 = .ok (.invokevirtual 488, 3) := by decide +kernel
theorem dX9_wrongBy_18 : decode cX9_wrongBy 18 = .ok (.istore 5, 2) := by decide +kernel
theorem dX9_wrongBy_20 : decode cX9_wrongBy 20 = .ok (.iload 4, 2) := by decide +kernel
theorem dX9_wrongBy_22 : decode cX9_wrongBy 22 = .ok (.iload 5, 2) := by decide +kernel
theorem dX9_wrongBy_24 : decode cX9_wrongBy 24 = .ok (.if_icmp .ge 8, 3) := by decide +kernel
theorem dX9_wrongBy_27 : decode cX9_wrongBy 27 = .ok (.iload 4, 2) := by decide +kernel
theorem dX9_wrongBy_29 : decode cX9_wrongBy 29 = .ok (.goto 5, 3) := by decide +kernel
theorem dX9_wrongBy_32 : decode cX9_wrongBy 32 = .ok (.iload 5, 2) := by decide +kernel
theorem dX9_wrongBy_34 : decode cX9_wrongBy 34 = .ok (.ireturn, 1) := by decide +kernel
theorem dX9_tells_0 : decode cX9_tells 0 = .ok (.aload_n 0, 1) := by decide +kernel
theorem dX9_tells_1 : decode cX9_tells 1 = .ok (.iload_n 1, 1) := by decide +kernel
theorem dX9_tells_2 : decode cX9_tells 2 = .ok (.invokevirtual 75, 3) := by decide +kernel
theorem dX9_tells_5 : decode cX9_tells 5 = .ok (.ifCond .eq 14, 3) := by decide +kernel
theorem dX9_tells_8 : decode cX9_tells 8 = .ok (.aload_n 0, 1) := by decide +kernel
theorem dX9_tells_9 : decode cX9_tells 9 = .ok (.iload_n 1, 1) := by decide +kernel
theorem dX9_tells_10 : decode cX9_tells 10 = .ok (.iconst (-1), 1) := by decide +kernel
theorem dX9_tells_11 : decode cX9_tells 11 = .ok (.iconst 0, 1) := by decide +kernel
theorem dX9_tells_12 : decode cX9_tells 12 = .ok (.iconst 0, 1) := by decide +kernel
theorem dX9_tells_13 : decode cX9_tells 13 = .ok (.invokevirtual 488, 3) := by decide +kernel
theorem dX9_tells_16 : decode cX9_tells 16 = .ok (.ifCond .ne 5, 3) := by decide +kernel
theorem dX9_tells_19 : decode cX9_tells 19 = .ok (.iconst (-1), 1) := by decide +kernel
theorem dX9_tells_20 : decode cX9_tells 20 = .ok (.ireturn, 1) := by decide +kernel
theorem dX9_tells_21 : decode cX9_tells 21 = .ok (.iconst (-1), 1) := by decide +kernel
theorem dX9_tells_22 : decode cX9_tells 22 = .ok (.istore_n 2, 1) := by decide +kernel
theorem dX9_tells_23 : decode cX9_tells 23 = .ok (.ldc_w 491, 3) := by decide +kernel
theorem dX9_tells_26 : decode cX9_tells 26 = .ok (.istore_n 3, 1) := by decide +kernel
theorem dX9_tells_27 : decode cX9_tells 27 = .ok (.iconst 0, 1) := by decide +kernel
theorem dX9_tells_28 : decode cX9_tells 28 = .ok (.istore 4, 2) := by decide +kernel
theorem dX9_tells_30 : decode cX9_tells 30 = .ok (.iload 4, 2) := by decide +kernel
theorem dX9_tells_32 : decode cX9_tells 32 = .ok (.aload_n 0, 1) := by decide +kernel
theorem dX9_tells_33 : decode cX9_tells 33 = .ok (.getfield 7, 3) := by decide +kernel
theorem dX9_tells_36 : decode cX9_tells 36 = .ok (.iconst 0, 1) := by decide +kernel
theorem dX9_tells_37 : decode cX9_tells 37 = .ok (.iaload, 1) := by decide +kernel
theorem dX9_tells_38 : decode cX9_tells 38 = .ok (.if_icmp .ge 68, 3) := by decide +kernel
theorem dX9_tells_41 : decode cX9_tells 41 = .ok (.aload_n 0, 1) := by decide +kernel
theorem dX9_tells_42 : decode cX9_tells 42 = .ok (.invokevirtual 492, 3) := by decide +kernel
theorem dX9_tells_45 : decode cX9_tells 45 = .ok (.iload 4, 2) := by decide +kernel
theorem dX9_tells_47 : decode cX9_tells 47 = .ok (.invokestatic 261, 3) := by decide +kernel
theorem dX9_tells_50 : decode cX9_tells 50 = .ok (.ifCond .eq 9, 3) := by decide +kernel
theorem dX9_tells_53 : decode cX9_tells 53 = .ok (.ldc_w 491, 3) := by decide +kernel
theorem dX9_tells_56 : decode cX9_tells 56 = .ok (.goto 27, 3) := by decide +kernel
theorem dX9_tells_59 : decode cX9_tells 59 = .ok (.aload_n 0, 1) := by decide +kernel
theorem dX9_tells_60 : decode cX9_tells 60 = .ok (.iload_n 1, 1) := by decide +kernel
theorem dX9_tells_61 : decode cX9_tells 61 = .ok (.iconst 1, 1) := by decide +kernel
theorem dX9_tells_62 : decode cX9_tells 62 = .ok (.iload 4, 2) := by decide +kernel
theorem dX9_tells_64 : decode cX9_tells 64 = .ok (.ishl, 1) := by decide +kernel
theorem dX9_tells_65 : decode cX9_tells 65 = .ok (.iconst 1, 1) := by decide +kernel
theorem dX9_tells_66 : decode cX9_tells 66 = .ok (.iload 4, 2) := by decide +kernel
theorem dX9_tells_68 : decode cX9_tells 68 = .ok (.ishl, 1) := by decide +kernel
theorem dX9_tells_69 : decode cX9_tells 69 = .ok (.invokevirtual 495, 3) := by decide +kernel
theorem dX9_tells_72 : decode cX9_tells 72 = .ok (.aload_n 0, 1) := by decide +kernel
theorem dX9_tells_73 : decode cX9_tells 73 = .ok (.iload_n 1, 1) := by decide +kernel
theorem dX9_tells_74 : decode cX9_tells 74 = .ok (.iconst 1, 1) := by decide +kernel
theorem dX9_tells_75 : decode cX9_tells 75 = .ok (.iload 4, 2) := by decide +kernel
theorem dX9_tells_77 : decode cX9_tells 77 = .ok (.ishl, 1) := by decide +kernel
theorem dX9_tells_78 : decode cX9_tells 78 = .ok (.iconst 0, 1) := by decide +kernel
theorem dX9_tells_79 : decode cX9_tells 79 = .ok (.invokevirtual 495, 3) := by decide +kernel
theorem dX9_tells_82 : decode cX9_tells 82 = .ok (.iadd, 1) := by decide +kernel
theorem dX9_tells_83 : decode cX9_tells 83 = .ok (.istore 5, 2) := by decide +kernel
theorem dX9_tells_85 : decode cX9_tells 85 = .ok (.iload 5, 2) := by decide +kernel
theorem dX9_tells_87 : decode cX9_tells 87 = .ok (.iload_n 3, 1) := by decide +kernel
theorem dX9_tells_88 : decode cX9_tells 88 = .ok (.if_icmp .lt 6, 3) := by decide +kernel
theorem dX9_tells_91 : decode cX9_tells 91 = .ok (.goto 9, 3) := by decide +kernel
theorem dX9_tells_94 : decode cX9_tells 94 = .ok (.iload 5, 2) := by decide +kernel
theorem dX9_tells_96 : decode cX9_tells 96 = .ok (.istore_n 3, 1) := by decide +kernel
theorem dX9_tells_97 : decode cX9_tells 97 = .ok (.iload 4, 2) := by decide +kernel
theorem dX9_tells_99 : decode cX9_tells 99 = .ok (.istore_n 2, 1) := by decide +kernel
theorem dX9_tells_100 : decode cX9_tells 100 = .ok (.iinc 4 1, 3) := by decide +kernel
theorem dX9_tells_103 : decode cX9_tells 103 = .ok (.goto (-73), 3) := by decide +kernel
theorem dX9_tells_106 : decode cX9_tells 106 = .ok (.iload_n 2, 1) := by decide +kernel
theorem dX9_tells_107 : decode cX9_tells 107 = .ok (.ireturn, 1) := by decide +kernel
theorem dX9_digit_0 : decode cX9_digit 0 = .ok (.iload_n 1, 1) := by decide +kernel
theorem dX9_digit_1 : decode cX9_digit 1 = .ok (.aload_n 0, 1) := by decide +kernel
theorem dX9_digit_2 : decode cX9_digit 2 = .ok (.getfield 56, 3) := by decide +kernel
theorem dX9_digit_5 : decode cX9_digit 5 = .ok (.iload_n 2, 1) := by decide +kernel
theorem dX9_digit_6 : decode cX9_digit 6 = .ok (.iaload, 1) := by decide +kernel
theorem dX9_digit_7 : decode cX9_digit 7 = .ok (.idiv, 1) := by decide +kernel
theorem dX9_digit_8 : decode cX9_digit 8 = .ok (.iconst 3, 1) := by decide +kernel
theorem dX9_digit_9 : decode cX9_digit 9 = .ok (.irem, 1) := by decide +kernel
theorem dX9_digit_10 : decode cX9_digit 10 = .ok (.ireturn, 1) := by decide +kernel
theorem dX9_isMakersTurn_0 : decode cX9_isMakersTurn 0 = .ok (.iconst 0, 1) := by decide +kernel
theorem dX9_isMakersTurn_1 : decode cX9_isMakersTurn 1 = .ok (.istore 4, 2) := by decide +kernel
theorem dX9_isMakersTurn_3 : decode cX9_isMakersTurn 3 = .ok (.iconst 0, 1) := by decide +kernel
theorem dX9_isMakersTurn_4 : decode cX9_isMakersTurn 4 = .ok (.istore 5, 2) := by decide +kernel
theorem dX9_isMakersTurn_6 : decode cX9_isMakersTurn 6 = .ok (.iload 5, 2) := by decide +kernel
theorem dX9_isMakersTurn_8 : decode cX9_isMakersTurn 8 = .ok (.bipush 8, 2) := by decide +kernel
theorem dX9_isMakersTurn_10 : decode cX9_isMakersTurn 10 = .ok (.if_icmp .ge 38, 3) := by decide +kernel
theorem dX9_isMakersTurn_13 : decode cX9_isMakersTurn 13 = .ok (.iload 4, 2) := by decide +kernel
theorem dX9_isMakersTurn_15 : decode cX9_isMakersTurn 15 = .ok (.iload_n 2, 1) := by decide +kernel
theorem dX9_isMakersTurn_16 : decode cX9_isMakersTurn 16 = .ok (.iload 5, 2) := by decide +kernel
theorem dX9_isMakersTurn_18 : decode cX9_isMakersTurn 18 = .ok (.invokestatic 261, 3) := by decide +kernel
theorem dX9_isMakersTurn_21 : decode cX9_isMakersTurn 21 = .ok (.ifCond .eq 17, 3) := by decide +kernel
theorem dX9_isMakersTurn_24 : decode cX9_isMakersTurn 24 = .ok (.aload_n 0, 1) := by decide +kernel
theorem dX9_isMakersTurn_25 : decode cX9_isMakersTurn 25 = .ok (.iload_n 1, 1) := by decide +kernel
theorem dX9_isMakersTurn_26 : decode cX9_isMakersTurn 26 = .ok (.iload 5, 2) := by decide +kernel
theorem dX9_isMakersTurn_28 : decode cX9_isMakersTurn 28 = .ok (.invokevirtual 498, 3) := by decide +kernel
theorem dX9_isMakersTurn_31 : decode cX9_isMakersTurn 31 = .ok (.ifCond .eq 7, 3) := by decide +kernel
theorem dX9_isMakersTurn_34 : decode cX9_isMakersTurn 34 = .ok (.iconst 1, 1) := by decide +kernel
theorem dX9_isMakersTurn_35 : decode cX9_isMakersTurn 35 = .ok (.goto 4, 3) := by decide +kernel
theorem dX9_isMakersTurn_38 : decode cX9_isMakersTurn 38 = .ok (.iconst 0, 1) := by decide +kernel
theorem dX9_isMakersTurn_39 : decode cX9_isMakersTurn 39 = .ok (.iadd, 1) := by decide +kernel
theorem dX9_isMakersTurn_40 : decode cX9_isMakersTurn 40 = .ok (.istore 4, 2) := by decide +kernel
theorem dX9_isMakersTurn_42 : decode cX9_isMakersTurn 42 = .ok (.iinc 5 1, 3) := by decide +kernel
theorem dX9_isMakersTurn_45 : decode cX9_isMakersTurn 45 = .ok (.goto (-39), 3) := by decide +kernel
theorem dX9_isMakersTurn_48 : decode cX9_isMakersTurn 48 = .ok (.iload 4, 2) := by decide +kernel
theorem dX9_isMakersTurn_50 : decode cX9_isMakersTurn 50 = .ok (.iconst 2, 1) := by decide +kernel
theorem dX9_isMakersTurn_51 : decode cX9_isMakersTurn 51 = .ok (.irem, 1) := by decide +kernel
theorem dX9_isMakersTurn_52 : decode cX9_isMakersTurn 52 = .ok (.ifCond .ne 7, 3) := by decide +kernel
theorem dX9_isMakersTurn_55 : decode cX9_isMakersTurn 55 = .ok (.iconst 1, 1) := by decide +kernel
theorem dX9_isMakersTurn_56 : decode cX9_isMakersTurn 56 = .ok (.goto 4, 3) := by decide +kernel
theorem dX9_isMakersTurn_59 : decode cX9_isMakersTurn 59 = .ok (.iconst 0, 1) := by decide +kernel
theorem dX9_isMakersTurn_60 : decode cX9_isMakersTurn 60 = .ok (.iload_n 3, 1) := by decide +kernel
theorem dX9_isMakersTurn_61 : decode cX9_isMakersTurn 61 = .ok (.if_icmp .ne 7, 3) := by decide +kernel
theorem dX9_isMakersTurn_64 : decode cX9_isMakersTurn 64 = .ok (.iconst 1, 1) := by decide +kernel
theorem dX9_isMakersTurn_65 : decode cX9_isMakersTurn 65 = .ok (.goto 4, 3) := by decide +kernel
theorem dX9_isMakersTurn_68 : decode cX9_isMakersTurn 68 = .ok (.iconst 0, 1) := by decide +kernel
theorem dX9_isMakersTurn_69 : decode cX9_isMakersTurn 69 = .ok (.ireturn, 1) := by decide +kernel
theorem dX9_isEnd_0 : decode cX9_isEnd 0 = .ok (.iconst 0, 1) := by decide +kernel
theorem dX9_isEnd_1 : decode cX9_isEnd 1 = .ok (.istore_n 2, 1) := by decide +kernel
theorem dX9_isEnd_2 : decode cX9_isEnd 2 = .ok (.iconst 0, 1) := by decide +kernel
theorem dX9_isEnd_3 : decode cX9_isEnd 3 = .ok (.istore_n 3, 1) := by decide +kernel
theorem dX9_isEnd_4 : decode cX9_isEnd 4 = .ok (.iload_n 3, 1) := by decide +kernel
theorem dX9_isEnd_5 : decode cX9_isEnd 5 = .ok (.bipush 8, 2) := by decide +kernel
theorem dX9_isEnd_7 : decode cX9_isEnd 7 = .ok (.if_icmp .ge 29, 3) := by decide +kernel
theorem dX9_isEnd_10 : decode cX9_isEnd 10 = .ok (.iload_n 2, 1) := by decide +kernel
theorem dX9_isEnd_11 : decode cX9_isEnd 11 = .ok (.aload_n 0, 1) := by decide +kernel
theorem dX9_isEnd_12 : decode cX9_isEnd 12 = .ok (.iload_n 1, 1) := by decide +kernel
theorem dX9_isEnd_13 : decode cX9_isEnd 13 = .ok (.iload_n 3, 1) := by decide +kernel
theorem dX9_isEnd_14 : decode cX9_isEnd 14 = .ok (.invokevirtual 498, 3) := by decide +kernel
theorem dX9_isEnd_17 : decode cX9_isEnd 17 = .ok (.iconst 1, 1) := by decide +kernel
theorem dX9_isEnd_18 : decode cX9_isEnd 18 = .ok (.if_icmp .ne 9, 3) := by decide +kernel
theorem dX9_isEnd_21 : decode cX9_isEnd 21 = .ok (.iconst 1, 1) := by decide +kernel
theorem dX9_isEnd_22 : decode cX9_isEnd 22 = .ok (.iload_n 3, 1) := by decide +kernel
theorem dX9_isEnd_23 : decode cX9_isEnd 23 = .ok (.ishl, 1) := by decide +kernel
theorem dX9_isEnd_24 : decode cX9_isEnd 24 = .ok (.goto 4, 3) := by decide +kernel
theorem dX9_isEnd_27 : decode cX9_isEnd 27 = .ok (.iconst 0, 1) := by decide +kernel
theorem dX9_isEnd_28 : decode cX9_isEnd 28 = .ok (.ior, 1) := by decide +kernel
theorem dX9_isEnd_29 : decode cX9_isEnd 29 = .ok (.istore_n 2, 1) := by decide +kernel
theorem dX9_isEnd_30 : decode cX9_isEnd 30 = .ok (.iinc 3 1, 3) := by decide +kernel
theorem dX9_isEnd_33 : decode cX9_isEnd 33 = .ok (.goto (-29), 3) := by decide +kernel
theorem dX9_isEnd_36 : decode cX9_isEnd 36 = .ok (.iconst 0, 1) := by decide +kernel
theorem dX9_isEnd_37 : decode cX9_isEnd 37 = .ok (.istore_n 3, 1) := by decide +kernel
theorem dX9_isEnd_38 : decode cX9_isEnd 38 = .ok (.iload_n 3, 1) := by decide +kernel
theorem dX9_isEnd_39 : decode cX9_isEnd 39 = .ok (.aload_n 0, 1) := by decide +kernel
theorem dX9_isEnd_40 : decode cX9_isEnd 40 = .ok (.getfield 7, 3) := by decide +kernel
theorem dX9_isEnd_43 : decode cX9_isEnd 43 = .ok (.iconst 5, 1) := by decide +kernel
theorem dX9_isEnd_44 : decode cX9_isEnd 44 = .ok (.iaload, 1) := by decide +kernel
theorem dX9_isEnd_45 : decode cX9_isEnd 45 = .ok (.if_icmp .ge 20, 3) := by decide +kernel
theorem dX9_isEnd_48 : decode cX9_isEnd 48 = .ok (.aload_n 0, 1) := by decide +kernel
theorem dX9_isEnd_49 : decode cX9_isEnd 49 = .ok (.iload_n 3, 1) := by decide +kernel
theorem dX9_isEnd_50 : decode cX9_isEnd 50 = .ok (.iload_n 2, 1) := by decide +kernel
theorem dX9_isEnd_51 : decode cX9_isEnd 51 = .ok (.invokevirtual 473, 3) := by decide +kernel
theorem dX9_isEnd_54 : decode cX9_isEnd 54 = .ok (.ifCond .ne 5, 3) := by decide +kernel
theorem dX9_isEnd_57 : decode cX9_isEnd 57 = .ok (.iconst 0, 1) := by decide +kernel
theorem dX9_isEnd_58 : decode cX9_isEnd 58 = .ok (.ireturn, 1) := by decide +kernel
theorem dX9_isEnd_59 : decode cX9_isEnd 59 = .ok (.iinc 3 1, 3) := by decide +kernel
theorem dX9_isEnd_62 : decode cX9_isEnd 62 = .ok (.goto (-24), 3) := by decide +kernel
theorem dX9_isEnd_65 : decode cX9_isEnd 65 = .ok (.iconst 1, 1) := by decide +kernel
theorem dX9_isEnd_66 : decode cX9_isEnd 66 = .ok (.ireturn, 1) := by decide +kernel
theorem dX9_isValued_0 : decode cX9_isValued 0 = .ok (.aload_n 0, 1) := by decide +kernel
theorem dX9_isValued_1 : decode cX9_isValued 1 = .ok (.iload_n 1, 1) := by decide +kernel
theorem dX9_isValued_2 : decode cX9_isValued 2 = .ok (.iload_n 2, 1) := by decide +kernel
theorem dX9_isValued_3 : decode cX9_isValued 3 = .ok (.iload_n 3, 1) := by decide +kernel
theorem dX9_isValued_4 : decode cX9_isValued 4 = .ok (.invokevirtual 501, 3) := by decide +kernel
theorem dX9_isValued_7 : decode cX9_isValued 7 = .ok (.istore 4, 2) := by decide +kernel
theorem dX9_isValued_9 : decode cX9_isValued 9 = .ok (.iconst 0, 1) := by decide +kernel
theorem dX9_isValued_10 : decode cX9_isValued 10 = .ok (.istore 5, 2) := by decide +kernel
theorem dX9_isValued_12 : decode cX9_isValued 12 = .ok (.iconst 0, 1) := by decide +kernel
theorem dX9_isValued_13 : decode cX9_isValued 13 = .ok (.istore 6, 2) := by decide +kernel
theorem dX9_isValued_15 : decode cX9_isValued 15 = .ok (.iload 6, 2) := by decide +kernel
theorem dX9_isValued_17 : decode cX9_isValued 17 = .ok (.bipush 8, 2) := by decide +kernel
theorem dX9_isValued_19 : decode cX9_isValued 19 = .ok (.if_icmp .ge 67, 3) := by decide +kernel
theorem dX9_isValued_22 : decode cX9_isValued 22 = .ok (.iload_n 2, 1) := by decide +kernel
theorem dX9_isValued_23 : decode cX9_isValued 23 = .ok (.iload 6, 2) := by decide +kernel
theorem dX9_isValued_25 : decode cX9_isValued 25 = .ok (.invokestatic 261, 3) := by decide +kernel
theorem dX9_isValued_28 : decode cX9_isValued 28 = .ok (.ifCond .eq 52, 3) := by decide +kernel
theorem dX9_isValued_31 : decode cX9_isValued 31 = .ok (.aload_n 0, 1) := by decide +kernel
theorem dX9_isValued_32 : decode cX9_isValued 32 = .ok (.iload_n 1, 1) := by decide +kernel
theorem dX9_isValued_33 : decode cX9_isValued 33 = .ok (.iload 6, 2) := by decide +kernel
theorem dX9_isValued_35 : decode cX9_isValued 35 = .ok (.invokevirtual 498, 3) := by decide +kernel
theorem dX9_isValued_38 : decode cX9_isValued 38 = .ok (.ifCond .eq 6, 3) := by decide +kernel
theorem dX9_isValued_41 : decode cX9_isValued 41 = .ok (.goto 39, 3) := by decide +kernel
theorem dX9_isValued_44 : decode cX9_isValued 44 = .ok (.iconst 1, 1) := by decide +kernel
theorem dX9_isValued_45 : decode cX9_isValued 45 = .ok (.istore 5, 2) := by decide +kernel
theorem dX9_isValued_47 : decode cX9_isValued 47 = .ok (.aload_n 0, 1) := by decide +kernel
theorem dX9_isValued_48 : decode cX9_isValued 48 = .ok (.getfield 53, 3) := by decide +kernel
theorem dX9_isValued_51 : decode cX9_isValued 51 = .ok (.iload_n 1, 1) := by decide +kernel
theorem dX9_isValued_52 : decode cX9_isValued 52 = .ok (.iload 4, 2) := by decide +kernel
theorem dX9_isValued_54 : decode cX9_isValued 54 = .ok (.ifCond .eq 7, 3) := by decide +kernel
theorem dX9_isValued_57 : decode cX9_isValued 57 = .ok (.iconst 1, 1) := by decide +kernel
theorem dX9_isValued_58 : decode cX9_isValued 58 = .ok (.goto 4, 3) := by decide +kernel
theorem dX9_isValued_61 : decode cX9_isValued 61 = .ok (.iconst 2, 1) := by decide +kernel
theorem dX9_isValued_62 : decode cX9_isValued 62 = .ok (.aload_n 0, 1) := by decide +kernel
theorem dX9_isValued_63 : decode cX9_isValued 63 = .ok (.getfield 56, 3) := by decide +kernel
theorem dX9_isValued_66 : decode cX9_isValued 66 = .ok (.iload 6, 2) := by decide +kernel
theorem dX9_isValued_68 : decode cX9_isValued 68 = .ok (.iaload, 1) := by decide +kernel
theorem dX9_isValued_69 : decode cX9_isValued 69 = .ok (.imul, 1) := by decide +kernel
theorem dX9_isValued_70 : decode cX9_isValued 70 = .ok (.iadd, 1) := by decide +kernel
theorem dX9_isValued_71 : decode cX9_isValued 71 = .ok (.baload, 1) := by decide +kernel
theorem dX9_isValued_72 : decode cX9_isValued 72 = .ok (.iload 4, 2) := by decide +kernel
theorem dX9_isValued_74 : decode cX9_isValued 74 = .ok (.if_icmp .ne 6, 3) := by decide +kernel
theorem dX9_isValued_77 : decode cX9_isValued 77 = .ok (.iload 4, 2) := by decide +kernel
theorem dX9_isValued_79 : decode cX9_isValued 79 = .ok (.ireturn, 1) := by decide +kernel
theorem dX9_isValued_80 : decode cX9_isValued 80 = .ok (.iinc 6 1, 3) := by decide +kernel
theorem dX9_isValued_83 : decode cX9_isValued 83 = .ok (.goto (-68), 3) := by decide +kernel
theorem dX9_isValued_86 : decode cX9_isValued 86 = .ok (.iload 5, 2) := by decide +kernel
theorem dX9_isValued_88 : decode cX9_isValued 88 = .ok (.ifCond .eq 16, 3) := by decide +kernel
theorem dX9_isValued_91 : decode cX9_isValued 91 = .ok (.iload 4, 2) := by decide +kernel
theorem dX9_isValued_93 : decode cX9_isValued 93 = .ok (.ifCond .ne 7, 3) := by decide +kernel
theorem dX9_isValued_96 : decode cX9_isValued 96 = .ok (.iconst 1, 1) := by decide +kernel
theorem dX9_isValued_97 : decode cX9_isValued 97 = .ok (.goto 12, 3) := by decide +kernel
theorem dX9_isValued_100 : decode cX9_isValued 100 = .ok (.iconst 0, 1) := by decide +kernel
theorem dX9_isValued_101 : decode cX9_isValued 101 = .ok (.goto 8, 3) := by decide +kernel
theorem dX9_isValued_104 : decode cX9_isValued 104 = .ok (.aload_n 0, 1) := by decide +kernel
theorem dX9_isValued_105 : decode cX9_isValued 105 = .ok (.iload_n 1, 1) := by decide +kernel
theorem dX9_isValued_106 : decode cX9_isValued 106 = .ok (.invokevirtual 504, 3) := by decide +kernel
theorem dX9_isValued_109 : decode cX9_isValued 109 = .ok (.ireturn, 1) := by decide +kernel
theorem dX9_isWithin_0 : decode cX9_isWithin 0 = .ok (.iload_n 0, 1) := by decide +kernel
theorem dX9_isWithin_1 : decode cX9_isWithin 1 = .ok (.istore_n 2, 1) := by decide +kernel
theorem dX9_isWithin_2 : decode cX9_isWithin 2 = .ok (.iconst 0, 1) := by decide +kernel
theorem dX9_isWithin_3 : decode cX9_isWithin 3 = .ok (.istore_n 3, 1) := by decide +kernel
theorem dX9_isWithin_4 : decode cX9_isWithin 4 = .ok (.iload_n 3, 1) := by decide +kernel
theorem dX9_isWithin_5 : decode cX9_isWithin 5 = .ok (.bipush 8, 2) := by decide +kernel
theorem dX9_isWithin_7 : decode cX9_isWithin 7 = .ok (.if_icmp .ge 29, 3) := by decide +kernel
theorem dX9_isWithin_10 : decode cX9_isWithin 10 = .ok (.iload_n 2, 1) := by decide +kernel
theorem dX9_isWithin_11 : decode cX9_isWithin 11 = .ok (.iconst 3, 1) := by decide +kernel
theorem dX9_isWithin_12 : decode cX9_isWithin 12 = .ok (.irem, 1) := by decide +kernel
theorem dX9_isWithin_13 : decode cX9_isWithin 13 = .ok (.ifCond .eq 13, 3) := by decide +kernel
theorem dX9_isWithin_16 : decode cX9_isWithin 16 = .ok (.iload_n 1, 1) := by decide +kernel
theorem dX9_isWithin_17 : decode cX9_isWithin 17 = .ok (.iload_n 3, 1) := by decide +kernel
theorem dX9_isWithin_18 : decode cX9_isWithin 18 = .ok (.invokestatic 261, 3) := by decide +kernel
theorem dX9_isWithin_21 : decode cX9_isWithin 21 = .ok (.ifCond .ne 5, 3) := by decide +kernel
theorem dX9_isWithin_24 : decode cX9_isWithin 24 = .ok (.iconst 0, 1) := by decide +kernel
theorem dX9_isWithin_25 : decode cX9_isWithin 25 = .ok (.ireturn, 1) := by decide +kernel
theorem dX9_isWithin_26 : decode cX9_isWithin 26 = .ok (.iload_n 2, 1) := by decide +kernel
theorem dX9_isWithin_27 : decode cX9_isWithin 27 = .ok (.iconst 3, 1) := by decide +kernel
theorem dX9_isWithin_28 : decode cX9_isWithin 28 = .ok (.idiv, 1) := by decide +kernel
theorem dX9_isWithin_29 : decode cX9_isWithin 29 = .ok (.istore_n 2, 1) := by decide +kernel
theorem dX9_isWithin_30 : decode cX9_isWithin 30 = .ok (.iinc 3 1, 3) := by decide +kernel
theorem dX9_isWithin_33 : decode cX9_isWithin 33 = .ok (.goto (-29), 3) := by decide +kernel
theorem dX9_isWithin_36 : decode cX9_isWithin 36 = .ok (.iconst 1, 1) := by decide +kernel
theorem dX9_isWithin_37 : decode cX9_isWithin 37 = .ok (.ireturn, 1) := by decide +kernel
theorem dX9_duel_0 : decode cX9_duel 0 = .ok (.aload_n 0, 1) := by decide +kernel
theorem dX9_duel_1 : decode cX9_duel 1 = .ok (.getfield 7, 3) := by decide +kernel
theorem dX9_duel_4 : decode cX9_duel 4 = .ok (.iconst 5, 1) := by decide +kernel
theorem dX9_duel_5 : decode cX9_duel 5 = .ok (.iaload, 1) := by decide +kernel
theorem dX9_duel_6 : decode cX9_duel 6 = .ok (.ifCond .ne 6, 3) := by decide +kernel
theorem dX9_duel_9 : decode cX9_duel 9 = .ok (.bipush (-2), 2) := by decide +kernel
theorem dX9_duel_11 : decode cX9_duel 11 = .ok (.ireturn, 1) := by decide +kernel
theorem dX9_duel_12 : decode cX9_duel 12 = .ok (.iconst 0, 1) := by decide +kernel
theorem dX9_duel_13 : decode cX9_duel 13 = .ok (.istore_n 3, 1) := by decide +kernel
theorem dX9_duel_14 : decode cX9_duel 14 = .ok (.iconst 0, 1) := by decide +kernel
theorem dX9_duel_15 : decode cX9_duel 15 = .ok (.istore 4, 2) := by decide +kernel
theorem dX9_duel_17 : decode cX9_duel 17 = .ok (.iload 4, 2) := by decide +kernel
theorem dX9_duel_19 : decode cX9_duel 19 = .ok (.aload_n 0, 1) := by decide +kernel
theorem dX9_duel_20 : decode cX9_duel 20 = .ok (.getfield 7, 3) := by decide +kernel
theorem dX9_duel_23 : decode cX9_duel 23 = .ok (.iconst 5, 1) := by decide +kernel
theorem dX9_duel_24 : decode cX9_duel 24 = .ok (.iaload, 1) := by decide +kernel
theorem dX9_duel_25 : decode cX9_duel 25 = .ok (.if_icmp .ge 26, 3) := by decide +kernel
theorem dX9_duel_28 : decode cX9_duel 28 = .ok (.iload_n 3, 1) := by decide +kernel
theorem dX9_duel_29 : decode cX9_duel 29 = .ok (.aload_n 0, 1) := by decide +kernel
theorem dX9_duel_30 : decode cX9_duel 30 = .ok (.getfield 7, 3) := by decide +kernel
theorem dX9_duel_33 : decode cX9_duel 33 = .ok (.bipush 126, 2) := by decide +kernel
theorem dX9_duel_35 : decode cX9_duel 35 = .ok (.iconst 4, 1) := by decide +kernel
theorem dX9_duel_36 : decode cX9_duel 36 = .ok (.iload 4, 2) := by decide +kernel
theorem dX9_duel_38 : decode cX9_duel 38 = .ok (.imul, 1) := by decide +kernel
theorem dX9_duel_39 : decode cX9_duel 39 = .ok (.iadd, 1) := by decide +kernel
theorem dX9_duel_40 : decode cX9_duel 40 = .ok (.iconst 1, 1) := by decide +kernel
theorem dX9_duel_41 : decode cX9_duel 41 = .ok (.iadd, 1) := by decide +kernel
theorem dX9_duel_42 : decode cX9_duel 42 = .ok (.iaload, 1) := by decide +kernel
theorem dX9_duel_43 : decode cX9_duel 43 = .ok (.ior, 1) := by decide +kernel
theorem dX9_duel_44 : decode cX9_duel 44 = .ok (.istore_n 3, 1) := by decide +kernel
theorem dX9_duel_45 : decode cX9_duel 45 = .ok (.iinc 4 1, 3) := by decide +kernel
theorem dX9_duel_48 : decode cX9_duel 48 = .ok (.goto (-31), 3) := by decide +kernel
theorem dX9_duel_51 : decode cX9_duel 51 = .ok (.aload_n 0, 1) := by decide +kernel
theorem dX9_duel_52 : decode cX9_duel 52 = .ok (.getfield 56, 3) := by decide +kernel
theorem dX9_duel_55 : decode cX9_duel 55 = .ok (.iconst 0, 1) := by decide +kernel
theorem dX9_duel_56 : decode cX9_duel 56 = .ok (.iconst 1, 1) := by decide +kernel
theorem dX9_duel_57 : decode cX9_duel 57 = .ok (.iastore, 1) := by decide +kernel
theorem dX9_duel_58 : decode cX9_duel 58 = .ok (.iconst 0, 1) := by decide +kernel
theorem dX9_duel_59 : decode cX9_duel 59 = .ok (.istore 4, 2) := by decide +kernel
theorem dX9_duel_61 : decode cX9_duel 61 = .ok (.iload 4, 2) := by decide +kernel
theorem dX9_duel_63 : decode cX9_duel 63 = .ok (.bipush 8, 2) := by decide +kernel
theorem dX9_duel_65 : decode cX9_duel 65 = .ok (.if_icmp .ge 27, 3) := by decide +kernel
theorem dX9_duel_68 : decode cX9_duel 68 = .ok (.aload_n 0, 1) := by decide +kernel
theorem dX9_duel_69 : decode cX9_duel 69 = .ok (.getfield 56, 3) := by decide +kernel
theorem dX9_duel_72 : decode cX9_duel 72 = .ok (.iload 4, 2) := by decide +kernel
theorem dX9_duel_74 : decode cX9_duel 74 = .ok (.iconst 1, 1) := by decide +kernel
theorem dX9_duel_75 : decode cX9_duel 75 = .ok (.iadd, 1) := by decide +kernel
theorem dX9_duel_76 : decode cX9_duel 76 = .ok (.iconst 3, 1) := by decide +kernel
theorem dX9_duel_77 : decode cX9_duel 77 = .ok (.aload_n 0, 1) := by decide +kernel
theorem dX9_duel_78 : decode cX9_duel 78 = .ok (.getfield 56, 3) := by decide +kernel
theorem dX9_duel_81 : decode cX9_duel 81 = .ok (.iload 4, 2) := by decide +kernel
theorem dX9_duel_83 : decode cX9_duel 83 = .ok (.iaload, 1) := by decide +kernel
theorem dX9_duel_84 : decode cX9_duel 84 = .ok (.imul, 1) := by decide +kernel
theorem dX9_duel_85 : decode cX9_duel 85 = .ok (.iastore, 1) := by decide +kernel
theorem dX9_duel_86 : decode cX9_duel 86 = .ok (.iinc 4 1, 3) := by decide +kernel
theorem dX9_duel_89 : decode cX9_duel 89 = .ok (.goto (-28), 3) := by decide +kernel
theorem dX9_duel_92 : decode cX9_duel 92 = .ok (.sipush 6560, 3) := by decide +kernel
theorem dX9_duel_95 : decode cX9_duel 95 = .ok (.istore 4, 2) := by decide +kernel
theorem dX9_duel_97 : decode cX9_duel 97 = .ok (.iload 4, 2) := by decide +kernel
theorem dX9_duel_99 : decode cX9_duel 99 = .ok (.ifCond .lt 33, 3) := by decide +kernel
theorem dX9_duel_102 : decode cX9_duel 102 = .ok (.iload 4, 2) := by decide +kernel
theorem dX9_duel_104 : decode cX9_duel 104 = .ok (.iload_n 3, 1) := by decide +kernel
theorem dX9_duel_105 : decode cX9_duel 105 = .ok (.invokestatic 507, 3) := by decide +kernel
theorem dX9_duel_108 : decode cX9_duel 108 = .ok (.ifCond .eq 18, 3) := by decide +kernel
theorem dX9_duel_111 : decode cX9_duel 111 = .ok (.aload_n 0, 1) := by decide +kernel
theorem dX9_duel_112 : decode cX9_duel 112 = .ok (.getfield 53, 3) := by decide +kernel
theorem dX9_duel_115 : decode cX9_duel 115 = .ok (.iload 4, 2) := by decide +kernel
theorem dX9_duel_117 : decode cX9_duel 117 = .ok (.aload_n 0, 1) := by decide +kernel
theorem dX9_duel_118 : decode cX9_duel 118 = .ok (.iload 4, 2) := by decide +kernel
theorem dX9_duel_120 : decode cX9_duel 120 = .ok (.iload_n 3, 1) := by decide +kernel
theorem dX9_duel_121 : decode cX9_duel 121 = .ok (.iload_n 1, 1) := by decide +kernel
theorem dX9_duel_122 : decode cX9_duel 122 = .ok (.invokevirtual 510, 3) := by decide +kernel
theorem dX9_duel_125 : decode cX9_duel 125 = .ok (.bastore, 1) := by decide +kernel
theorem dX9_duel_126 : decode cX9_duel 126 = .ok (.iinc 4 (-1), 3) := by decide +kernel
theorem dX9_duel_129 : decode cX9_duel 129 = .ok (.goto (-32), 3) := by decide +kernel
theorem dX9_duel_132 : decode cX9_duel 132 = .ok (.iload_n 2, 1) := by decide +kernel
theorem dX9_duel_133 : decode cX9_duel 133 = .ok (.ifCond .ne 18, 3) := by decide +kernel
theorem dX9_duel_136 : decode cX9_duel 136 = .ok (.aload_n 0, 1) := by decide +kernel
theorem dX9_duel_137 : decode cX9_duel 137 = .ok (.getfield 53, 3) := by decide +kernel
theorem dX9_duel_140 : decode cX9_duel 140 = .ok (.iconst 0, 1) := by decide +kernel
theorem dX9_duel_141 : decode cX9_duel 141 = .ok (.baload, 1) := by decide +kernel
theorem dX9_duel_142 : decode cX9_duel 142 = .ok (.ifCond .eq 7, 3) := by decide +kernel
theorem dX9_duel_145 : decode cX9_duel 145 = .ok (.iconst 1, 1) := by decide +kernel
theorem dX9_duel_146 : decode cX9_duel 146 = .ok (.goto 4, 3) := by decide +kernel
theorem dX9_duel_149 : decode cX9_duel 149 = .ok (.iconst 0, 1) := by decide +kernel
theorem dX9_duel_150 : decode cX9_duel 150 = .ok (.ireturn, 1) := by decide +kernel
theorem dX9_duel_151 : decode cX9_duel 151 = .ok (.iconst 0, 1) := by decide +kernel
theorem dX9_duel_152 : decode cX9_duel 152 = .ok (.istore 4, 2) := by decide +kernel
theorem dX9_duel_154 : decode cX9_duel 154 = .ok (.iload 4, 2) := by decide +kernel
theorem dX9_duel_156 : decode cX9_duel 156 = .ok (.bipush 8, 2) := by decide +kernel
theorem dX9_duel_158 : decode cX9_duel 158 = .ok (.if_icmp .ge 47, 3) := by decide +kernel
theorem dX9_duel_161 : decode cX9_duel 161 = .ok (.iload_n 3, 1) := by decide +kernel
theorem dX9_duel_162 : decode cX9_duel 162 = .ok (.iload 4, 2) := by decide +kernel
theorem dX9_duel_164 : decode cX9_duel 164 = .ok (.invokestatic 261, 3) := by decide +kernel
theorem dX9_duel_167 : decode cX9_duel 167 = .ok (.ifCond .eq 32, 3) := by decide +kernel
theorem dX9_duel_170 : decode cX9_duel 170 = .ok (.aload_n 0, 1) := by decide +kernel
theorem dX9_duel_171 : decode cX9_duel 171 = .ok (.getfield 53, 3) := by decide +kernel
theorem dX9_duel_174 : decode cX9_duel 174 = .ok (.iload_n 1, 1) := by decide +kernel
theorem dX9_duel_175 : decode cX9_duel 175 = .ok (.ifCond .eq 7, 3) := by decide +kernel
theorem dX9_duel_178 : decode cX9_duel 178 = .ok (.iconst 1, 1) := by decide +kernel
theorem dX9_duel_179 : decode cX9_duel 179 = .ok (.goto 4, 3) := by decide +kernel
theorem dX9_duel_182 : decode cX9_duel 182 = .ok (.iconst 2, 1) := by decide +kernel
theorem dX9_duel_183 : decode cX9_duel 183 = .ok (.aload_n 0, 1) := by decide +kernel
theorem dX9_duel_184 : decode cX9_duel 184 = .ok (.getfield 56, 3) := by decide +kernel
theorem dX9_duel_187 : decode cX9_duel 187 = .ok (.iload 4, 2) := by decide +kernel
theorem dX9_duel_189 : decode cX9_duel 189 = .ok (.iaload, 1) := by decide +kernel
theorem dX9_duel_190 : decode cX9_duel 190 = .ok (.imul, 1) := by decide +kernel
theorem dX9_duel_191 : decode cX9_duel 191 = .ok (.baload, 1) := by decide +kernel
theorem dX9_duel_192 : decode cX9_duel 192 = .ok (.iload_n 1, 1) := by decide +kernel
theorem dX9_duel_193 : decode cX9_duel 193 = .ok (.if_icmp .ne 6, 3) := by decide +kernel
theorem dX9_duel_196 : decode cX9_duel 196 = .ok (.iload 4, 2) := by decide +kernel
theorem dX9_duel_198 : decode cX9_duel 198 = .ok (.ireturn, 1) := by decide +kernel
theorem dX9_duel_199 : decode cX9_duel 199 = .ok (.iinc 4 1, 3) := by decide +kernel
theorem dX9_duel_202 : decode cX9_duel 202 = .ok (.goto (-48), 3) := by decide +kernel
theorem dX9_duel_205 : decode cX9_duel 205 = .ok (.iconst (-1), 1) := by decide +kernel
theorem dX9_duel_206 : decode cX9_duel 206 = .ok (.ireturn, 1) := by decide +kernel
theorem dX9_owed_0 : decode cX9_owed 0 = .ok (.iload_n 1, 1) := by decide +kernel
theorem dX9_owed_1 : decode cX9_owed 1 = .ok (.iconst (-1), 1) := by decide +kernel
theorem dX9_owed_2 : decode cX9_owed 2 = .ok (.if_icmp .ne 13, 3) := by decide +kernel
theorem dX9_owed_5 : decode cX9_owed 5 = .ok (.aload_n 0, 1) := by decide +kernel
theorem dX9_owed_6 : decode cX9_owed 6 = .ok (.getfield 7, 3) := by decide +kernel
theorem dX9_owed_9 : decode cX9_owed 9 = .ok (.bipush 7, 2) := by decide +kernel
theorem dX9_owed_11 : decode cX9_owed 11 = .ok (.iconst 0, 1) := by decide +kernel
theorem dX9_owed_12 : decode cX9_owed 12 = .ok (.iastore, 1) := by decide +kernel
theorem dX9_owed_13 : decode cX9_owed 13 = .ok (.iconst 0, 1) := by decide +kernel
theorem dX9_owed_14 : decode cX9_owed 14 = .ok (.ireturn, 1) := by decide +kernel
theorem dX9_owed_15 : decode cX9_owed 15 = .ok (.aload_n 0, 1) := by decide +kernel
theorem dX9_owed_16 : decode cX9_owed 16 = .ok (.iload_n 1, 1) := by decide +kernel
theorem dX9_owed_17 : decode cX9_owed 17 = .ok (.invokevirtual 75, 3) := by decide +kernel
theorem dX9_owed_20 : decode cX9_owed 20 = .ok (.ifCond .eq 26, 3) := by decide +kernel
theorem dX9_owed_23 : decode cX9_owed 23 = .ok (.iload_n 2, 1) := by decide +kernel
theorem dX9_owed_24 : decode cX9_owed 24 = .ok (.iconst 0, 1) := by decide +kernel
theorem dX9_owed_25 : decode cX9_owed 25 = .ok (.sipush 9999, 3) := by decide +kernel
theorem dX9_owed_28 : decode cX9_owed 28 = .ok (.invokestatic 63, 3) := by decide +kernel
theorem dX9_owed_31 : decode cX9_owed 31 = .ok (.ifCond .eq 15, 3) := by decide +kernel
theorem dX9_owed_34 : decode cX9_owed 34 = .ok (.aload_n 0, 1) := by decide +kernel
theorem dX9_owed_35 : decode cX9_owed 35 = .ok (.getfield 7, 3) := by decide +kernel
theorem dX9_owed_38 : decode cX9_owed 38 = .ok (.bipush 7, 2) := by decide +kernel
theorem dX9_owed_40 : decode cX9_owed 40 = .ok (.iaload, 1) := by decide +kernel
theorem dX9_owed_41 : decode cX9_owed 41 = .ok (.bipush 8, 2) := by decide +kernel
theorem dX9_owed_43 : decode cX9_owed 43 = .ok (.if_icmp .ne 6, 3) := by decide +kernel
theorem dX9_owed_46 : decode cX9_owed 46 = .ok (.bipush (-2), 2) := by decide +kernel
theorem dX9_owed_48 : decode cX9_owed 48 = .ok (.ireturn, 1) := by decide +kernel
theorem dX9_owed_49 : decode cX9_owed 49 = .ok (.aload_n 0, 1) := by decide +kernel
theorem dX9_owed_50 : decode cX9_owed 50 = .ok (.getfield 7, 3) := by decide +kernel
theorem dX9_owed_53 : decode cX9_owed 53 = .ok (.sipush 174, 3) := by decide +kernel
theorem dX9_owed_56 : decode cX9_owed 56 = .ok (.iconst 2, 1) := by decide +kernel
theorem dX9_owed_57 : decode cX9_owed 57 = .ok (.aload_n 0, 1) := by decide +kernel
theorem dX9_owed_58 : decode cX9_owed 58 = .ok (.getfield 7, 3) := by decide +kernel
theorem dX9_owed_61 : decode cX9_owed 61 = .ok (.bipush 7, 2) := by decide +kernel
theorem dX9_owed_63 : decode cX9_owed 63 = .ok (.iaload, 1) := by decide +kernel
theorem dX9_owed_64 : decode cX9_owed 64 = .ok (.imul, 1) := by decide +kernel
theorem dX9_owed_65 : decode cX9_owed 65 = .ok (.iadd, 1) := by decide +kernel
theorem dX9_owed_66 : decode cX9_owed 66 = .ok (.iload_n 1, 1) := by decide +kernel
theorem dX9_owed_67 : decode cX9_owed 67 = .ok (.iastore, 1) := by decide +kernel
theorem dX9_owed_68 : decode cX9_owed 68 = .ok (.aload_n 0, 1) := by decide +kernel
theorem dX9_owed_69 : decode cX9_owed 69 = .ok (.getfield 7, 3) := by decide +kernel
theorem dX9_owed_72 : decode cX9_owed 72 = .ok (.sipush 174, 3) := by decide +kernel
theorem dX9_owed_75 : decode cX9_owed 75 = .ok (.iconst 2, 1) := by decide +kernel
theorem dX9_owed_76 : decode cX9_owed 76 = .ok (.aload_n 0, 1) := by decide +kernel
theorem dX9_owed_77 : decode cX9_owed 77 = .ok (.getfield 7, 3) := by decide +kernel
theorem dX9_owed_80 : decode cX9_owed 80 = .ok (.bipush 7, 2) := by decide +kernel
theorem dX9_owed_82 : decode cX9_owed 82 = .ok (.iaload, 1) := by decide +kernel
theorem dX9_owed_83 : decode cX9_owed 83 = .ok (.imul, 1) := by decide +kernel
theorem dX9_owed_84 : decode cX9_owed 84 = .ok (.iadd, 1) := by decide +kernel
theorem dX9_owed_85 : decode cX9_owed 85 = .ok (.iconst 1, 1) := by decide +kernel
theorem dX9_owed_86 : decode cX9_owed 86 = .ok (.iadd, 1) := by decide +kernel
theorem dX9_owed_87 : decode cX9_owed 87 = .ok (.iload_n 2, 1) := by decide +kernel
theorem dX9_owed_88 : decode cX9_owed 88 = .ok (.iastore, 1) := by decide +kernel
theorem dX9_owed_89 : decode cX9_owed 89 = .ok (.aload_n 0, 1) := by decide +kernel
theorem dX9_owed_90 : decode cX9_owed 90 = .ok (.getfield 7, 3) := by decide +kernel
theorem dX9_owed_93 : decode cX9_owed 93 = .ok (.bipush 7, 2) := by decide +kernel
theorem dX9_owed_95 : decode cX9_owed 95 = .ok (.dup2, 1) := by decide +kernel
theorem dX9_owed_96 : decode cX9_owed 96 = .ok (.iaload, 1) := by decide +kernel
theorem dX9_owed_97 : decode cX9_owed 97 = .ok (.iconst 1, 1) := by decide +kernel
theorem dX9_owed_98 : decode cX9_owed 98 = .ok (.iadd, 1) := by decide +kernel
theorem dX9_owed_99 : decode cX9_owed 99 = .ok (.iastore, 1) := by decide +kernel
theorem dX9_owed_100 : decode cX9_owed 100 = .ok (.aload_n 0, 1) := by decide +kernel
theorem dX9_owed_101 : decode cX9_owed 101 = .ok (.getfield 7, 3) := by decide +kernel
theorem dX9_owed_104 : decode cX9_owed 104 = .ok (.bipush 7, 2) := by decide +kernel
theorem dX9_owed_106 : decode cX9_owed 106 = .ok (.iaload, 1) := by decide +kernel
theorem dX9_owed_107 : decode cX9_owed 107 = .ok (.ireturn, 1) := by decide +kernel
theorem dX9_whose_0 : decode cX9_whose 0 = .ok (.iconst 0, 1) := by decide +kernel
theorem dX9_whose_1 : decode cX9_whose 1 = .ok (.istore_n 1, 1) := by decide +kernel
theorem dX9_whose_2 : decode cX9_whose 2 = .ok (.iconst 0, 1) := by decide +kernel
theorem dX9_whose_3 : decode cX9_whose 3 = .ok (.istore_n 2, 1) := by decide +kernel
theorem dX9_whose_4 : decode cX9_whose 4 = .ok (.iload_n 2, 1) := by decide +kernel
theorem dX9_whose_5 : decode cX9_whose 5 = .ok (.aload_n 0, 1) := by decide +kernel
theorem dX9_whose_6 : decode cX9_whose 6 = .ok (.getfield 7, 3) := by decide +kernel
theorem dX9_whose_9 : decode cX9_whose 9 = .ok (.iconst 2, 1) := by decide +kernel
theorem dX9_whose_10 : decode cX9_whose 10 = .ok (.iaload, 1) := by decide +kernel
theorem dX9_whose_11 : decode cX9_whose 11 = .ok (.if_icmp .ge 102, 3) := by decide +kernel
theorem dX9_whose_14 : decode cX9_whose 14 = .ok (.iconst 1, 1) := by decide +kernel
theorem dX9_whose_15 : decode cX9_whose 15 = .ok (.istore_n 3, 1) := by decide +kernel
theorem dX9_whose_16 : decode cX9_whose 16 = .ok (.sipush 174, 3) := by decide +kernel
theorem dX9_whose_19 : decode cX9_whose 19 = .ok (.istore 4, 2) := by decide +kernel
theorem dX9_whose_21 : decode cX9_whose 21 = .ok (.iload 4, 2) := by decide +kernel
theorem dX9_whose_23 : decode cX9_whose 23 = .ok (.sipush 174, 3) := by decide +kernel
theorem dX9_whose_26 : decode cX9_whose 26 = .ok (.iconst 2, 1) := by decide +kernel
theorem dX9_whose_27 : decode cX9_whose 27 = .ok (.aload_n 0, 1) := by decide +kernel
theorem dX9_whose_28 : decode cX9_whose 28 = .ok (.getfield 7, 3) := by decide +kernel
theorem dX9_whose_31 : decode cX9_whose 31 = .ok (.bipush 7, 2) := by decide +kernel
theorem dX9_whose_33 : decode cX9_whose 33 = .ok (.iaload, 1) := by decide +kernel
theorem dX9_whose_34 : decode cX9_whose 34 = .ok (.imul, 1) := by decide +kernel
theorem dX9_whose_35 : decode cX9_whose 35 = .ok (.iadd, 1) := by decide +kernel
theorem dX9_whose_36 : decode cX9_whose 36 = .ok (.if_icmp .ge 57, 3) := by decide +kernel
theorem dX9_whose_39 : decode cX9_whose 39 = .ok (.iload_n 3, 1) := by decide +kernel
theorem dX9_whose_40 : decode cX9_whose 40 = .ok (.ifCond .eq 45, 3) := by decide +kernel
theorem dX9_whose_43 : decode cX9_whose 43 = .ok (.aload_n 0, 1) := by decide +kernel
theorem dX9_whose_44 : decode cX9_whose 44 = .ok (.aload_n 0, 1) := by decide +kernel
theorem dX9_whose_45 : decode cX9_whose 45 = .ok (.getfield 7, 3) := by decide +kernel
theorem dX9_whose_48 : decode cX9_whose 48 = .ok (.iload 4, 2) := by decide +kernel
theorem dX9_whose_50 : decode cX9_whose 50 = .ok (.iaload, 1) := by decide +kernel
theorem dX9_whose_51 : decode cX9_whose 51 = .ok (.invokevirtual 75, 3) := by decide +kernel
theorem dX9_whose_54 : decode cX9_whose 54 = .ok (.ifCond .eq 27, 3) := by decide +kernel
theorem dX9_whose_57 : decode cX9_whose 57 = .ok (.aload_n 0, 1) := by decide +kernel
theorem dX9_whose_58 : decode cX9_whose 58 = .ok (.iload_n 2, 1) := by decide +kernel
theorem dX9_whose_59 : decode cX9_whose 59 = .ok (.aload_n 0, 1) := by decide +kernel
theorem dX9_whose_60 : decode cX9_whose 60 = .ok (.getfield 7, 3) := by decide +kernel
theorem dX9_whose_63 : decode cX9_whose 63 = .ok (.iload 4, 2) := by decide +kernel
theorem dX9_whose_65 : decode cX9_whose 65 = .ok (.iaload, 1) := by decide +kernel
theorem dX9_whose_66 : decode cX9_whose 66 = .ok (.invokevirtual 344, 3) := by decide +kernel
theorem dX9_whose_69 : decode cX9_whose 69 = .ok (.aload_n 0, 1) := by decide +kernel
theorem dX9_whose_70 : decode cX9_whose 70 = .ok (.getfield 7, 3) := by decide +kernel
theorem dX9_whose_73 : decode cX9_whose 73 = .ok (.iload 4, 2) := by decide +kernel
theorem dX9_whose_75 : decode cX9_whose 75 = .ok (.iconst 1, 1) := by decide +kernel
theorem dX9_whose_76 : decode cX9_whose 76 = .ok (.iadd, 1) := by decide +kernel
theorem dX9_whose_77 : decode cX9_whose 77 = .ok (.iaload, 1) := by decide +kernel
theorem dX9_whose_78 : decode cX9_whose 78 = .ok (.if_icmp .ne 7, 3) := by decide +kernel
theorem dX9_whose_81 : decode cX9_whose 81 = .ok (.iconst 1, 1) := by decide +kernel
theorem dX9_whose_82 : decode cX9_whose 82 = .ok (.goto 4, 3) := by decide +kernel
theorem dX9_whose_85 : decode cX9_whose 85 = .ok (.iconst 0, 1) := by decide +kernel
theorem dX9_whose_86 : decode cX9_whose 86 = .ok (.istore_n 3, 1) := by decide +kernel
theorem dX9_whose_87 : decode cX9_whose 87 = .ok (.iinc 4 2, 3) := by decide +kernel
theorem dX9_whose_90 : decode cX9_whose 90 = .ok (.goto (-69), 3) := by decide +kernel
theorem dX9_whose_93 : decode cX9_whose 93 = .ok (.iload_n 1, 1) := by decide +kernel
theorem dX9_whose_94 : decode cX9_whose 94 = .ok (.iload_n 3, 1) := by decide +kernel
theorem dX9_whose_95 : decode cX9_whose 95 = .ok (.ifCond .eq 9, 3) := by decide +kernel
theorem dX9_whose_98 : decode cX9_whose 98 = .ok (.iconst 1, 1) := by decide +kernel
theorem dX9_whose_99 : decode cX9_whose 99 = .ok (.iload_n 2, 1) := by decide +kernel
theorem dX9_whose_100 : decode cX9_whose 100 = .ok (.ishl, 1) := by decide +kernel
theorem dX9_whose_101 : decode cX9_whose 101 = .ok (.goto 4, 3) := by decide +kernel
theorem dX9_whose_104 : decode cX9_whose 104 = .ok (.iconst 0, 1) := by decide +kernel
theorem dX9_whose_105 : decode cX9_whose 105 = .ok (.ior, 1) := by decide +kernel
theorem dX9_whose_106 : decode cX9_whose 106 = .ok (.istore_n 1, 1) := by decide +kernel
theorem dX9_whose_107 : decode cX9_whose 107 = .ok (.iinc 2 1, 3) := by decide +kernel
theorem dX9_whose_110 : decode cX9_whose 110 = .ok (.goto (-106), 3) := by decide +kernel
theorem dX9_whose_113 : decode cX9_whose 113 = .ok (.iload_n 1, 1) := by decide +kernel
theorem dX9_whose_114 : decode cX9_whose 114 = .ok (.ireturn, 1) := by decide +kernel
theorem dX9_image_0 : decode cX9_image 0 = .ok (.aload_n 0, 1) := by decide +kernel
theorem dX9_image_1 : decode cX9_image 1 = .ok (.getfield 7, 3) := by decide +kernel
theorem dX9_image_4 : decode cX9_image 4 = .ok (.aload_n 0, 1) := by decide +kernel
theorem dX9_image_5 : decode cX9_image 5 = .ok (.getfield 13, 3) := by decide +kernel
theorem dX9_image_8 : decode cX9_image 8 = .ok (.invokestatic 59, 3) := by decide +kernel
theorem dX9_image_11 : decode cX9_image 11 = .ok (.aload_n 0, 1) := by decide +kernel
theorem dX9_image_12 : decode cX9_image 12 = .ok (.getfield 7, 3) := by decide +kernel
theorem dX9_image_15 : decode cX9_image 15 = .ok (.bipush 8, 2) := by decide +kernel
theorem dX9_image_17 : decode cX9_image 17 = .ok (.iaload, 1) := by decide +kernel
theorem dX9_image_18 : decode cX9_image 18 = .ok (.ireturn, 1) := by decide +kernel
theorem dX9_back_0 : decode cX9_back 0 = .ok (.aload_n 0, 1) := by decide +kernel
theorem dX9_back_1 : decode cX9_back 1 = .ok (.getfield 13, 3) := by decide +kernel
theorem dX9_back_4 : decode cX9_back 4 = .ok (.aload_n 0, 1) := by decide +kernel
theorem dX9_back_5 : decode cX9_back 5 = .ok (.getfield 7, 3) := by decide +kernel
theorem dX9_back_8 : decode cX9_back 8 = .ok (.invokestatic 59, 3) := by decide +kernel
theorem dX9_back_11 : decode cX9_back 11 = .ok (.aload_n 0, 1) := by decide +kernel
theorem dX9_back_12 : decode cX9_back 12 = .ok (.getfield 7, 3) := by decide +kernel
theorem dX9_back_15 : decode cX9_back 15 = .ok (.bipush 8, 2) := by decide +kernel
theorem dX9_back_17 : decode cX9_back 17 = .ok (.iaload, 1) := by decide +kernel
theorem dX9_back_18 : decode cX9_back 18 = .ok (.ireturn, 1) := by decide +kernel
theorem dX9_about_0 : decode cX9_about 0 = .ok (.iload_n 1, 1) := by decide +kernel
theorem dX9_about_1 : decode cX9_about 1 = .ok (.iconst 0, 1) := by decide +kernel
theorem dX9_about_2 : decode cX9_about 2 = .ok (.bipush 7, 2) := by decide +kernel
theorem dX9_about_4 : decode cX9_about 4 = .ok (.invokestatic 63, 3) := by decide +kernel
theorem dX9_about_7 : decode cX9_about 7 = .ok (.ifCond .eq 12, 3) := by decide +kernel
theorem dX9_about_10 : decode cX9_about 10 = .ok (.aload_n 0, 1) := by decide +kernel
theorem dX9_about_11 : decode cX9_about 11 = .ok (.getfield 7, 3) := by decide +kernel
theorem dX9_about_14 : decode cX9_about 14 = .ok (.iload_n 1, 1) := by decide +kernel
theorem dX9_about_15 : decode cX9_about 15 = .ok (.iaload, 1) := by decide +kernel
theorem dX9_about_16 : decode cX9_about 16 = .ok (.goto 18, 3) := by decide +kernel
theorem dX9_about_19 : decode cX9_about 19 = .ok (.iload_n 1, 1) := by decide +kernel
theorem dX9_about_20 : decode cX9_about 20 = .ok (.bipush 8, 2) := by decide +kernel
theorem dX9_about_22 : decode cX9_about 22 = .ok (.if_icmp .ne 10, 3) := by decide +kernel
theorem dX9_about_25 : decode cX9_about 25 = .ok (.aload_n 0, 1) := by decide +kernel
theorem dX9_about_26 : decode cX9_about 26 = .ok (.getfield 90, 3) := by decide +kernel
theorem dX9_about_29 : decode cX9_about 29 = .ok (.goto 5, 3) := by decide +kernel
theorem dX9_about_32 : decode cX9_about 32 = .ok (.bipush (-2), 2) := by decide +kernel
theorem dX9_about_34 : decode cX9_about 34 = .ok (.ireturn, 1) := by decide +kernel
