theorem dX0_init_0 : decode cX0_init 0 = .ok (.aload_n 0, 1) := by decide +kernel
theorem dX0_init_1 : decode cX0_init 1 = .ok (.invokespecial 3, 3) := by decide +kernel
theorem dX0_init_4 : decode cX0_init 4 = .ok (.aload_n 0, 1) := by decide +kernel
theorem dX0_init_5 : decode cX0_init 5 = .ok (.bipush 8, 2) := by decide +kernel
theorem dX0_init_7 : decode cX0_init 7 = .ok (.newarray .int, 2) := by decide +kernel
theorem dX0_init_9 : decode cX0_init 9 = .ok (.putfield 9, 3) := by decide +kernel
theorem dX0_init_12 : decode cX0_init 12 = .ok (.aload_n 0, 1) := by decide +kernel
theorem dX0_init_13 : decode cX0_init 13 = .ok (.sipush 411, 3) := by decide +kernel
theorem dX0_init_16 : decode cX0_init 16 = .ok (.newarray .int, 2) := by decide +kernel
theorem dX0_init_18 : decode cX0_init 18 = .ok (.putfield 15, 3) := by decide +kernel
theorem dX0_init_21 : decode cX0_init 21 = .ok (.return_, 1) := by decide +kernel
theorem dX0_begin_0 : decode cX0_begin 0 = .ok (.aload_n 0, 1) := by decide +kernel
theorem dX0_begin_1 : decode cX0_begin 1 = .ok (.getfield 15, 3) := by decide +kernel
theorem dX0_begin_4 : decode cX0_begin 4 = .ok (.iconst 0, 1) := by decide +kernel
theorem dX0_begin_5 : decode cX0_begin 5 = .ok (.invokestatic 18, 3) := by decide +kernel
theorem dX0_begin_8 : decode cX0_begin 8 = .ok (.aload_n 0, 1) := by decide +kernel
theorem dX0_begin_9 : decode cX0_begin 9 = .ok (.iconst 0, 1) := by decide +kernel
theorem dX0_begin_10 : decode cX0_begin 10 = .ok (.putfield 24, 3) := by decide +kernel
theorem dX0_begin_13 : decode cX0_begin 13 = .ok (.aload_n 0, 1) := by decide +kernel
theorem dX0_begin_14 : decode cX0_begin 14 = .ok (.iconst 0, 1) := by decide +kernel
theorem dX0_begin_15 : decode cX0_begin 15 = .ok (.putfield 28, 3) := by decide +kernel
theorem dX0_begin_18 : decode cX0_begin 18 = .ok (.aload_n 0, 1) := by decide +kernel
theorem dX0_begin_19 : decode cX0_begin 19 = .ok (.iconst 0, 1) := by decide +kernel
theorem dX0_begin_20 : decode cX0_begin 20 = .ok (.putfield 31, 3) := by decide +kernel
theorem dX0_begin_23 : decode cX0_begin 23 = .ok (.iconst 0, 1) := by decide +kernel
theorem dX0_begin_24 : decode cX0_begin 24 = .ok (.istore_n 2, 1) := by decide +kernel
theorem dX0_begin_25 : decode cX0_begin 25 = .ok (.iload_n 2, 1) := by decide +kernel
theorem dX0_begin_26 : decode cX0_begin 26 = .ok (.aload_n 1, 1) := by decide +kernel
theorem dX0_begin_27 : decode cX0_begin 27 = .ok (.getfield 34, 3) := by decide +kernel
theorem dX0_begin_30 : decode cX0_begin 30 = .ok (.if_icmp .ge 81, 3) := by decide +kernel
theorem dX0_begin_33 : decode cX0_begin 33 = .ok (.aload_n 1, 1) := by decide +kernel
theorem dX0_begin_34 : decode cX0_begin 34 = .ok (.iload_n 2, 1) := by decide +kernel
theorem dX0_begin_35 : decode cX0_begin 35 = .ok (.iconst 1, 1) := by decide +kernel
theorem dX0_begin_36 : decode cX0_begin 36 = .ok (.invokevirtual 39, 3) := by decide +kernel
theorem dX0_begin_39 : decode cX0_begin 39 = .ok (.istore_n 3, 1) := by decide +kernel
theorem dX0_begin_40 : decode cX0_begin 40 = .ok (.aload_n 0, 1) := by decide +kernel
theorem dX0_begin_41 : decode cX0_begin 41 = .ok (.dup, 1) := by decide +kernel
theorem dX0_begin_42 : decode cX0_begin 42 = .ok (.getfield 31, 3) := by decide +kernel
theorem dX0_begin_45 : decode cX0_begin 45 = .ok (.iload_n 3, 1) := by decide +kernel
theorem dX0_begin_46 : decode cX0_begin 46 = .ok (.ior, 1) := by decide +kernel
theorem dX0_begin_47 : decode cX0_begin 47 = .ok (.putfield 31, 3) := by decide +kernel
theorem dX0_begin_50 : decode cX0_begin 50 = .ok (.aload_n 1, 1) := by decide +kernel
theorem dX0_begin_51 : decode cX0_begin 51 = .ok (.iload_n 2, 1) := by decide +kernel
theorem dX0_begin_52 : decode cX0_begin 52 = .ok (.iconst 0, 1) := by decide +kernel
theorem dX0_begin_53 : decode cX0_begin 53 = .ok (.invokevirtual 39, 3) := by decide +kernel
theorem dX0_begin_56 : decode cX0_begin 56 = .ok (.iconst 1, 1) := by decide +kernel
theorem dX0_begin_57 : decode cX0_begin 57 = .ok (.if_icmp .ne 16, 3) := by decide +kernel
theorem dX0_begin_60 : decode cX0_begin 60 = .ok (.aload_n 0, 1) := by decide +kernel
theorem dX0_begin_61 : decode cX0_begin 61 = .ok (.dup, 1) := by decide +kernel
theorem dX0_begin_62 : decode cX0_begin 62 = .ok (.getfield 28, 3) := by decide +kernel
theorem dX0_begin_65 : decode cX0_begin 65 = .ok (.iload_n 3, 1) := by decide +kernel
theorem dX0_begin_66 : decode cX0_begin 66 = .ok (.ior, 1) := by decide +kernel
theorem dX0_begin_67 : decode cX0_begin 67 = .ok (.putfield 28, 3) := by decide +kernel
theorem dX0_begin_70 : decode cX0_begin 70 = .ok (.goto 35, 3) := by decide +kernel
theorem dX0_begin_73 : decode cX0_begin 73 = .ok (.aload_n 0, 1) := by decide +kernel
theorem dX0_begin_74 : decode cX0_begin 74 = .ok (.getfield 24, 3) := by decide +kernel
theorem dX0_begin_77 : decode cX0_begin 77 = .ok (.aload_n 0, 1) := by decide +kernel
theorem dX0_begin_78 : decode cX0_begin 78 = .ok (.getfield 9, 3) := by decide +kernel
theorem dX0_begin_81 : decode cX0_begin 81 = .ok (.arraylength, 1) := by decide +kernel
theorem dX0_begin_82 : decode cX0_begin 82 = .ok (.if_icmp .ge 23, 3) := by decide +kernel
theorem dX0_begin_85 : decode cX0_begin 85 = .ok (.aload_n 0, 1) := by decide +kernel
theorem dX0_begin_86 : decode cX0_begin 86 = .ok (.getfield 9, 3) := by decide +kernel
theorem dX0_begin_89 : decode cX0_begin 89 = .ok (.aload_n 0, 1) := by decide +kernel
theorem dX0_begin_90 : decode cX0_begin 90 = .ok (.getfield 24, 3) := by decide +kernel
theorem dX0_begin_93 : decode cX0_begin 93 = .ok (.iload_n 3, 1) := by decide +kernel
theorem dX0_begin_94 : decode cX0_begin 94 = .ok (.iastore, 1) := by decide +kernel
theorem dX0_begin_95 : decode cX0_begin 95 = .ok (.aload_n 0, 1) := by decide +kernel
theorem dX0_begin_96 : decode cX0_begin 96 = .ok (.dup, 1) := by decide +kernel
theorem dX0_begin_97 : decode cX0_begin 97 = .ok (.getfield 24, 3) := by decide +kernel
theorem dX0_begin_100 : decode cX0_begin 100 = .ok (.iconst 1, 1) := by decide +kernel
theorem dX0_begin_101 : decode cX0_begin 101 = .ok (.iadd, 1) := by decide +kernel
theorem dX0_begin_102 : decode cX0_begin 102 = .ok (.putfield 24, 3) := by decide +kernel
theorem dX0_begin_105 : decode cX0_begin 105 = .ok (.iinc 2 1, 3) := by decide +kernel
theorem dX0_begin_108 : decode cX0_begin 108 = .ok (.goto (-83), 3) := by decide +kernel
theorem dX0_begin_111 : decode cX0_begin 111 = .ok (.return_, 1) := by decide +kernel
theorem dX0_firstFact_0 : decode cX0_firstFact 0 = .ok (.iconst 0, 1) := by decide +kernel
theorem dX0_firstFact_1 : decode cX0_firstFact 1 = .ok (.istore_n 2, 1) := by decide +kernel
theorem dX0_firstFact_2 : decode cX0_firstFact 2 = .ok (.iload_n 2, 1) := by decide +kernel
theorem dX0_firstFact_3 : decode cX0_firstFact 3 = .ok (.bipush 8, 2) := by decide +kernel
theorem dX0_firstFact_5 : decode cX0_firstFact 5 = .ok (.if_icmp .ge 40, 3) := by decide +kernel
theorem dX0_firstFact_8 : decode cX0_firstFact 8 = .ok (.aload_n 0, 1) := by decide +kernel
theorem dX0_firstFact_9 : decode cX0_firstFact 9 = .ok (.getfield 31, 3) := by decide +kernel
theorem dX0_firstFact_12 : decode cX0_firstFact 12 = .ok (.iload_n 2, 1) := by decide +kernel
theorem dX0_firstFact_13 : decode cX0_firstFact 13 = .ok (.invokestatic 43, 3) := by decide +kernel
theorem dX0_firstFact_16 : decode cX0_firstFact 16 = .ok (.iand, 1) := by decide +kernel
theorem dX0_firstFact_17 : decode cX0_firstFact 17 = .ok (.ifCond .eq 22, 3) := by decide +kernel
theorem dX0_firstFact_20 : decode cX0_firstFact 20 = .ok (.aload_n 0, 1) := by decide +kernel
theorem dX0_firstFact_21 : decode cX0_firstFact 21 = .ok (.iload_n 2, 1) := by decide +kernel
theorem dX0_firstFact_22 : decode cX0_firstFact 22 = .ok (.aload_n 0, 1) := by decide +kernel
theorem dX0_firstFact_23 : decode cX0_firstFact 23 = .ok (.getfield 31, 3) := by decide +kernel
theorem dX0_firstFact_26 : decode cX0_firstFact 26 = .ok (.iconst 0, 1) := by decide +kernel
theorem dX0_firstFact_27 : decode cX0_firstFact 27 = .ok (.iload_n 1, 1) := by decide +kernel
theorem dX0_firstFact_28 : decode cX0_firstFact 28 = .ok (.bipush 8, 2) := by decide +kernel
theorem dX0_firstFact_30 : decode cX0_firstFact 30 = .ok (.invokevirtual 47, 3) := by decide +kernel
theorem dX0_firstFact_33 : decode cX0_firstFact 33 = .ok (.iload_n 1, 1) := by decide +kernel
theorem dX0_firstFact_34 : decode cX0_firstFact 34 = .ok (.if_icmp .ne 5, 3) := by decide +kernel
theorem dX0_firstFact_37 : decode cX0_firstFact 37 = .ok (.iload_n 2, 1) := by decide +kernel
theorem dX0_firstFact_38 : decode cX0_firstFact 38 = .ok (.ireturn, 1) := by decide +kernel
theorem dX0_firstFact_39 : decode cX0_firstFact 39 = .ok (.iinc 2 1, 3) := by decide +kernel
theorem dX0_firstFact_42 : decode cX0_firstFact 42 = .ok (.goto (-40), 3) := by decide +kernel
theorem dX0_firstFact_45 : decode cX0_firstFact 45 = .ok (.iconst (-1), 1) := by decide +kernel
theorem dX0_firstFact_46 : decode cX0_firstFact 46 = .ok (.ireturn, 1) := by decide +kernel
theorem dX0_comesAbout_0 : decode cX0_comesAbout 0 = .ok (.aload_n 0, 1) := by decide +kernel
theorem dX0_comesAbout_1 : decode cX0_comesAbout 1 = .ok (.iload_n 2, 1) := by decide +kernel
theorem dX0_comesAbout_2 : decode cX0_comesAbout 2 = .ok (.invokevirtual 51, 3) := by decide +kernel
theorem dX0_comesAbout_5 : decode cX0_comesAbout 5 = .ok (.ifCond .eq 5, 3) := by decide +kernel
theorem dX0_comesAbout_8 : decode cX0_comesAbout 8 = .ok (.iconst 1, 1) := by decide +kernel
theorem dX0_comesAbout_9 : decode cX0_comesAbout 9 = .ok (.ireturn, 1) := by decide +kernel
theorem dX0_comesAbout_10 : decode cX0_comesAbout 10 = .ok (.iload 4, 2) := by decide +kernel
theorem dX0_comesAbout_12 : decode cX0_comesAbout 12 = .ok (.ifCond .le 13, 3) := by decide +kernel
theorem dX0_comesAbout_15 : decode cX0_comesAbout 15 = .ok (.aload_n 0, 1) := by decide +kernel
theorem dX0_comesAbout_16 : decode cX0_comesAbout 16 = .ok (.iload_n 2, 1) := by decide +kernel
theorem dX0_comesAbout_17 : decode cX0_comesAbout 17 = .ok (.iload_n 1, 1) := by decide +kernel
theorem dX0_comesAbout_18 : decode cX0_comesAbout 18 = .ok (.ior, 1) := by decide +kernel
theorem dX0_comesAbout_19 : decode cX0_comesAbout 19 = .ok (.invokevirtual 51, 3) := by decide +kernel
theorem dX0_comesAbout_22 : decode cX0_comesAbout 22 = .ok (.ifCond .ne 5, 3) := by decide +kernel
theorem dX0_comesAbout_25 : decode cX0_comesAbout 25 = .ok (.iconst 0, 1) := by decide +kernel
theorem dX0_comesAbout_26 : decode cX0_comesAbout 26 = .ok (.ireturn, 1) := by decide +kernel
theorem dX0_comesAbout_27 : decode cX0_comesAbout 27 = .ok (.iload_n 1, 1) := by decide +kernel
theorem dX0_comesAbout_28 : decode cX0_comesAbout 28 = .ok (.iload_n 2, 1) := by decide +kernel
theorem dX0_comesAbout_29 : decode cX0_comesAbout 29 = .ok (.invokestatic 55, 3) := by decide +kernel
theorem dX0_comesAbout_32 : decode cX0_comesAbout 32 = .ok (.istore 5, 2) := by decide +kernel
theorem dX0_comesAbout_34 : decode cX0_comesAbout 34 = .ok (.aload_n 0, 1) := by decide +kernel
theorem dX0_comesAbout_35 : decode cX0_comesAbout 35 = .ok (.iload 5, 2) := by decide +kernel
theorem dX0_comesAbout_37 : decode cX0_comesAbout 37 = .ok (.invokevirtual 58, 3) := by decide +kernel
theorem dX0_comesAbout_40 : decode cX0_comesAbout 40 = .ok (.istore 6, 2) := by decide +kernel
theorem dX0_comesAbout_42 : decode cX0_comesAbout 42 = .ok (.iload 6, 2) := by decide +kernel
theorem dX0_comesAbout_44 : decode cX0_comesAbout 44 = .ok (.ifCond .eq 15, 3) := by decide +kernel
theorem dX0_comesAbout_47 : decode cX0_comesAbout 47 = .ok (.iload 6, 2) := by decide +kernel
theorem dX0_comesAbout_49 : decode cX0_comesAbout 49 = .ok (.iconst 2, 1) := by decide +kernel
theorem dX0_comesAbout_50 : decode cX0_comesAbout 50 = .ok (.if_icmp .ne 7, 3) := by decide +kernel
theorem dX0_comesAbout_53 : decode cX0_comesAbout 53 = .ok (.iconst 1, 1) := by decide +kernel
theorem dX0_comesAbout_54 : decode cX0_comesAbout 54 = .ok (.goto 4, 3) := by decide +kernel
theorem dX0_comesAbout_57 : decode cX0_comesAbout 57 = .ok (.iconst 0, 1) := by decide +kernel
theorem dX0_comesAbout_58 : decode cX0_comesAbout 58 = .ok (.ireturn, 1) := by decide +kernel
theorem dX0_comesAbout_59 : decode cX0_comesAbout 59 = .ok (.iload_n 3, 1) := by decide +kernel
theorem dX0_comesAbout_60 : decode cX0_comesAbout 60 = .ok (.ifCond .ne 7, 3) := by decide +kernel
theorem dX0_comesAbout_63 : decode cX0_comesAbout 63 = .ok (.iconst 1, 1) := by decide +kernel
theorem dX0_comesAbout_64 : decode cX0_comesAbout 64 = .ok (.goto 4, 3) := by decide +kernel
theorem dX0_comesAbout_67 : decode cX0_comesAbout 67 = .ok (.iconst 0, 1) := by decide +kernel
theorem dX0_comesAbout_68 : decode cX0_comesAbout 68 = .ok (.istore 7, 2) := by decide +kernel
theorem dX0_comesAbout_70 : decode cX0_comesAbout 70 = .ok (.iconst 0, 1) := by decide +kernel
theorem dX0_comesAbout_71 : decode cX0_comesAbout 71 = .ok (.istore 8, 2) := by decide +kernel
theorem dX0_comesAbout_73 : decode cX0_comesAbout 73 = .ok (.iload 8, 2) := by decide +kernel
theorem dX0_comesAbout_75 : decode cX0_comesAbout 75 = .ok (.bipush 8, 2) := by decide +kernel
theorem dX0_comesAbout_77 : decode cX0_comesAbout 77 = .ok (.if_icmp .ge 38, 3) := by decide +kernel
theorem dX0_comesAbout_80 : decode cX0_comesAbout 80 = .ok (.iload 7, 2) := by decide +kernel
theorem dX0_comesAbout_82 : decode cX0_comesAbout 82 = .ok (.iload_n 3, 1) := by decide +kernel
theorem dX0_comesAbout_83 : decode cX0_comesAbout 83 = .ok (.if_icmp .eq 32, 3) := by decide +kernel
theorem dX0_comesAbout_86 : decode cX0_comesAbout 86 = .ok (.iload_n 1, 1) := by decide +kernel
theorem dX0_comesAbout_87 : decode cX0_comesAbout 87 = .ok (.iload 8, 2) := by decide +kernel
theorem dX0_comesAbout_89 : decode cX0_comesAbout 89 = .ok (.invokestatic 43, 3) := by decide +kernel
theorem dX0_comesAbout_92 : decode cX0_comesAbout 92 = .ok (.iand, 1) := by decide +kernel
theorem dX0_comesAbout_93 : decode cX0_comesAbout 93 = .ok (.ifCond .eq 16, 3) := by decide +kernel
theorem dX0_comesAbout_96 : decode cX0_comesAbout 96 = .ok (.aload_n 0, 1) := by decide +kernel
theorem dX0_comesAbout_97 : decode cX0_comesAbout 97 = .ok (.iload 8, 2) := by decide +kernel
theorem dX0_comesAbout_99 : decode cX0_comesAbout 99 = .ok (.iload_n 1, 1) := by decide +kernel
theorem dX0_comesAbout_100 : decode cX0_comesAbout 100 = .ok (.iload_n 2, 1) := by decide +kernel
theorem dX0_comesAbout_101 : decode cX0_comesAbout 101 = .ok (.iload_n 3, 1) := by decide +kernel
theorem dX0_comesAbout_102 : decode cX0_comesAbout 102 = .ok (.iload 4, 2) := by decide +kernel
theorem dX0_comesAbout_104 : decode cX0_comesAbout 104 = .ok (.invokevirtual 47, 3) := by decide +kernel
theorem dX0_comesAbout_107 : decode cX0_comesAbout 107 = .ok (.istore 7, 2) := by decide +kernel
theorem dX0_comesAbout_109 : decode cX0_comesAbout 109 = .ok (.iinc 8 1, 3) := by decide +kernel
theorem dX0_comesAbout_112 : decode cX0_comesAbout 112 = .ok (.goto (-39), 3) := by decide +kernel
theorem dX0_comesAbout_115 : decode cX0_comesAbout 115 = .ok (.aload_n 0, 1) := by decide +kernel
theorem dX0_comesAbout_116 : decode cX0_comesAbout 116 = .ok (.iload 5, 2) := by decide +kernel
theorem dX0_comesAbout_118 : decode cX0_comesAbout 118 = .ok (.iload 7, 2) := by decide +kernel
theorem dX0_comesAbout_120 : decode cX0_comesAbout 120 = .ok (.ifCond .eq 7, 3) := by decide +kernel
theorem dX0_comesAbout_123 : decode cX0_comesAbout 123 = .ok (.iconst 2, 1) := by decide +kernel
theorem dX0_comesAbout_124 : decode cX0_comesAbout 124 = .ok (.goto 4, 3) := by decide +kernel
theorem dX0_comesAbout_127 : decode cX0_comesAbout 127 = .ok (.iconst 1, 1) := by decide +kernel
theorem dX0_comesAbout_128 : decode cX0_comesAbout 128 = .ok (.invokevirtual 61, 3) := by decide +kernel
theorem dX0_comesAbout_131 : decode cX0_comesAbout 131 = .ok (.iload 7, 2) := by decide +kernel
theorem dX0_comesAbout_133 : decode cX0_comesAbout 133 = .ok (.ireturn, 1) := by decide +kernel
theorem dX0_comesAboutBy_0 : decode cX0_comesAboutBy 0 = .ok (.iload 4, 2) := by decide +kernel
theorem dX0_comesAboutBy_2 : decode cX0_comesAboutBy 2 = .ok (.ifCond .eq 12, 3) := by decide +kernel
theorem dX0_comesAboutBy_5 : decode cX0_comesAboutBy 5 = .ok (.iload_n 3, 1) := by decide +kernel
theorem dX0_comesAboutBy_6 : decode cX0_comesAboutBy 6 = .ok (.iload_n 1, 1) := by decide +kernel
theorem dX0_comesAboutBy_7 : decode cX0_comesAboutBy 7 = .ok (.invokestatic 43, 3) := by decide +kernel
theorem dX0_comesAboutBy_10 : decode cX0_comesAboutBy 10 = .ok (.ior, 1) := by decide +kernel
theorem dX0_comesAboutBy_11 : decode cX0_comesAboutBy 11 = .ok (.goto 4, 3) := by decide +kernel
theorem dX0_comesAboutBy_14 : decode cX0_comesAboutBy 14 = .ok (.iload_n 3, 1) := by decide +kernel
theorem dX0_comesAboutBy_15 : decode cX0_comesAboutBy 15 = .ok (.istore 6, 2) := by decide +kernel
theorem dX0_comesAboutBy_17 : decode cX0_comesAboutBy 17 = .ok (.aload_n 0, 1) := by decide +kernel
theorem dX0_comesAboutBy_18 : decode cX0_comesAboutBy 18 = .ok (.iload_n 2, 1) := by decide +kernel
theorem dX0_comesAboutBy_19 : decode cX0_comesAboutBy 19 = .ok (.iload_n 1, 1) := by decide +kernel
theorem dX0_comesAboutBy_20 : decode cX0_comesAboutBy 20 = .ok (.invokestatic 43, 3) := by decide +kernel
theorem dX0_comesAboutBy_23 : decode cX0_comesAboutBy 23 = .ok (.iconst (-1), 1) := by decide +kernel
theorem dX0_comesAboutBy_24 : decode cX0_comesAboutBy 24 = .ok (.ixor, 1) := by decide +kernel
theorem dX0_comesAboutBy_25 : decode cX0_comesAboutBy 25 = .ok (.iand, 1) := by decide +kernel
theorem dX0_comesAboutBy_26 : decode cX0_comesAboutBy 26 = .ok (.iload 6, 2) := by decide +kernel
theorem dX0_comesAboutBy_28 : decode cX0_comesAboutBy 28 = .ok (.iload 4, 2) := by decide +kernel
theorem dX0_comesAboutBy_30 : decode cX0_comesAboutBy 30 = .ok (.ifCond .ne 7, 3) := by decide +kernel
theorem dX0_comesAboutBy_33 : decode cX0_comesAboutBy 33 = .ok (.iconst 1, 1) := by decide +kernel
theorem dX0_comesAboutBy_34 : decode cX0_comesAboutBy 34 = .ok (.goto 4, 3) := by decide +kernel
theorem dX0_comesAboutBy_37 : decode cX0_comesAboutBy 37 = .ok (.iconst 0, 1) := by decide +kernel
theorem dX0_comesAboutBy_38 : decode cX0_comesAboutBy 38 = .ok (.iload 5, 2) := by decide +kernel
theorem dX0_comesAboutBy_40 : decode cX0_comesAboutBy 40 = .ok (.iconst 1, 1) := by decide +kernel
theorem dX0_comesAboutBy_41 : decode cX0_comesAboutBy 41 = .ok (.isub, 1) := by decide +kernel
theorem dX0_comesAboutBy_42 : decode cX0_comesAboutBy 42 = .ok (.invokevirtual 65, 3) := by decide +kernel
theorem dX0_comesAboutBy_45 : decode cX0_comesAboutBy 45 = .ok (.ireturn, 1) := by decide +kernel
theorem dX0_isWon_0 : decode cX0_isWon 0 = .ok (.aload_n 0, 1) := by decide +kernel
theorem dX0_isWon_1 : decode cX0_isWon 1 = .ok (.getfield 28, 3) := by decide +kernel
theorem dX0_isWon_4 : decode cX0_isWon 4 = .ok (.iload_n 1, 1) := by decide +kernel
theorem dX0_isWon_5 : decode cX0_isWon 5 = .ok (.iconst (-1), 1) := by decide +kernel
theorem dX0_isWon_6 : decode cX0_isWon 6 = .ok (.ixor, 1) := by decide +kernel
theorem dX0_isWon_7 : decode cX0_isWon 7 = .ok (.iand, 1) := by decide +kernel
theorem dX0_isWon_8 : decode cX0_isWon 8 = .ok (.ifCond .eq 5, 3) := by decide +kernel
theorem dX0_isWon_11 : decode cX0_isWon 11 = .ok (.iconst 0, 1) := by decide +kernel
theorem dX0_isWon_12 : decode cX0_isWon 12 = .ok (.ireturn, 1) := by decide +kernel
theorem dX0_isWon_13 : decode cX0_isWon 13 = .ok (.iconst 0, 1) := by decide +kernel
theorem dX0_isWon_14 : decode cX0_isWon 14 = .ok (.istore_n 2, 1) := by decide +kernel
theorem dX0_isWon_15 : decode cX0_isWon 15 = .ok (.iload_n 2, 1) := by decide +kernel
theorem dX0_isWon_16 : decode cX0_isWon 16 = .ok (.aload_n 0, 1) := by decide +kernel
theorem dX0_isWon_17 : decode cX0_isWon 17 = .ok (.getfield 24, 3) := by decide +kernel
theorem dX0_isWon_20 : decode cX0_isWon 20 = .ok (.if_icmp .ge 31, 3) := by decide +kernel
theorem dX0_isWon_23 : decode cX0_isWon 23 = .ok (.iload_n 2, 1) := by decide +kernel
theorem dX0_isWon_24 : decode cX0_isWon 24 = .ok (.aload_n 0, 1) := by decide +kernel
theorem dX0_isWon_25 : decode cX0_isWon 25 = .ok (.getfield 9, 3) := by decide +kernel
theorem dX0_isWon_28 : decode cX0_isWon 28 = .ok (.arraylength, 1) := by decide +kernel
theorem dX0_isWon_29 : decode cX0_isWon 29 = .ok (.if_icmp .ge 22, 3) := by decide +kernel
theorem dX0_isWon_32 : decode cX0_isWon 32 = .ok (.aload_n 0, 1) := by decide +kernel
theorem dX0_isWon_33 : decode cX0_isWon 33 = .ok (.getfield 9, 3) := by decide +kernel
theorem dX0_isWon_36 : decode cX0_isWon 36 = .ok (.iload_n 2, 1) := by decide +kernel
theorem dX0_isWon_37 : decode cX0_isWon 37 = .ok (.iaload, 1) := by decide +kernel
theorem dX0_isWon_38 : decode cX0_isWon 38 = .ok (.iload_n 1, 1) := by decide +kernel
theorem dX0_isWon_39 : decode cX0_isWon 39 = .ok (.iand, 1) := by decide +kernel
theorem dX0_isWon_40 : decode cX0_isWon 40 = .ok (.ifCond .ne 5, 3) := by decide +kernel
theorem dX0_isWon_43 : decode cX0_isWon 43 = .ok (.iconst 0, 1) := by decide +kernel
theorem dX0_isWon_44 : decode cX0_isWon 44 = .ok (.ireturn, 1) := by decide +kernel
theorem dX0_isWon_45 : decode cX0_isWon 45 = .ok (.iinc 2 1, 3) := by decide +kernel
theorem dX0_isWon_48 : decode cX0_isWon 48 = .ok (.goto (-33), 3) := by decide +kernel
theorem dX0_isWon_51 : decode cX0_isWon 51 = .ok (.iconst 1, 1) := by decide +kernel
theorem dX0_isWon_52 : decode cX0_isWon 52 = .ok (.ireturn, 1) := by decide +kernel
theorem dX0_positionOf_0 : decode cX0_positionOf 0 = .ok (.iconst 0, 1) := by decide +kernel
theorem dX0_positionOf_1 : decode cX0_positionOf 1 = .ok (.istore_n 2, 1) := by decide +kernel
theorem dX0_positionOf_2 : decode cX0_positionOf 2 = .ok (.iconst 0, 1) := by decide +kernel
theorem dX0_positionOf_3 : decode cX0_positionOf 3 = .ok (.istore_n 3, 1) := by decide +kernel
theorem dX0_positionOf_4 : decode cX0_positionOf 4 = .ok (.iload_n 3, 1) := by decide +kernel
theorem dX0_positionOf_5 : decode cX0_positionOf 5 = .ok (.bipush 8, 2) := by decide +kernel
theorem dX0_positionOf_7 : decode cX0_positionOf 7 = .ok (.if_icmp .ge 45, 3) := by decide +kernel
theorem dX0_positionOf_10 : decode cX0_positionOf 10 = .ok (.iload_n 0, 1) := by decide +kernel
theorem dX0_positionOf_11 : decode cX0_positionOf 11 = .ok (.iload_n 3, 1) := by decide +kernel
theorem dX0_positionOf_12 : decode cX0_positionOf 12 = .ok (.invokestatic 43, 3) := by decide +kernel
theorem dX0_positionOf_15 : decode cX0_positionOf 15 = .ok (.iand, 1) := by decide +kernel
theorem dX0_positionOf_16 : decode cX0_positionOf 16 = .ok (.ifCond .eq 7, 3) := by decide +kernel
theorem dX0_positionOf_19 : decode cX0_positionOf 19 = .ok (.iconst 0, 1) := by decide +kernel
theorem dX0_positionOf_20 : decode cX0_positionOf 20 = .ok (.goto 17, 3) := by decide +kernel
theorem dX0_positionOf_23 : decode cX0_positionOf 23 = .ok (.iload_n 1, 1) := by decide +kernel
theorem dX0_positionOf_24 : decode cX0_positionOf 24 = .ok (.iload_n 3, 1) := by decide +kernel
theorem dX0_positionOf_25 : decode cX0_positionOf 25 = .ok (.invokestatic 43, 3) := by decide +kernel
theorem dX0_positionOf_28 : decode cX0_positionOf 28 = .ok (.iand, 1) := by decide +kernel
theorem dX0_positionOf_29 : decode cX0_positionOf 29 = .ok (.ifCond .eq 7, 3) := by decide +kernel
theorem dX0_positionOf_32 : decode cX0_positionOf 32 = .ok (.iconst 1, 1) := by decide +kernel
theorem dX0_positionOf_33 : decode cX0_positionOf 33 = .ok (.goto 4, 3) := by decide +kernel
theorem dX0_positionOf_36 : decode cX0_positionOf 36 = .ok (.iconst 2, 1) := by decide +kernel
theorem dX0_positionOf_37 : decode cX0_positionOf 37 = .ok (.istore 4, 2) := by decide +kernel
theorem dX0_positionOf_39 : decode cX0_positionOf 39 = .ok (.iload_n 2, 1) := by decide +kernel
theorem dX0_positionOf_40 : decode cX0_positionOf 40 = .ok (.iconst 3, 1) := by decide +kernel
theorem dX0_positionOf_41 : decode cX0_positionOf 41 = .ok (.imul, 1) := by decide +kernel
theorem dX0_positionOf_42 : decode cX0_positionOf 42 = .ok (.iload 4, 2) := by decide +kernel
theorem dX0_positionOf_44 : decode cX0_positionOf 44 = .ok (.iadd, 1) := by decide +kernel
theorem dX0_positionOf_45 : decode cX0_positionOf 45 = .ok (.istore_n 2, 1) := by decide +kernel
theorem dX0_positionOf_46 : decode cX0_positionOf 46 = .ok (.iinc 3 1, 3) := by decide +kernel
theorem dX0_positionOf_49 : decode cX0_positionOf 49 = .ok (.goto (-45), 3) := by decide +kernel
theorem dX0_positionOf_52 : decode cX0_positionOf 52 = .ok (.iload_n 2, 1) := by decide +kernel
theorem dX0_positionOf_53 : decode cX0_positionOf 53 = .ok (.ireturn, 1) := by decide +kernel
theorem dX0_recall_0 : decode cX0_recall 0 = .ok (.iload_n 1, 1) := by decide +kernel
theorem dX0_recall_1 : decode cX0_recall 1 = .ok (.bipush 16, 2) := by decide +kernel
theorem dX0_recall_3 : decode cX0_recall 3 = .ok (.idiv, 1) := by decide +kernel
theorem dX0_recall_4 : decode cX0_recall 4 = .ok (.istore_n 2, 1) := by decide +kernel
theorem dX0_recall_5 : decode cX0_recall 5 = .ok (.iload_n 2, 1) := by decide +kernel
theorem dX0_recall_6 : decode cX0_recall 6 = .ok (.ifCond .lt 30, 3) := by decide +kernel
theorem dX0_recall_9 : decode cX0_recall 9 = .ok (.iload_n 2, 1) := by decide +kernel
theorem dX0_recall_10 : decode cX0_recall 10 = .ok (.aload_n 0, 1) := by decide +kernel
theorem dX0_recall_11 : decode cX0_recall 11 = .ok (.getfield 15, 3) := by decide +kernel
theorem dX0_recall_14 : decode cX0_recall 14 = .ok (.arraylength, 1) := by decide +kernel
theorem dX0_recall_15 : decode cX0_recall 15 = .ok (.if_icmp .ge 21, 3) := by decide +kernel
theorem dX0_recall_18 : decode cX0_recall 18 = .ok (.aload_n 0, 1) := by decide +kernel
theorem dX0_recall_19 : decode cX0_recall 19 = .ok (.getfield 15, 3) := by decide +kernel
theorem dX0_recall_22 : decode cX0_recall 22 = .ok (.iload_n 2, 1) := by decide +kernel
theorem dX0_recall_23 : decode cX0_recall 23 = .ok (.iaload, 1) := by decide +kernel
theorem dX0_recall_24 : decode cX0_recall 24 = .ok (.iload_n 1, 1) := by decide +kernel
theorem dX0_recall_25 : decode cX0_recall 25 = .ok (.bipush 16, 2) := by decide +kernel
theorem dX0_recall_27 : decode cX0_recall 27 = .ok (.irem, 1) := by decide +kernel
theorem dX0_recall_28 : decode cX0_recall 28 = .ok (.iconst 2, 1) := by decide +kernel
theorem dX0_recall_29 : decode cX0_recall 29 = .ok (.imul, 1) := by decide +kernel
theorem dX0_recall_30 : decode cX0_recall 30 = .ok (.ishr, 1) := by decide +kernel
theorem dX0_recall_31 : decode cX0_recall 31 = .ok (.iconst 3, 1) := by decide +kernel
theorem dX0_recall_32 : decode cX0_recall 32 = .ok (.iand, 1) := by decide +kernel
theorem dX0_recall_33 : decode cX0_recall 33 = .ok (.goto 4, 3) := by decide +kernel
theorem dX0_recall_36 : decode cX0_recall 36 = .ok (.iconst 0, 1) := by decide +kernel
theorem dX0_recall_37 : decode cX0_recall 37 = .ok (.ireturn, 1) := by decide +kernel
theorem dX0_keep_0 : decode cX0_keep 0 = .ok (.iload_n 1, 1) := by decide +kernel
theorem dX0_keep_1 : decode cX0_keep 1 = .ok (.bipush 16, 2) := by decide +kernel
theorem dX0_keep_3 : decode cX0_keep 3 = .ok (.idiv, 1) := by decide +kernel
theorem dX0_keep_4 : decode cX0_keep 4 = .ok (.istore_n 3, 1) := by decide +kernel
theorem dX0_keep_5 : decode cX0_keep 5 = .ok (.iload_n 3, 1) := by decide +kernel
theorem dX0_keep_6 : decode cX0_keep 6 = .ok (.ifCond .lt 29, 3) := by decide +kernel
theorem dX0_keep_9 : decode cX0_keep 9 = .ok (.iload_n 3, 1) := by decide +kernel
theorem dX0_keep_10 : decode cX0_keep 10 = .ok (.aload_n 0, 1) := by decide +kernel
theorem dX0_keep_11 : decode cX0_keep 11 = .ok (.getfield 15, 3) := by decide +kernel
theorem dX0_keep_14 : decode cX0_keep 14 = .ok (.arraylength, 1) := by decide +kernel
theorem dX0_keep_15 : decode cX0_keep 15 = .ok (.if_icmp .ge 20, 3) := by decide +kernel
theorem dX0_keep_18 : decode cX0_keep 18 = .ok (.aload_n 0, 1) := by decide +kernel
theorem dX0_keep_19 : decode cX0_keep 19 = .ok (.getfield 15, 3) := by decide +kernel
theorem dX0_keep_22 : decode cX0_keep 22 = .ok (.iload_n 3, 1) := by decide +kernel
theorem dX0_keep_23 : decode cX0_keep 23 = .ok (.dup2, 1) := by decide +kernel
theorem dX0_keep_24 : decode cX0_keep 24 = .ok (.iaload, 1) := by decide +kernel
theorem dX0_keep_25 : decode cX0_keep 25 = .ok (.iload_n 2, 1) := by decide +kernel
theorem dX0_keep_26 : decode cX0_keep 26 = .ok (.iload_n 1, 1) := by decide +kernel
theorem dX0_keep_27 : decode cX0_keep 27 = .ok (.bipush 16, 2) := by decide +kernel
theorem dX0_keep_29 : decode cX0_keep 29 = .ok (.irem, 1) := by decide +kernel
theorem dX0_keep_30 : decode cX0_keep 30 = .ok (.iconst 2, 1) := by decide +kernel
theorem dX0_keep_31 : decode cX0_keep 31 = .ok (.imul, 1) := by decide +kernel
theorem dX0_keep_32 : decode cX0_keep 32 = .ok (.ishl, 1) := by decide +kernel
theorem dX0_keep_33 : decode cX0_keep 33 = .ok (.ior, 1) := by decide +kernel
theorem dX0_keep_34 : decode cX0_keep 34 = .ok (.iastore, 1) := by decide +kernel
theorem dX0_keep_35 : decode cX0_keep 35 = .ok (.return_, 1) := by decide +kernel
theorem dX1_init_0 : decode cX1_init 0 = .ok (.aload_n 0, 1) := by decide +kernel
theorem dX1_init_1 : decode cX1_init 1 = .ok (.invokespecial 3, 3) := by decide +kernel
theorem dX1_init_4 : decode cX1_init 4 = .ok (.aload_n 0, 1) := by decide +kernel
theorem dX1_init_5 : decode cX1_init 5 = .ok (.new 9, 3) := by decide +kernel
theorem dX1_init_8 : decode cX1_init 8 = .ok (.dup, 1) := by decide +kernel
theorem dX1_init_9 : decode cX1_init 9 = .ok (.invokespecial 11, 3) := by decide +kernel
theorem dX1_init_12 : decode cX1_init 12 = .ok (.putfield 12, 3) := by decide +kernel
theorem dX1_init_15 : decode cX1_init 15 = .ok (.aload_n 0, 1) := by decide +kernel
theorem dX1_init_16 : decode cX1_init 16 = .ok (.bipush 30, 2) := by decide +kernel
theorem dX1_init_18 : decode cX1_init 18 = .ok (.anewarray 9, 3) := by decide +kernel
theorem dX1_init_21 : decode cX1_init 21 = .ok (.putfield 18, 3) := by decide +kernel
theorem dX1_init_24 : decode cX1_init 24 = .ok (.aload_n 0, 1) := by decide +kernel
theorem dX1_init_25 : decode cX1_init 25 = .ok (.new 22, 3) := by decide +kernel
theorem dX1_init_28 : decode cX1_init 28 = .ok (.dup, 1) := by decide +kernel
theorem dX1_init_29 : decode cX1_init 29 = .ok (.bipush 8, 2) := by decide +kernel
theorem dX1_init_31 : decode cX1_init 31 = .ok (.iconst 2, 1) := by decide +kernel
theorem dX1_init_32 : decode cX1_init 32 = .ok (.invokespecial 24, 3) := by decide +kernel
theorem dX1_init_35 : decode cX1_init 35 = .ok (.putfield 27, 3) := by decide +kernel
theorem dX1_init_38 : decode cX1_init 38 = .ok (.aload_n 0, 1) := by decide +kernel
theorem dX1_init_39 : decode cX1_init 39 = .ok (.new 22, 3) := by decide +kernel
theorem dX1_init_42 : decode cX1_init 42 = .ok (.dup, 1) := by decide +kernel
theorem dX1_init_43 : decode cX1_init 43 = .ok (.bipush 8, 2) := by decide +kernel
theorem dX1_init_45 : decode cX1_init 45 = .ok (.iconst 4, 1) := by decide +kernel
theorem dX1_init_46 : decode cX1_init 46 = .ok (.invokespecial 24, 3) := by decide +kernel
theorem dX1_init_49 : decode cX1_init 49 = .ok (.putfield 31, 3) := by decide +kernel
theorem dX1_init_52 : decode cX1_init 52 = .ok (.aload_n 0, 1) := by decide +kernel
theorem dX1_init_53 : decode cX1_init 53 = .ok (.new 22, 3) := by decide +kernel
theorem dX1_init_56 : decode cX1_init 56 = .ok (.dup, 1) := by decide +kernel
theorem dX1_init_57 : decode cX1_init 57 = .ok (.bipush 8, 2) := by decide +kernel
theorem dX1_init_59 : decode cX1_init 59 = .ok (.iconst 2, 1) := by decide +kernel
theorem dX1_init_60 : decode cX1_init 60 = .ok (.invokespecial 24, 3) := by decide +kernel
theorem dX1_init_63 : decode cX1_init 63 = .ok (.putfield 34, 3) := by decide +kernel
theorem dX1_init_66 : decode cX1_init 66 = .ok (.aload_n 0, 1) := by decide +kernel
theorem dX1_init_67 : decode cX1_init 67 = .ok (.new 22, 3) := by decide +kernel
theorem dX1_init_70 : decode cX1_init 70 = .ok (.dup, 1) := by decide +kernel
theorem dX1_init_71 : decode cX1_init 71 = .ok (.bipush 8, 2) := by decide +kernel
theorem dX1_init_73 : decode cX1_init 73 = .ok (.iconst 2, 1) := by decide +kernel
theorem dX1_init_74 : decode cX1_init 74 = .ok (.invokespecial 24, 3) := by decide +kernel
theorem dX1_init_77 : decode cX1_init 77 = .ok (.putfield 37, 3) := by decide +kernel
theorem dX1_init_80 : decode cX1_init 80 = .ok (.aload_n 0, 1) := by decide +kernel
theorem dX1_init_81 : decode cX1_init 81 = .ok (.iconst 4, 1) := by decide +kernel
theorem dX1_init_82 : decode cX1_init 82 = .ok (.anewarray 40, 3) := by decide +kernel
theorem dX1_init_85 : decode cX1_init 85 = .ok (.putfield 42, 3) := by decide +kernel
theorem dX1_init_88 : decode cX1_init 88 = .ok (.aload_n 0, 1) := by decide +kernel
theorem dX1_init_89 : decode cX1_init 89 = .ok (.iconst (-1), 1) := by decide +kernel
theorem dX1_init_90 : decode cX1_init 90 = .ok (.putfield 46, 3) := by decide +kernel
theorem dX1_init_93 : decode cX1_init 93 = .ok (.iconst 0, 1) := by decide +kernel
theorem dX1_init_94 : decode cX1_init 94 = .ok (.istore_n 1, 1) := by decide +kernel
theorem dX1_init_95 : decode cX1_init 95 = .ok (.iload_n 1, 1) := by decide +kernel
theorem dX1_init_96 : decode cX1_init 96 = .ok (.aload_n 0, 1) := by decide +kernel
theorem dX1_init_97 : decode cX1_init 97 = .ok (.getfield 18, 3) := by decide +kernel
theorem dX1_init_100 : decode cX1_init 100 = .ok (.arraylength, 1) := by decide +kernel
theorem dX1_init_101 : decode cX1_init 101 = .ok (.if_icmp .ge 22, 3) := by decide +kernel
theorem dX1_init_104 : decode cX1_init 104 = .ok (.aload_n 0, 1) := by decide +kernel
theorem dX1_init_105 : decode cX1_init 105 = .ok (.getfield 18, 3) := by decide +kernel
theorem dX1_init_108 : decode cX1_init 108 = .ok (.iload_n 1, 1) := by decide +kernel
theorem dX1_init_109 : decode cX1_init 109 = .ok (.new 9, 3) := by decide +kernel
theorem dX1_init_112 : decode cX1_init 112 = .ok (.dup, 1) := by decide +kernel
theorem dX1_init_113 : decode cX1_init 113 = .ok (.invokespecial 11, 3) := by decide +kernel
theorem dX1_init_116 : decode cX1_init 116 = .ok (.aastore, 1) := by decide +kernel
theorem dX1_init_117 : decode cX1_init 117 = .ok (.iinc 1 1, 3) := by decide +kernel
theorem dX1_init_120 : decode cX1_init 120 = .ok (.goto (-25), 3) := by decide +kernel
theorem dX1_init_123 : decode cX1_init 123 = .ok (.return_, 1) := by decide +kernel
theorem dX1_remember_0 : decode cX1_remember 0 = .ok (.aload_n 0, 1) := by decide +kernel
theorem dX1_remember_1 : decode cX1_remember 1 = .ok (.aload_n 0, 1) := by decide +kernel
theorem dX1_remember_2 : decode cX1_remember 2 = .ok (.getfield 50, 3) := by decide +kernel
theorem dX1_remember_5 : decode cX1_remember 5 = .ok (.aload_n 0, 1) := by decide +kernel
theorem dX1_remember_6 : decode cX1_remember 6 = .ok (.getfield 53, 3) := by decide +kernel
theorem dX1_remember_9 : decode cX1_remember 9 = .ok (.iadd, 1) := by decide +kernel
theorem dX1_remember_10 : decode cX1_remember 10 = .ok (.invokevirtual 56, 3) := by decide +kernel
theorem dX1_remember_13 : decode cX1_remember 13 = .ok (.astore_n 1, 1) := by decide +kernel
theorem dX1_remember_14 : decode cX1_remember 14 = .ok (.aload_n 1, 1) := by decide +kernel
theorem dX1_remember_15 : decode cX1_remember 15 = .ok (.ifnull 12, 3) := by decide +kernel
theorem dX1_remember_18 : decode cX1_remember 18 = .ok (.aload_n 1, 1) := by decide +kernel
theorem dX1_remember_19 : decode cX1_remember 19 = .ok (.aload_n 0, 1) := by decide +kernel
theorem dX1_remember_20 : decode cX1_remember 20 = .ok (.getfield 12, 3) := by decide +kernel
theorem dX1_remember_23 : decode cX1_remember 23 = .ok (.iconst 0, 1) := by decide +kernel
theorem dX1_remember_24 : decode cX1_remember 24 = .ok (.invokevirtual 60, 3) := by decide +kernel
theorem dX1_remember_27 : decode cX1_remember 27 = .ok (.aload_n 0, 1) := by decide +kernel
theorem dX1_remember_28 : decode cX1_remember 28 = .ok (.getfield 53, 3) := by decide +kernel
theorem dX1_remember_31 : decode cX1_remember 31 = .ok (.bipush 30, 2) := by decide +kernel
theorem dX1_remember_33 : decode cX1_remember 33 = .ok (.if_icmp .ge 16, 3) := by decide +kernel
theorem dX1_remember_36 : decode cX1_remember 36 = .ok (.aload_n 0, 1) := by decide +kernel
theorem dX1_remember_37 : decode cX1_remember 37 = .ok (.dup, 1) := by decide +kernel
theorem dX1_remember_38 : decode cX1_remember 38 = .ok (.getfield 53, 3) := by decide +kernel
theorem dX1_remember_41 : decode cX1_remember 41 = .ok (.iconst 1, 1) := by decide +kernel
theorem dX1_remember_42 : decode cX1_remember 42 = .ok (.iadd, 1) := by decide +kernel
theorem dX1_remember_43 : decode cX1_remember 43 = .ok (.putfield 53, 3) := by decide +kernel
theorem dX1_remember_46 : decode cX1_remember 46 = .ok (.goto 16, 3) := by decide +kernel
theorem dX1_remember_49 : decode cX1_remember 49 = .ok (.aload_n 0, 1) := by decide +kernel
theorem dX1_remember_50 : decode cX1_remember 50 = .ok (.aload_n 0, 1) := by decide +kernel
theorem dX1_remember_51 : decode cX1_remember 51 = .ok (.getfield 50, 3) := by decide +kernel
theorem dX1_remember_54 : decode cX1_remember 54 = .ok (.iconst 1, 1) := by decide +kernel
theorem dX1_remember_55 : decode cX1_remember 55 = .ok (.iadd, 1) := by decide +kernel
theorem dX1_remember_56 : decode cX1_remember 56 = .ok (.bipush 30, 2) := by decide +kernel
theorem dX1_remember_58 : decode cX1_remember 58 = .ok (.irem, 1) := by decide +kernel
theorem dX1_remember_59 : decode cX1_remember 59 = .ok (.putfield 50, 3) := by decide +kernel
theorem dX1_remember_62 : decode cX1_remember 62 = .ok (.return_, 1) := by decide +kernel
theorem dX1_takeBack_0 : decode cX1_takeBack 0 = .ok (.aload_n 0, 1) := by decide +kernel
theorem dX1_takeBack_1 : decode cX1_takeBack 1 = .ok (.aload_n 0, 1) := by decide +kernel
theorem dX1_takeBack_2 : decode cX1_takeBack 2 = .ok (.getfield 50, 3) := by decide +kernel
theorem dX1_takeBack_5 : decode cX1_takeBack 5 = .ok (.aload_n 0, 1) := by decide +kernel
theorem dX1_takeBack_6 : decode cX1_takeBack 6 = .ok (.getfield 53, 3) := by decide +kernel
theorem dX1_takeBack_9 : decode cX1_takeBack 9 = .ok (.iadd, 1) := by decide +kernel
theorem dX1_takeBack_10 : decode cX1_takeBack 10 = .ok (.iconst 1, 1) := by decide +kernel
theorem dX1_takeBack_11 : decode cX1_takeBack 11 = .ok (.isub, 1) := by decide +kernel
theorem dX1_takeBack_12 : decode cX1_takeBack 12 = .ok (.invokevirtual 56, 3) := by decide +kernel
theorem dX1_takeBack_15 : decode cX1_takeBack 15 = .ok (.astore_n 1, 1) := by decide +kernel
theorem dX1_takeBack_16 : decode cX1_takeBack 16 = .ok (.aload_n 0, 1) := by decide +kernel
theorem dX1_takeBack_17 : decode cX1_takeBack 17 = .ok (.getfield 53, 3) := by decide +kernel
theorem dX1_takeBack_20 : decode cX1_takeBack 20 = .ok (.ifCond .eq 7, 3) := by decide +kernel
theorem dX1_takeBack_23 : decode cX1_takeBack 23 = .ok (.aload_n 1, 1) := by decide +kernel
theorem dX1_takeBack_24 : decode cX1_takeBack 24 = .ok (.ifnonnull 5, 3) := by decide +kernel
theorem dX1_takeBack_27 : decode cX1_takeBack 27 = .ok (.iconst (-1), 1) := by decide +kernel
theorem dX1_takeBack_28 : decode cX1_takeBack 28 = .ok (.ireturn, 1) := by decide +kernel
theorem dX1_takeBack_29 : decode cX1_takeBack 29 = .ok (.aload_n 0, 1) := by decide +kernel
theorem dX1_takeBack_30 : decode cX1_takeBack 30 = .ok (.getfield 12, 3) := by decide +kernel
theorem dX1_takeBack_33 : decode cX1_takeBack 33 = .ok (.aload_n 1, 1) := by decide +kernel
theorem dX1_takeBack_34 : decode cX1_takeBack 34 = .ok (.aload_n 0, 1) := by decide +kernel
theorem dX1_takeBack_35 : decode cX1_takeBack 35 = .ok (.getfield 12, 3) := by decide +kernel
theorem dX1_takeBack_38 : decode cX1_takeBack 38 = .ok (.getfield 64, 3) := by decide +kernel
theorem dX1_takeBack_41 : decode cX1_takeBack 41 = .ok (.getfield 67, 3) := by decide +kernel
theorem dX1_takeBack_44 : decode cX1_takeBack 44 = .ok (.invokevirtual 60, 3) := by decide +kernel
theorem dX1_takeBack_47 : decode cX1_takeBack 47 = .ok (.aload_n 0, 1) := by decide +kernel
theorem dX1_takeBack_48 : decode cX1_takeBack 48 = .ok (.dup, 1) := by decide +kernel
theorem dX1_takeBack_49 : decode cX1_takeBack 49 = .ok (.getfield 53, 3) := by decide +kernel
theorem dX1_takeBack_52 : decode cX1_takeBack 52 = .ok (.iconst 1, 1) := by decide +kernel
theorem dX1_takeBack_53 : decode cX1_takeBack 53 = .ok (.isub, 1) := by decide +kernel
theorem dX1_takeBack_54 : decode cX1_takeBack 54 = .ok (.putfield 53, 3) := by decide +kernel
theorem dX1_takeBack_57 : decode cX1_takeBack 57 = .ok (.aload_n 0, 1) := by decide +kernel
theorem dX1_takeBack_58 : decode cX1_takeBack 58 = .ok (.getfield 53, 3) := by decide +kernel
theorem dX1_takeBack_61 : decode cX1_takeBack 61 = .ok (.ireturn, 1) := by decide +kernel
theorem dX1_pastAt_0 : decode cX1_pastAt 0 = .ok (.iload_n 1, 1) := by decide +kernel
theorem dX1_pastAt_1 : decode cX1_pastAt 1 = .ok (.bipush 30, 2) := by decide +kernel
theorem dX1_pastAt_3 : decode cX1_pastAt 3 = .ok (.irem, 1) := by decide +kernel
theorem dX1_pastAt_4 : decode cX1_pastAt 4 = .ok (.istore_n 2, 1) := by decide +kernel
theorem dX1_pastAt_5 : decode cX1_pastAt 5 = .ok (.iload_n 2, 1) := by decide +kernel
theorem dX1_pastAt_6 : decode cX1_pastAt 6 = .ok (.ifCond .lt 21, 3) := by decide +kernel
theorem dX1_pastAt_9 : decode cX1_pastAt 9 = .ok (.iload_n 2, 1) := by decide +kernel
theorem dX1_pastAt_10 : decode cX1_pastAt 10 = .ok (.aload_n 0, 1) := by decide +kernel
theorem dX1_pastAt_11 : decode cX1_pastAt 11 = .ok (.getfield 18, 3) := by decide +kernel
theorem dX1_pastAt_14 : decode cX1_pastAt 14 = .ok (.arraylength, 1) := by decide +kernel
theorem dX1_pastAt_15 : decode cX1_pastAt 15 = .ok (.if_icmp .ge 12, 3) := by decide +kernel
theorem dX1_pastAt_18 : decode cX1_pastAt 18 = .ok (.aload_n 0, 1) := by decide +kernel
theorem dX1_pastAt_19 : decode cX1_pastAt 19 = .ok (.getfield 18, 3) := by decide +kernel
theorem dX1_pastAt_22 : decode cX1_pastAt 22 = .ok (.iload_n 2, 1) := by decide +kernel
theorem dX1_pastAt_23 : decode cX1_pastAt 23 = .ok (.aaload, 1) := by decide +kernel
theorem dX1_pastAt_24 : decode cX1_pastAt 24 = .ok (.goto 4, 3) := by decide +kernel
theorem dX1_pastAt_27 : decode cX1_pastAt 27 = .ok (.aconst_null, 1) := by decide +kernel
theorem dX1_pastAt_28 : decode cX1_pastAt 28 = .ok (.areturn, 1) := by decide +kernel
theorem dX1_addText_0 : decode cX1_addText 0 = .ok (.aload_n 0, 1) := by decide +kernel
theorem dX1_addText_1 : decode cX1_addText 1 = .ok (.getfield 70, 3) := by decide +kernel
theorem dX1_addText_4 : decode cX1_addText 4 = .ok (.ifCond .lt 15, 3) := by decide +kernel
theorem dX1_addText_7 : decode cX1_addText 7 = .ok (.aload_n 0, 1) := by decide +kernel
theorem dX1_addText_8 : decode cX1_addText 8 = .ok (.getfield 70, 3) := by decide +kernel
theorem dX1_addText_11 : decode cX1_addText 11 = .ok (.aload_n 0, 1) := by decide +kernel
theorem dX1_addText_12 : decode cX1_addText 12 = .ok (.getfield 42, 3) := by decide +kernel
theorem dX1_addText_15 : decode cX1_addText 15 = .ok (.arraylength, 1) := by decide +kernel
theorem dX1_addText_16 : decode cX1_addText 16 = .ok (.if_icmp .lt 5, 3) := by decide +kernel
theorem dX1_addText_19 : decode cX1_addText 19 = .ok (.iconst (-1), 1) := by decide +kernel
theorem dX1_addText_20 : decode cX1_addText 20 = .ok (.ireturn, 1) := by decide +kernel
theorem dX1_addText_21 : decode cX1_addText 21 = .ok (.aload_n 0, 1) := by decide +kernel
theorem dX1_addText_22 : decode cX1_addText 22 = .ok (.getfield 42, 3) := by decide +kernel
theorem dX1_addText_25 : decode cX1_addText 25 = .ok (.aload_n 0, 1) := by decide +kernel
theorem dX1_addText_26 : decode cX1_addText 26 = .ok (.getfield 70, 3) := by decide +kernel
theorem dX1_addText_29 : decode cX1_addText 29 = .ok (.aload_n 1, 1) := by decide +kernel
theorem dX1_addText_30 : decode cX1_addText 30 = .ok (.aastore, 1) := by decide +kernel
theorem dX1_addText_31 : decode cX1_addText 31 = .ok (.aload_n 0, 1) := by decide +kernel
theorem dX1_addText_32 : decode cX1_addText 32 = .ok (.dup, 1) := by decide +kernel
theorem dX1_addText_33 : decode cX1_addText 33 = .ok (.getfield 70, 3) := by decide +kernel
theorem dX1_addText_36 : decode cX1_addText 36 = .ok (.iconst 1, 1) := by decide +kernel
theorem dX1_addText_37 : decode cX1_addText 37 = .ok (.iadd, 1) := by decide +kernel
theorem dX1_addText_38 : decode cX1_addText 38 = .ok (.putfield 70, 3) := by decide +kernel
theorem dX1_addText_41 : decode cX1_addText 41 = .ok (.aload_n 0, 1) := by decide +kernel
theorem dX1_addText_42 : decode cX1_addText 42 = .ok (.getfield 70, 3) := by decide +kernel
theorem dX1_addText_45 : decode cX1_addText 45 = .ok (.iconst 1, 1) := by decide +kernel
theorem dX1_addText_46 : decode cX1_addText 46 = .ok (.isub, 1) := by decide +kernel
theorem dX1_addText_47 : decode cX1_addText 47 = .ok (.ireturn, 1) := by decide +kernel
theorem dX1_textAt_0 : decode cX1_textAt 0 = .ok (.iload_n 1, 1) := by decide +kernel
theorem dX1_textAt_1 : decode cX1_textAt 1 = .ok (.ifCond .lt 29, 3) := by decide +kernel
theorem dX1_textAt_4 : decode cX1_textAt 4 = .ok (.iload_n 1, 1) := by decide +kernel
theorem dX1_textAt_5 : decode cX1_textAt 5 = .ok (.aload_n 0, 1) := by decide +kernel
theorem dX1_textAt_6 : decode cX1_textAt 6 = .ok (.getfield 70, 3) := by decide +kernel
theorem dX1_textAt_9 : decode cX1_textAt 9 = .ok (.if_icmp .ge 21, 3) := by decide +kernel
theorem dX1_textAt_12 : decode cX1_textAt 12 = .ok (.iload_n 1, 1) := by decide +kernel
theorem dX1_textAt_13 : decode cX1_textAt 13 = .ok (.aload_n 0, 1) := by decide +kernel
theorem dX1_textAt_14 : decode cX1_textAt 14 = .ok (.getfield 42, 3) := by decide +kernel
theorem dX1_textAt_17 : decode cX1_textAt 17 = .ok (.arraylength, 1) := by decide +kernel
theorem dX1_textAt_18 : decode cX1_textAt 18 = .ok (.if_icmp .ge 12, 3) := by decide +kernel
theorem dX1_textAt_21 : decode cX1_textAt 21 = .ok (.aload_n 0, 1) := by decide +kernel
theorem dX1_textAt_22 : decode cX1_textAt 22 = .ok (.getfield 42, 3) := by decide +kernel
theorem dX1_textAt_25 : decode cX1_textAt 25 = .ok (.iload_n 1, 1) := by decide +kernel
theorem dX1_textAt_26 : decode cX1_textAt 26 = .ok (.aaload, 1) := by decide +kernel
theorem dX1_textAt_27 : decode cX1_textAt 27 = .ok (.goto 4, 3) := by decide +kernel
theorem dX1_textAt_30 : decode cX1_textAt 30 = .ok (.aconst_null, 1) := by decide +kernel
theorem dX1_textAt_31 : decode cX1_textAt 31 = .ok (.areturn, 1) := by decide +kernel
theorem dX1_ruling_0 : decode cX1_ruling 0 = .ok (.aload_n 0, 1) := by decide +kernel
theorem dX1_ruling_1 : decode cX1_ruling 1 = .ok (.aload_n 0, 1) := by decide +kernel
theorem dX1_ruling_2 : decode cX1_ruling 2 = .ok (.getfield 46, 3) := by decide +kernel
theorem dX1_ruling_5 : decode cX1_ruling 5 = .ok (.invokevirtual 73, 3) := by decide +kernel
theorem dX1_ruling_8 : decode cX1_ruling 8 = .ok (.areturn, 1) := by decide +kernel
theorem dX1_copyFrom_0 : decode cX1_copyFrom 0 = .ok (.aload_n 0, 1) := by decide +kernel
theorem dX1_copyFrom_1 : decode cX1_copyFrom 1 = .ok (.getfield 12, 3) := by decide +kernel
theorem dX1_copyFrom_4 : decode cX1_copyFrom 4 = .ok (.aload_n 1, 1) := by decide +kernel
theorem dX1_copyFrom_5 : decode cX1_copyFrom 5 = .ok (.getfield 12, 3) := by decide +kernel
theorem dX1_copyFrom_8 : decode cX1_copyFrom 8 = .ok (.iconst 0, 1) := by decide +kernel
theorem dX1_copyFrom_9 : decode cX1_copyFrom 9 = .ok (.invokevirtual 60, 3) := by decide +kernel
theorem dX1_copyFrom_12 : decode cX1_copyFrom 12 = .ok (.iconst 0, 1) := by decide +kernel
theorem dX1_copyFrom_13 : decode cX1_copyFrom 13 = .ok (.istore_n 2, 1) := by decide +kernel
theorem dX1_copyFrom_14 : decode cX1_copyFrom 14 = .ok (.iload_n 2, 1) := by decide +kernel
theorem dX1_copyFrom_15 : decode cX1_copyFrom 15 = .ok (.bipush 30, 2) := by decide +kernel
theorem dX1_copyFrom_17 : decode cX1_copyFrom 17 = .ok (.if_icmp .ge 38, 3) := by decide +kernel
theorem dX1_copyFrom_20 : decode cX1_copyFrom 20 = .ok (.aload_n 0, 1) := by decide +kernel
theorem dX1_copyFrom_21 : decode cX1_copyFrom 21 = .ok (.iload_n 2, 1) := by decide +kernel
theorem dX1_copyFrom_22 : decode cX1_copyFrom 22 = .ok (.invokevirtual 56, 3) := by decide +kernel
theorem dX1_copyFrom_25 : decode cX1_copyFrom 25 = .ok (.astore_n 3, 1) := by decide +kernel
theorem dX1_copyFrom_26 : decode cX1_copyFrom 26 = .ok (.aload_n 1, 1) := by decide +kernel
theorem dX1_copyFrom_27 : decode cX1_copyFrom 27 = .ok (.iload_n 2, 1) := by decide +kernel
theorem dX1_copyFrom_28 : decode cX1_copyFrom 28 = .ok (.invokevirtual 56, 3) := by decide +kernel
theorem dX1_copyFrom_31 : decode cX1_copyFrom 31 = .ok (.astore 4, 2) := by decide +kernel
theorem dX1_copyFrom_33 : decode cX1_copyFrom 33 = .ok (.aload_n 3, 1) := by decide +kernel
theorem dX1_copyFrom_34 : decode cX1_copyFrom 34 = .ok (.ifnull 15, 3) := by decide +kernel
theorem dX1_copyFrom_37 : decode cX1_copyFrom 37 = .ok (.aload 4, 2) := by decide +kernel
theorem dX1_copyFrom_39 : decode cX1_copyFrom 39 = .ok (.ifnull 10, 3) := by decide +kernel
theorem dX1_copyFrom_42 : decode cX1_copyFrom 42 = .ok (.aload_n 3, 1) := by decide +kernel
theorem dX1_copyFrom_43 : decode cX1_copyFrom 43 = .ok (.aload 4, 2) := by decide +kernel
theorem dX1_copyFrom_45 : decode cX1_copyFrom 45 = .ok (.iconst 0, 1) := by decide +kernel
theorem dX1_copyFrom_46 : decode cX1_copyFrom 46 = .ok (.invokevirtual 60, 3) := by decide +kernel
theorem dX1_copyFrom_49 : decode cX1_copyFrom 49 = .ok (.iinc 2 1, 3) := by decide +kernel
theorem dX1_copyFrom_52 : decode cX1_copyFrom 52 = .ok (.goto (-38), 3) := by decide +kernel
theorem dX1_copyFrom_55 : decode cX1_copyFrom 55 = .ok (.aload_n 0, 1) := by decide +kernel
theorem dX1_copyFrom_56 : decode cX1_copyFrom 56 = .ok (.aload_n 1, 1) := by decide +kernel
theorem dX1_copyFrom_57 : decode cX1_copyFrom 57 = .ok (.getfield 50, 3) := by decide +kernel
theorem dX1_copyFrom_60 : decode cX1_copyFrom 60 = .ok (.putfield 50, 3) := by decide +kernel
theorem dX1_copyFrom_63 : decode cX1_copyFrom 63 = .ok (.aload_n 0, 1) := by decide +kernel
theorem dX1_copyFrom_64 : decode cX1_copyFrom 64 = .ok (.aload_n 1, 1) := by decide +kernel
theorem dX1_copyFrom_65 : decode cX1_copyFrom 65 = .ok (.getfield 53, 3) := by decide +kernel
theorem dX1_copyFrom_68 : decode cX1_copyFrom 68 = .ok (.putfield 53, 3) := by decide +kernel
theorem dX1_copyFrom_71 : decode cX1_copyFrom 71 = .ok (.aload_n 0, 1) := by decide +kernel
theorem dX1_copyFrom_72 : decode cX1_copyFrom 72 = .ok (.getfield 27, 3) := by decide +kernel
theorem dX1_copyFrom_75 : decode cX1_copyFrom 75 = .ok (.aload_n 1, 1) := by decide +kernel
theorem dX1_copyFrom_76 : decode cX1_copyFrom 76 = .ok (.getfield 27, 3) := by decide +kernel
theorem dX1_copyFrom_79 : decode cX1_copyFrom 79 = .ok (.iconst 0, 1) := by decide +kernel
theorem dX1_copyFrom_80 : decode cX1_copyFrom 80 = .ok (.invokevirtual 77, 3) := by decide +kernel
theorem dX1_copyFrom_83 : decode cX1_copyFrom 83 = .ok (.aload_n 0, 1) := by decide +kernel
theorem dX1_copyFrom_84 : decode cX1_copyFrom 84 = .ok (.getfield 31, 3) := by decide +kernel
theorem dX1_copyFrom_87 : decode cX1_copyFrom 87 = .ok (.aload_n 1, 1) := by decide +kernel
theorem dX1_copyFrom_88 : decode cX1_copyFrom 88 = .ok (.getfield 31, 3) := by decide +kernel
theorem dX1_copyFrom_91 : decode cX1_copyFrom 91 = .ok (.iconst 0, 1) := by decide +kernel
theorem dX1_copyFrom_92 : decode cX1_copyFrom 92 = .ok (.invokevirtual 77, 3) := by decide +kernel
theorem dX1_copyFrom_95 : decode cX1_copyFrom 95 = .ok (.aload_n 0, 1) := by decide +kernel
theorem dX1_copyFrom_96 : decode cX1_copyFrom 96 = .ok (.getfield 34, 3) := by decide +kernel
theorem dX1_copyFrom_99 : decode cX1_copyFrom 99 = .ok (.aload_n 1, 1) := by decide +kernel
theorem dX1_copyFrom_100 : decode cX1_copyFrom 100 = .ok (.getfield 34, 3) := by decide +kernel
theorem dX1_copyFrom_103 : decode cX1_copyFrom 103 = .ok (.iconst 0, 1) := by decide +kernel
theorem dX1_copyFrom_104 : decode cX1_copyFrom 104 = .ok (.invokevirtual 77, 3) := by decide +kernel
theorem dX1_copyFrom_107 : decode cX1_copyFrom 107 = .ok (.aload_n 0, 1) := by decide +kernel
theorem dX1_copyFrom_108 : decode cX1_copyFrom 108 = .ok (.getfield 37, 3) := by decide +kernel
theorem dX1_copyFrom_111 : decode cX1_copyFrom 111 = .ok (.aload_n 1, 1) := by decide +kernel
theorem dX1_copyFrom_112 : decode cX1_copyFrom 112 = .ok (.getfield 37, 3) := by decide +kernel
theorem dX1_copyFrom_115 : decode cX1_copyFrom 115 = .ok (.iconst 0, 1) := by decide +kernel
theorem dX1_copyFrom_116 : decode cX1_copyFrom 116 = .ok (.invokevirtual 77, 3) := by decide +kernel
theorem dX1_copyFrom_119 : decode cX1_copyFrom 119 = .ok (.aload_n 0, 1) := by decide +kernel
theorem dX1_copyFrom_120 : decode cX1_copyFrom 120 = .ok (.iconst 0, 1) := by decide +kernel
theorem dX1_copyFrom_121 : decode cX1_copyFrom 121 = .ok (.putfield 70, 3) := by decide +kernel
theorem dX1_copyFrom_124 : decode cX1_copyFrom 124 = .ok (.iconst 0, 1) := by decide +kernel
theorem dX1_copyFrom_125 : decode cX1_copyFrom 125 = .ok (.istore_n 2, 1) := by decide +kernel
theorem dX1_copyFrom_126 : decode cX1_copyFrom 126 = .ok (.iload_n 2, 1) := by decide +kernel
theorem dX1_copyFrom_127 : decode cX1_copyFrom 127 = .ok (.aload_n 1, 1) := by decide +kernel
theorem dX1_copyFrom_128 : decode cX1_copyFrom 128 = .ok (.getfield 70, 3) := by decide +kernel
theorem dX1_copyFrom_131 : decode cX1_copyFrom 131 = .ok (.if_icmp .ge 19, 3) := by decide +kernel
theorem dX1_copyFrom_134 : decode cX1_copyFrom 134 = .ok (.aload_n 0, 1) := by decide +kernel
theorem dX1_copyFrom_135 : decode cX1_copyFrom 135 = .ok (.aload_n 1, 1) := by decide +kernel
theorem dX1_copyFrom_136 : decode cX1_copyFrom 136 = .ok (.iload_n 2, 1) := by decide +kernel
theorem dX1_copyFrom_137 : decode cX1_copyFrom 137 = .ok (.invokevirtual 73, 3) := by decide +kernel
theorem dX1_copyFrom_140 : decode cX1_copyFrom 140 = .ok (.invokevirtual 80, 3) := by decide +kernel
theorem dX1_copyFrom_143 : decode cX1_copyFrom 143 = .ok (.pop, 1) := by decide +kernel
theorem dX1_copyFrom_144 : decode cX1_copyFrom 144 = .ok (.iinc 2 1, 3) := by decide +kernel
theorem dX1_copyFrom_147 : decode cX1_copyFrom 147 = .ok (.goto (-21), 3) := by decide +kernel
theorem dX1_copyFrom_150 : decode cX1_copyFrom 150 = .ok (.aload_n 0, 1) := by decide +kernel
theorem dX1_copyFrom_151 : decode cX1_copyFrom 151 = .ok (.aload_n 1, 1) := by decide +kernel
theorem dX1_copyFrom_152 : decode cX1_copyFrom 152 = .ok (.getfield 46, 3) := by decide +kernel
theorem dX1_copyFrom_155 : decode cX1_copyFrom 155 = .ok (.putfield 46, 3) := by decide +kernel
theorem dX1_copyFrom_158 : decode cX1_copyFrom 158 = .ok (.return_, 1) := by decide +kernel
theorem dX3_init_0 : decode cX3_init 0 = .ok (.aload_n 0, 1) := by decide +kernel
theorem dX3_init_1 : decode cX3_init 1 = .ok (.invokespecial 3, 3) := by decide +kernel
theorem dX3_init_4 : decode cX3_init 4 = .ok (.aload_n 0, 1) := by decide +kernel
theorem dX3_init_5 : decode cX3_init 5 = .ok (.bipush 36, 2) := by decide +kernel
theorem dX3_init_7 : decode cX3_init 7 = .ok (.newarray .int, 2) := by decide +kernel
theorem dX3_init_9 : decode cX3_init 9 = .ok (.putfield 9, 3) := by decide +kernel
theorem dX3_init_12 : decode cX3_init 12 = .ok (.aload_n 0, 1) := by decide +kernel
theorem dX3_init_13 : decode cX3_init 13 = .ok (.sipush 303, 3) := by decide +kernel
theorem dX3_init_16 : decode cX3_init 16 = .ok (.newarray .int, 2) := by decide +kernel
theorem dX3_init_18 : decode cX3_init 18 = .ok (.putfield 15, 3) := by decide +kernel
theorem dX3_init_21 : decode cX3_init 21 = .ok (.return_, 1) := by decide +kernel
theorem dX3_tell_0 : decode cX3_tell 0 = .ok (.iload_n 1, 1) := by decide +kernel
theorem dX3_tell_1 : decode cX3_tell 1 = .ok (.ifCond .lt 19, 3) := by decide +kernel
theorem dX3_tell_4 : decode cX3_tell 4 = .ok (.iload_n 1, 1) := by decide +kernel
theorem dX3_tell_5 : decode cX3_tell 5 = .ok (.aload_n 0, 1) := by decide +kernel
theorem dX3_tell_6 : decode cX3_tell 6 = .ok (.getfield 9, 3) := by decide +kernel
theorem dX3_tell_9 : decode cX3_tell 9 = .ok (.arraylength, 1) := by decide +kernel
theorem dX3_tell_10 : decode cX3_tell 10 = .ok (.if_icmp .ge 10, 3) := by decide +kernel
theorem dX3_tell_13 : decode cX3_tell 13 = .ok (.aload_n 0, 1) := by decide +kernel
theorem dX3_tell_14 : decode cX3_tell 14 = .ok (.getfield 9, 3) := by decide +kernel
theorem dX3_tell_17 : decode cX3_tell 17 = .ok (.iload_n 1, 1) := by decide +kernel
theorem dX3_tell_18 : decode cX3_tell 18 = .ok (.iload_n 2, 1) := by decide +kernel
theorem dX3_tell_19 : decode cX3_tell 19 = .ok (.iastore, 1) := by decide +kernel
theorem dX3_tell_20 : decode cX3_tell 20 = .ok (.return_, 1) := by decide +kernel
theorem dX3_run_0 : decode cX3_run 0 = .ok (.iconst 0, 1) := by decide +kernel
theorem dX3_run_1 : decode cX3_run 1 = .ok (.istore_n 3, 1) := by decide +kernel
theorem dX3_run_2 : decode cX3_run 2 = .ok (.iconst 0, 1) := by decide +kernel
theorem dX3_run_3 : decode cX3_run 3 = .ok (.istore 4, 2) := by decide +kernel
theorem dX3_run_5 : decode cX3_run 5 = .ok (.iload 4, 2) := by decide +kernel
theorem dX3_run_7 : decode cX3_run 7 = .ok (.aload_n 1, 1) := by decide +kernel
theorem dX3_run_8 : decode cX3_run 8 = .ok (.arraylength, 1) := by decide +kernel
theorem dX3_run_9 : decode cX3_run 9 = .ok (.if_icmp .ge 100, 3) := by decide +kernel
theorem dX3_run_12 : decode cX3_run 12 = .ok (.aload_n 1, 1) := by decide +kernel
theorem dX3_run_13 : decode cX3_run 13 = .ok (.iload 4, 2) := by decide +kernel
theorem dX3_run_15 : decode cX3_run 15 = .ok (.iaload, 1) := by decide +kernel
theorem dX3_run_16 : decode cX3_run 16 = .ok (.istore 5, 2) := by decide +kernel
theorem dX3_run_18 : decode cX3_run 18 = .ok (.iload 5, 2) := by decide +kernel
theorem dX3_run_20 : decode cX3_run 20 = .ok (.invokestatic 18, 3) := by decide +kernel
theorem dX3_run_23 : decode cX3_run 23 = .ok (.istore 6, 2) := by decide +kernel
theorem dX3_run_25 : decode cX3_run 25 = .ok (.iconst 0, 1) := by decide +kernel
theorem dX3_run_26 : decode cX3_run 26 = .ok (.iload_n 3, 1) := by decide +kernel
theorem dX3_run_27 : decode cX3_run 27 = .ok (.iload 6, 2) := by decide +kernel
theorem dX3_run_29 : decode cX3_run 29 = .ok (.isub, 1) := by decide +kernel
theorem dX3_run_30 : decode cX3_run 30 = .ok (.invokestatic 22, 3) := by decide +kernel
theorem dX3_run_33 : decode cX3_run 33 = .ok (.istore_n 3, 1) := by decide +kernel
theorem dX3_run_34 : decode cX3_run 34 = .ok (.iload_n 3, 1) := by decide +kernel
theorem dX3_run_35 : decode cX3_run 35 = .ok (.iconst 2, 1) := by decide +kernel
theorem dX3_run_36 : decode cX3_run 36 = .ok (.iadd, 1) := by decide +kernel
theorem dX3_run_37 : decode cX3_run 37 = .ok (.aload_n 0, 1) := by decide +kernel
theorem dX3_run_38 : decode cX3_run 38 = .ok (.getfield 15, 3) := by decide +kernel
theorem dX3_run_41 : decode cX3_run 41 = .ok (.arraylength, 1) := by decide +kernel
theorem dX3_run_42 : decode cX3_run 42 = .ok (.if_icmp .ge 61, 3) := by decide +kernel
theorem dX3_run_45 : decode cX3_run 45 = .ok (.aload_n 0, 1) := by decide +kernel
theorem dX3_run_46 : decode cX3_run 46 = .ok (.getfield 15, 3) := by decide +kernel
theorem dX3_run_49 : decode cX3_run 49 = .ok (.iload_n 3, 1) := by decide +kernel
theorem dX3_run_50 : decode cX3_run 50 = .ok (.iload 6, 2) := by decide +kernel
theorem dX3_run_52 : decode cX3_run 52 = .ok (.ifCond .ne 12, 3) := by decide +kernel
theorem dX3_run_55 : decode cX3_run 55 = .ok (.aload_n 0, 1) := by decide +kernel
theorem dX3_run_56 : decode cX3_run 56 = .ok (.iload 5, 2) := by decide +kernel
theorem dX3_run_58 : decode cX3_run 58 = .ok (.invokevirtual 28, 3) := by decide +kernel
theorem dX3_run_61 : decode cX3_run 61 = .ok (.goto 38, 3) := by decide +kernel
theorem dX3_run_64 : decode cX3_run 64 = .ok (.iload 5, 2) := by decide +kernel
theorem dX3_run_66 : decode cX3_run 66 = .ok (.ineg, 1) := by decide +kernel
theorem dX3_run_67 : decode cX3_run 67 = .ok (.aload_n 0, 1) := by decide +kernel
theorem dX3_run_68 : decode cX3_run 68 = .ok (.getfield 15, 3) := by decide +kernel
theorem dX3_run_71 : decode cX3_run 71 = .ok (.iload_n 3, 1) := by decide +kernel
theorem dX3_run_72 : decode cX3_run 72 = .ok (.iaload, 1) := by decide +kernel
theorem dX3_run_73 : decode cX3_run 73 = .ok (.i2l, 1) := by decide +kernel
theorem dX3_run_74 : decode cX3_run 74 = .ok (.aload_n 0, 1) := by decide +kernel
theorem dX3_run_75 : decode cX3_run 75 = .ok (.getfield 15, 3) := by decide +kernel
theorem dX3_run_78 : decode cX3_run 78 = .ok (.iload_n 3, 1) := by decide +kernel
theorem dX3_run_79 : decode cX3_run 79 = .ok (.iconst 1, 1) := by decide +kernel
theorem dX3_run_80 : decode cX3_run 80 = .ok (.iadd, 1) := by decide +kernel
theorem dX3_run_81 : decode cX3_run 81 = .ok (.iaload, 1) := by decide +kernel
theorem dX3_run_82 : decode cX3_run 82 = .ok (.i2l, 1) := by decide +kernel
theorem dX3_run_83 : decode cX3_run 83 = .ok (.aload_n 0, 1) := by decide +kernel
theorem dX3_run_84 : decode cX3_run 84 = .ok (.getfield 15, 3) := by decide +kernel
theorem dX3_run_87 : decode cX3_run 87 = .ok (.iload_n 3, 1) := by decide +kernel
theorem dX3_run_88 : decode cX3_run 88 = .ok (.iconst 2, 1) := by decide +kernel
theorem dX3_run_89 : decode cX3_run 89 = .ok (.iadd, 1) := by decide +kernel
theorem dX3_run_90 : decode cX3_run 90 = .ok (.iaload, 1) := by decide +kernel
theorem dX3_run_91 : decode cX3_run 91 = .ok (.i2l, 1) := by decide +kernel
theorem dX3_run_92 : decode cX3_run 92 = .ok (.iload_n 2, 1) := by decide +kernel
theorem dX3_run_93 : decode cX3_run 93 = .ok (.invokestatic 31, 3) := by decide +kernel
theorem dX3_run_96 : decode cX3_run 96 = .ok (.invokestatic 35, 3) := by decide +kernel
theorem dX3_run_99 : decode cX3_run 99 = .ok (.iastore, 1) := by decide +kernel
theorem dX3_run_100 : decode cX3_run 100 = .ok (.iinc 3 1, 3) := by decide +kernel
theorem dX3_run_103 : decode cX3_run 103 = .ok (.iinc 4 1, 3) := by decide +kernel
theorem dX3_run_106 : decode cX3_run 106 = .ok (.goto (-101), 3) := by decide +kernel
theorem dX3_run_109 : decode cX3_run 109 = .ok (.aload_n 0, 1) := by decide +kernel
theorem dX3_run_110 : decode cX3_run 110 = .ok (.getfield 15, 3) := by decide +kernel
theorem dX3_run_113 : decode cX3_run 113 = .ok (.arraylength, 1) := by decide +kernel
theorem dX3_run_114 : decode cX3_run 114 = .ok (.ifCond .le 12, 3) := by decide +kernel
theorem dX3_run_117 : decode cX3_run 117 = .ok (.aload_n 0, 1) := by decide +kernel
theorem dX3_run_118 : decode cX3_run 118 = .ok (.getfield 15, 3) := by decide +kernel
theorem dX3_run_121 : decode cX3_run 121 = .ok (.iconst 0, 1) := by decide +kernel
theorem dX3_run_122 : decode cX3_run 122 = .ok (.iaload, 1) := by decide +kernel
theorem dX3_run_123 : decode cX3_run 123 = .ok (.goto 4, 3) := by decide +kernel
theorem dX3_run_126 : decode cX3_run 126 = .ok (.iconst 0, 1) := by decide +kernel
theorem dX3_run_127 : decode cX3_run 127 = .ok (.ireturn, 1) := by decide +kernel
theorem dX3_takesOf_0 : decode cX3_takesOf 0 = .ok (.iload_n 0, 1) := by decide +kernel
theorem dX3_takesOf_1 : decode cX3_takesOf 1 = .ok (.ineg, 1) := by decide +kernel
theorem dX3_takesOf_2 : decode cX3_takesOf 2 = .ok (.istore_n 1, 1) := by decide +kernel
theorem dX3_takesOf_3 : decode cX3_takesOf 3 = .ok (.iload_n 1, 1) := by decide +kernel
theorem dX3_takesOf_4 : decode cX3_takesOf 4 = .ok (.bipush 35, 2) := by decide +kernel
theorem dX3_takesOf_6 : decode cX3_takesOf 6 = .ok (.if_icmp .gt 19, 3) := by decide +kernel
theorem dX3_takesOf_9 : decode cX3_takesOf 9 = .ok (.iload_n 1, 1) := by decide +kernel
theorem dX3_takesOf_10 : decode cX3_takesOf 10 = .ok (.bipush 20, 2) := by decide +kernel
theorem dX3_takesOf_12 : decode cX3_takesOf 12 = .ok (.if_icmp .lt 9, 3) := by decide +kernel
theorem dX3_takesOf_15 : decode cX3_takesOf 15 = .ok (.iload_n 1, 1) := by decide +kernel
theorem dX3_takesOf_16 : decode cX3_takesOf 16 = .ok (.bipush 29, 2) := by decide +kernel
theorem dX3_takesOf_18 : decode cX3_takesOf 18 = .ok (.if_icmp .le 7, 3) := by decide +kernel
theorem dX3_takesOf_21 : decode cX3_takesOf 21 = .ok (.iconst 1, 1) := by decide +kernel
theorem dX3_takesOf_22 : decode cX3_takesOf 22 = .ok (.goto 4, 3) := by decide +kernel
theorem dX3_takesOf_25 : decode cX3_takesOf 25 = .ok (.iconst 0, 1) := by decide +kernel
theorem dX3_takesOf_26 : decode cX3_takesOf 26 = .ok (.istore_n 2, 1) := by decide +kernel
theorem dX3_takesOf_27 : decode cX3_takesOf 27 = .ok (.iload_n 2, 1) := by decide +kernel
theorem dX3_takesOf_28 : decode cX3_takesOf 28 = .ok (.ifCond .eq 5, 3) := by decide +kernel
theorem dX3_takesOf_31 : decode cX3_takesOf 31 = .ok (.iconst 0, 1) := by decide +kernel
theorem dX3_takesOf_32 : decode cX3_takesOf 32 = .ok (.ireturn, 1) := by decide +kernel
theorem dX3_takesOf_33 : decode cX3_takesOf 33 = .ok (.iload_n 1, 1) := by decide +kernel
theorem dX3_takesOf_34 : decode cX3_takesOf 34 = .ok (.bipush 55, 2) := by decide +kernel
theorem dX3_takesOf_36 : decode cX3_takesOf 36 = .ok (.if_icmp .eq 15, 3) := by decide +kernel
theorem dX3_takesOf_39 : decode cX3_takesOf 39 = .ok (.iload_n 1, 1) := by decide +kernel
theorem dX3_takesOf_40 : decode cX3_takesOf 40 = .ok (.bipush 22, 2) := by decide +kernel
theorem dX3_takesOf_42 : decode cX3_takesOf 42 = .ok (.if_icmp .eq 9, 3) := by decide +kernel
theorem dX3_takesOf_45 : decode cX3_takesOf 45 = .ok (.iload_n 1, 1) := by decide +kernel
theorem dX3_takesOf_46 : decode cX3_takesOf 46 = .ok (.bipush 29, 2) := by decide +kernel
theorem dX3_takesOf_48 : decode cX3_takesOf 48 = .ok (.if_icmp .ne 5, 3) := by decide +kernel
theorem dX3_takesOf_51 : decode cX3_takesOf 51 = .ok (.iconst 1, 1) := by decide +kernel
theorem dX3_takesOf_52 : decode cX3_takesOf 52 = .ok (.ireturn, 1) := by decide +kernel
theorem dX3_takesOf_53 : decode cX3_takesOf 53 = .ok (.iload_n 1, 1) := by decide +kernel
theorem dX3_takesOf_54 : decode cX3_takesOf 54 = .ok (.bipush 23, 2) := by decide +kernel
theorem dX3_takesOf_56 : decode cX3_takesOf 56 = .ok (.if_icmp .ne 7, 3) := by decide +kernel
theorem dX3_takesOf_59 : decode cX3_takesOf 59 = .ok (.iconst 3, 1) := by decide +kernel
theorem dX3_takesOf_60 : decode cX3_takesOf 60 = .ok (.goto 4, 3) := by decide +kernel
theorem dX3_takesOf_63 : decode cX3_takesOf 63 = .ok (.iconst 2, 1) := by decide +kernel
theorem dX3_takesOf_64 : decode cX3_takesOf 64 = .ok (.ireturn, 1) := by decide +kernel
theorem dX3_simple_0 : decode cX3_simple 0 = .ok (.iload_n 1, 1) := by decide +kernel
theorem dX3_simple_1 : decode cX3_simple 1 = .ok (.ifCond .lt 5, 3) := by decide +kernel
theorem dX3_simple_4 : decode cX3_simple 4 = .ok (.iload_n 1, 1) := by decide +kernel
theorem dX3_simple_5 : decode cX3_simple 5 = .ok (.ireturn, 1) := by decide +kernel
theorem dX3_simple_6 : decode cX3_simple 6 = .ok (.iload_n 1, 1) := by decide +kernel
theorem dX3_simple_7 : decode cX3_simple 7 = .ok (.ineg, 1) := by decide +kernel
theorem dX3_simple_8 : decode cX3_simple 8 = .ok (.aload_n 0, 1) := by decide +kernel
theorem dX3_simple_9 : decode cX3_simple 9 = .ok (.getfield 9, 3) := by decide +kernel
theorem dX3_simple_12 : decode cX3_simple 12 = .ok (.arraylength, 1) := by decide +kernel
theorem dX3_simple_13 : decode cX3_simple 13 = .ok (.if_icmp .ge 13, 3) := by decide +kernel
theorem dX3_simple_16 : decode cX3_simple 16 = .ok (.aload_n 0, 1) := by decide +kernel
theorem dX3_simple_17 : decode cX3_simple 17 = .ok (.getfield 9, 3) := by decide +kernel
theorem dX3_simple_20 : decode cX3_simple 20 = .ok (.iload_n 1, 1) := by decide +kernel
theorem dX3_simple_21 : decode cX3_simple 21 = .ok (.ineg, 1) := by decide +kernel
theorem dX3_simple_22 : decode cX3_simple 22 = .ok (.iaload, 1) := by decide +kernel
theorem dX3_simple_23 : decode cX3_simple 23 = .ok (.goto 4, 3) := by decide +kernel
theorem dX3_simple_26 : decode cX3_simple 26 = .ok (.iconst 0, 1) := by decide +kernel
theorem dX3_simple_27 : decode cX3_simple 27 = .ok (.ireturn, 1) := by decide +kernel
theorem dX3_limit_0 : decode cX3_limit 0 = .ok (.ldc2_w 39, 3) := by decide +kernel
theorem dX3_limit_3 : decode cX3_limit 3 = .ok (.ldc2_w 41, 3) := by decide +kernel
theorem dX3_limit_6 : decode cX3_limit 6 = .ok (.lload_n 0, 1) := by decide +kernel
theorem dX3_limit_7 : decode cX3_limit 7 = .ok (.invokestatic 43, 3) := by decide +kernel
theorem dX3_limit_10 : decode cX3_limit 10 = .ok (.invokestatic 47, 3) := by decide +kernel
theorem dX3_limit_13 : decode cX3_limit 13 = .ok (.l2i, 1) := by decide +kernel
theorem dX3_limit_14 : decode cX3_limit 14 = .ok (.ireturn, 1) := by decide +kernel
theorem dX3_value_0 : decode cX3_value 0 = .ok (.iload_n 0, 1) := by decide +kernel
theorem dX3_value_1 : decode cX3_value 1 = .ok (.tableswitch 348 20 55 #[185, 348, 206, 233, 348, 348, 348, 348, 330, 318, 348, 348, 348, 348, 348, 348, 348, 348, 258, 282, 246, 270, 294, 306, 159, 163, 167, 171, 348, 348, 348, 348, 348, 348, 348, 203], 159) := by decide +kernel
theorem dX3_value_160 : decode cX3_value 160 = .ok (.lload_n 1, 1) := by decide +kernel
theorem dX3_value_161 : decode cX3_value 161 = .ok (.lload_n 3, 1) := by decide +kernel
theorem dX3_value_162 : decode cX3_value 162 = .ok (.ladd, 1) := by decide +kernel
theorem dX3_value_163 : decode cX3_value 163 = .ok (.lreturn, 1) := by decide +kernel
theorem dX3_value_164 : decode cX3_value 164 = .ok (.lload_n 1, 1) := by decide +kernel
theorem dX3_value_165 : decode cX3_value 165 = .ok (.lload_n 3, 1) := by decide +kernel
theorem dX3_value_166 : decode cX3_value 166 = .ok (.lsub, 1) := by decide +kernel
theorem dX3_value_167 : decode cX3_value 167 = .ok (.lreturn, 1) := by decide +kernel
theorem dX3_value_168 : decode cX3_value 168 = .ok (.lload_n 1, 1) := by decide +kernel
theorem dX3_value_169 : decode cX3_value 169 = .ok (.lload_n 3, 1) := by decide +kernel
theorem dX3_value_170 : decode cX3_value 170 = .ok (.lmul, 1) := by decide +kernel
theorem dX3_value_171 : decode cX3_value 171 = .ok (.lreturn, 1) := by decide +kernel
theorem dX3_value_172 : decode cX3_value 172 = .ok (.lload_n 3, 1) := by decide +kernel
theorem dX3_value_173 : decode cX3_value 173 = .ok (.lconst 0, 1) := by decide +kernel
theorem dX3_value_174 : decode cX3_value 174 = .ok (.lcmp, 1) := by decide +kernel
theorem dX3_value_175 : decode cX3_value 175 = .ok (.ifCond .ne 7, 3) := by decide +kernel
theorem dX3_value_178 : decode cX3_value 178 = .ok (.lconst 0, 1) := by decide +kernel
theorem dX3_value_179 : decode cX3_value 179 = .ok (.goto 6, 3) := by decide +kernel
theorem dX3_value_182 : decode cX3_value 182 = .ok (.lload_n 1, 1) := by decide +kernel
theorem dX3_value_183 : decode cX3_value 183 = .ok (.lload_n 3, 1) := by decide +kernel
theorem dX3_value_184 : decode cX3_value 184 = .ok (.ldiv, 1) := by decide +kernel
theorem dX3_value_185 : decode cX3_value 185 = .ok (.lreturn, 1) := by decide +kernel
theorem dX3_value_186 : decode cX3_value 186 = .ok (.lload_n 3, 1) := by decide +kernel
theorem dX3_value_187 : decode cX3_value 187 = .ok (.lconst 0, 1) := by decide +kernel
theorem dX3_value_188 : decode cX3_value 188 = .ok (.lcmp, 1) := by decide +kernel
theorem dX3_value_189 : decode cX3_value 189 = .ok (.ifCond .ne 7, 3) := by decide +kernel
theorem dX3_value_192 : decode cX3_value 192 = .ok (.lconst 0, 1) := by decide +kernel
theorem dX3_value_193 : decode cX3_value 193 = .ok (.goto 10, 3) := by decide +kernel
theorem dX3_value_196 : decode cX3_value 196 = .ok (.ldc2_w 49, 3) := by decide +kernel
theorem dX3_value_199 : decode cX3_value 199 = .ok (.lload_n 1, 1) := by decide +kernel
theorem dX3_value_200 : decode cX3_value 200 = .ok (.lmul, 1) := by decide +kernel
theorem dX3_value_201 : decode cX3_value 201 = .ok (.lload_n 3, 1) := by decide +kernel
theorem dX3_value_202 : decode cX3_value 202 = .ok (.ldiv, 1) := by decide +kernel
theorem dX3_value_203 : decode cX3_value 203 = .ok (.lreturn, 1) := by decide +kernel
theorem dX3_value_204 : decode cX3_value 204 = .ok (.lload_n 1, 1) := by decide +kernel
theorem dX3_value_205 : decode cX3_value 205 = .ok (.lneg, 1) := by decide +kernel
theorem dX3_value_206 : decode cX3_value 206 = .ok (.lreturn, 1) := by decide +kernel
theorem dX3_value_207 : decode cX3_value 207 = .ok (.lload_n 1, 1) := by decide +kernel
theorem dX3_value_208 : decode cX3_value 208 = .ok (.lconst 0, 1) := by decide +kernel
theorem dX3_value_209 : decode cX3_value 209 = .ok (.lcmp, 1) := by decide +kernel
theorem dX3_value_210 : decode cX3_value 210 = .ok (.ifCond .lt 22, 3) := by decide +kernel
theorem dX3_value_213 : decode cX3_value 213 = .ok (.lload_n 1, 1) := by decide +kernel
theorem dX3_value_214 : decode cX3_value 214 = .ok (.ldc2_w 51, 3) := by decide +kernel
theorem dX3_value_217 : decode cX3_value 217 = .ok (.lcmp, 1) := by decide +kernel
theorem dX3_value_218 : decode cX3_value 218 = .ok (.ifCond .ge 14, 3) := by decide +kernel
theorem dX3_value_221 : decode cX3_value 221 = .ok (.iload 7, 2) := by decide +kernel
theorem dX3_value_223 : decode cX3_value 223 = .ok (.lload_n 1, 1) := by decide +kernel
theorem dX3_value_224 : decode cX3_value 224 = .ok (.l2i, 1) := by decide +kernel
theorem dX3_value_225 : decode cX3_value 225 = .ok (.ishr, 1) := by decide +kernel
theorem dX3_value_226 : decode cX3_value 226 = .ok (.iconst 1, 1) := by decide +kernel
theorem dX3_value_227 : decode cX3_value 227 = .ok (.iand, 1) := by decide +kernel
theorem dX3_value_228 : decode cX3_value 228 = .ok (.i2l, 1) := by decide +kernel
theorem dX3_value_229 : decode cX3_value 229 = .ok (.goto 4, 3) := by decide +kernel
theorem dX3_value_232 : decode cX3_value 232 = .ok (.lconst 0, 1) := by decide +kernel
theorem dX3_value_233 : decode cX3_value 233 = .ok (.lreturn, 1) := by decide +kernel
theorem dX3_value_234 : decode cX3_value 234 = .ok (.lload_n 1, 1) := by decide +kernel
theorem dX3_value_235 : decode cX3_value 235 = .ok (.lconst 0, 1) := by decide +kernel
theorem dX3_value_236 : decode cX3_value 236 = .ok (.lcmp, 1) := by decide +kernel
theorem dX3_value_237 : decode cX3_value 237 = .ok (.ifCond .eq 7, 3) := by decide +kernel
theorem dX3_value_240 : decode cX3_value 240 = .ok (.lload_n 3, 1) := by decide +kernel
theorem dX3_value_241 : decode cX3_value 241 = .ok (.goto 5, 3) := by decide +kernel
theorem dX3_value_244 : decode cX3_value 244 = .ok (.lload 5, 2) := by decide +kernel
theorem dX3_value_246 : decode cX3_value 246 = .ok (.lreturn, 1) := by decide +kernel
theorem dX3_value_247 : decode cX3_value 247 = .ok (.lload_n 1, 1) := by decide +kernel
theorem dX3_value_248 : decode cX3_value 248 = .ok (.lload_n 3, 1) := by decide +kernel
theorem dX3_value_249 : decode cX3_value 249 = .ok (.lcmp, 1) := by decide +kernel
theorem dX3_value_250 : decode cX3_value 250 = .ok (.ifCond .ge 7, 3) := by decide +kernel
theorem dX3_value_253 : decode cX3_value 253 = .ok (.lconst 1, 1) := by decide +kernel
theorem dX3_value_254 : decode cX3_value 254 = .ok (.goto 4, 3) := by decide +kernel
theorem dX3_value_257 : decode cX3_value 257 = .ok (.lconst 0, 1) := by decide +kernel
theorem dX3_value_258 : decode cX3_value 258 = .ok (.lreturn, 1) := by decide +kernel
theorem dX3_value_259 : decode cX3_value 259 = .ok (.lload_n 1, 1) := by decide +kernel
theorem dX3_value_260 : decode cX3_value 260 = .ok (.lload_n 3, 1) := by decide +kernel
theorem dX3_value_261 : decode cX3_value 261 = .ok (.lcmp, 1) := by decide +kernel
theorem dX3_value_262 : decode cX3_value 262 = .ok (.ifCond .gt 7, 3) := by decide +kernel
theorem dX3_value_265 : decode cX3_value 265 = .ok (.lconst 1, 1) := by decide +kernel
theorem dX3_value_266 : decode cX3_value 266 = .ok (.goto 4, 3) := by decide +kernel
theorem dX3_value_269 : decode cX3_value 269 = .ok (.lconst 0, 1) := by decide +kernel
theorem dX3_value_270 : decode cX3_value 270 = .ok (.lreturn, 1) := by decide +kernel
theorem dX3_value_271 : decode cX3_value 271 = .ok (.lload_n 1, 1) := by decide +kernel
theorem dX3_value_272 : decode cX3_value 272 = .ok (.lload_n 3, 1) := by decide +kernel
theorem dX3_value_273 : decode cX3_value 273 = .ok (.lcmp, 1) := by decide +kernel
theorem dX3_value_274 : decode cX3_value 274 = .ok (.ifCond .le 7, 3) := by decide +kernel
theorem dX3_value_277 : decode cX3_value 277 = .ok (.lconst 1, 1) := by decide +kernel
theorem dX3_value_278 : decode cX3_value 278 = .ok (.goto 4, 3) := by decide +kernel
theorem dX3_value_281 : decode cX3_value 281 = .ok (.lconst 0, 1) := by decide +kernel
theorem dX3_value_282 : decode cX3_value 282 = .ok (.lreturn, 1) := by decide +kernel
theorem dX3_value_283 : decode cX3_value 283 = .ok (.lload_n 1, 1) := by decide +kernel
theorem dX3_value_284 : decode cX3_value 284 = .ok (.lload_n 3, 1) := by decide +kernel
theorem dX3_value_285 : decode cX3_value 285 = .ok (.lcmp, 1) := by decide +kernel
theorem dX3_value_286 : decode cX3_value 286 = .ok (.ifCond .lt 7, 3) := by decide +kernel
theorem dX3_value_289 : decode cX3_value 289 = .ok (.lconst 1, 1) := by decide +kernel
theorem dX3_value_290 : decode cX3_value 290 = .ok (.goto 4, 3) := by decide +kernel
theorem dX3_value_293 : decode cX3_value 293 = .ok (.lconst 0, 1) := by decide +kernel
theorem dX3_value_294 : decode cX3_value 294 = .ok (.lreturn, 1) := by decide +kernel
theorem dX3_value_295 : decode cX3_value 295 = .ok (.lload_n 1, 1) := by decide +kernel
theorem dX3_value_296 : decode cX3_value 296 = .ok (.lload_n 3, 1) := by decide +kernel
theorem dX3_value_297 : decode cX3_value 297 = .ok (.lcmp, 1) := by decide +kernel
theorem dX3_value_298 : decode cX3_value 298 = .ok (.ifCond .ne 7, 3) := by decide +kernel
theorem dX3_value_301 : decode cX3_value 301 = .ok (.lconst 1, 1) := by decide +kernel
theorem dX3_value_302 : decode cX3_value 302 = .ok (.goto 4, 3) := by decide +kernel
theorem dX3_value_305 : decode cX3_value 305 = .ok (.lconst 0, 1) := by decide +kernel
theorem dX3_value_306 : decode cX3_value 306 = .ok (.lreturn, 1) := by decide +kernel
theorem dX3_value_307 : decode cX3_value 307 = .ok (.lload_n 1, 1) := by decide +kernel
theorem dX3_value_308 : decode cX3_value 308 = .ok (.lload_n 3, 1) := by decide +kernel
theorem dX3_value_309 : decode cX3_value 309 = .ok (.lcmp, 1) := by decide +kernel
theorem dX3_value_310 : decode cX3_value 310 = .ok (.ifCond .eq 7, 3) := by decide +kernel
theorem dX3_value_313 : decode cX3_value 313 = .ok (.lconst 1, 1) := by decide +kernel
theorem dX3_value_314 : decode cX3_value 314 = .ok (.goto 4, 3) := by decide +kernel
theorem dX3_value_317 : decode cX3_value 317 = .ok (.lconst 0, 1) := by decide +kernel
theorem dX3_value_318 : decode cX3_value 318 = .ok (.lreturn, 1) := by decide +kernel
theorem dX3_value_319 : decode cX3_value 319 = .ok (.lload_n 1, 1) := by decide +kernel
theorem dX3_value_320 : decode cX3_value 320 = .ok (.lconst 0, 1) := by decide +kernel
theorem dX3_value_321 : decode cX3_value 321 = .ok (.lcmp, 1) := by decide +kernel
theorem dX3_value_322 : decode cX3_value 322 = .ok (.ifCond .ne 7, 3) := by decide +kernel
theorem dX3_value_325 : decode cX3_value 325 = .ok (.lconst 1, 1) := by decide +kernel
theorem dX3_value_326 : decode cX3_value 326 = .ok (.goto 4, 3) := by decide +kernel
theorem dX3_value_329 : decode cX3_value 329 = .ok (.lconst 0, 1) := by decide +kernel
theorem dX3_value_330 : decode cX3_value 330 = .ok (.lreturn, 1) := by decide +kernel
theorem dX3_value_331 : decode cX3_value 331 = .ok (.lload_n 1, 1) := by decide +kernel
theorem dX3_value_332 : decode cX3_value 332 = .ok (.lconst 0, 1) := by decide +kernel
theorem dX3_value_333 : decode cX3_value 333 = .ok (.lcmp, 1) := by decide +kernel
theorem dX3_value_334 : decode cX3_value 334 = .ok (.ifCond .eq 13, 3) := by decide +kernel
theorem dX3_value_337 : decode cX3_value 337 = .ok (.lload_n 3, 1) := by decide +kernel
theorem dX3_value_338 : decode cX3_value 338 = .ok (.lconst 0, 1) := by decide +kernel
theorem dX3_value_339 : decode cX3_value 339 = .ok (.lcmp, 1) := by decide +kernel
theorem dX3_value_340 : decode cX3_value 340 = .ok (.ifCond .eq 7, 3) := by decide +kernel
theorem dX3_value_343 : decode cX3_value 343 = .ok (.lconst 1, 1) := by decide +kernel
theorem dX3_value_344 : decode cX3_value 344 = .ok (.goto 4, 3) := by decide +kernel
theorem dX3_value_347 : decode cX3_value 347 = .ok (.lconst 0, 1) := by decide +kernel
theorem dX3_value_348 : decode cX3_value 348 = .ok (.lreturn, 1) := by decide +kernel
theorem dX3_value_349 : decode cX3_value 349 = .ok (.lload_n 1, 1) := by decide +kernel
theorem dX3_value_350 : decode cX3_value 350 = .ok (.lconst 0, 1) := by decide +kernel
theorem dX3_value_351 : decode cX3_value 351 = .ok (.lcmp, 1) := by decide +kernel
theorem dX3_value_352 : decode cX3_value 352 = .ok (.ifCond .ne 9, 3) := by decide +kernel
theorem dX3_value_355 : decode cX3_value 355 = .ok (.lload_n 3, 1) := by decide +kernel
theorem dX3_value_356 : decode cX3_value 356 = .ok (.lconst 0, 1) := by decide +kernel
theorem dX3_value_357 : decode cX3_value 357 = .ok (.lcmp, 1) := by decide +kernel
theorem dX3_value_358 : decode cX3_value 358 = .ok (.ifCond .eq 7, 3) := by decide +kernel
theorem dX3_value_361 : decode cX3_value 361 = .ok (.lconst 1, 1) := by decide +kernel
theorem dX3_value_362 : decode cX3_value 362 = .ok (.goto 4, 3) := by decide +kernel
theorem dX3_value_365 : decode cX3_value 365 = .ok (.lconst 0, 1) := by decide +kernel
theorem dX3_value_366 : decode cX3_value 366 = .ok (.lreturn, 1) := by decide +kernel
theorem dX4_init_0 : decode cX4_init 0 = .ok (.aload_n 0, 1) := by decide +kernel
theorem dX4_init_1 : decode cX4_init 1 = .ok (.invokespecial 3, 3) := by decide +kernel
theorem dX4_init_4 : decode cX4_init 4 = .ok (.aload_n 0, 1) := by decide +kernel
theorem dX4_init_5 : decode cX4_init 5 = .ok (.iconst 0, 1) := by decide +kernel
theorem dX4_init_6 : decode cX4_init 6 = .ok (.iload_n 1, 1) := by decide +kernel
theorem dX4_init_7 : decode cX4_init 7 = .ok (.invokestatic 9, 3) := by decide +kernel
theorem dX4_init_10 : decode cX4_init 10 = .ok (.putfield 15, 3) := by decide +kernel
theorem dX4_init_13 : decode cX4_init 13 = .ok (.aload_n 0, 1) := by decide +kernel
theorem dX4_init_14 : decode cX4_init 14 = .ok (.iconst 0, 1) := by decide +kernel
theorem dX4_init_15 : decode cX4_init 15 = .ok (.iload_n 2, 1) := by decide +kernel
theorem dX4_init_16 : decode cX4_init 16 = .ok (.invokestatic 9, 3) := by decide +kernel
theorem dX4_init_19 : decode cX4_init 19 = .ok (.putfield 21, 3) := by decide +kernel
theorem dX4_init_22 : decode cX4_init 22 = .ok (.aload_n 0, 1) := by decide +kernel
theorem dX4_init_23 : decode cX4_init 23 = .ok (.aload_n 0, 1) := by decide +kernel
theorem dX4_init_24 : decode cX4_init 24 = .ok (.getfield 15, 3) := by decide +kernel
theorem dX4_init_27 : decode cX4_init 27 = .ok (.aload_n 0, 1) := by decide +kernel
theorem dX4_init_28 : decode cX4_init 28 = .ok (.getfield 21, 3) := by decide +kernel
theorem dX4_init_31 : decode cX4_init 31 = .ok (.imul, 1) := by decide +kernel
theorem dX4_init_32 : decode cX4_init 32 = .ok (.newarray .int, 2) := by decide +kernel
theorem dX4_init_34 : decode cX4_init 34 = .ok (.putfield 24, 3) := by decide +kernel
theorem dX4_init_37 : decode cX4_init 37 = .ok (.return_, 1) := by decide +kernel
theorem dX4_has_0 : decode cX4_has 0 = .ok (.iload_n 1, 1) := by decide +kernel
theorem dX4_has_1 : decode cX4_has 1 = .ok (.ifCond .lt 15, 3) := by decide +kernel
theorem dX4_has_4 : decode cX4_has 4 = .ok (.iload_n 1, 1) := by decide +kernel
theorem dX4_has_5 : decode cX4_has 5 = .ok (.aload_n 0, 1) := by decide +kernel
theorem dX4_has_6 : decode cX4_has 6 = .ok (.getfield 28, 3) := by decide +kernel
theorem dX4_has_9 : decode cX4_has 9 = .ok (.if_icmp .ge 7, 3) := by decide +kernel
theorem dX4_has_12 : decode cX4_has 12 = .ok (.iconst 1, 1) := by decide +kernel
theorem dX4_has_13 : decode cX4_has 13 = .ok (.goto 4, 3) := by decide +kernel
theorem dX4_has_16 : decode cX4_has 16 = .ok (.iconst 0, 1) := by decide +kernel
theorem dX4_has_17 : decode cX4_has 17 = .ok (.ireturn, 1) := by decide +kernel
theorem dX4_get_0 : decode cX4_get 0 = .ok (.iload_n 1, 1) := by decide +kernel
theorem dX4_get_1 : decode cX4_get 1 = .ok (.aload_n 0, 1) := by decide +kernel
theorem dX4_get_2 : decode cX4_get 2 = .ok (.getfield 21, 3) := by decide +kernel
theorem dX4_get_5 : decode cX4_get 5 = .ok (.imul, 1) := by decide +kernel
theorem dX4_get_6 : decode cX4_get 6 = .ok (.iload_n 2, 1) := by decide +kernel
theorem dX4_get_7 : decode cX4_get 7 = .ok (.iadd, 1) := by decide +kernel
theorem dX4_get_8 : decode cX4_get 8 = .ok (.istore_n 3, 1) := by decide +kernel
theorem dX4_get_9 : decode cX4_get 9 = .ok (.iload_n 1, 1) := by decide +kernel
theorem dX4_get_10 : decode cX4_get 10 = .ok (.ifCond .lt 27, 3) := by decide +kernel
theorem dX4_get_13 : decode cX4_get 13 = .ok (.iload_n 1, 1) := by decide +kernel
theorem dX4_get_14 : decode cX4_get 14 = .ok (.aload_n 0, 1) := by decide +kernel
theorem dX4_get_15 : decode cX4_get 15 = .ok (.getfield 28, 3) := by decide +kernel
theorem dX4_get_18 : decode cX4_get 18 = .ok (.if_icmp .ge 19, 3) := by decide +kernel
theorem dX4_get_21 : decode cX4_get 21 = .ok (.iload_n 2, 1) := by decide +kernel
theorem dX4_get_22 : decode cX4_get 22 = .ok (.ifCond .lt 15, 3) := by decide +kernel
theorem dX4_get_25 : decode cX4_get 25 = .ok (.iload_n 2, 1) := by decide +kernel
theorem dX4_get_26 : decode cX4_get 26 = .ok (.aload_n 0, 1) := by decide +kernel
theorem dX4_get_27 : decode cX4_get 27 = .ok (.getfield 21, 3) := by decide +kernel
theorem dX4_get_30 : decode cX4_get 30 = .ok (.if_icmp .ge 7, 3) := by decide +kernel
theorem dX4_get_33 : decode cX4_get 33 = .ok (.iconst 1, 1) := by decide +kernel
theorem dX4_get_34 : decode cX4_get 34 = .ok (.goto 4, 3) := by decide +kernel
theorem dX4_get_37 : decode cX4_get 37 = .ok (.iconst 0, 1) := by decide +kernel
theorem dX4_get_38 : decode cX4_get 38 = .ok (.istore 4, 2) := by decide +kernel
theorem dX4_get_40 : decode cX4_get 40 = .ok (.iload 4, 2) := by decide +kernel
theorem dX4_get_42 : decode cX4_get 42 = .ok (.ifCond .eq 25, 3) := by decide +kernel
theorem dX4_get_45 : decode cX4_get 45 = .ok (.iload_n 3, 1) := by decide +kernel
theorem dX4_get_46 : decode cX4_get 46 = .ok (.ifCond .lt 21, 3) := by decide +kernel
theorem dX4_get_49 : decode cX4_get 49 = .ok (.iload_n 3, 1) := by decide +kernel
theorem dX4_get_50 : decode cX4_get 50 = .ok (.aload_n 0, 1) := by decide +kernel
theorem dX4_get_51 : decode cX4_get 51 = .ok (.getfield 24, 3) := by decide +kernel
theorem dX4_get_54 : decode cX4_get 54 = .ok (.arraylength, 1) := by decide +kernel
theorem dX4_get_55 : decode cX4_get 55 = .ok (.if_icmp .ge 12, 3) := by decide +kernel
theorem dX4_get_58 : decode cX4_get 58 = .ok (.aload_n 0, 1) := by decide +kernel
theorem dX4_get_59 : decode cX4_get 59 = .ok (.getfield 24, 3) := by decide +kernel
theorem dX4_get_62 : decode cX4_get 62 = .ok (.iload_n 3, 1) := by decide +kernel
theorem dX4_get_63 : decode cX4_get 63 = .ok (.iaload, 1) := by decide +kernel
theorem dX4_get_64 : decode cX4_get 64 = .ok (.goto 4, 3) := by decide +kernel
theorem dX4_get_67 : decode cX4_get 67 = .ok (.iconst 0, 1) := by decide +kernel
theorem dX4_get_68 : decode cX4_get 68 = .ok (.ireturn, 1) := by decide +kernel
theorem dX4_set_0 : decode cX4_set 0 = .ok (.iload_n 1, 1) := by decide +kernel
theorem dX4_set_1 : decode cX4_set 1 = .ok (.aload_n 0, 1) := by decide +kernel
theorem dX4_set_2 : decode cX4_set 2 = .ok (.getfield 21, 3) := by decide +kernel
theorem dX4_set_5 : decode cX4_set 5 = .ok (.imul, 1) := by decide +kernel
theorem dX4_set_6 : decode cX4_set 6 = .ok (.iload_n 2, 1) := by decide +kernel
theorem dX4_set_7 : decode cX4_set 7 = .ok (.iadd, 1) := by decide +kernel
theorem dX4_set_8 : decode cX4_set 8 = .ok (.istore 4, 2) := by decide +kernel
theorem dX4_set_10 : decode cX4_set 10 = .ok (.iload_n 1, 1) := by decide +kernel
theorem dX4_set_11 : decode cX4_set 11 = .ok (.ifCond .lt 27, 3) := by decide +kernel
theorem dX4_set_14 : decode cX4_set 14 = .ok (.iload_n 1, 1) := by decide +kernel
theorem dX4_set_15 : decode cX4_set 15 = .ok (.aload_n 0, 1) := by decide +kernel
theorem dX4_set_16 : decode cX4_set 16 = .ok (.getfield 28, 3) := by decide +kernel
theorem dX4_set_19 : decode cX4_set 19 = .ok (.if_icmp .ge 19, 3) := by decide +kernel
theorem dX4_set_22 : decode cX4_set 22 = .ok (.iload_n 2, 1) := by decide +kernel
theorem dX4_set_23 : decode cX4_set 23 = .ok (.ifCond .lt 15, 3) := by decide +kernel
theorem dX4_set_26 : decode cX4_set 26 = .ok (.iload_n 2, 1) := by decide +kernel
theorem dX4_set_27 : decode cX4_set 27 = .ok (.aload_n 0, 1) := by decide +kernel
theorem dX4_set_28 : decode cX4_set 28 = .ok (.getfield 21, 3) := by decide +kernel
theorem dX4_set_31 : decode cX4_set 31 = .ok (.if_icmp .ge 7, 3) := by decide +kernel
theorem dX4_set_34 : decode cX4_set 34 = .ok (.iconst 1, 1) := by decide +kernel
theorem dX4_set_35 : decode cX4_set 35 = .ok (.goto 4, 3) := by decide +kernel
theorem dX4_set_38 : decode cX4_set 38 = .ok (.iconst 0, 1) := by decide +kernel
theorem dX4_set_39 : decode cX4_set 39 = .ok (.istore 5, 2) := by decide +kernel
theorem dX4_set_41 : decode cX4_set 41 = .ok (.iload 5, 2) := by decide +kernel
theorem dX4_set_43 : decode cX4_set 43 = .ok (.ifCond .eq 26, 3) := by decide +kernel
theorem dX4_set_46 : decode cX4_set 46 = .ok (.iload 4, 2) := by decide +kernel
theorem dX4_set_48 : decode cX4_set 48 = .ok (.ifCond .lt 21, 3) := by decide +kernel
theorem dX4_set_51 : decode cX4_set 51 = .ok (.iload 4, 2) := by decide +kernel
theorem dX4_set_53 : decode cX4_set 53 = .ok (.aload_n 0, 1) := by decide +kernel
theorem dX4_set_54 : decode cX4_set 54 = .ok (.getfield 24, 3) := by decide +kernel
theorem dX4_set_57 : decode cX4_set 57 = .ok (.arraylength, 1) := by decide +kernel
theorem dX4_set_58 : decode cX4_set 58 = .ok (.if_icmp .ge 11, 3) := by decide +kernel
theorem dX4_set_61 : decode cX4_set 61 = .ok (.aload_n 0, 1) := by decide +kernel
theorem dX4_set_62 : decode cX4_set 62 = .ok (.getfield 24, 3) := by decide +kernel
theorem dX4_set_65 : decode cX4_set 65 = .ok (.iload 4, 2) := by decide +kernel
theorem dX4_set_67 : decode cX4_set 67 = .ok (.iload_n 3, 1) := by decide +kernel
theorem dX4_set_68 : decode cX4_set 68 = .ok (.iastore, 1) := by decide +kernel
theorem dX4_set_69 : decode cX4_set 69 = .ok (.return_, 1) := by decide +kernel
theorem dX4_grow_0 : decode cX4_grow 0 = .ok (.aload_n 0, 1) := by decide +kernel
theorem dX4_grow_1 : decode cX4_grow 1 = .ok (.getfield 28, 3) := by decide +kernel
theorem dX4_grow_4 : decode cX4_grow 4 = .ok (.aload_n 0, 1) := by decide +kernel
theorem dX4_grow_5 : decode cX4_grow 5 = .ok (.getfield 15, 3) := by decide +kernel
theorem dX4_grow_8 : decode cX4_grow 8 = .ok (.if_icmp .lt 5, 3) := by decide +kernel
theorem dX4_grow_11 : decode cX4_grow 11 = .ok (.iconst (-1), 1) := by decide +kernel
theorem dX4_grow_12 : decode cX4_grow 12 = .ok (.ireturn, 1) := by decide +kernel
theorem dX4_grow_13 : decode cX4_grow 13 = .ok (.aload_n 0, 1) := by decide +kernel
theorem dX4_grow_14 : decode cX4_grow 14 = .ok (.getfield 28, 3) := by decide +kernel
theorem dX4_grow_17 : decode cX4_grow 17 = .ok (.istore_n 1, 1) := by decide +kernel
theorem dX4_grow_18 : decode cX4_grow 18 = .ok (.aload_n 0, 1) := by decide +kernel
theorem dX4_grow_19 : decode cX4_grow 19 = .ok (.dup, 1) := by decide +kernel
theorem dX4_grow_20 : decode cX4_grow 20 = .ok (.getfield 28, 3) := by decide +kernel
theorem dX4_grow_23 : decode cX4_grow 23 = .ok (.iconst 1, 1) := by decide +kernel
theorem dX4_grow_24 : decode cX4_grow 24 = .ok (.iadd, 1) := by decide +kernel
theorem dX4_grow_25 : decode cX4_grow 25 = .ok (.putfield 28, 3) := by decide +kernel
theorem dX4_grow_28 : decode cX4_grow 28 = .ok (.iload_n 1, 1) := by decide +kernel
theorem dX4_grow_29 : decode cX4_grow 29 = .ok (.aload_n 0, 1) := by decide +kernel
theorem dX4_grow_30 : decode cX4_grow 30 = .ok (.getfield 21, 3) := by decide +kernel
theorem dX4_grow_33 : decode cX4_grow 33 = .ok (.imul, 1) := by decide +kernel
theorem dX4_grow_34 : decode cX4_grow 34 = .ok (.istore_n 2, 1) := by decide +kernel
theorem dX4_grow_35 : decode cX4_grow 35 = .ok (.iload_n 2, 1) := by decide +kernel
theorem dX4_grow_36 : decode cX4_grow 36 = .ok (.ifCond .lt 32, 3) := by decide +kernel
theorem dX4_grow_39 : decode cX4_grow 39 = .ok (.iload_n 2, 1) := by decide +kernel
theorem dX4_grow_40 : decode cX4_grow 40 = .ok (.aload_n 0, 1) := by decide +kernel
theorem dX4_grow_41 : decode cX4_grow 41 = .ok (.getfield 21, 3) := by decide +kernel
theorem dX4_grow_44 : decode cX4_grow 44 = .ok (.iadd, 1) := by decide +kernel
theorem dX4_grow_45 : decode cX4_grow 45 = .ok (.aload_n 0, 1) := by decide +kernel
theorem dX4_grow_46 : decode cX4_grow 46 = .ok (.getfield 24, 3) := by decide +kernel
theorem dX4_grow_49 : decode cX4_grow 49 = .ok (.arraylength, 1) := by decide +kernel
theorem dX4_grow_50 : decode cX4_grow 50 = .ok (.if_icmp .gt 18, 3) := by decide +kernel
theorem dX4_grow_53 : decode cX4_grow 53 = .ok (.aload_n 0, 1) := by decide +kernel
theorem dX4_grow_54 : decode cX4_grow 54 = .ok (.getfield 24, 3) := by decide +kernel
theorem dX4_grow_57 : decode cX4_grow 57 = .ok (.iload_n 2, 1) := by decide +kernel
theorem dX4_grow_58 : decode cX4_grow 58 = .ok (.iload_n 2, 1) := by decide +kernel
theorem dX4_grow_59 : decode cX4_grow 59 = .ok (.aload_n 0, 1) := by decide +kernel
theorem dX4_grow_60 : decode cX4_grow 60 = .ok (.getfield 21, 3) := by decide +kernel
theorem dX4_grow_63 : decode cX4_grow 63 = .ok (.iadd, 1) := by decide +kernel
theorem dX4_grow_64 : decode cX4_grow 64 = .ok (.iconst 0, 1) := by decide +kernel
theorem dX4_grow_65 : decode cX4_grow 65 = .ok (.invokestatic 31, 3) := by decide +kernel
theorem dX4_grow_68 : decode cX4_grow 68 = .ok (.iload_n 1, 1) := by decide +kernel
theorem dX4_grow_69 : decode cX4_grow 69 = .ok (.ireturn, 1) := by decide +kernel
theorem dX4_makeRoom_0 : decode cX4_makeRoom 0 = .ok (.aload_n 0, 1) := by decide +kernel
theorem dX4_makeRoom_1 : decode cX4_makeRoom 1 = .ok (.getfield 28, 3) := by decide +kernel
theorem dX4_makeRoom_4 : decode cX4_makeRoom 4 = .ok (.aload_n 0, 1) := by decide +kernel
theorem dX4_makeRoom_5 : decode cX4_makeRoom 5 = .ok (.getfield 15, 3) := by decide +kernel
theorem dX4_makeRoom_8 : decode cX4_makeRoom 8 = .ok (.if_icmp .lt 58, 3) := by decide +kernel
theorem dX4_makeRoom_11 : decode cX4_makeRoom 11 = .ok (.aload_n 0, 1) := by decide +kernel
theorem dX4_makeRoom_12 : decode cX4_makeRoom 12 = .ok (.getfield 28, 3) := by decide +kernel
theorem dX4_makeRoom_15 : decode cX4_makeRoom 15 = .ok (.ifCond .le 51, 3) := by decide +kernel
theorem dX4_makeRoom_18 : decode cX4_makeRoom 18 = .ok (.aload_n 0, 1) := by decide +kernel
theorem dX4_makeRoom_19 : decode cX4_makeRoom 19 = .ok (.getfield 21, 3) := by decide +kernel
theorem dX4_makeRoom_22 : decode cX4_makeRoom 22 = .ok (.aload_n 0, 1) := by decide +kernel
theorem dX4_makeRoom_23 : decode cX4_makeRoom 23 = .ok (.getfield 24, 3) := by decide +kernel
theorem dX4_makeRoom_26 : decode cX4_makeRoom 26 = .ok (.arraylength, 1) := by decide +kernel
theorem dX4_makeRoom_27 : decode cX4_makeRoom 27 = .ok (.if_icmp .gt 39, 3) := by decide +kernel
theorem dX4_makeRoom_30 : decode cX4_makeRoom 30 = .ok (.aload_n 0, 1) := by decide +kernel
theorem dX4_makeRoom_31 : decode cX4_makeRoom 31 = .ok (.getfield 24, 3) := by decide +kernel
theorem dX4_makeRoom_34 : decode cX4_makeRoom 34 = .ok (.aload_n 0, 1) := by decide +kernel
theorem dX4_makeRoom_35 : decode cX4_makeRoom 35 = .ok (.getfield 21, 3) := by decide +kernel
theorem dX4_makeRoom_38 : decode cX4_makeRoom 38 = .ok (.aload_n 0, 1) := by decide +kernel
theorem dX4_makeRoom_39 : decode cX4_makeRoom 39 = .ok (.getfield 24, 3) := by decide +kernel
theorem dX4_makeRoom_42 : decode cX4_makeRoom 42 = .ok (.iconst 0, 1) := by decide +kernel
theorem dX4_makeRoom_43 : decode cX4_makeRoom 43 = .ok (.aload_n 0, 1) := by decide +kernel
theorem dX4_makeRoom_44 : decode cX4_makeRoom 44 = .ok (.getfield 24, 3) := by decide +kernel
theorem dX4_makeRoom_47 : decode cX4_makeRoom 47 = .ok (.arraylength, 1) := by decide +kernel
theorem dX4_makeRoom_48 : decode cX4_makeRoom 48 = .ok (.aload_n 0, 1) := by decide +kernel
theorem dX4_makeRoom_49 : decode cX4_makeRoom 49 = .ok (.getfield 21, 3) := by decide +kernel
theorem dX4_makeRoom_52 : decode cX4_makeRoom 52 = .ok (.isub, 1) := by decide +kernel
theorem dX4_makeRoom_53 : decode cX4_makeRoom 53 = .ok (.invokestatic 37, 3) := by decide +kernel
theorem dX4_makeRoom_56 : decode cX4_makeRoom 56 = .ok (.aload_n 0, 1) := by decide +kernel
theorem dX4_makeRoom_57 : decode cX4_makeRoom 57 = .ok (.dup, 1) := by decide +kernel
theorem dX4_makeRoom_58 : decode cX4_makeRoom 58 = .ok (.getfield 28, 3) := by decide +kernel
theorem dX4_makeRoom_61 : decode cX4_makeRoom 61 = .ok (.iconst 1, 1) := by decide +kernel
theorem dX4_makeRoom_62 : decode cX4_makeRoom 62 = .ok (.isub, 1) := by decide +kernel
theorem dX4_makeRoom_63 : decode cX4_makeRoom 63 = .ok (.putfield 28, 3) := by decide +kernel
theorem dX4_makeRoom_66 : decode cX4_makeRoom 66 = .ok (.return_, 1) := by decide +kernel
theorem dX4_clear_0 : decode cX4_clear 0 = .ok (.aload_n 0, 1) := by decide +kernel
theorem dX4_clear_1 : decode cX4_clear 1 = .ok (.iconst 0, 1) := by decide +kernel
theorem dX4_clear_2 : decode cX4_clear 2 = .ok (.putfield 28, 3) := by decide +kernel
theorem dX4_clear_5 : decode cX4_clear 5 = .ok (.return_, 1) := by decide +kernel
theorem dX4_take_0 : decode cX4_take 0 = .ok (.aload_n 1, 1) := by decide +kernel
theorem dX4_take_1 : decode cX4_take 1 = .ok (.getfield 28, 3) := by decide +kernel
theorem dX4_take_4 : decode cX4_take 4 = .ok (.aload_n 1, 1) := by decide +kernel
theorem dX4_take_5 : decode cX4_take 5 = .ok (.getfield 21, 3) := by decide +kernel
theorem dX4_take_8 : decode cX4_take 8 = .ok (.imul, 1) := by decide +kernel
theorem dX4_take_9 : decode cX4_take 9 = .ok (.aload_n 1, 1) := by decide +kernel
theorem dX4_take_10 : decode cX4_take 10 = .ok (.getfield 24, 3) := by decide +kernel
theorem dX4_take_13 : decode cX4_take 13 = .ok (.arraylength, 1) := by decide +kernel
theorem dX4_take_14 : decode cX4_take 14 = .ok (.aload_n 0, 1) := by decide +kernel
theorem dX4_take_15 : decode cX4_take 15 = .ok (.getfield 24, 3) := by decide +kernel
theorem dX4_take_18 : decode cX4_take 18 = .ok (.arraylength, 1) := by decide +kernel
theorem dX4_take_19 : decode cX4_take 19 = .ok (.invokestatic 43, 3) := by decide +kernel
theorem dX4_take_22 : decode cX4_take 22 = .ok (.invokestatic 43, 3) := by decide +kernel
theorem dX4_take_25 : decode cX4_take 25 = .ok (.istore_n 3, 1) := by decide +kernel
theorem dX4_take_26 : decode cX4_take 26 = .ok (.aload_n 1, 1) := by decide +kernel
theorem dX4_take_27 : decode cX4_take 27 = .ok (.getfield 24, 3) := by decide +kernel
theorem dX4_take_30 : decode cX4_take 30 = .ok (.iconst 0, 1) := by decide +kernel
theorem dX4_take_31 : decode cX4_take 31 = .ok (.aload_n 0, 1) := by decide +kernel
theorem dX4_take_32 : decode cX4_take 32 = .ok (.getfield 24, 3) := by decide +kernel
theorem dX4_take_35 : decode cX4_take 35 = .ok (.iconst 0, 1) := by decide +kernel
theorem dX4_take_36 : decode cX4_take 36 = .ok (.iconst 0, 1) := by decide +kernel
theorem dX4_take_37 : decode cX4_take 37 = .ok (.iload_n 3, 1) := by decide +kernel
theorem dX4_take_38 : decode cX4_take 38 = .ok (.invokestatic 9, 3) := by decide +kernel
theorem dX4_take_41 : decode cX4_take 41 = .ok (.invokestatic 37, 3) := by decide +kernel
theorem dX4_take_44 : decode cX4_take 44 = .ok (.aload_n 0, 1) := by decide +kernel
theorem dX4_take_45 : decode cX4_take 45 = .ok (.aload_n 0, 1) := by decide +kernel
theorem dX4_take_46 : decode cX4_take 46 = .ok (.getfield 15, 3) := by decide +kernel
theorem dX4_take_49 : decode cX4_take 49 = .ok (.iload_n 2, 1) := by decide +kernel
theorem dX4_take_50 : decode cX4_take 50 = .ok (.aload_n 1, 1) := by decide +kernel
theorem dX4_take_51 : decode cX4_take 51 = .ok (.getfield 28, 3) := by decide +kernel
theorem dX4_take_54 : decode cX4_take 54 = .ok (.invokestatic 9, 3) := by decide +kernel
theorem dX4_take_57 : decode cX4_take 57 = .ok (.invokestatic 43, 3) := by decide +kernel
theorem dX4_take_60 : decode cX4_take 60 = .ok (.putfield 28, 3) := by decide +kernel
theorem dX4_take_63 : decode cX4_take 63 = .ok (.return_, 1) := by decide +kernel
theorem dX5_init_0 : decode cX5_init 0 = .ok (.aload_n 0, 1) := by decide +kernel
theorem dX5_init_1 : decode cX5_init 1 = .ok (.invokespecial 3, 3) := by decide +kernel
theorem dX5_init_4 : decode cX5_init 4 = .ok (.aload_n 0, 1) := by decide +kernel
theorem dX5_init_5 : decode cX5_init 5 = .ok (.new 9, 3) := by decide +kernel
theorem dX5_init_8 : decode cX5_init 8 = .ok (.dup, 1) := by decide +kernel
theorem dX5_init_9 : decode cX5_init 9 = .ok (.bipush 24, 2) := by decide +kernel
theorem dX5_init_11 : decode cX5_init 11 = .ok (.bipush 6, 2) := by decide +kernel
theorem dX5_init_13 : decode cX5_init 13 = .ok (.invokespecial 11, 3) := by decide +kernel
theorem dX5_init_16 : decode cX5_init 16 = .ok (.putfield 14, 3) := by decide +kernel
theorem dX5_init_19 : decode cX5_init 19 = .ok (.aload_n 0, 1) := by decide +kernel
theorem dX5_init_20 : decode cX5_init 20 = .ok (.getstatic 20, 3) := by decide +kernel
theorem dX5_init_23 : decode cX5_init 23 = .ok (.putfield 24, 3) := by decide +kernel
theorem dX5_init_26 : decode cX5_init 26 = .ok (.aload_n 0, 1) := by decide +kernel
theorem dX5_init_27 : decode cX5_init 27 = .ok (.getstatic 20, 3) := by decide +kernel
theorem dX5_init_30 : decode cX5_init 30 = .ok (.putfield 27, 3) := by decide +kernel
theorem dX5_init_33 : decode cX5_init 33 = .ok (.aload_n 0, 1) := by decide +kernel
theorem dX5_init_34 : decode cX5_init 34 = .ok (.getstatic 20, 3) := by decide +kernel
theorem dX5_init_37 : decode cX5_init 37 = .ok (.putfield 30, 3) := by decide +kernel
theorem dX5_init_40 : decode cX5_init 40 = .ok (.return_, 1) := by decide +kernel
theorem dX5_law_0 : decode cX5_law 0 = .ok (.iload_n 1, 1) := by decide +kernel
theorem dX5_law_1 : decode cX5_law 1 = .ok (.iconst 1, 1) := by decide +kernel
theorem dX5_law_2 : decode cX5_law 2 = .ok (.if_icmp .ne 8, 3) := by decide +kernel
theorem dX5_law_5 : decode cX5_law 5 = .ok (.aload_n 0, 1) := by decide +kernel
theorem dX5_law_6 : decode cX5_law 6 = .ok (.getfield 24, 3) := by decide +kernel
theorem dX5_law_9 : decode cX5_law 9 = .ok (.areturn, 1) := by decide +kernel
theorem dX5_law_10 : decode cX5_law 10 = .ok (.iload_n 1, 1) := by decide +kernel
theorem dX5_law_11 : decode cX5_law 11 = .ok (.iconst 2, 1) := by decide +kernel
theorem dX5_law_12 : decode cX5_law 12 = .ok (.if_icmp .ne 10, 3) := by decide +kernel
theorem dX5_law_15 : decode cX5_law 15 = .ok (.aload_n 0, 1) := by decide +kernel
theorem dX5_law_16 : decode cX5_law 16 = .ok (.getfield 27, 3) := by decide +kernel
theorem dX5_law_19 : decode cX5_law 19 = .ok (.goto 7, 3) := by decide +kernel
theorem dX5_law_22 : decode cX5_law 22 = .ok (.aload_n 0, 1) := by decide +kernel
theorem dX5_law_23 : decode cX5_law 23 = .ok (.getfield 30, 3) := by decide +kernel
theorem dX5_law_26 : decode cX5_law 26 = .ok (.areturn, 1) := by decide +kernel
theorem dX5_putLaw_0 : decode cX5_putLaw 0 = .ok (.iload_n 1, 1) := by decide +kernel
theorem dX5_putLaw_1 : decode cX5_putLaw 1 = .ok (.iconst 1, 1) := by decide +kernel
theorem dX5_putLaw_2 : decode cX5_putLaw 2 = .ok (.if_icmp .ne 11, 3) := by decide +kernel
theorem dX5_putLaw_5 : decode cX5_putLaw 5 = .ok (.aload_n 0, 1) := by decide +kernel
theorem dX5_putLaw_6 : decode cX5_putLaw 6 = .ok (.aload_n 2, 1) := by decide +kernel
theorem dX5_putLaw_7 : decode cX5_putLaw 7 = .ok (.putfield 24, 3) := by decide +kernel
theorem dX5_putLaw_10 : decode cX5_putLaw 10 = .ok (.goto 21, 3) := by decide +kernel
theorem dX5_putLaw_13 : decode cX5_putLaw 13 = .ok (.iload_n 1, 1) := by decide +kernel
theorem dX5_putLaw_14 : decode cX5_putLaw 14 = .ok (.iconst 2, 1) := by decide +kernel
theorem dX5_putLaw_15 : decode cX5_putLaw 15 = .ok (.if_icmp .ne 11, 3) := by decide +kernel
theorem dX5_putLaw_18 : decode cX5_putLaw 18 = .ok (.aload_n 0, 1) := by decide +kernel
theorem dX5_putLaw_19 : decode cX5_putLaw 19 = .ok (.aload_n 2, 1) := by decide +kernel
theorem dX5_putLaw_20 : decode cX5_putLaw 20 = .ok (.putfield 27, 3) := by decide +kernel
theorem dX5_putLaw_23 : decode cX5_putLaw 23 = .ok (.goto 8, 3) := by decide +kernel
theorem dX5_putLaw_26 : decode cX5_putLaw 26 = .ok (.aload_n 0, 1) := by decide +kernel
theorem dX5_putLaw_27 : decode cX5_putLaw 27 = .ok (.aload_n 2, 1) := by decide +kernel
theorem dX5_putLaw_28 : decode cX5_putLaw 28 = .ok (.putfield 30, 3) := by decide +kernel
theorem dX5_putLaw_31 : decode cX5_putLaw 31 = .ok (.return_, 1) := by decide +kernel
theorem dX7_init_0 : decode cX7_init 0 = .ok (.aload_n 0, 1) := by decide +kernel
theorem dX7_init_1 : decode cX7_init 1 = .ok (.invokespecial 3, 3) := by decide +kernel
theorem dX7_init_4 : decode cX7_init 4 = .ok (.aload_n 0, 1) := by decide +kernel
theorem dX7_init_5 : decode cX7_init 5 = .ok (.sipush 191, 3) := by decide +kernel
theorem dX7_init_8 : decode cX7_init 8 = .ok (.putfield 9, 3) := by decide +kernel
theorem dX7_init_11 : decode cX7_init 11 = .ok (.aload_n 0, 1) := by decide +kernel
theorem dX7_init_12 : decode cX7_init 12 = .ok (.new 15, 3) := by decide +kernel
theorem dX7_init_15 : decode cX7_init 15 = .ok (.dup, 1) := by decide +kernel
theorem dX7_init_16 : decode cX7_init 16 = .ok (.iconst 5, 1) := by decide +kernel
theorem dX7_init_17 : decode cX7_init 17 = .ok (.iconst 3, 1) := by decide +kernel
theorem dX7_init_18 : decode cX7_init 18 = .ok (.invokespecial 17, 3) := by decide +kernel
theorem dX7_init_21 : decode cX7_init 21 = .ok (.putfield 20, 3) := by decide +kernel
theorem dX7_init_24 : decode cX7_init 24 = .ok (.aload_n 0, 1) := by decide +kernel
theorem dX7_init_25 : decode cX7_init 25 = .ok (.new 15, 3) := by decide +kernel
theorem dX7_init_28 : decode cX7_init 28 = .ok (.dup, 1) := by decide +kernel
theorem dX7_init_29 : decode cX7_init 29 = .ok (.bipush 12, 2) := by decide +kernel
theorem dX7_init_31 : decode cX7_init 31 = .ok (.bipush 6, 2) := by decide +kernel
theorem dX7_init_33 : decode cX7_init 33 = .ok (.invokespecial 17, 3) := by decide +kernel
theorem dX7_init_36 : decode cX7_init 36 = .ok (.putfield 24, 3) := by decide +kernel
theorem dX7_init_39 : decode cX7_init 39 = .ok (.aload_n 0, 1) := by decide +kernel
theorem dX7_init_40 : decode cX7_init 40 = .ok (.new 15, 3) := by decide +kernel
theorem dX7_init_43 : decode cX7_init 43 = .ok (.dup, 1) := by decide +kernel
theorem dX7_init_44 : decode cX7_init 44 = .ok (.bipush 30, 2) := by decide +kernel
theorem dX7_init_46 : decode cX7_init 46 = .ok (.iconst 2, 1) := by decide +kernel
theorem dX7_init_47 : decode cX7_init 47 = .ok (.invokespecial 17, 3) := by decide +kernel
theorem dX7_init_50 : decode cX7_init 50 = .ok (.putfield 27, 3) := by decide +kernel
theorem dX7_init_53 : decode cX7_init 53 = .ok (.return_, 1) := by decide +kernel
theorem dX7_take_0 : decode cX7_take 0 = .ok (.aload_n 0, 1) := by decide +kernel
theorem dX7_take_1 : decode cX7_take 1 = .ok (.aload_n 1, 1) := by decide +kernel
theorem dX7_take_2 : decode cX7_take 2 = .ok (.getfield 30, 3) := by decide +kernel
theorem dX7_take_5 : decode cX7_take 5 = .ok (.putfield 30, 3) := by decide +kernel
theorem dX7_take_8 : decode cX7_take 8 = .ok (.aload_n 0, 1) := by decide +kernel
theorem dX7_take_9 : decode cX7_take 9 = .ok (.aload_n 1, 1) := by decide +kernel
theorem dX7_take_10 : decode cX7_take 10 = .ok (.getfield 9, 3) := by decide +kernel
theorem dX7_take_13 : decode cX7_take 13 = .ok (.putfield 9, 3) := by decide +kernel
theorem dX7_take_16 : decode cX7_take 16 = .ok (.aload_n 0, 1) := by decide +kernel
theorem dX7_take_17 : decode cX7_take 17 = .ok (.aload_n 1, 1) := by decide +kernel
theorem dX7_take_18 : decode cX7_take 18 = .ok (.getfield 33, 3) := by decide +kernel
theorem dX7_take_21 : decode cX7_take 21 = .ok (.putfield 33, 3) := by decide +kernel
theorem dX7_take_24 : decode cX7_take 24 = .ok (.aload_n 0, 1) := by decide +kernel
theorem dX7_take_25 : decode cX7_take 25 = .ok (.getfield 20, 3) := by decide +kernel
theorem dX7_take_28 : decode cX7_take 28 = .ok (.aload_n 1, 1) := by decide +kernel
theorem dX7_take_29 : decode cX7_take 29 = .ok (.getfield 20, 3) := by decide +kernel
theorem dX7_take_32 : decode cX7_take 32 = .ok (.iload_n 2, 1) := by decide +kernel
theorem dX7_take_33 : decode cX7_take 33 = .ok (.invokevirtual 36, 3) := by decide +kernel
theorem dX7_take_36 : decode cX7_take 36 = .ok (.aload_n 0, 1) := by decide +kernel
theorem dX7_take_37 : decode cX7_take 37 = .ok (.getfield 24, 3) := by decide +kernel
theorem dX7_take_40 : decode cX7_take 40 = .ok (.aload_n 1, 1) := by decide +kernel
theorem dX7_take_41 : decode cX7_take 41 = .ok (.getfield 24, 3) := by decide +kernel
theorem dX7_take_44 : decode cX7_take 44 = .ok (.iconst 0, 1) := by decide +kernel
theorem dX7_take_45 : decode cX7_take 45 = .ok (.invokevirtual 36, 3) := by decide +kernel
theorem dX7_take_48 : decode cX7_take 48 = .ok (.aload_n 0, 1) := by decide +kernel
theorem dX7_take_49 : decode cX7_take 49 = .ok (.getfield 27, 3) := by decide +kernel
theorem dX7_take_52 : decode cX7_take 52 = .ok (.aload_n 1, 1) := by decide +kernel
theorem dX7_take_53 : decode cX7_take 53 = .ok (.getfield 27, 3) := by decide +kernel
theorem dX7_take_56 : decode cX7_take 56 = .ok (.iconst 0, 1) := by decide +kernel
theorem dX7_take_57 : decode cX7_take 57 = .ok (.invokevirtual 36, 3) := by decide +kernel
theorem dX7_take_60 : decode cX7_take 60 = .ok (.return_, 1) := by decide +kernel
theorem dX7_draw_0 : decode cX7_draw 0 = .ok (.aload_n 0, 1) := by decide +kernel
theorem dX7_draw_1 : decode cX7_draw 1 = .ok (.getfield 9, 3) := by decide +kernel
theorem dX7_draw_4 : decode cX7_draw 4 = .ok (.istore_n 1, 1) := by decide +kernel
theorem dX7_draw_5 : decode cX7_draw 5 = .ok (.aload_n 0, 1) := by decide +kernel
theorem dX7_draw_6 : decode cX7_draw 6 = .ok (.aload_n 0, 1) := by decide +kernel
theorem dX7_draw_7 : decode cX7_draw 7 = .ok (.getfield 9, 3) := by decide +kernel
theorem dX7_draw_10 : decode cX7_draw 10 = .ok (.sipush 431, 3) := by decide +kernel
theorem dX7_draw_13 : decode cX7_draw 13 = .ok (.imul, 1) := by decide +kernel
theorem dX7_draw_14 : decode cX7_draw 14 = .ok (.sipush 311, 3) := by decide +kernel
theorem dX7_draw_17 : decode cX7_draw 17 = .ok (.iadd, 1) := by decide +kernel
theorem dX7_draw_18 : decode cX7_draw 18 = .ok (.sipush 30553, 3) := by decide +kernel
theorem dX7_draw_21 : decode cX7_draw 21 = .ok (.irem, 1) := by decide +kernel
theorem dX7_draw_22 : decode cX7_draw 22 = .ok (.putfield 9, 3) := by decide +kernel
theorem dX7_draw_25 : decode cX7_draw 25 = .ok (.iload_n 1, 1) := by decide +kernel
theorem dX7_draw_26 : decode cX7_draw 26 = .ok (.ireturn, 1) := by decide +kernel
theorem dX7_isSo_0 : decode cX7_isSo 0 = .ok (.aload_n 0, 1) := by decide +kernel
theorem dX7_isSo_1 : decode cX7_isSo 1 = .ok (.getfield 33, 3) := by decide +kernel
theorem dX7_isSo_4 : decode cX7_isSo 4 = .ok (.iload_n 1, 1) := by decide +kernel
theorem dX7_isSo_5 : decode cX7_isSo 5 = .ok (.invokestatic 40, 3) := by decide +kernel
theorem dX7_isSo_8 : decode cX7_isSo 8 = .ok (.iand, 1) := by decide +kernel
theorem dX7_isSo_9 : decode cX7_isSo 9 = .ok (.ifCond .eq 7, 3) := by decide +kernel
theorem dX7_isSo_12 : decode cX7_isSo 12 = .ok (.iconst 1, 1) := by decide +kernel
theorem dX7_isSo_13 : decode cX7_isSo 13 = .ok (.goto 4, 3) := by decide +kernel
theorem dX7_isSo_16 : decode cX7_isSo 16 = .ok (.iconst 0, 1) := by decide +kernel
theorem dX7_isSo_17 : decode cX7_isSo 17 = .ok (.ireturn, 1) := by decide +kernel
theorem dX7_isOpen_0 : decode cX7_isOpen 0 = .ok (.aload_n 0, 1) := by decide +kernel
theorem dX7_isOpen_1 : decode cX7_isOpen 1 = .ok (.getfield 24, 3) := by decide +kernel
theorem dX7_isOpen_4 : decode cX7_isOpen 4 = .ok (.iload_n 1, 1) := by decide +kernel
theorem dX7_isOpen_5 : decode cX7_isOpen 5 = .ok (.invokevirtual 44, 3) := by decide +kernel
theorem dX7_isOpen_8 : decode cX7_isOpen 8 = .ok (.ifCond .eq 19, 3) := by decide +kernel
theorem dX7_isOpen_11 : decode cX7_isOpen 11 = .ok (.aload_n 0, 1) := by decide +kernel
theorem dX7_isOpen_12 : decode cX7_isOpen 12 = .ok (.getfield 24, 3) := by decide +kernel
theorem dX7_isOpen_15 : decode cX7_isOpen 15 = .ok (.iload_n 1, 1) := by decide +kernel
theorem dX7_isOpen_16 : decode cX7_isOpen 16 = .ok (.iconst 5, 1) := by decide +kernel
theorem dX7_isOpen_17 : decode cX7_isOpen 17 = .ok (.invokevirtual 48, 3) := by decide +kernel
theorem dX7_isOpen_20 : decode cX7_isOpen 20 = .ok (.ifCond .ne 7, 3) := by decide +kernel
theorem dX7_isOpen_23 : decode cX7_isOpen 23 = .ok (.iconst 1, 1) := by decide +kernel
theorem dX7_isOpen_24 : decode cX7_isOpen 24 = .ok (.goto 4, 3) := by decide +kernel
theorem dX7_isOpen_27 : decode cX7_isOpen 27 = .ok (.iconst 0, 1) := by decide +kernel
theorem dX7_isOpen_28 : decode cX7_isOpen 28 = .ok (.ireturn, 1) := by decide +kernel
theorem dX7_openOf_0 : decode cX7_openOf 0 = .ok (.iconst 0, 1) := by decide +kernel
theorem dX7_openOf_1 : decode cX7_openOf 1 = .ok (.istore_n 2, 1) := by decide +kernel
theorem dX7_openOf_2 : decode cX7_openOf 2 = .ok (.iconst 0, 1) := by decide +kernel
theorem dX7_openOf_3 : decode cX7_openOf 3 = .ok (.istore_n 3, 1) := by decide +kernel
theorem dX7_openOf_4 : decode cX7_openOf 4 = .ok (.iload_n 3, 1) := by decide +kernel
theorem dX7_openOf_5 : decode cX7_openOf 5 = .ok (.aload_n 0, 1) := by decide +kernel
theorem dX7_openOf_6 : decode cX7_openOf 6 = .ok (.getfield 24, 3) := by decide +kernel
theorem dX7_openOf_9 : decode cX7_openOf 9 = .ok (.getfield 52, 3) := by decide +kernel
theorem dX7_openOf_12 : decode cX7_openOf 12 = .ok (.if_icmp .ge 33, 3) := by decide +kernel
theorem dX7_openOf_15 : decode cX7_openOf 15 = .ok (.aload_n 0, 1) := by decide +kernel
theorem dX7_openOf_16 : decode cX7_openOf 16 = .ok (.iload_n 3, 1) := by decide +kernel
theorem dX7_openOf_17 : decode cX7_openOf 17 = .ok (.invokevirtual 55, 3) := by decide +kernel
theorem dX7_openOf_20 : decode cX7_openOf 20 = .ok (.ifCond .eq 19, 3) := by decide +kernel
theorem dX7_openOf_23 : decode cX7_openOf 23 = .ok (.aload_n 0, 1) := by decide +kernel
theorem dX7_openOf_24 : decode cX7_openOf 24 = .ok (.getfield 24, 3) := by decide +kernel
theorem dX7_openOf_27 : decode cX7_openOf 27 = .ok (.iload_n 3, 1) := by decide +kernel
theorem dX7_openOf_28 : decode cX7_openOf 28 = .ok (.iconst 0, 1) := by decide +kernel
theorem dX7_openOf_29 : decode cX7_openOf 29 = .ok (.invokevirtual 48, 3) := by decide +kernel
theorem dX7_openOf_32 : decode cX7_openOf 32 = .ok (.iload_n 1, 1) := by decide +kernel
theorem dX7_openOf_33 : decode cX7_openOf 33 = .ok (.if_icmp .ne 6, 3) := by decide +kernel
theorem dX7_openOf_36 : decode cX7_openOf 36 = .ok (.iinc 2 1, 3) := by decide +kernel
theorem dX7_openOf_39 : decode cX7_openOf 39 = .ok (.iinc 3 1, 3) := by decide +kernel
theorem dX7_openOf_42 : decode cX7_openOf 42 = .ok (.goto (-38), 3) := by decide +kernel
theorem dX7_openOf_45 : decode cX7_openOf 45 = .ok (.iload_n 2, 1) := by decide +kernel
theorem dX7_openOf_46 : decode cX7_openOf 46 = .ok (.ireturn, 1) := by decide +kernel
theorem dX7_holds_0 : decode cX7_holds 0 = .ok (.aload_n 0, 1) := by decide +kernel
theorem dX7_holds_1 : decode cX7_holds 1 = .ok (.iload_n 1, 1) := by decide +kernel
theorem dX7_holds_2 : decode cX7_holds 2 = .ok (.aload_n 0, 1) := by decide +kernel
theorem dX7_holds_3 : decode cX7_holds 3 = .ok (.getfield 33, 3) := by decide +kernel
theorem dX7_holds_6 : decode cX7_holds 6 = .ok (.invokevirtual 58, 3) := by decide +kernel
theorem dX7_holds_9 : decode cX7_holds 9 = .ok (.ireturn, 1) := by decide +kernel
theorem dX7_wouldHold_0 : decode cX7_wouldHold 0 = .ok (.aload_n 0, 1) := by decide +kernel
theorem dX7_wouldHold_1 : decode cX7_wouldHold 1 = .ok (.getfield 24, 3) := by decide +kernel
theorem dX7_wouldHold_4 : decode cX7_wouldHold 4 = .ok (.iload_n 1, 1) := by decide +kernel
theorem dX7_wouldHold_5 : decode cX7_wouldHold 5 = .ok (.iconst 1, 1) := by decide +kernel
theorem dX7_wouldHold_6 : decode cX7_wouldHold 6 = .ok (.invokevirtual 48, 3) := by decide +kernel
theorem dX7_wouldHold_9 : decode cX7_wouldHold 9 = .ok (.iconst 1, 1) := by decide +kernel
theorem dX7_wouldHold_10 : decode cX7_wouldHold 10 = .ok (.if_icmp .ne 7, 3) := by decide +kernel
theorem dX7_wouldHold_13 : decode cX7_wouldHold 13 = .ok (.iconst 1, 1) := by decide +kernel
theorem dX7_wouldHold_14 : decode cX7_wouldHold 14 = .ok (.goto 4, 3) := by decide +kernel
theorem dX7_wouldHold_17 : decode cX7_wouldHold 17 = .ok (.iconst 0, 1) := by decide +kernel
theorem dX7_wouldHold_18 : decode cX7_wouldHold 18 = .ok (.aload_n 0, 1) := by decide +kernel
theorem dX7_wouldHold_19 : decode cX7_wouldHold 19 = .ok (.getfield 24, 3) := by decide +kernel
theorem dX7_wouldHold_22 : decode cX7_wouldHold 22 = .ok (.iload_n 1, 1) := by decide +kernel
theorem dX7_wouldHold_23 : decode cX7_wouldHold 23 = .ok (.iconst 2, 1) := by decide +kernel
theorem dX7_wouldHold_24 : decode cX7_wouldHold 24 = .ok (.invokevirtual 48, 3) := by decide +kernel
theorem dX7_wouldHold_27 : decode cX7_wouldHold 27 = .ok (.iload_n 2, 1) := by decide +kernel
theorem dX7_wouldHold_28 : decode cX7_wouldHold 28 = .ok (.invokestatic 62, 3) := by decide +kernel
theorem dX7_wouldHold_31 : decode cX7_wouldHold 31 = .ok (.ireturn, 1) := by decide +kernel
theorem dX7_gain_0 : decode cX7_gain 0 = .ok (.aload_n 0, 1) := by decide +kernel
theorem dX7_gain_1 : decode cX7_gain 1 = .ok (.getfield 20, 3) := by decide +kernel
theorem dX7_gain_4 : decode cX7_gain 4 = .ok (.iload_n 1, 1) := by decide +kernel
theorem dX7_gain_5 : decode cX7_gain 5 = .ok (.iconst 0, 1) := by decide +kernel
theorem dX7_gain_6 : decode cX7_gain 6 = .ok (.invokevirtual 48, 3) := by decide +kernel
theorem dX7_gain_9 : decode cX7_gain 9 = .ok (.iload_n 2, 1) := by decide +kernel
theorem dX7_gain_10 : decode cX7_gain 10 = .ok (.iadd, 1) := by decide +kernel
theorem dX7_gain_11 : decode cX7_gain 11 = .ok (.istore_n 3, 1) := by decide +kernel
theorem dX7_gain_12 : decode cX7_gain 12 = .ok (.aload_n 0, 1) := by decide +kernel
theorem dX7_gain_13 : decode cX7_gain 13 = .ok (.getfield 20, 3) := by decide +kernel
theorem dX7_gain_16 : decode cX7_gain 16 = .ok (.iload_n 1, 1) := by decide +kernel
theorem dX7_gain_17 : decode cX7_gain 17 = .ok (.iconst 0, 1) := by decide +kernel
theorem dX7_gain_18 : decode cX7_gain 18 = .ok (.sipush 9999, 3) := by decide +kernel
theorem dX7_gain_21 : decode cX7_gain 21 = .ok (.iload_n 3, 1) := by decide +kernel
theorem dX7_gain_22 : decode cX7_gain 22 = .ok (.invokestatic 66, 3) := by decide +kernel
theorem dX7_gain_25 : decode cX7_gain 25 = .ok (.invokevirtual 71, 3) := by decide +kernel
theorem dX7_gain_28 : decode cX7_gain 28 = .ok (.return_, 1) := by decide +kernel
theorem dX7_lose_0 : decode cX7_lose 0 = .ok (.aload_n 0, 1) := by decide +kernel
theorem dX7_lose_1 : decode cX7_lose 1 = .ok (.getfield 20, 3) := by decide +kernel
theorem dX7_lose_4 : decode cX7_lose 4 = .ok (.iload_n 1, 1) := by decide +kernel
theorem dX7_lose_5 : decode cX7_lose 5 = .ok (.iconst 0, 1) := by decide +kernel
theorem dX7_lose_6 : decode cX7_lose 6 = .ok (.aload_n 0, 1) := by decide +kernel
theorem dX7_lose_7 : decode cX7_lose 7 = .ok (.getfield 20, 3) := by decide +kernel
theorem dX7_lose_10 : decode cX7_lose 10 = .ok (.iload_n 1, 1) := by decide +kernel
theorem dX7_lose_11 : decode cX7_lose 11 = .ok (.iconst 0, 1) := by decide +kernel
theorem dX7_lose_12 : decode cX7_lose 12 = .ok (.invokevirtual 48, 3) := by decide +kernel
theorem dX7_lose_15 : decode cX7_lose 15 = .ok (.iload_n 2, 1) := by decide +kernel
theorem dX7_lose_16 : decode cX7_lose 16 = .ok (.isub, 1) := by decide +kernel
theorem dX7_lose_17 : decode cX7_lose 17 = .ok (.invokevirtual 71, 3) := by decide +kernel
theorem dX7_lose_20 : decode cX7_lose 20 = .ok (.return_, 1) := by decide +kernel
theorem dX7_comeTrue_0 : decode cX7_comeTrue 0 = .ok (.aload_n 0, 1) := by decide +kernel
theorem dX7_comeTrue_1 : decode cX7_comeTrue 1 = .ok (.getfield 24, 3) := by decide +kernel
theorem dX7_comeTrue_4 : decode cX7_comeTrue 4 = .ok (.iload_n 1, 1) := by decide +kernel
theorem dX7_comeTrue_5 : decode cX7_comeTrue 5 = .ok (.iconst 0, 1) := by decide +kernel
theorem dX7_comeTrue_6 : decode cX7_comeTrue 6 = .ok (.invokevirtual 48, 3) := by decide +kernel
theorem dX7_comeTrue_9 : decode cX7_comeTrue 9 = .ok (.istore_n 3, 1) := by decide +kernel
theorem dX7_comeTrue_10 : decode cX7_comeTrue 10 = .ok (.aload_n 0, 1) := by decide +kernel
theorem dX7_comeTrue_11 : decode cX7_comeTrue 11 = .ok (.getfield 20, 3) := by decide +kernel
theorem dX7_comeTrue_14 : decode cX7_comeTrue 14 = .ok (.iload_n 3, 1) := by decide +kernel
theorem dX7_comeTrue_15 : decode cX7_comeTrue 15 = .ok (.iconst 1, 1) := by decide +kernel
theorem dX7_comeTrue_16 : decode cX7_comeTrue 16 = .ok (.invokevirtual 48, 3) := by decide +kernel
theorem dX7_comeTrue_19 : decode cX7_comeTrue 19 = .ok (.iload_n 2, 1) := by decide +kernel
theorem dX7_comeTrue_20 : decode cX7_comeTrue 20 = .ok (.iadd, 1) := by decide +kernel
theorem dX7_comeTrue_21 : decode cX7_comeTrue 21 = .ok (.istore 4, 2) := by decide +kernel
theorem dX7_comeTrue_23 : decode cX7_comeTrue 23 = .ok (.aload_n 0, 1) := by decide +kernel
theorem dX7_comeTrue_24 : decode cX7_comeTrue 24 = .ok (.getfield 20, 3) := by decide +kernel
theorem dX7_comeTrue_27 : decode cX7_comeTrue 27 = .ok (.iload_n 3, 1) := by decide +kernel
theorem dX7_comeTrue_28 : decode cX7_comeTrue 28 = .ok (.iconst 1, 1) := by decide +kernel
theorem dX7_comeTrue_29 : decode cX7_comeTrue 29 = .ok (.bipush 99, 2) := by decide +kernel
theorem dX7_comeTrue_31 : decode cX7_comeTrue 31 = .ok (.iload 4, 2) := by decide +kernel
theorem dX7_comeTrue_33 : decode cX7_comeTrue 33 = .ok (.invokestatic 66, 3) := by decide +kernel
theorem dX7_comeTrue_36 : decode cX7_comeTrue 36 = .ok (.invokevirtual 71, 3) := by decide +kernel
theorem dX7_comeTrue_39 : decode cX7_comeTrue 39 = .ok (.aload_n 0, 1) := by decide +kernel
theorem dX7_comeTrue_40 : decode cX7_comeTrue 40 = .ok (.getfield 24, 3) := by decide +kernel
theorem dX7_comeTrue_43 : decode cX7_comeTrue 43 = .ok (.iload_n 1, 1) := by decide +kernel
theorem dX7_comeTrue_44 : decode cX7_comeTrue 44 = .ok (.iconst 5, 1) := by decide +kernel
theorem dX7_comeTrue_45 : decode cX7_comeTrue 45 = .ok (.iconst 1, 1) := by decide +kernel
theorem dX7_comeTrue_46 : decode cX7_comeTrue 46 = .ok (.invokevirtual 71, 3) := by decide +kernel
theorem dX7_comeTrue_49 : decode cX7_comeTrue 49 = .ok (.aload_n 0, 1) := by decide +kernel
theorem dX7_comeTrue_50 : decode cX7_comeTrue 50 = .ok (.iconst 0, 1) := by decide +kernel
theorem dX7_comeTrue_51 : decode cX7_comeTrue 51 = .ok (.iload_n 1, 1) := by decide +kernel
theorem dX7_comeTrue_52 : decode cX7_comeTrue 52 = .ok (.iload_n 2, 1) := by decide +kernel
theorem dX7_comeTrue_53 : decode cX7_comeTrue 53 = .ok (.invokevirtual 75, 3) := by decide +kernel
theorem dX7_comeTrue_56 : decode cX7_comeTrue 56 = .ok (.return_, 1) := by decide +kernel
theorem dX7_fail_0 : decode cX7_fail 0 = .ok (.aload_n 0, 1) := by decide +kernel
theorem dX7_fail_1 : decode cX7_fail 1 = .ok (.getfield 24, 3) := by decide +kernel
theorem dX7_fail_4 : decode cX7_fail 4 = .ok (.iload_n 1, 1) := by decide +kernel
theorem dX7_fail_5 : decode cX7_fail 5 = .ok (.iconst 0, 1) := by decide +kernel
theorem dX7_fail_6 : decode cX7_fail 6 = .ok (.invokevirtual 48, 3) := by decide +kernel
theorem dX7_fail_9 : decode cX7_fail 9 = .ok (.istore_n 3, 1) := by decide +kernel
theorem dX7_fail_10 : decode cX7_fail 10 = .ok (.iload_n 2, 1) := by decide +kernel
theorem dX7_fail_11 : decode cX7_fail 11 = .ok (.aload_n 0, 1) := by decide +kernel
theorem dX7_fail_12 : decode cX7_fail 12 = .ok (.getfield 20, 3) := by decide +kernel
theorem dX7_fail_15 : decode cX7_fail 15 = .ok (.iload_n 3, 1) := by decide +kernel
theorem dX7_fail_16 : decode cX7_fail 16 = .ok (.iconst 0, 1) := by decide +kernel
theorem dX7_fail_17 : decode cX7_fail 17 = .ok (.invokevirtual 48, 3) := by decide +kernel
theorem dX7_fail_20 : decode cX7_fail 20 = .ok (.invokestatic 66, 3) := by decide +kernel
theorem dX7_fail_23 : decode cX7_fail 23 = .ok (.istore 4, 2) := by decide +kernel
theorem dX7_fail_25 : decode cX7_fail 25 = .ok (.aload_n 0, 1) := by decide +kernel
theorem dX7_fail_26 : decode cX7_fail 26 = .ok (.iload_n 3, 1) := by decide +kernel
theorem dX7_fail_27 : decode cX7_fail 27 = .ok (.iload 4, 2) := by decide +kernel
theorem dX7_fail_29 : decode cX7_fail 29 = .ok (.invokevirtual 78, 3) := by decide +kernel
theorem dX7_fail_32 : decode cX7_fail 32 = .ok (.iload 4, 2) := by decide +kernel
theorem dX7_fail_34 : decode cX7_fail 34 = .ok (.iload_n 2, 1) := by decide +kernel
theorem dX7_fail_35 : decode cX7_fail 35 = .ok (.if_icmp .ge 13, 3) := by decide +kernel
theorem dX7_fail_38 : decode cX7_fail 38 = .ok (.aload_n 0, 1) := by decide +kernel
theorem dX7_fail_39 : decode cX7_fail 39 = .ok (.getfield 20, 3) := by decide +kernel
theorem dX7_fail_42 : decode cX7_fail 42 = .ok (.iload_n 3, 1) := by decide +kernel
theorem dX7_fail_43 : decode cX7_fail 43 = .ok (.iconst 2, 1) := by decide +kernel
theorem dX7_fail_44 : decode cX7_fail 44 = .ok (.iconst 1, 1) := by decide +kernel
theorem dX7_fail_45 : decode cX7_fail 45 = .ok (.invokevirtual 71, 3) := by decide +kernel
theorem dX7_fail_48 : decode cX7_fail 48 = .ok (.aload_n 0, 1) := by decide +kernel
theorem dX7_fail_49 : decode cX7_fail 49 = .ok (.getfield 24, 3) := by decide +kernel
theorem dX7_fail_52 : decode cX7_fail 52 = .ok (.iload_n 1, 1) := by decide +kernel
theorem dX7_fail_53 : decode cX7_fail 53 = .ok (.iconst 5, 1) := by decide +kernel
theorem dX7_fail_54 : decode cX7_fail 54 = .ok (.iconst 2, 1) := by decide +kernel
theorem dX7_fail_55 : decode cX7_fail 55 = .ok (.invokevirtual 71, 3) := by decide +kernel
theorem dX7_fail_58 : decode cX7_fail 58 = .ok (.aload_n 0, 1) := by decide +kernel
theorem dX7_fail_59 : decode cX7_fail 59 = .ok (.iconst 1, 1) := by decide +kernel
theorem dX7_fail_60 : decode cX7_fail 60 = .ok (.iload_n 1, 1) := by decide +kernel
theorem dX7_fail_61 : decode cX7_fail 61 = .ok (.iload 4, 2) := by decide +kernel
theorem dX7_fail_63 : decode cX7_fail 63 = .ok (.invokevirtual 75, 3) := by decide +kernel
theorem dX7_fail_66 : decode cX7_fail 66 = .ok (.return_, 1) := by decide +kernel
theorem dX7_write_0 : decode cX7_write 0 = .ok (.aload_n 0, 1) := by decide +kernel
theorem dX7_write_1 : decode cX7_write 1 = .ok (.getfield 27, 3) := by decide +kernel
theorem dX7_write_4 : decode cX7_write 4 = .ok (.invokevirtual 81, 3) := by decide +kernel
theorem dX7_write_7 : decode cX7_write 7 = .ok (.aload_n 0, 1) := by decide +kernel
theorem dX7_write_8 : decode cX7_write 8 = .ok (.getfield 27, 3) := by decide +kernel
theorem dX7_write_11 : decode cX7_write 11 = .ok (.invokevirtual 84, 3) := by decide +kernel
theorem dX7_write_14 : decode cX7_write 14 = .ok (.istore 4, 2) := by decide +kernel
theorem dX7_write_16 : decode cX7_write 16 = .ok (.aload_n 0, 1) := by decide +kernel
theorem dX7_write_17 : decode cX7_write 17 = .ok (.getfield 27, 3) := by decide +kernel
theorem dX7_write_20 : decode cX7_write 20 = .ok (.iload 4, 2) := by decide +kernel
theorem dX7_write_22 : decode cX7_write 22 = .ok (.iconst 0, 1) := by decide +kernel
theorem dX7_write_23 : decode cX7_write 23 = .ok (.aload_n 0, 1) := by decide +kernel
theorem dX7_write_24 : decode cX7_write 24 = .ok (.getfield 30, 3) := by decide +kernel
theorem dX7_write_27 : decode cX7_write 27 = .ok (.invokevirtual 71, 3) := by decide +kernel
theorem dX7_write_30 : decode cX7_write 30 = .ok (.aload_n 0, 1) := by decide +kernel
theorem dX7_write_31 : decode cX7_write 31 = .ok (.getfield 27, 3) := by decide +kernel
theorem dX7_write_34 : decode cX7_write 34 = .ok (.iload 4, 2) := by decide +kernel
theorem dX7_write_36 : decode cX7_write 36 = .ok (.iconst 1, 1) := by decide +kernel
theorem dX7_write_37 : decode cX7_write 37 = .ok (.iload_n 1, 1) := by decide +kernel
theorem dX7_write_38 : decode cX7_write 38 = .ok (.bipush 12, 2) := by decide +kernel
theorem dX7_write_40 : decode cX7_write 40 = .ok (.imul, 1) := by decide +kernel
theorem dX7_write_41 : decode cX7_write 41 = .ok (.iload_n 2, 1) := by decide +kernel
theorem dX7_write_42 : decode cX7_write 42 = .ok (.iadd, 1) := by decide +kernel
theorem dX7_write_43 : decode cX7_write 43 = .ok (.sipush 10000, 3) := by decide +kernel
theorem dX7_write_46 : decode cX7_write 46 = .ok (.imul, 1) := by decide +kernel
theorem dX7_write_47 : decode cX7_write 47 = .ok (.iload_n 3, 1) := by decide +kernel
theorem dX7_write_48 : decode cX7_write 48 = .ok (.iadd, 1) := by decide +kernel
theorem dX7_write_49 : decode cX7_write 49 = .ok (.invokevirtual 71, 3) := by decide +kernel
theorem dX7_write_52 : decode cX7_write 52 = .ok (.return_, 1) := by decide +kernel
theorem dX7_written_0 : decode cX7_written 0 = .ok (.aload_n 0, 1) := by decide +kernel
theorem dX7_written_1 : decode cX7_written 1 = .ok (.getfield 27, 3) := by decide +kernel
theorem dX7_written_4 : decode cX7_written 4 = .ok (.iload_n 1, 1) := by decide +kernel
theorem dX7_written_5 : decode cX7_written 5 = .ok (.iconst 1, 1) := by decide +kernel
theorem dX7_written_6 : decode cX7_written 6 = .ok (.invokevirtual 48, 3) := by decide +kernel
theorem dX7_written_9 : decode cX7_written 9 = .ok (.istore_n 3, 1) := by decide +kernel
theorem dX7_written_10 : decode cX7_written 10 = .ok (.iload_n 2, 1) := by decide +kernel
theorem dX7_written_11 : decode cX7_written 11 = .ok (.tableswitch 53 0 2 #[25, 35, 44], 25) := by decide +kernel
theorem dX7_written_36 : decode cX7_written 36 = .ok (.aload_n 0, 1) := by decide +kernel
theorem dX7_written_37 : decode cX7_written 37 = .ok (.getfield 27, 3) := by decide +kernel
theorem dX7_written_40 : decode cX7_written 40 = .ok (.iload_n 1, 1) := by decide +kernel
theorem dX7_written_41 : decode cX7_written 41 = .ok (.iconst 0, 1) := by decide +kernel
theorem dX7_written_42 : decode cX7_written 42 = .ok (.invokevirtual 48, 3) := by decide +kernel
theorem dX7_written_45 : decode cX7_written 45 = .ok (.ireturn, 1) := by decide +kernel
theorem dX7_written_46 : decode cX7_written 46 = .ok (.iload_n 3, 1) := by decide +kernel
theorem dX7_written_47 : decode cX7_written 47 = .ok (.sipush 10000, 3) := by decide +kernel
theorem dX7_written_50 : decode cX7_written 50 = .ok (.idiv, 1) := by decide +kernel
theorem dX7_written_51 : decode cX7_written 51 = .ok (.bipush 12, 2) := by decide +kernel
theorem dX7_written_53 : decode cX7_written 53 = .ok (.irem, 1) := by decide +kernel
theorem dX7_written_54 : decode cX7_written 54 = .ok (.ireturn, 1) := by decide +kernel
theorem dX7_written_55 : decode cX7_written 55 = .ok (.iload_n 3, 1) := by decide +kernel
theorem dX7_written_56 : decode cX7_written 56 = .ok (.sipush 10000, 3) := by decide +kernel
theorem dX7_written_59 : decode cX7_written 59 = .ok (.idiv, 1) := by decide +kernel
theorem dX7_written_60 : decode cX7_written 60 = .ok (.bipush 12, 2) := by decide +kernel
theorem dX7_written_62 : decode cX7_written 62 = .ok (.idiv, 1) := by decide +kernel
theorem dX7_written_63 : decode cX7_written 63 = .ok (.ireturn, 1) := by decide +kernel
theorem dX7_written_64 : decode cX7_written 64 = .ok (.iload_n 3, 1) := by decide +kernel
theorem dX7_written_65 : decode cX7_written 65 = .ok (.sipush 10000, 3) := by decide +kernel
theorem dX7_written_68 : decode cX7_written 68 = .ok (.irem, 1) := by decide +kernel
theorem dX7_written_69 : decode cX7_written 69 = .ok (.ireturn, 1) := by decide +kernel
