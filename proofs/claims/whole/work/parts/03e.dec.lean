theorem dX9_init_0 : decode cX9_init 0 = .ok (.aload_n 0, 1) := by decide +kernel
theorem dX9_init_1 : decode cX9_init 1 = .ok (.invokespecial 1, 3) := by decide +kernel
theorem dX9_init_4 : decode cX9_init 4 = .ok (.aload_n 0, 1) := by decide +kernel
theorem dX9_init_5 : decode cX9_init 5 = .ok (.sipush 4870, 3) := by decide +kernel
theorem dX9_init_8 : decode cX9_init 8 = .ok (.newarray .int, 2) := by decide +kernel
theorem dX9_init_10 : decode cX9_init 10 = .ok (.putfield 7, 3) := by decide +kernel
theorem dX9_init_13 : decode cX9_init 13 = .ok (.aload_n 0, 1) := by decide +kernel
theorem dX9_init_14 : decode cX9_init 14 = .ok (.sipush 4870, 3) := by decide +kernel
theorem dX9_init_17 : decode cX9_init 17 = .ok (.newarray .int, 2) := by decide +kernel
theorem dX9_init_19 : decode cX9_init 19 = .ok (.putfield 13, 3) := by decide +kernel
theorem dX9_init_22 : decode cX9_init 22 = .ok (.aload_n 0, 1) := by decide +kernel
theorem dX9_init_23 : decode cX9_init 23 = .ok (.sipush 3012, 3) := by decide +kernel
theorem dX9_init_26 : decode cX9_init 26 = .ok (.newarray .int, 2) := by decide +kernel
theorem dX9_init_28 : decode cX9_init 28 = .ok (.putfield 16, 3) := by decide +kernel
theorem dX9_init_31 : decode cX9_init 31 = .ok (.aload_n 0, 1) := by decide +kernel
theorem dX9_init_32 : decode cX9_init 32 = .ok (.sipush 300, 3) := by decide +kernel
theorem dX9_init_35 : decode cX9_init 35 = .ok (.newarray .int, 2) := by decide +kernel
theorem dX9_init_37 : decode cX9_init 37 = .ok (.putfield 19, 3) := by decide +kernel
theorem dX9_init_40 : decode cX9_init 40 = .ok (.aload_n 0, 1) := by decide +kernel
theorem dX9_init_41 : decode cX9_init 41 = .ok (.iconst (-1), 1) := by decide +kernel
theorem dX9_init_42 : decode cX9_init 42 = .ok (.putfield 22, 3) := by decide +kernel
theorem dX9_init_45 : decode cX9_init 45 = .ok (.aload_n 0, 1) := by decide +kernel
theorem dX9_init_46 : decode cX9_init 46 = .ok (.iconst (-1), 1) := by decide +kernel
theorem dX9_init_47 : decode cX9_init 47 = .ok (.putfield 26, 3) := by decide +kernel
theorem dX9_init_50 : decode cX9_init 50 = .ok (.aload_n 0, 1) := by decide +kernel
theorem dX9_init_51 : decode cX9_init 51 = .ok (.sipush 160, 3) := by decide +kernel
theorem dX9_init_54 : decode cX9_init 54 = .ok (.newarray .int, 2) := by decide +kernel
theorem dX9_init_56 : decode cX9_init 56 = .ok (.putfield 29, 3) := by decide +kernel
theorem dX9_init_59 : decode cX9_init 59 = .ok (.aload_n 0, 1) := by decide +kernel
theorem dX9_init_60 : decode cX9_init 60 = .ok (.bipush 11, 2) := by decide +kernel
theorem dX9_init_62 : decode cX9_init 62 = .ok (.newarray .int, 2) := by decide +kernel
theorem dX9_init_64 : decode cX9_init 64 = .ok (.putfield 32, 3) := by decide +kernel
theorem dX9_init_67 : decode cX9_init 67 = .ok (.aload_n 0, 1) := by decide +kernel
theorem dX9_init_68 : decode cX9_init 68 = .ok (.sipush 330, 3) := by decide +kernel
theorem dX9_init_71 : decode cX9_init 71 = .ok (.newarray .long, 2) := by decide +kernel
theorem dX9_init_73 : decode cX9_init 73 = .ok (.putfield 35, 3) := by decide +kernel
theorem dX9_init_76 : decode cX9_init 76 = .ok (.aload_n 0, 1) := by decide +kernel
theorem dX9_init_77 : decode cX9_init 77 = .ok (.sipush 330, 3) := by decide +kernel
theorem dX9_init_80 : decode cX9_init 80 = .ok (.newarray .boolean, 2) := by decide +kernel
theorem dX9_init_82 : decode cX9_init 82 = .ok (.putfield 39, 3) := by decide +kernel
theorem dX9_init_85 : decode cX9_init 85 = .ok (.aload_n 0, 1) := by decide +kernel
theorem dX9_init_86 : decode cX9_init 86 = .ok (.iconst 1, 1) := by decide +kernel
theorem dX9_init_87 : decode cX9_init 87 = .ok (.putfield 43, 3) := by decide +kernel
theorem dX9_init_90 : decode cX9_init 90 = .ok (.aload_n 0, 1) := by decide +kernel
theorem dX9_init_91 : decode cX9_init 91 = .ok (.bipush 110, 2) := by decide +kernel
theorem dX9_init_93 : decode cX9_init 93 = .ok (.newarray .int, 2) := by decide +kernel
theorem dX9_init_95 : decode cX9_init 95 = .ok (.putfield 47, 3) := by decide +kernel
theorem dX9_init_98 : decode cX9_init 98 = .ok (.aload_n 0, 1) := by decide +kernel
theorem dX9_init_99 : decode cX9_init 99 = .ok (.sipush 256, 3) := by decide +kernel
theorem dX9_init_102 : decode cX9_init 102 = .ok (.newarray .int, 2) := by decide +kernel
theorem dX9_init_104 : decode cX9_init 104 = .ok (.putfield 50, 3) := by decide +kernel
theorem dX9_init_107 : decode cX9_init 107 = .ok (.aload_n 0, 1) := by decide +kernel
theorem dX9_init_108 : decode cX9_init 108 = .ok (.sipush 6561, 3) := by decide +kernel
theorem dX9_init_111 : decode cX9_init 111 = .ok (.newarray .boolean, 2) := by decide +kernel
theorem dX9_init_113 : decode cX9_init 113 = .ok (.putfield 53, 3) := by decide +kernel
theorem dX9_init_116 : decode cX9_init 116 = .ok (.aload_n 0, 1) := by decide +kernel
theorem dX9_init_117 : decode cX9_init 117 = .ok (.bipush 9, 2) := by decide +kernel
theorem dX9_init_119 : decode cX9_init 119 = .ok (.newarray .int, 2) := by decide +kernel
theorem dX9_init_121 : decode cX9_init 121 = .ok (.putfield 56, 3) := by decide +kernel
theorem dX9_init_124 : decode cX9_init 124 = .ok (.aload_n 0, 1) := by decide +kernel
theorem dX9_init_125 : decode cX9_init 125 = .ok (.getfield 7, 3) := by decide +kernel
theorem dX9_init_128 : decode cX9_init 128 = .ok (.bipush 9, 2) := by decide +kernel
theorem dX9_init_130 : decode cX9_init 130 = .ok (.sipush 191, 3) := by decide +kernel
theorem dX9_init_133 : decode cX9_init 133 = .ok (.iastore, 1) := by decide +kernel
theorem dX9_init_134 : decode cX9_init 134 = .ok (.aload_n 0, 1) := by decide +kernel
theorem dX9_init_135 : decode cX9_init 135 = .ok (.getfield 7, 3) := by decide +kernel
theorem dX9_init_138 : decode cX9_init 138 = .ok (.iconst 3, 1) := by decide +kernel
theorem dX9_init_139 : decode cX9_init 139 = .ok (.iconst (-1), 1) := by decide +kernel
theorem dX9_init_140 : decode cX9_init 140 = .ok (.iastore, 1) := by decide +kernel
theorem dX9_init_141 : decode cX9_init 141 = .ok (.aload_n 0, 1) := by decide +kernel
theorem dX9_init_142 : decode cX9_init 142 = .ok (.getfield 7, 3) := by decide +kernel
theorem dX9_init_145 : decode cX9_init 145 = .ok (.aload_n 0, 1) := by decide +kernel
theorem dX9_init_146 : decode cX9_init 146 = .ok (.getfield 13, 3) := by decide +kernel
theorem dX9_init_149 : decode cX9_init 149 = .ok (.invokestatic 59, 3) := by decide +kernel
theorem dX9_init_152 : decode cX9_init 152 = .ok (.return_, 1) := by decide +kernel
theorem dX9_copy_0 : decode cX9_copy 0 = .ok (.iconst 0, 1) := by decide +kernel
theorem dX9_copy_1 : decode cX9_copy 1 = .ok (.istore_n 2, 1) := by decide +kernel
theorem dX9_copy_2 : decode cX9_copy 2 = .ok (.iload_n 2, 1) := by decide +kernel
theorem dX9_copy_3 : decode cX9_copy 3 = .ok (.sipush 4870, 3) := by decide +kernel
theorem dX9_copy_6 : decode cX9_copy 6 = .ok (.if_icmp .ge 15, 3) := by decide +kernel
theorem dX9_copy_9 : decode cX9_copy 9 = .ok (.aload_n 1, 1) := by decide +kernel
theorem dX9_copy_10 : decode cX9_copy 10 = .ok (.iload_n 2, 1) := by decide +kernel
theorem dX9_copy_11 : decode cX9_copy 11 = .ok (.aload_n 0, 1) := by decide +kernel
theorem dX9_copy_12 : decode cX9_copy 12 = .ok (.iload_n 2, 1) := by decide +kernel
theorem dX9_copy_13 : decode cX9_copy 13 = .ok (.iaload, 1) := by decide +kernel
theorem dX9_copy_14 : decode cX9_copy 14 = .ok (.iastore, 1) := by decide +kernel
theorem dX9_copy_15 : decode cX9_copy 15 = .ok (.iinc 2 1, 3) := by decide +kernel
theorem dX9_copy_18 : decode cX9_copy 18 = .ok (.goto (-16), 3) := by decide +kernel
theorem dX9_copy_21 : decode cX9_copy 21 = .ok (.return_, 1) := by decide +kernel
theorem dX9_isIn_0 : decode cX9_isIn 0 = .ok (.iload_n 0, 1) := by decide +kernel
theorem dX9_isIn_1 : decode cX9_isIn 1 = .ok (.iload_n 1, 1) := by decide +kernel
theorem dX9_isIn_2 : decode cX9_isIn 2 = .ok (.if_icmp .lt 12, 3) := by decide +kernel
theorem dX9_isIn_5 : decode cX9_isIn 5 = .ok (.iload_n 0, 1) := by decide +kernel
theorem dX9_isIn_6 : decode cX9_isIn 6 = .ok (.iload_n 2, 1) := by decide +kernel
theorem dX9_isIn_7 : decode cX9_isIn 7 = .ok (.if_icmp .gt 7, 3) := by decide +kernel
theorem dX9_isIn_10 : decode cX9_isIn 10 = .ok (.iconst 1, 1) := by decide +kernel
theorem dX9_isIn_11 : decode cX9_isIn 11 = .ok (.goto 4, 3) := by decide +kernel
theorem dX9_isIn_14 : decode cX9_isIn 14 = .ok (.iconst 0, 1) := by decide +kernel
theorem dX9_isIn_15 : decode cX9_isIn 15 = .ok (.ireturn, 1) := by decide +kernel
theorem dX9_cut_0 : decode cX9_cut 0 = .ok (.lload_n 0, 1) := by decide +kernel
theorem dX9_cut_1 : decode cX9_cut 1 = .ok (.iload_n 2, 1) := by decide +kernel
theorem dX9_cut_2 : decode cX9_cut 2 = .ok (.i2l, 1) := by decide +kernel
theorem dX9_cut_3 : decode cX9_cut 3 = .ok (.lcmp, 1) := by decide +kernel
theorem dX9_cut_4 : decode cX9_cut 4 = .ok (.ifCond .ge 7, 3) := by decide +kernel
theorem dX9_cut_7 : decode cX9_cut 7 = .ok (.iload_n 2, 1) := by decide +kernel
theorem dX9_cut_8 : decode cX9_cut 8 = .ok (.goto 16, 3) := by decide +kernel
theorem dX9_cut_11 : decode cX9_cut 11 = .ok (.lload_n 0, 1) := by decide +kernel
theorem dX9_cut_12 : decode cX9_cut 12 = .ok (.iload_n 3, 1) := by decide +kernel
theorem dX9_cut_13 : decode cX9_cut 13 = .ok (.i2l, 1) := by decide +kernel
theorem dX9_cut_14 : decode cX9_cut 14 = .ok (.lcmp, 1) := by decide +kernel
theorem dX9_cut_15 : decode cX9_cut 15 = .ok (.ifCond .le 7, 3) := by decide +kernel
theorem dX9_cut_18 : decode cX9_cut 18 = .ok (.iload_n 3, 1) := by decide +kernel
theorem dX9_cut_19 : decode cX9_cut 19 = .ok (.goto 5, 3) := by decide +kernel
theorem dX9_cut_22 : decode cX9_cut 22 = .ok (.lload_n 0, 1) := by decide +kernel
theorem dX9_cut_23 : decode cX9_cut 23 = .ok (.l2i, 1) := by decide +kernel
theorem dX9_cut_24 : decode cX9_cut 24 = .ok (.ireturn, 1) := by decide +kernel
theorem dX9_has_0 : decode cX9_has 0 = .ok (.iload_n 0, 1) := by decide +kernel
theorem dX9_has_1 : decode cX9_has 1 = .ok (.iload_n 1, 1) := by decide +kernel
theorem dX9_has_2 : decode cX9_has 2 = .ok (.ishr, 1) := by decide +kernel
theorem dX9_has_3 : decode cX9_has 3 = .ok (.iconst 1, 1) := by decide +kernel
theorem dX9_has_4 : decode cX9_has 4 = .ok (.iand, 1) := by decide +kernel
theorem dX9_has_5 : decode cX9_has 5 = .ok (.iconst 1, 1) := by decide +kernel
theorem dX9_has_6 : decode cX9_has 6 = .ok (.if_icmp .ne 7, 3) := by decide +kernel
theorem dX9_has_9 : decode cX9_has 9 = .ok (.iconst 1, 1) := by decide +kernel
theorem dX9_has_10 : decode cX9_has 10 = .ok (.goto 4, 3) := by decide +kernel
theorem dX9_has_13 : decode cX9_has 13 = .ok (.iconst 0, 1) := by decide +kernel
theorem dX9_has_14 : decode cX9_has 14 = .ok (.ireturn, 1) := by decide +kernel
theorem dX9_bits_0 : decode cX9_bits 0 = .ok (.iconst 0, 1) := by decide +kernel
theorem dX9_bits_1 : decode cX9_bits 1 = .ok (.istore_n 1, 1) := by decide +kernel
theorem dX9_bits_2 : decode cX9_bits 2 = .ok (.iload_n 0, 1) := by decide +kernel
theorem dX9_bits_3 : decode cX9_bits 3 = .ok (.istore_n 2, 1) := by decide +kernel
theorem dX9_bits_4 : decode cX9_bits 4 = .ok (.iload_n 2, 1) := by decide +kernel
theorem dX9_bits_5 : decode cX9_bits 5 = .ok (.ifCond .eq 15, 3) := by decide +kernel
theorem dX9_bits_8 : decode cX9_bits 8 = .ok (.iinc 1 1, 3) := by decide +kernel
theorem dX9_bits_11 : decode cX9_bits 11 = .ok (.iload_n 2, 1) := by decide +kernel
theorem dX9_bits_12 : decode cX9_bits 12 = .ok (.iload_n 2, 1) := by decide +kernel
theorem dX9_bits_13 : decode cX9_bits 13 = .ok (.iconst 1, 1) := by decide +kernel
theorem dX9_bits_14 : decode cX9_bits 14 = .ok (.isub, 1) := by decide +kernel
theorem dX9_bits_15 : decode cX9_bits 15 = .ok (.iand, 1) := by decide +kernel
theorem dX9_bits_16 : decode cX9_bits 16 = .ok (.istore_n 2, 1) := by decide +kernel
theorem dX9_bits_17 : decode cX9_bits 17 = .ok (.goto (-13), 3) := by decide +kernel
theorem dX9_bits_20 : decode cX9_bits 20 = .ok (.iload_n 1, 1) := by decide +kernel
theorem dX9_bits_21 : decode cX9_bits 21 = .ok (.ireturn, 1) := by decide +kernel
theorem dX9_isFact_0 : decode cX9_isFact 0 = .ok (.iload_n 1, 1) := by decide +kernel
theorem dX9_isFact_1 : decode cX9_isFact 1 = .ok (.iconst 0, 1) := by decide +kernel
theorem dX9_isFact_2 : decode cX9_isFact 2 = .ok (.aload_n 0, 1) := by decide +kernel
theorem dX9_isFact_3 : decode cX9_isFact 3 = .ok (.getfield 7, 3) := by decide +kernel
theorem dX9_isFact_6 : decode cX9_isFact 6 = .ok (.iconst 0, 1) := by decide +kernel
theorem dX9_isFact_7 : decode cX9_isFact 7 = .ok (.iaload, 1) := by decide +kernel
theorem dX9_isFact_8 : decode cX9_isFact 8 = .ok (.iconst 1, 1) := by decide +kernel
theorem dX9_isFact_9 : decode cX9_isFact 9 = .ok (.isub, 1) := by decide +kernel
theorem dX9_isFact_10 : decode cX9_isFact 10 = .ok (.invokestatic 63, 3) := by decide +kernel
theorem dX9_isFact_13 : decode cX9_isFact 13 = .ok (.ireturn, 1) := by decide +kernel
theorem dX9_isProphet_0 : decode cX9_isProphet 0 = .ok (.iload_n 1, 1) := by decide +kernel
theorem dX9_isProphet_1 : decode cX9_isProphet 1 = .ok (.iconst 0, 1) := by decide +kernel
theorem dX9_isProphet_2 : decode cX9_isProphet 2 = .ok (.aload_n 0, 1) := by decide +kernel
theorem dX9_isProphet_3 : decode cX9_isProphet 3 = .ok (.getfield 7, 3) := by decide +kernel
theorem dX9_isProphet_6 : decode cX9_isProphet 6 = .ok (.iconst 1, 1) := by decide +kernel
theorem dX9_isProphet_7 : decode cX9_isProphet 7 = .ok (.iaload, 1) := by decide +kernel
theorem dX9_isProphet_8 : decode cX9_isProphet 8 = .ok (.iconst 1, 1) := by decide +kernel
theorem dX9_isProphet_9 : decode cX9_isProphet 9 = .ok (.isub, 1) := by decide +kernel
theorem dX9_isProphet_10 : decode cX9_isProphet 10 = .ok (.invokestatic 63, 3) := by decide +kernel
theorem dX9_isProphet_13 : decode cX9_isProphet 13 = .ok (.ireturn, 1) := by decide +kernel
theorem dX9_isProphecy_0 : decode cX9_isProphecy 0 = .ok (.iload_n 1, 1) := by decide +kernel
theorem dX9_isProphecy_1 : decode cX9_isProphecy 1 = .ok (.iconst 0, 1) := by decide +kernel
theorem dX9_isProphecy_2 : decode cX9_isProphecy 2 = .ok (.aload_n 0, 1) := by decide +kernel
theorem dX9_isProphecy_3 : decode cX9_isProphecy 3 = .ok (.getfield 7, 3) := by decide +kernel
theorem dX9_isProphecy_6 : decode cX9_isProphecy 6 = .ok (.bipush 11, 2) := by decide +kernel
theorem dX9_isProphecy_8 : decode cX9_isProphecy 8 = .ok (.iaload, 1) := by decide +kernel
theorem dX9_isProphecy_9 : decode cX9_isProphecy 9 = .ok (.iconst 1, 1) := by decide +kernel
theorem dX9_isProphecy_10 : decode cX9_isProphecy 10 = .ok (.isub, 1) := by decide +kernel
theorem dX9_isProphecy_11 : decode cX9_isProphecy 11 = .ok (.invokestatic 63, 3) := by decide +kernel
theorem dX9_isProphecy_14 : decode cX9_isProphecy 14 = .ok (.ireturn, 1) := by decide +kernel
theorem dX9_areFacts_0 : decode cX9_areFacts 0 = .ok (.iload_n 1, 1) := by decide +kernel
theorem dX9_areFacts_1 : decode cX9_areFacts 1 = .ok (.iconst 1, 1) := by decide +kernel
theorem dX9_areFacts_2 : decode cX9_areFacts 2 = .ok (.iconst 1, 1) := by decide +kernel
theorem dX9_areFacts_3 : decode cX9_areFacts 3 = .ok (.aload_n 0, 1) := by decide +kernel
theorem dX9_areFacts_4 : decode cX9_areFacts 4 = .ok (.getfield 7, 3) := by decide +kernel
theorem dX9_areFacts_7 : decode cX9_areFacts 7 = .ok (.iconst 0, 1) := by decide +kernel
theorem dX9_areFacts_8 : decode cX9_areFacts 8 = .ok (.iaload, 1) := by decide +kernel
theorem dX9_areFacts_9 : decode cX9_areFacts 9 = .ok (.ishl, 1) := by decide +kernel
theorem dX9_areFacts_10 : decode cX9_areFacts 10 = .ok (.iconst 1, 1) := by decide +kernel
theorem dX9_areFacts_11 : decode cX9_areFacts 11 = .ok (.isub, 1) := by decide +kernel
theorem dX9_areFacts_12 : decode cX9_areFacts 12 = .ok (.invokestatic 63, 3) := by decide +kernel
theorem dX9_areFacts_15 : decode cX9_areFacts 15 = .ok (.ireturn, 1) := by decide +kernel
theorem dX9_get_0 : decode cX9_get 0 = .ok (.aload_n 0, 1) := by decide +kernel
theorem dX9_get_1 : decode cX9_get 1 = .ok (.getfield 7, 3) := by decide +kernel
theorem dX9_get_4 : decode cX9_get 4 = .ok (.bipush 13, 2) := by decide +kernel
theorem dX9_get_6 : decode cX9_get 6 = .ok (.iconst 5, 1) := by decide +kernel
theorem dX9_get_7 : decode cX9_get 7 = .ok (.iload_n 1, 1) := by decide +kernel
theorem dX9_get_8 : decode cX9_get 8 = .ok (.imul, 1) := by decide +kernel
theorem dX9_get_9 : decode cX9_get 9 = .ok (.iadd, 1) := by decide +kernel
theorem dX9_get_10 : decode cX9_get 10 = .ok (.iload_n 2, 1) := by decide +kernel
theorem dX9_get_11 : decode cX9_get 11 = .ok (.iadd, 1) := by decide +kernel
theorem dX9_get_12 : decode cX9_get 12 = .ok (.iaload, 1) := by decide +kernel
theorem dX9_get_13 : decode cX9_get 13 = .ok (.ireturn, 1) := by decide +kernel
theorem dX9_put_0 : decode cX9_put 0 = .ok (.aload_n 0, 1) := by decide +kernel
theorem dX9_put_1 : decode cX9_put 1 = .ok (.getfield 7, 3) := by decide +kernel
theorem dX9_put_4 : decode cX9_put 4 = .ok (.bipush 13, 2) := by decide +kernel
theorem dX9_put_6 : decode cX9_put 6 = .ok (.iconst 5, 1) := by decide +kernel
theorem dX9_put_7 : decode cX9_put 7 = .ok (.iload_n 1, 1) := by decide +kernel
theorem dX9_put_8 : decode cX9_put 8 = .ok (.imul, 1) := by decide +kernel
theorem dX9_put_9 : decode cX9_put 9 = .ok (.iadd, 1) := by decide +kernel
theorem dX9_put_10 : decode cX9_put 10 = .ok (.iload_n 2, 1) := by decide +kernel
theorem dX9_put_11 : decode cX9_put 11 = .ok (.iadd, 1) := by decide +kernel
theorem dX9_put_12 : decode cX9_put 12 = .ok (.iload_n 3, 1) := by decide +kernel
theorem dX9_put_13 : decode cX9_put 13 = .ok (.iastore, 1) := by decide +kernel
theorem dX9_put_14 : decode cX9_put 14 = .ok (.return_, 1) := by decide +kernel
theorem dX9_got_0 : decode cX9_got 0 = .ok (.aload_n 0, 1) := by decide +kernel
theorem dX9_got_1 : decode cX9_got 1 = .ok (.getfield 7, 3) := by decide +kernel
theorem dX9_got_4 : decode cX9_got 4 = .ok (.bipush 38, 2) := by decide +kernel
theorem dX9_got_6 : decode cX9_got 6 = .ok (.bipush 6, 2) := by decide +kernel
theorem dX9_got_8 : decode cX9_got 8 = .ok (.iload_n 1, 1) := by decide +kernel
theorem dX9_got_9 : decode cX9_got 9 = .ok (.imul, 1) := by decide +kernel
theorem dX9_got_10 : decode cX9_got 10 = .ok (.iadd, 1) := by decide +kernel
theorem dX9_got_11 : decode cX9_got 11 = .ok (.iload_n 2, 1) := by decide +kernel
theorem dX9_got_12 : decode cX9_got 12 = .ok (.iadd, 1) := by decide +kernel
theorem dX9_got_13 : decode cX9_got 13 = .ok (.iaload, 1) := by decide +kernel
theorem dX9_got_14 : decode cX9_got 14 = .ok (.ireturn, 1) := by decide +kernel
theorem dX9_lay_0 : decode cX9_lay 0 = .ok (.aload_n 0, 1) := by decide +kernel
theorem dX9_lay_1 : decode cX9_lay 1 = .ok (.getfield 7, 3) := by decide +kernel
theorem dX9_lay_4 : decode cX9_lay 4 = .ok (.bipush 38, 2) := by decide +kernel
theorem dX9_lay_6 : decode cX9_lay 6 = .ok (.bipush 6, 2) := by decide +kernel
theorem dX9_lay_8 : decode cX9_lay 8 = .ok (.iload_n 1, 1) := by decide +kernel
theorem dX9_lay_9 : decode cX9_lay 9 = .ok (.imul, 1) := by decide +kernel
theorem dX9_lay_10 : decode cX9_lay 10 = .ok (.iadd, 1) := by decide +kernel
theorem dX9_lay_11 : decode cX9_lay 11 = .ok (.iload_n 2, 1) := by decide +kernel
theorem dX9_lay_12 : decode cX9_lay 12 = .ok (.iadd, 1) := by decide +kernel
theorem dX9_lay_13 : decode cX9_lay 13 = .ok (.iload_n 3, 1) := by decide +kernel
theorem dX9_lay_14 : decode cX9_lay 14 = .ok (.iastore, 1) := by decide +kernel
theorem dX9_lay_15 : decode cX9_lay 15 = .ok (.return_, 1) := by decide +kernel
theorem dX9_isSo_0 : decode cX9_isSo 0 = .ok (.iload_n 0, 1) := by decide +kernel
theorem dX9_isSo_1 : decode cX9_isSo 1 = .ok (.ifCond .eq 19, 3) := by decide +kernel
theorem dX9_isSo_4 : decode cX9_isSo 4 = .ok (.iload_n 1, 1) := by decide +kernel
theorem dX9_isSo_5 : decode cX9_isSo 5 = .ok (.iload_n 2, 1) := by decide +kernel
theorem dX9_isSo_6 : decode cX9_isSo 6 = .ok (.iconst (-1), 1) := by decide +kernel
theorem dX9_isSo_7 : decode cX9_isSo 7 = .ok (.ixor, 1) := by decide +kernel
theorem dX9_isSo_8 : decode cX9_isSo 8 = .ok (.iand, 1) := by decide +kernel
theorem dX9_isSo_9 : decode cX9_isSo 9 = .ok (.ifCond .ne 7, 3) := by decide +kernel
theorem dX9_isSo_12 : decode cX9_isSo 12 = .ok (.iconst 1, 1) := by decide +kernel
theorem dX9_isSo_13 : decode cX9_isSo 13 = .ok (.goto 18, 3) := by decide +kernel
theorem dX9_isSo_16 : decode cX9_isSo 16 = .ok (.iconst 0, 1) := by decide +kernel
theorem dX9_isSo_17 : decode cX9_isSo 17 = .ok (.goto 14, 3) := by decide +kernel
theorem dX9_isSo_20 : decode cX9_isSo 20 = .ok (.iload_n 1, 1) := by decide +kernel
theorem dX9_isSo_21 : decode cX9_isSo 21 = .ok (.iload_n 2, 1) := by decide +kernel
theorem dX9_isSo_22 : decode cX9_isSo 22 = .ok (.iand, 1) := by decide +kernel
theorem dX9_isSo_23 : decode cX9_isSo 23 = .ok (.ifCond .eq 7, 3) := by decide +kernel
theorem dX9_isSo_26 : decode cX9_isSo 26 = .ok (.iconst 1, 1) := by decide +kernel
theorem dX9_isSo_27 : decode cX9_isSo 27 = .ok (.goto 4, 3) := by decide +kernel
theorem dX9_isSo_30 : decode cX9_isSo 30 = .ok (.iconst 0, 1) := by decide +kernel
theorem dX9_isSo_31 : decode cX9_isSo 31 = .ok (.ireturn, 1) := by decide +kernel
theorem dX9_isSoIn_0 : decode cX9_isSoIn 0 = .ok (.aload_n 0, 1) := by decide +kernel
theorem dX9_isSoIn_1 : decode cX9_isSoIn 1 = .ok (.iload_n 1, 1) := by decide +kernel
theorem dX9_isSoIn_2 : decode cX9_isSoIn 2 = .ok (.iconst 1, 1) := by decide +kernel
theorem dX9_isSoIn_3 : decode cX9_isSoIn 3 = .ok (.invokevirtual 67, 3) := by decide +kernel
theorem dX9_isSoIn_6 : decode cX9_isSoIn 6 = .ok (.iconst 1, 1) := by decide +kernel
theorem dX9_isSoIn_7 : decode cX9_isSoIn 7 = .ok (.if_icmp .ne 7, 3) := by decide +kernel
theorem dX9_isSoIn_10 : decode cX9_isSoIn 10 = .ok (.iconst 1, 1) := by decide +kernel
theorem dX9_isSoIn_11 : decode cX9_isSoIn 11 = .ok (.goto 4, 3) := by decide +kernel
theorem dX9_isSoIn_14 : decode cX9_isSoIn 14 = .ok (.iconst 0, 1) := by decide +kernel
theorem dX9_isSoIn_15 : decode cX9_isSoIn 15 = .ok (.aload_n 0, 1) := by decide +kernel
theorem dX9_isSoIn_16 : decode cX9_isSoIn 16 = .ok (.iload_n 1, 1) := by decide +kernel
theorem dX9_isSoIn_17 : decode cX9_isSoIn 17 = .ok (.iconst 2, 1) := by decide +kernel
theorem dX9_isSoIn_18 : decode cX9_isSoIn 18 = .ok (.invokevirtual 67, 3) := by decide +kernel
theorem dX9_isSoIn_21 : decode cX9_isSoIn 21 = .ok (.iload_n 2, 1) := by decide +kernel
theorem dX9_isSoIn_22 : decode cX9_isSoIn 22 = .ok (.invokestatic 71, 3) := by decide +kernel
theorem dX9_isSoIn_25 : decode cX9_isSoIn 25 = .ok (.ireturn, 1) := by decide +kernel
theorem dX9_isOpen_0 : decode cX9_isOpen 0 = .ok (.aload_n 0, 1) := by decide +kernel
theorem dX9_isOpen_1 : decode cX9_isOpen 1 = .ok (.iload_n 1, 1) := by decide +kernel
theorem dX9_isOpen_2 : decode cX9_isOpen 2 = .ok (.invokevirtual 75, 3) := by decide +kernel
theorem dX9_isOpen_5 : decode cX9_isOpen 5 = .ok (.ifCond .eq 16, 3) := by decide +kernel
theorem dX9_isOpen_8 : decode cX9_isOpen 8 = .ok (.aload_n 0, 1) := by decide +kernel
theorem dX9_isOpen_9 : decode cX9_isOpen 9 = .ok (.iload_n 1, 1) := by decide +kernel
theorem dX9_isOpen_10 : decode cX9_isOpen 10 = .ok (.iconst 5, 1) := by decide +kernel
theorem dX9_isOpen_11 : decode cX9_isOpen 11 = .ok (.invokevirtual 67, 3) := by decide +kernel
theorem dX9_isOpen_14 : decode cX9_isOpen 14 = .ok (.ifCond .ne 7, 3) := by decide +kernel
theorem dX9_isOpen_17 : decode cX9_isOpen 17 = .ok (.iconst 1, 1) := by decide +kernel
theorem dX9_isOpen_18 : decode cX9_isOpen 18 = .ok (.goto 4, 3) := by decide +kernel
theorem dX9_isOpen_21 : decode cX9_isOpen 21 = .ok (.iconst 0, 1) := by decide +kernel
theorem dX9_isOpen_22 : decode cX9_isOpen 22 = .ok (.ireturn, 1) := by decide +kernel
theorem dX9_fact_0 : decode cX9_fact 0 = .ok (.iload_n 1, 1) := by decide +kernel
theorem dX9_fact_1 : decode cX9_fact 1 = .ok (.iconst 0, 1) := by decide +kernel
theorem dX9_fact_2 : decode cX9_fact 2 = .ok (.bipush 10, 2) := by decide +kernel
theorem dX9_fact_4 : decode cX9_fact 4 = .ok (.invokestatic 63, 3) := by decide +kernel
theorem dX9_fact_7 : decode cX9_fact 7 = .ok (.ifCond .eq 24, 3) := by decide +kernel
theorem dX9_fact_10 : decode cX9_fact 10 = .ok (.iload_n 2, 1) := by decide +kernel
theorem dX9_fact_11 : decode cX9_fact 11 = .ok (.iconst 0, 1) := by decide +kernel
theorem dX9_fact_12 : decode cX9_fact 12 = .ok (.bipush 99, 2) := by decide +kernel
theorem dX9_fact_14 : decode cX9_fact 14 = .ok (.invokestatic 63, 3) := by decide +kernel
theorem dX9_fact_17 : decode cX9_fact 17 = .ok (.ifCond .eq 14, 3) := by decide +kernel
theorem dX9_fact_20 : decode cX9_fact 20 = .ok (.aload_n 0, 1) := by decide +kernel
theorem dX9_fact_21 : decode cX9_fact 21 = .ok (.getfield 7, 3) := by decide +kernel
theorem dX9_fact_24 : decode cX9_fact 24 = .ok (.iconst 0, 1) := by decide +kernel
theorem dX9_fact_25 : decode cX9_fact 25 = .ok (.iaload, 1) := by decide +kernel
theorem dX9_fact_26 : decode cX9_fact 26 = .ok (.bipush 8, 2) := by decide +kernel
theorem dX9_fact_28 : decode cX9_fact 28 = .ok (.if_icmp .ne 5, 3) := by decide +kernel
theorem dX9_fact_31 : decode cX9_fact 31 = .ok (.iconst (-1), 1) := by decide +kernel
theorem dX9_fact_32 : decode cX9_fact 32 = .ok (.ireturn, 1) := by decide +kernel
theorem dX9_fact_33 : decode cX9_fact 33 = .ok (.aload_n 0, 1) := by decide +kernel
theorem dX9_fact_34 : decode cX9_fact 34 = .ok (.getfield 7, 3) := by decide +kernel
theorem dX9_fact_37 : decode cX9_fact 37 = .ok (.bipush 110, 2) := by decide +kernel
theorem dX9_fact_39 : decode cX9_fact 39 = .ok (.iconst 2, 1) := by decide +kernel
theorem dX9_fact_40 : decode cX9_fact 40 = .ok (.aload_n 0, 1) := by decide +kernel
theorem dX9_fact_41 : decode cX9_fact 41 = .ok (.getfield 7, 3) := by decide +kernel
theorem dX9_fact_44 : decode cX9_fact 44 = .ok (.iconst 0, 1) := by decide +kernel
theorem dX9_fact_45 : decode cX9_fact 45 = .ok (.iaload, 1) := by decide +kernel
theorem dX9_fact_46 : decode cX9_fact 46 = .ok (.imul, 1) := by decide +kernel
theorem dX9_fact_47 : decode cX9_fact 47 = .ok (.iadd, 1) := by decide +kernel
theorem dX9_fact_48 : decode cX9_fact 48 = .ok (.iload_n 1, 1) := by decide +kernel
theorem dX9_fact_49 : decode cX9_fact 49 = .ok (.iastore, 1) := by decide +kernel
theorem dX9_fact_50 : decode cX9_fact 50 = .ok (.aload_n 0, 1) := by decide +kernel
theorem dX9_fact_51 : decode cX9_fact 51 = .ok (.getfield 7, 3) := by decide +kernel
theorem dX9_fact_54 : decode cX9_fact 54 = .ok (.bipush 110, 2) := by decide +kernel
theorem dX9_fact_56 : decode cX9_fact 56 = .ok (.iconst 2, 1) := by decide +kernel
theorem dX9_fact_57 : decode cX9_fact 57 = .ok (.aload_n 0, 1) := by decide +kernel
theorem dX9_fact_58 : decode cX9_fact 58 = .ok (.getfield 7, 3) := by decide +kernel
theorem dX9_fact_61 : decode cX9_fact 61 = .ok (.iconst 0, 1) := by decide +kernel
theorem dX9_fact_62 : decode cX9_fact 62 = .ok (.iaload, 1) := by decide +kernel
theorem dX9_fact_63 : decode cX9_fact 63 = .ok (.imul, 1) := by decide +kernel
theorem dX9_fact_64 : decode cX9_fact 64 = .ok (.iadd, 1) := by decide +kernel
theorem dX9_fact_65 : decode cX9_fact 65 = .ok (.iconst 1, 1) := by decide +kernel
theorem dX9_fact_66 : decode cX9_fact 66 = .ok (.iadd, 1) := by decide +kernel
theorem dX9_fact_67 : decode cX9_fact 67 = .ok (.iload_n 2, 1) := by decide +kernel
theorem dX9_fact_68 : decode cX9_fact 68 = .ok (.iastore, 1) := by decide +kernel
theorem dX9_fact_69 : decode cX9_fact 69 = .ok (.aload_n 0, 1) := by decide +kernel
theorem dX9_fact_70 : decode cX9_fact 70 = .ok (.getfield 7, 3) := by decide +kernel
theorem dX9_fact_73 : decode cX9_fact 73 = .ok (.iconst 0, 1) := by decide +kernel
theorem dX9_fact_74 : decode cX9_fact 74 = .ok (.dup2, 1) := by decide +kernel
theorem dX9_fact_75 : decode cX9_fact 75 = .ok (.iaload, 1) := by decide +kernel
theorem dX9_fact_76 : decode cX9_fact 76 = .ok (.iconst 1, 1) := by decide +kernel
theorem dX9_fact_77 : decode cX9_fact 77 = .ok (.iadd, 1) := by decide +kernel
theorem dX9_fact_78 : decode cX9_fact 78 = .ok (.iastore, 1) := by decide +kernel
theorem dX9_fact_79 : decode cX9_fact 79 = .ok (.aload_n 0, 1) := by decide +kernel
theorem dX9_fact_80 : decode cX9_fact 80 = .ok (.getfield 7, 3) := by decide +kernel
theorem dX9_fact_83 : decode cX9_fact 83 = .ok (.iconst 0, 1) := by decide +kernel
theorem dX9_fact_84 : decode cX9_fact 84 = .ok (.iaload, 1) := by decide +kernel
theorem dX9_fact_85 : decode cX9_fact 85 = .ok (.iconst 1, 1) := by decide +kernel
theorem dX9_fact_86 : decode cX9_fact 86 = .ok (.isub, 1) := by decide +kernel
theorem dX9_fact_87 : decode cX9_fact 87 = .ok (.ireturn, 1) := by decide +kernel
theorem dX9_prophet_0 : decode cX9_prophet 0 = .ok (.iload_n 1, 1) := by decide +kernel
theorem dX9_prophet_1 : decode cX9_prophet 1 = .ok (.iconst 0, 1) := by decide +kernel
theorem dX9_prophet_2 : decode cX9_prophet 2 = .ok (.sipush 9999, 3) := by decide +kernel
theorem dX9_prophet_5 : decode cX9_prophet 5 = .ok (.invokestatic 63, 3) := by decide +kernel
theorem dX9_prophet_8 : decode cX9_prophet 8 = .ok (.ifCond .eq 23, 3) := by decide +kernel
theorem dX9_prophet_11 : decode cX9_prophet 11 = .ok (.iload_n 2, 1) := by decide +kernel
theorem dX9_prophet_12 : decode cX9_prophet 12 = .ok (.iconst 0, 1) := by decide +kernel
theorem dX9_prophet_13 : decode cX9_prophet 13 = .ok (.bipush 99, 2) := by decide +kernel
theorem dX9_prophet_15 : decode cX9_prophet 15 = .ok (.invokestatic 63, 3) := by decide +kernel
theorem dX9_prophet_18 : decode cX9_prophet 18 = .ok (.ifCond .eq 13, 3) := by decide +kernel
theorem dX9_prophet_21 : decode cX9_prophet 21 = .ok (.aload_n 0, 1) := by decide +kernel
theorem dX9_prophet_22 : decode cX9_prophet 22 = .ok (.getfield 7, 3) := by decide +kernel
theorem dX9_prophet_25 : decode cX9_prophet 25 = .ok (.iconst 1, 1) := by decide +kernel
theorem dX9_prophet_26 : decode cX9_prophet 26 = .ok (.iaload, 1) := by decide +kernel
theorem dX9_prophet_27 : decode cX9_prophet 27 = .ok (.iconst 5, 1) := by decide +kernel
theorem dX9_prophet_28 : decode cX9_prophet 28 = .ok (.if_icmp .ne 5, 3) := by decide +kernel
theorem dX9_prophet_31 : decode cX9_prophet 31 = .ok (.iconst (-1), 1) := by decide +kernel
theorem dX9_prophet_32 : decode cX9_prophet 32 = .ok (.ireturn, 1) := by decide +kernel
theorem dX9_prophet_33 : decode cX9_prophet 33 = .ok (.aload_n 0, 1) := by decide +kernel
theorem dX9_prophet_34 : decode cX9_prophet 34 = .ok (.getfield 7, 3) := by decide +kernel
theorem dX9_prophet_37 : decode cX9_prophet 37 = .ok (.iconst 1, 1) := by decide +kernel
theorem dX9_prophet_38 : decode cX9_prophet 38 = .ok (.iaload, 1) := by decide +kernel
theorem dX9_prophet_39 : decode cX9_prophet 39 = .ok (.istore_n 3, 1) := by decide +kernel
theorem dX9_prophet_40 : decode cX9_prophet 40 = .ok (.aload_n 0, 1) := by decide +kernel
theorem dX9_prophet_41 : decode cX9_prophet 41 = .ok (.iload_n 3, 1) := by decide +kernel
theorem dX9_prophet_42 : decode cX9_prophet 42 = .ok (.iconst 3, 1) := by decide +kernel
theorem dX9_prophet_43 : decode cX9_prophet 43 = .ok (.iload_n 1, 1) := by decide +kernel
theorem dX9_prophet_44 : decode cX9_prophet 44 = .ok (.invokevirtual 79, 3) := by decide +kernel
theorem dX9_prophet_47 : decode cX9_prophet 47 = .ok (.aload_n 0, 1) := by decide +kernel
theorem dX9_prophet_48 : decode cX9_prophet 48 = .ok (.iload_n 3, 1) := by decide +kernel
theorem dX9_prophet_49 : decode cX9_prophet 49 = .ok (.iconst 4, 1) := by decide +kernel
theorem dX9_prophet_50 : decode cX9_prophet 50 = .ok (.iload_n 2, 1) := by decide +kernel
theorem dX9_prophet_51 : decode cX9_prophet 51 = .ok (.invokevirtual 79, 3) := by decide +kernel
theorem dX9_prophet_54 : decode cX9_prophet 54 = .ok (.aload_n 0, 1) := by decide +kernel
theorem dX9_prophet_55 : decode cX9_prophet 55 = .ok (.iload_n 3, 1) := by decide +kernel
theorem dX9_prophet_56 : decode cX9_prophet 56 = .ok (.invokevirtual 83, 3) := by decide +kernel
theorem dX9_prophet_59 : decode cX9_prophet 59 = .ok (.aload_n 0, 1) := by decide +kernel
theorem dX9_prophet_60 : decode cX9_prophet 60 = .ok (.getfield 7, 3) := by decide +kernel
theorem dX9_prophet_63 : decode cX9_prophet 63 = .ok (.iconst 1, 1) := by decide +kernel
theorem dX9_prophet_64 : decode cX9_prophet 64 = .ok (.dup2, 1) := by decide +kernel
theorem dX9_prophet_65 : decode cX9_prophet 65 = .ok (.iaload, 1) := by decide +kernel
theorem dX9_prophet_66 : decode cX9_prophet 66 = .ok (.iconst 1, 1) := by decide +kernel
theorem dX9_prophet_67 : decode cX9_prophet 67 = .ok (.iadd, 1) := by decide +kernel
theorem dX9_prophet_68 : decode cX9_prophet 68 = .ok (.iastore, 1) := by decide +kernel
theorem dX9_prophet_69 : decode cX9_prophet 69 = .ok (.iload_n 3, 1) := by decide +kernel
theorem dX9_prophet_70 : decode cX9_prophet 70 = .ok (.ireturn, 1) := by decide +kernel
theorem dX9_begin_0 : decode cX9_begin 0 = .ok (.aload_n 0, 1) := by decide +kernel
theorem dX9_begin_1 : decode cX9_begin 1 = .ok (.iload_n 1, 1) := by decide +kernel
theorem dX9_begin_2 : decode cX9_begin 2 = .ok (.iconst 0, 1) := by decide +kernel
theorem dX9_begin_3 : decode cX9_begin 3 = .ok (.aload_n 0, 1) := by decide +kernel
theorem dX9_begin_4 : decode cX9_begin 4 = .ok (.iload_n 1, 1) := by decide +kernel
theorem dX9_begin_5 : decode cX9_begin 5 = .ok (.iconst 3, 1) := by decide +kernel
theorem dX9_begin_6 : decode cX9_begin 6 = .ok (.invokevirtual 87, 3) := by decide +kernel
theorem dX9_begin_9 : decode cX9_begin 9 = .ok (.invokevirtual 79, 3) := by decide +kernel
theorem dX9_begin_12 : decode cX9_begin 12 = .ok (.aload_n 0, 1) := by decide +kernel
theorem dX9_begin_13 : decode cX9_begin 13 = .ok (.iload_n 1, 1) := by decide +kernel
theorem dX9_begin_14 : decode cX9_begin 14 = .ok (.iconst 1, 1) := by decide +kernel
theorem dX9_begin_15 : decode cX9_begin 15 = .ok (.aload_n 0, 1) := by decide +kernel
theorem dX9_begin_16 : decode cX9_begin 16 = .ok (.iload_n 1, 1) := by decide +kernel
theorem dX9_begin_17 : decode cX9_begin 17 = .ok (.iconst 4, 1) := by decide +kernel
theorem dX9_begin_18 : decode cX9_begin 18 = .ok (.invokevirtual 87, 3) := by decide +kernel
theorem dX9_begin_21 : decode cX9_begin 21 = .ok (.invokevirtual 79, 3) := by decide +kernel
theorem dX9_begin_24 : decode cX9_begin 24 = .ok (.aload_n 0, 1) := by decide +kernel
theorem dX9_begin_25 : decode cX9_begin 25 = .ok (.iload_n 1, 1) := by decide +kernel
theorem dX9_begin_26 : decode cX9_begin 26 = .ok (.iconst 2, 1) := by decide +kernel
theorem dX9_begin_27 : decode cX9_begin 27 = .ok (.iconst 0, 1) := by decide +kernel
theorem dX9_begin_28 : decode cX9_begin 28 = .ok (.invokevirtual 79, 3) := by decide +kernel
theorem dX9_begin_31 : decode cX9_begin 31 = .ok (.return_, 1) := by decide +kernel
theorem dX9_four_0 : decode cX9_four 0 = .ok (.bipush 24, 2) := by decide +kernel
theorem dX9_four_2 : decode cX9_four 2 = .ok (.istore_n 2, 1) := by decide +kernel
theorem dX9_four_3 : decode cX9_four 3 = .ok (.iload_n 2, 1) := by decide +kernel
theorem dX9_four_4 : decode cX9_four 4 = .ok (.ifCond .lt 35, 3) := by decide +kernel
theorem dX9_four_7 : decode cX9_four 7 = .ok (.aload_n 0, 1) := by decide +kernel
theorem dX9_four_8 : decode cX9_four 8 = .ok (.getfield 19, 3) := by decide +kernel
theorem dX9_four_11 : decode cX9_four 11 = .ok (.aload_n 0, 1) := by decide +kernel
theorem dX9_four_12 : decode cX9_four 12 = .ok (.getfield 90, 3) := by decide +kernel
theorem dX9_four_15 : decode cX9_four 15 = .ok (.iload_n 1, 1) := by decide +kernel
theorem dX9_four_16 : decode cX9_four 16 = .ok (.iload_n 2, 1) := by decide +kernel
theorem dX9_four_17 : decode cX9_four 17 = .ok (.ishr, 1) := by decide +kernel
theorem dX9_four_18 : decode cX9_four 18 = .ok (.sipush 255, 3) := by decide +kernel
theorem dX9_four_21 : decode cX9_four 21 = .ok (.iand, 1) := by decide +kernel
theorem dX9_four_22 : decode cX9_four 22 = .ok (.iastore, 1) := by decide +kernel
theorem dX9_four_23 : decode cX9_four 23 = .ok (.aload_n 0, 1) := by decide +kernel
theorem dX9_four_24 : decode cX9_four 24 = .ok (.dup, 1) := by decide +kernel
theorem dX9_four_25 : decode cX9_four 25 = .ok (.getfield 90, 3) := by decide +kernel
theorem dX9_four_28 : decode cX9_four 28 = .ok (.iconst 1, 1) := by decide +kernel
theorem dX9_four_29 : decode cX9_four 29 = .ok (.iadd, 1) := by decide +kernel
theorem dX9_four_30 : decode cX9_four 30 = .ok (.putfield 90, 3) := by decide +kernel
theorem dX9_four_33 : decode cX9_four 33 = .ok (.iinc 2 (-8), 3) := by decide +kernel
theorem dX9_four_36 : decode cX9_four 36 = .ok (.goto (-33), 3) := by decide +kernel
theorem dX9_four_39 : decode cX9_four 39 = .ok (.return_, 1) := by decide +kernel
theorem dX9_feed_0 : decode cX9_feed 0 = .ok (.aload_n 0, 1) := by decide +kernel
theorem dX9_feed_1 : decode cX9_feed 1 = .ok (.getfield 90, 3) := by decide +kernel
theorem dX9_feed_4 : decode cX9_feed 4 = .ok (.bipush 20, 2) := by decide +kernel
theorem dX9_feed_6 : decode cX9_feed 6 = .ok (.iadd, 1) := by decide +kernel
theorem dX9_feed_7 : decode cX9_feed 7 = .ok (.sipush 300, 3) := by decide +kernel
theorem dX9_feed_10 : decode cX9_feed 10 = .ok (.if_icmp .le 5, 3) := by decide +kernel
theorem dX9_feed_13 : decode cX9_feed 13 = .ok (.iconst (-1), 1) := by decide +kernel
theorem dX9_feed_14 : decode cX9_feed 14 = .ok (.ireturn, 1) := by decide +kernel
theorem dX9_feed_15 : decode cX9_feed 15 = .ok (.aload_n 0, 1) := by decide +kernel
theorem dX9_feed_16 : decode cX9_feed 16 = .ok (.iload_n 1, 1) := by decide +kernel
theorem dX9_feed_17 : decode cX9_feed 17 = .ok (.invokevirtual 93, 3) := by decide +kernel
theorem dX9_feed_20 : decode cX9_feed 20 = .ok (.aload_n 0, 1) := by decide +kernel
theorem dX9_feed_21 : decode cX9_feed 21 = .ok (.iload_n 2, 1) := by decide +kernel
theorem dX9_feed_22 : decode cX9_feed 22 = .ok (.invokevirtual 93, 3) := by decide +kernel
theorem dX9_feed_25 : decode cX9_feed 25 = .ok (.aload_n 0, 1) := by decide +kernel
theorem dX9_feed_26 : decode cX9_feed 26 = .ok (.iload_n 3, 1) := by decide +kernel
theorem dX9_feed_27 : decode cX9_feed 27 = .ok (.invokevirtual 93, 3) := by decide +kernel
theorem dX9_feed_30 : decode cX9_feed 30 = .ok (.aload_n 0, 1) := by decide +kernel
theorem dX9_feed_31 : decode cX9_feed 31 = .ok (.iload 4, 2) := by decide +kernel
theorem dX9_feed_33 : decode cX9_feed 33 = .ok (.invokevirtual 93, 3) := by decide +kernel
theorem dX9_feed_36 : decode cX9_feed 36 = .ok (.aload_n 0, 1) := by decide +kernel
theorem dX9_feed_37 : decode cX9_feed 37 = .ok (.iload 5, 2) := by decide +kernel
theorem dX9_feed_39 : decode cX9_feed 39 = .ok (.invokevirtual 93, 3) := by decide +kernel
theorem dX9_feed_42 : decode cX9_feed 42 = .ok (.aload_n 0, 1) := by decide +kernel
theorem dX9_feed_43 : decode cX9_feed 43 = .ok (.getfield 90, 3) := by decide +kernel
theorem dX9_feed_46 : decode cX9_feed 46 = .ok (.ireturn, 1) := by decide +kernel
theorem dX9_end_0 : decode cX9_end 0 = .ok (.iload_n 1, 1) := by decide +kernel
theorem dX9_end_1 : decode cX9_end 1 = .ok (.iconst 0, 1) := by decide +kernel
theorem dX9_end_2 : decode cX9_end 2 = .ok (.aload_n 0, 1) := by decide +kernel
theorem dX9_end_3 : decode cX9_end 3 = .ok (.getfield 90, 3) := by decide +kernel
theorem dX9_end_6 : decode cX9_end 6 = .ok (.invokestatic 63, 3) := by decide +kernel
theorem dX9_end_9 : decode cX9_end 9 = .ok (.ifCond .ne 5, 3) := by decide +kernel
theorem dX9_end_12 : decode cX9_end 12 = .ok (.iconst (-1), 1) := by decide +kernel
theorem dX9_end_13 : decode cX9_end 13 = .ok (.ireturn, 1) := by decide +kernel
theorem dX9_end_14 : decode cX9_end 14 = .ok (.aload_n 0, 1) := by decide +kernel
theorem dX9_end_15 : decode cX9_end 15 = .ok (.iload_n 1, 1) := by decide +kernel
theorem dX9_end_16 : decode cX9_end 16 = .ok (.putfield 90, 3) := by decide +kernel
theorem dX9_end_19 : decode cX9_end 19 = .ok (.iload_n 1, 1) := by decide +kernel
theorem dX9_end_20 : decode cX9_end 20 = .ok (.ireturn, 1) := by decide +kernel
theorem dX9_byteAt_0 : decode cX9_byteAt 0 = .ok (.iload_n 1, 1) := by decide +kernel
theorem dX9_byteAt_1 : decode cX9_byteAt 1 = .ok (.aload_n 0, 1) := by decide +kernel
theorem dX9_byteAt_2 : decode cX9_byteAt 2 = .ok (.getfield 90, 3) := by decide +kernel
theorem dX9_byteAt_5 : decode cX9_byteAt 5 = .ok (.if_icmp .ge 12, 3) := by decide +kernel
theorem dX9_byteAt_8 : decode cX9_byteAt 8 = .ok (.aload_n 0, 1) := by decide +kernel
theorem dX9_byteAt_9 : decode cX9_byteAt 9 = .ok (.getfield 19, 3) := by decide +kernel
theorem dX9_byteAt_12 : decode cX9_byteAt 12 = .ok (.iload_n 1, 1) := by decide +kernel
theorem dX9_byteAt_13 : decode cX9_byteAt 13 = .ok (.iaload, 1) := by decide +kernel
theorem dX9_byteAt_14 : decode cX9_byteAt 14 = .ok (.goto 4, 3) := by decide +kernel
theorem dX9_byteAt_17 : decode cX9_byteAt 17 = .ok (.iconst (-1), 1) := by decide +kernel
theorem dX9_byteAt_18 : decode cX9_byteAt 18 = .ok (.ireturn, 1) := by decide +kernel
theorem dX9_isLetterByte_0 : decode cX9_isLetterByte 0 = .ok (.iload_n 0, 1) := by decide +kernel
theorem dX9_isLetterByte_1 : decode cX9_isLetterByte 1 = .ok (.bipush 97, 2) := by decide +kernel
theorem dX9_isLetterByte_3 : decode cX9_isLetterByte 3 = .ok (.if_icmp .lt 9, 3) := by decide +kernel
theorem dX9_isLetterByte_6 : decode cX9_isLetterByte 6 = .ok (.iload_n 0, 1) := by decide +kernel
theorem dX9_isLetterByte_7 : decode cX9_isLetterByte 7 = .ok (.bipush 122, 2) := by decide +kernel
theorem dX9_isLetterByte_9 : decode cX9_isLetterByte 9 = .ok (.if_icmp .le 15, 3) := by decide +kernel
theorem dX9_isLetterByte_12 : decode cX9_isLetterByte 12 = .ok (.iload_n 0, 1) := by decide +kernel
theorem dX9_isLetterByte_13 : decode cX9_isLetterByte 13 = .ok (.bipush 65, 2) := by decide +kernel
theorem dX9_isLetterByte_15 : decode cX9_isLetterByte 15 = .ok (.if_icmp .lt 13, 3) := by decide +kernel
theorem dX9_isLetterByte_18 : decode cX9_isLetterByte 18 = .ok (.iload_n 0, 1) := by decide +kernel
theorem dX9_isLetterByte_19 : decode cX9_isLetterByte 19 = .ok (.bipush 90, 2) := by decide +kernel
theorem dX9_isLetterByte_21 : decode cX9_isLetterByte 21 = .ok (.if_icmp .gt 7, 3) := by decide +kernel
theorem dX9_isLetterByte_24 : decode cX9_isLetterByte 24 = .ok (.iconst 1, 1) := by decide +kernel
theorem dX9_isLetterByte_25 : decode cX9_isLetterByte 25 = .ok (.goto 4, 3) := by decide +kernel
theorem dX9_isLetterByte_28 : decode cX9_isLetterByte 28 = .ok (.iconst 0, 1) := by decide +kernel
theorem dX9_isLetterByte_29 : decode cX9_isLetterByte 29 = .ok (.ireturn, 1) := by decide +kernel
theorem dX9_isFigure_0 : decode cX9_isFigure 0 = .ok (.iload_n 0, 1) := by decide +kernel
theorem dX9_isFigure_1 : decode cX9_isFigure 1 = .ok (.bipush 48, 2) := by decide +kernel
theorem dX9_isFigure_3 : decode cX9_isFigure 3 = .ok (.if_icmp .lt 13, 3) := by decide +kernel
theorem dX9_isFigure_6 : decode cX9_isFigure 6 = .ok (.iload_n 0, 1) := by decide +kernel
theorem dX9_isFigure_7 : decode cX9_isFigure 7 = .ok (.bipush 57, 2) := by decide +kernel
theorem dX9_isFigure_9 : decode cX9_isFigure 9 = .ok (.if_icmp .gt 7, 3) := by decide +kernel
theorem dX9_isFigure_12 : decode cX9_isFigure 12 = .ok (.iconst 1, 1) := by decide +kernel
theorem dX9_isFigure_13 : decode cX9_isFigure 13 = .ok (.goto 4, 3) := by decide +kernel
theorem dX9_isFigure_16 : decode cX9_isFigure 16 = .ok (.iconst 0, 1) := by decide +kernel
theorem dX9_isFigure_17 : decode cX9_isFigure 17 = .ok (.ireturn, 1) := by decide +kernel
theorem dX9_isSign_0 : decode cX9_isSign 0 = .ok (.iload_n 0, 1) := by decide +kernel
theorem dX9_isSign_1 : decode cX9_isSign 1 = .ok (.tableswitch 129 35 62 #[127, 129, 129, 129, 129, 127, 127, 127, 127, 127, 127, 129, 127, 129, 129, 129, 129, 129, 129, 129, 129, 129, 129, 129, 127, 127, 127, 127], 127) := by decide +kernel
theorem dX9_isSign_128 : decode cX9_isSign 128 = .ok (.iconst 1, 1) := by decide +kernel
theorem dX9_isSign_129 : decode cX9_isSign 129 = .ok (.ireturn, 1) := by decide +kernel
theorem dX9_isSign_130 : decode cX9_isSign 130 = .ok (.iconst 0, 1) := by decide +kernel
theorem dX9_isSign_131 : decode cX9_isSign 131 = .ok (.ireturn, 1) := by decide +kernel
theorem dX9_nextToken_0 : decode cX9_nextToken 0 = .ok (.aload_n 0, 1) := by decide +kernel
theorem dX9_nextToken_1 : decode cX9_nextToken 1 = .ok (.aload_n 0, 1) := by decide +kernel
theorem dX9_nextToken_2 : decode cX9_nextToken 2 = .ok (.getfield 96, 3) := by decide +kernel
theorem dX9_nextToken_5 : decode cX9_nextToken 5 = .ok (.invokevirtual 99, 3) := by decide +kernel
theorem dX9_nextToken_8 : decode cX9_nextToken 8 = .ok (.bipush 32, 2) := by decide +kernel
theorem dX9_nextToken_10 : decode cX9_nextToken 10 = .ok (.if_icmp .eq 16, 3) := by decide +kernel
theorem dX9_nextToken_13 : decode cX9_nextToken 13 = .ok (.aload_n 0, 1) := by decide +kernel
theorem dX9_nextToken_14 : decode cX9_nextToken 14 = .ok (.aload_n 0, 1) := by decide +kernel
theorem dX9_nextToken_15 : decode cX9_nextToken 15 = .ok (.getfield 96, 3) := by decide +kernel
theorem dX9_nextToken_18 : decode cX9_nextToken 18 = .ok (.invokevirtual 99, 3) := by decide +kernel
theorem dX9_nextToken_21 : decode cX9_nextToken 21 = .ok (.bipush 10, 2) := by decide +kernel
theorem dX9_nextToken_23 : decode cX9_nextToken 23 = .ok (.if_icmp .ne 16, 3) := by decide +kernel
theorem dX9_nextToken_26 : decode cX9_nextToken 26 = .ok (.aload_n 0, 1) := by decide +kernel
theorem dX9_nextToken_27 : decode cX9_nextToken 27 = .ok (.dup, 1) := by decide +kernel
theorem dX9_nextToken_28 : decode cX9_nextToken 28 = .ok (.getfield 96, 3) := by decide +kernel
theorem dX9_nextToken_31 : decode cX9_nextToken 31 = .ok (.iconst 1, 1) := by decide +kernel
theorem dX9_nextToken_32 : decode cX9_nextToken 32 = .ok (.iadd, 1) := by decide +kernel
theorem dX9_nextToken_33 : decode cX9_nextToken 33 = .ok (.putfield 96, 3) := by decide +kernel
theorem dX9_nextToken_36 : decode cX9_nextToken 36 = .ok (.goto (-36), 3) := by decide +kernel
theorem dX9_nextToken_39 : decode cX9_nextToken 39 = .ok (.aload_n 0, 1) := by decide +kernel
theorem dX9_nextToken_40 : decode cX9_nextToken 40 = .ok (.aload_n 0, 1) := by decide +kernel
theorem dX9_nextToken_41 : decode cX9_nextToken 41 = .ok (.getfield 96, 3) := by decide +kernel
theorem dX9_nextToken_44 : decode cX9_nextToken 44 = .ok (.putfield 103, 3) := by decide +kernel
theorem dX9_nextToken_47 : decode cX9_nextToken 47 = .ok (.aload_n 0, 1) := by decide +kernel
theorem dX9_nextToken_48 : decode cX9_nextToken 48 = .ok (.aload_n 0, 1) := by decide +kernel
theorem dX9_nextToken_49 : decode cX9_nextToken 49 = .ok (.getfield 96, 3) := by decide +kernel
theorem dX9_nextToken_52 : decode cX9_nextToken 52 = .ok (.invokevirtual 99, 3) := by decide +kernel
theorem dX9_nextToken_55 : decode cX9_nextToken 55 = .ok (.istore_n 1, 1) := by decide +kernel
theorem dX9_nextToken_56 : decode cX9_nextToken 56 = .ok (.iload_n 1, 1) := by decide +kernel
theorem dX9_nextToken_57 : decode cX9_nextToken 57 = .ok (.ifCond .ge 11, 3) := by decide +kernel
theorem dX9_nextToken_60 : decode cX9_nextToken 60 = .ok (.aload_n 0, 1) := by decide +kernel
theorem dX9_nextToken_61 : decode cX9_nextToken 61 = .ok (.iconst 0, 1) := by decide +kernel
theorem dX9_nextToken_62 : decode cX9_nextToken 62 = .ok (.putfield 106, 3) := by decide +kernel
theorem dX9_nextToken_65 : decode cX9_nextToken 65 = .ok (.goto 245, 3) := by decide +kernel
theorem dX9_nextToken_68 : decode cX9_nextToken 68 = .ok (.iload_n 1, 1) := by decide +kernel
theorem dX9_nextToken_69 : decode cX9_nextToken 69 = .ok (.invokestatic 109, 3) := by decide +kernel
theorem dX9_nextToken_72 : decode cX9_nextToken 72 = .ok (.ifCond .eq 79, 3) := by decide +kernel
theorem dX9_nextToken_75 : decode cX9_nextToken 75 = .ok (.aload_n 0, 1) := by decide +kernel
theorem dX9_nextToken_76 : decode cX9_nextToken 76 = .ok (.iconst 1, 1) := by decide +kernel
theorem dX9_nextToken_77 : decode cX9_nextToken 77 = .ok (.putfield 106, 3) := by decide +kernel
theorem dX9_nextToken_80 : decode cX9_nextToken 80 = .ok (.aload_n 0, 1) := by decide +kernel
theorem dX9_nextToken_81 : decode cX9_nextToken 81 = .ok (.iconst 0, 1) := by decide +kernel
theorem dX9_nextToken_82 : decode cX9_nextToken 82 = .ok (.putfield 112, 3) := by decide +kernel
theorem dX9_nextToken_85 : decode cX9_nextToken 85 = .ok (.aload_n 0, 1) := by decide +kernel
theorem dX9_nextToken_86 : decode cX9_nextToken 86 = .ok (.aload_n 0, 1) := by decide +kernel
theorem dX9_nextToken_87 : decode cX9_nextToken 87 = .ok (.getfield 96, 3) := by decide +kernel
theorem dX9_nextToken_90 : decode cX9_nextToken 90 = .ok (.invokevirtual 99, 3) := by decide +kernel
theorem dX9_nextToken_93 : decode cX9_nextToken 93 = .ok (.invokestatic 109, 3) := by decide +kernel
theorem dX9_nextToken_96 : decode cX9_nextToken 96 = .ok (.ifCond .eq 214, 3) := by decide +kernel
theorem dX9_nextToken_99 : decode cX9_nextToken 99 = .ok (.aload_n 0, 1) := by decide +kernel
theorem dX9_nextToken_100 : decode cX9_nextToken 100 = .ok (.aload_n 0, 1) := by decide +kernel
theorem dX9_nextToken_101 : decode cX9_nextToken 101 = .ok (.getfield 112, 3) := by decide +kernel
theorem dX9_nextToken_104 : decode cX9_nextToken 104 = .ok (.ldc 115, 2) := by decide +kernel
theorem dX9_nextToken_106 : decode cX9_nextToken 106 = .ok (.if_icmp .le 10, 3) := by decide +kernel
theorem dX9_nextToken_109 : decode cX9_nextToken 109 = .ok (.aload_n 0, 1) := by decide +kernel
theorem dX9_nextToken_110 : decode cX9_nextToken 110 = .ok (.getfield 112, 3) := by decide +kernel
theorem dX9_nextToken_113 : decode cX9_nextToken 113 = .ok (.goto 22, 3) := by decide +kernel
theorem dX9_nextToken_116 : decode cX9_nextToken 116 = .ok (.bipush 10, 2) := by decide +kernel
theorem dX9_nextToken_118 : decode cX9_nextToken 118 = .ok (.aload_n 0, 1) := by decide +kernel
theorem dX9_nextToken_119 : decode cX9_nextToken 119 = .ok (.getfield 112, 3) := by decide +kernel
theorem dX9_nextToken_122 : decode cX9_nextToken 122 = .ok (.imul, 1) := by decide +kernel
theorem dX9_nextToken_123 : decode cX9_nextToken 123 = .ok (.aload_n 0, 1) := by decide +kernel
theorem dX9_nextToken_124 : decode cX9_nextToken 124 = .ok (.aload_n 0, 1) := by decide +kernel
theorem dX9_nextToken_125 : decode cX9_nextToken 125 = .ok (.getfield 96, 3) := by decide +kernel
theorem dX9_nextToken_128 : decode cX9_nextToken 128 = .ok (.invokevirtual 99, 3) := by decide +kernel
theorem dX9_nextToken_131 : decode cX9_nextToken 131 = .ok (.iadd, 1) := by decide +kernel
theorem dX9_nextToken_132 : decode cX9_nextToken 132 = .ok (.bipush 48, 2) := by decide +kernel
theorem dX9_nextToken_134 : decode cX9_nextToken 134 = .ok (.isub, 1) := by decide +kernel
theorem dX9_nextToken_135 : decode cX9_nextToken 135 = .ok (.putfield 112, 3) := by decide +kernel
theorem dX9_nextToken_138 : decode cX9_nextToken 138 = .ok (.aload_n 0, 1) := by decide +kernel
theorem dX9_nextToken_139 : decode cX9_nextToken 139 = .ok (.dup, 1) := by decide +kernel
theorem dX9_nextToken_140 : decode cX9_nextToken 140 = .ok (.getfield 96, 3) := by decide +kernel
theorem dX9_nextToken_143 : decode cX9_nextToken 143 = .ok (.iconst 1, 1) := by decide +kernel
theorem dX9_nextToken_144 : decode cX9_nextToken 144 = .ok (.iadd, 1) := by decide +kernel
theorem dX9_nextToken_145 : decode cX9_nextToken 145 = .ok (.putfield 96, 3) := by decide +kernel
theorem dX9_nextToken_148 : decode cX9_nextToken 148 = .ok (.goto (-63), 3) := by decide +kernel
theorem dX9_nextToken_151 : decode cX9_nextToken 151 = .ok (.iload_n 1, 1) := by decide +kernel
theorem dX9_nextToken_152 : decode cX9_nextToken 152 = .ok (.invokestatic 116, 3) := by decide +kernel
theorem dX9_nextToken_155 : decode cX9_nextToken 155 = .ok (.ifCond .eq 79, 3) := by decide +kernel
theorem dX9_nextToken_158 : decode cX9_nextToken 158 = .ok (.aload_n 0, 1) := by decide +kernel
theorem dX9_nextToken_159 : decode cX9_nextToken 159 = .ok (.iconst 2, 1) := by decide +kernel
theorem dX9_nextToken_160 : decode cX9_nextToken 160 = .ok (.putfield 106, 3) := by decide +kernel
theorem dX9_nextToken_163 : decode cX9_nextToken 163 = .ok (.aload_n 0, 1) := by decide +kernel
theorem dX9_nextToken_164 : decode cX9_nextToken 164 = .ok (.lconst 0, 1) := by decide +kernel
theorem dX9_nextToken_165 : decode cX9_nextToken 165 = .ok (.putfield 119, 3) := by decide +kernel
theorem dX9_nextToken_168 : decode cX9_nextToken 168 = .ok (.aload_n 0, 1) := by decide +kernel
theorem dX9_nextToken_169 : decode cX9_nextToken 169 = .ok (.aload_n 0, 1) := by decide +kernel
theorem dX9_nextToken_170 : decode cX9_nextToken 170 = .ok (.getfield 96, 3) := by decide +kernel
theorem dX9_nextToken_173 : decode cX9_nextToken 173 = .ok (.invokevirtual 99, 3) := by decide +kernel
theorem dX9_nextToken_176 : decode cX9_nextToken 176 = .ok (.invokestatic 116, 3) := by decide +kernel
theorem dX9_nextToken_179 : decode cX9_nextToken 179 = .ok (.ifCond .eq 131, 3) := by decide +kernel
theorem dX9_nextToken_182 : decode cX9_nextToken 182 = .ok (.aload_n 0, 1) := by decide +kernel
theorem dX9_nextToken_183 : decode cX9_nextToken 183 = .ok (.aload_n 0, 1) := by decide +kernel
theorem dX9_nextToken_184 : decode cX9_nextToken 184 = .ok (.getfield 119, 3) := by decide +kernel
theorem dX9_nextToken_187 : decode cX9_nextToken 187 = .ok (.bipush 48, 2) := by decide +kernel
theorem dX9_nextToken_189 : decode cX9_nextToken 189 = .ok (.lshr, 1) := by decide +kernel
theorem dX9_nextToken_190 : decode cX9_nextToken 190 = .ok (.lconst 0, 1) := by decide +kernel
theorem dX9_nextToken_191 : decode cX9_nextToken 191 = .ok (.lcmp, 1) := by decide +kernel
theorem dX9_nextToken_192 : decode cX9_nextToken 192 = .ok (.ifCond .eq 9, 3) := by decide +kernel
theorem dX9_nextToken_195 : decode cX9_nextToken 195 = .ok (.ldc2_w 123, 3) := by decide +kernel
theorem dX9_nextToken_198 : decode cX9_nextToken 198 = .ok (.goto 20, 3) := by decide +kernel
theorem dX9_nextToken_201 : decode cX9_nextToken 201 = .ok (.aload_n 0, 1) := by decide +kernel
theorem dX9_nextToken_202 : decode cX9_nextToken 202 = .ok (.getfield 119, 3) := by decide +kernel
theorem dX9_nextToken_205 : decode cX9_nextToken 205 = .ok (.bipush 8, 2) := by decide +kernel
theorem dX9_nextToken_207 : decode cX9_nextToken 207 = .ok (.lshl, 1) := by decide +kernel
theorem dX9_nextToken_208 : decode cX9_nextToken 208 = .ok (.aload_n 0, 1) := by decide +kernel
theorem dX9_nextToken_209 : decode cX9_nextToken 209 = .ok (.aload_n 0, 1) := by decide +kernel
theorem dX9_nextToken_210 : decode cX9_nextToken 210 = .ok (.getfield 96, 3) := by decide +kernel
theorem dX9_nextToken_213 : decode cX9_nextToken 213 = .ok (.invokevirtual 99, 3) := by decide +kernel
theorem dX9_nextToken_216 : decode cX9_nextToken 216 = .ok (.i2l, 1) := by decide +kernel
theorem dX9_nextToken_217 : decode cX9_nextToken 217 = .ok (.lor, 1) := by decide +kernel
theorem dX9_nextToken_218 : decode cX9_nextToken 218 = .ok (.putfield 119, 3) := by decide +kernel
theorem dX9_nextToken_221 : decode cX9_nextToken 221 = .ok (.aload_n 0, 1) := by decide +kernel
theorem dX9_nextToken_222 : decode cX9_nextToken 222 = .ok (.dup, 1) := by decide +kernel
theorem dX9_nextToken_223 : decode cX9_nextToken 223 = .ok (.getfield 96, 3) := by decide +kernel
theorem dX9_nextToken_226 : decode cX9_nextToken 226 = .ok (.iconst 1, 1) := by decide +kernel
theorem dX9_nextToken_227 : decode cX9_nextToken 227 = .ok (.iadd, 1) := by decide +kernel
theorem dX9_nextToken_228 : decode cX9_nextToken 228 = .ok (.putfield 96, 3) := by decide +kernel
theorem dX9_nextToken_231 : decode cX9_nextToken 231 = .ok (.goto (-63), 3) := by decide +kernel
theorem dX9_nextToken_234 : decode cX9_nextToken 234 = .ok (.aload_n 0, 1) := by decide +kernel
theorem dX9_nextToken_235 : decode cX9_nextToken 235 = .ok (.iload_n 1, 1) := by decide +kernel
theorem dX9_nextToken_236 : decode cX9_nextToken 236 = .ok (.invokestatic 125, 3) := by decide +kernel
theorem dX9_nextToken_239 : decode cX9_nextToken 239 = .ok (.ifCond .eq 7, 3) := by decide +kernel
theorem dX9_nextToken_242 : decode cX9_nextToken 242 = .ok (.iload_n 1, 1) := by decide +kernel
theorem dX9_nextToken_243 : decode cX9_nextToken 243 = .ok (.goto 4, 3) := by decide +kernel
theorem dX9_nextToken_246 : decode cX9_nextToken 246 = .ok (.iconst 3, 1) := by decide +kernel
theorem dX9_nextToken_247 : decode cX9_nextToken 247 = .ok (.putfield 106, 3) := by decide +kernel
theorem dX9_nextToken_250 : decode cX9_nextToken 250 = .ok (.aload_n 0, 1) := by decide +kernel
theorem dX9_nextToken_251 : decode cX9_nextToken 251 = .ok (.dup, 1) := by decide +kernel
theorem dX9_nextToken_252 : decode cX9_nextToken 252 = .ok (.getfield 96, 3) := by decide +kernel
theorem dX9_nextToken_255 : decode cX9_nextToken 255 = .ok (.iconst 1, 1) := by decide +kernel
theorem dX9_nextToken_256 : decode cX9_nextToken 256 = .ok (.iadd, 1) := by decide +kernel
theorem dX9_nextToken_257 : decode cX9_nextToken 257 = .ok (.putfield 96, 3) := by decide +kernel
theorem dX9_nextToken_260 : decode cX9_nextToken 260 = .ok (.iload_n 1, 1) := by decide +kernel
theorem dX9_nextToken_261 : decode cX9_nextToken 261 = .ok (.bipush 60, 2) := by decide +kernel
theorem dX9_nextToken_263 : decode cX9_nextToken 263 = .ok (.if_icmp .eq 9, 3) := by decide +kernel
theorem dX9_nextToken_266 : decode cX9_nextToken 266 = .ok (.iload_n 1, 1) := by decide +kernel
theorem dX9_nextToken_267 : decode cX9_nextToken 267 = .ok (.bipush 62, 2) := by decide +kernel
theorem dX9_nextToken_269 : decode cX9_nextToken 269 = .ok (.if_icmp .ne 41, 3) := by decide +kernel
theorem dX9_nextToken_272 : decode cX9_nextToken 272 = .ok (.aload_n 0, 1) := by decide +kernel
theorem dX9_nextToken_273 : decode cX9_nextToken 273 = .ok (.aload_n 0, 1) := by decide +kernel
theorem dX9_nextToken_274 : decode cX9_nextToken 274 = .ok (.getfield 96, 3) := by decide +kernel
theorem dX9_nextToken_277 : decode cX9_nextToken 277 = .ok (.invokevirtual 99, 3) := by decide +kernel
theorem dX9_nextToken_280 : decode cX9_nextToken 280 = .ok (.bipush 61, 2) := by decide +kernel
theorem dX9_nextToken_282 : decode cX9_nextToken 282 = .ok (.if_icmp .ne 28, 3) := by decide +kernel
theorem dX9_nextToken_285 : decode cX9_nextToken 285 = .ok (.aload_n 0, 1) := by decide +kernel
theorem dX9_nextToken_286 : decode cX9_nextToken 286 = .ok (.iload_n 1, 1) := by decide +kernel
theorem dX9_nextToken_287 : decode cX9_nextToken 287 = .ok (.bipush 60, 2) := by decide +kernel
theorem dX9_nextToken_289 : decode cX9_nextToken 289 = .ok (.if_icmp .ne 7, 3) := by decide +kernel
theorem dX9_nextToken_292 : decode cX9_nextToken 292 = .ok (.iconst 4, 1) := by decide +kernel
theorem dX9_nextToken_293 : decode cX9_nextToken 293 = .ok (.goto 4, 3) := by decide +kernel
theorem dX9_nextToken_296 : decode cX9_nextToken 296 = .ok (.iconst 5, 1) := by decide +kernel
theorem dX9_nextToken_297 : decode cX9_nextToken 297 = .ok (.putfield 106, 3) := by decide +kernel
theorem dX9_nextToken_300 : decode cX9_nextToken 300 = .ok (.aload_n 0, 1) := by decide +kernel
theorem dX9_nextToken_301 : decode cX9_nextToken 301 = .ok (.dup, 1) := by decide +kernel
theorem dX9_nextToken_302 : decode cX9_nextToken 302 = .ok (.getfield 96, 3) := by decide +kernel
theorem dX9_nextToken_305 : decode cX9_nextToken 305 = .ok (.iconst 1, 1) := by decide +kernel
theorem dX9_nextToken_306 : decode cX9_nextToken 306 = .ok (.iadd, 1) := by decide +kernel
theorem dX9_nextToken_307 : decode cX9_nextToken 307 = .ok (.putfield 96, 3) := by decide +kernel
theorem dX9_nextToken_310 : decode cX9_nextToken 310 = .ok (.return_, 1) := by decide +kernel
theorem dX9_w2_0 : decode cX9_w2 0 = .ok (.iload_n 0, 1) := by decide +kernel
theorem dX9_w2_1 : decode cX9_w2 1 = .ok (.i2l, 1) := by decide +kernel
theorem dX9_w2_2 : decode cX9_w2 2 = .ok (.bipush 8, 2) := by decide +kernel
theorem dX9_w2_4 : decode cX9_w2 4 = .ok (.lshl, 1) := by decide +kernel
theorem dX9_w2_5 : decode cX9_w2 5 = .ok (.iload_n 1, 1) := by decide +kernel
theorem dX9_w2_6 : decode cX9_w2 6 = .ok (.i2l, 1) := by decide +kernel
theorem dX9_w2_7 : decode cX9_w2 7 = .ok (.lor, 1) := by decide +kernel
theorem dX9_w2_8 : decode cX9_w2 8 = .ok (.lreturn, 1) := by decide +kernel
theorem dX9_w3_0 : decode cX9_w3 0 = .ok (.iload_n 0, 1) := by decide +kernel
theorem dX9_w3_1 : decode cX9_w3 1 = .ok (.iload_n 1, 1) := by decide +kernel
theorem dX9_w3_2 : decode cX9_w3 2 = .ok (.invokestatic 128, 3) := by decide +kernel
theorem dX9_w3_5 : decode cX9_w3 5 = .ok (.bipush 8, 2) := by decide +kernel
theorem dX9_w3_7 : decode cX9_w3 7 = .ok (.lshl, 1) := by decide +kernel
theorem dX9_w3_8 : decode cX9_w3 8 = .ok (.iload_n 2, 1) := by decide +kernel
theorem dX9_w3_9 : decode cX9_w3 9 = .ok (.i2l, 1) := by decide +kernel
theorem dX9_w3_10 : decode cX9_w3 10 = .ok (.lor, 1) := by decide +kernel
theorem dX9_w3_11 : decode cX9_w3 11 = .ok (.lreturn, 1) := by decide +kernel
theorem dX9_w4_0 : decode cX9_w4 0 = .ok (.iload_n 0, 1) := by decide +kernel
theorem dX9_w4_1 : decode cX9_w4 1 = .ok (.iload_n 1, 1) := by decide +kernel
theorem dX9_w4_2 : decode cX9_w4 2 = .ok (.iload_n 2, 1) := by decide +kernel
theorem dX9_w4_3 : decode cX9_w4 3 = .ok (.invokestatic 132, 3) := by decide +kernel
theorem dX9_w4_6 : decode cX9_w4 6 = .ok (.bipush 8, 2) := by decide +kernel
theorem dX9_w4_8 : decode cX9_w4 8 = .ok (.lshl, 1) := by decide +kernel
theorem dX9_w4_9 : decode cX9_w4 9 = .ok (.iload_n 3, 1) := by decide +kernel
theorem dX9_w4_10 : decode cX9_w4 10 = .ok (.i2l, 1) := by decide +kernel
theorem dX9_w4_11 : decode cX9_w4 11 = .ok (.lor, 1) := by decide +kernel
theorem dX9_w4_12 : decode cX9_w4 12 = .ok (.lreturn, 1) := by decide +kernel
theorem dX9_w5_0 : decode cX9_w5 0 = .ok (.iload_n 0, 1) := by decide +kernel
theorem dX9_w5_1 : decode cX9_w5 1 = .ok (.iload_n 1, 1) := by decide +kernel
theorem dX9_w5_2 : decode cX9_w5 2 = .ok (.iload_n 2, 1) := by decide +kernel
theorem dX9_w5_3 : decode cX9_w5 3 = .ok (.iload_n 3, 1) := by decide +kernel
theorem dX9_w5_4 : decode cX9_w5 4 = .ok (.invokestatic 136, 3) := by decide +kernel
theorem dX9_w5_7 : decode cX9_w5 7 = .ok (.bipush 8, 2) := by decide +kernel
theorem dX9_w5_9 : decode cX9_w5 9 = .ok (.lshl, 1) := by decide +kernel
theorem dX9_w5_10 : decode cX9_w5 10 = .ok (.iload 4, 2) := by decide +kernel
theorem dX9_w5_12 : decode cX9_w5 12 = .ok (.i2l, 1) := by decide +kernel
theorem dX9_w5_13 : decode cX9_w5 13 = .ok (.lor, 1) := by decide +kernel
theorem dX9_w5_14 : decode cX9_w5 14 = .ok (.lreturn, 1) := by decide +kernel
theorem dX9_w6_0 : decode cX9_w6 0 = .ok (.iload_n 0, 1) := by decide +kernel
theorem dX9_w6_1 : decode cX9_w6 1 = .ok (.iload_n 1, 1) := by decide +kernel
theorem dX9_w6_2 : decode cX9_w6 2 = .ok (.iload_n 2, 1) := by decide +kernel
theorem dX9_w6_3 : decode cX9_w6 3 = .ok (.iload_n 3, 1) := by decide +kernel
theorem dX9_w6_4 : decode cX9_w6 4 = .ok (.iload 4, 2) := by decide +kernel
theorem dX9_w6_6 : decode cX9_w6 6 = .ok (.invokestatic 140, 3) := by decide +kernel
theorem dX9_w6_9 : decode cX9_w6 9 = .ok (.bipush 8, 2) := by decide +kernel
theorem dX9_w6_11 : decode cX9_w6 11 = .ok (.lshl, 1) := by decide +kernel
theorem dX9_w6_12 : decode cX9_w6 12 = .ok (.iload 5, 2) := by decide +kernel
theorem dX9_w6_14 : decode cX9_w6 14 = .ok (.i2l, 1) := by decide +kernel
theorem dX9_w6_15 : decode cX9_w6 15 = .ok (.lor, 1) := by decide +kernel
theorem dX9_w6_16 : decode cX9_w6 16 = .ok (.lreturn, 1) := by decide +kernel
theorem dX9_isWord_0 : decode cX9_isWord 0 = .ok (.aload_n 0, 1) := by decide +kernel
theorem dX9_isWord_1 : decode cX9_isWord 1 = .ok (.getfield 106, 3) := by decide +kernel
theorem dX9_isWord_4 : decode cX9_isWord 4 = .ok (.iconst 2, 1) := by decide +kernel
theorem dX9_isWord_5 : decode cX9_isWord 5 = .ok (.if_icmp .ne 16, 3) := by decide +kernel
theorem dX9_isWord_8 : decode cX9_isWord 8 = .ok (.aload_n 0, 1) := by decide +kernel
theorem dX9_isWord_9 : decode cX9_isWord 9 = .ok (.getfield 119, 3) := by decide +kernel
theorem dX9_isWord_12 : decode cX9_isWord 12 = .ok (.lload_n 1, 1) := by decide +kernel
theorem dX9_isWord_13 : decode cX9_isWord 13 = .ok (.lcmp, 1) := by decide +kernel
theorem dX9_isWord_14 : decode cX9_isWord 14 = .ok (.ifCond .ne 7, 3) := by decide +kernel
theorem dX9_isWord_17 : decode cX9_isWord 17 = .ok (.iconst 1, 1) := by decide +kernel
theorem dX9_isWord_18 : decode cX9_isWord 18 = .ok (.goto 4, 3) := by decide +kernel
theorem dX9_isWord_21 : decode cX9_isWord 21 = .ok (.iconst 0, 1) := by decide +kernel
theorem dX9_isWord_22 : decode cX9_isWord 22 = .ok (.ireturn, 1) := by decide +kernel
theorem dX9_emit_0 : decode cX9_emit 0 = .ok (.aload_n 0, 1) := by decide +kernel
theorem dX9_emit_1 : decode cX9_emit 1 = .ok (.getfield 16, 3) := by decide +kernel
theorem dX9_emit_4 : decode cX9_emit 4 = .ok (.aload_n 0, 1) := by decide +kernel
theorem dX9_emit_5 : decode cX9_emit 5 = .ok (.getfield 144, 3) := by decide +kernel
theorem dX9_emit_8 : decode cX9_emit 8 = .ok (.sipush 145, 3) := by decide +kernel
theorem dX9_emit_11 : decode cX9_emit 11 = .ok (.iadd, 1) := by decide +kernel
theorem dX9_emit_12 : decode cX9_emit 12 = .ok (.iconst 2, 1) := by decide +kernel
theorem dX9_emit_13 : decode cX9_emit 13 = .ok (.aload_n 0, 1) := by decide +kernel
theorem dX9_emit_14 : decode cX9_emit 14 = .ok (.getfield 147, 3) := by decide +kernel
theorem dX9_emit_17 : decode cX9_emit 17 = .ok (.imul, 1) := by decide +kernel
theorem dX9_emit_18 : decode cX9_emit 18 = .ok (.iadd, 1) := by decide +kernel
theorem dX9_emit_19 : decode cX9_emit 19 = .ok (.iload_n 1, 1) := by decide +kernel
theorem dX9_emit_20 : decode cX9_emit 20 = .ok (.iastore, 1) := by decide +kernel
theorem dX9_emit_21 : decode cX9_emit 21 = .ok (.aload_n 0, 1) := by decide +kernel
theorem dX9_emit_22 : decode cX9_emit 22 = .ok (.getfield 16, 3) := by decide +kernel
theorem dX9_emit_25 : decode cX9_emit 25 = .ok (.aload_n 0, 1) := by decide +kernel
theorem dX9_emit_26 : decode cX9_emit 26 = .ok (.getfield 144, 3) := by decide +kernel
theorem dX9_emit_29 : decode cX9_emit 29 = .ok (.sipush 145, 3) := by decide +kernel
theorem dX9_emit_32 : decode cX9_emit 32 = .ok (.iadd, 1) := by decide +kernel
theorem dX9_emit_33 : decode cX9_emit 33 = .ok (.iconst 2, 1) := by decide +kernel
theorem dX9_emit_34 : decode cX9_emit 34 = .ok (.aload_n 0, 1) := by decide +kernel
theorem dX9_emit_35 : decode cX9_emit 35 = .ok (.getfield 147, 3) := by decide +kernel
theorem dX9_emit_38 : decode cX9_emit 38 = .ok (.imul, 1) := by decide +kernel
theorem dX9_emit_39 : decode cX9_emit 39 = .ok (.iadd, 1) := by decide +kernel
theorem dX9_emit_40 : decode cX9_emit 40 = .ok (.iconst 1, 1) := by decide +kernel
theorem dX9_emit_41 : decode cX9_emit 41 = .ok (.iadd, 1) := by decide +kernel
theorem dX9_emit_42 : decode cX9_emit 42 = .ok (.iload_n 2, 1) := by decide +kernel
theorem dX9_emit_43 : decode cX9_emit 43 = .ok (.iastore, 1) := by decide +kernel
theorem dX9_emit_44 : decode cX9_emit 44 = .ok (.aload_n 0, 1) := by decide +kernel
theorem dX9_emit_45 : decode cX9_emit 45 = .ok (.dup, 1) := by decide +kernel
theorem dX9_emit_46 : decode cX9_emit 46 = .ok (.getfield 147, 3) := by decide +kernel
theorem dX9_emit_49 : decode cX9_emit 49 = .ok (.iconst 1, 1) := by decide +kernel
theorem dX9_emit_50 : decode cX9_emit 50 = .ok (.iadd, 1) := by decide +kernel
theorem dX9_emit_51 : decode cX9_emit 51 = .ok (.putfield 147, 3) := by decide +kernel
theorem dX9_emit_54 : decode cX9_emit 54 = .ok (.return_, 1) := by decide +kernel
theorem dX9_isLong_0 : decode cX9_isLong 0 = .ok (.aload_n 0, 1) := by decide +kernel
theorem dX9_isLong_1 : decode cX9_isLong 1 = .ok (.getfield 106, 3) := by decide +kernel
theorem dX9_isLong_4 : decode cX9_isLong 4 = .ok (.iconst 2, 1) := by decide +kernel
theorem dX9_isLong_5 : decode cX9_isLong 5 = .ok (.if_icmp .ne 17, 3) := by decide +kernel
theorem dX9_isLong_8 : decode cX9_isLong 8 = .ok (.aload_n 0, 1) := by decide +kernel
theorem dX9_isLong_9 : decode cX9_isLong 9 = .ok (.getfield 96, 3) := by decide +kernel
theorem dX9_isLong_12 : decode cX9_isLong 12 = .ok (.aload_n 0, 1) := by decide +kernel
theorem dX9_isLong_13 : decode cX9_isLong 13 = .ok (.getfield 103, 3) := by decide +kernel
theorem dX9_isLong_16 : decode cX9_isLong 16 = .ok (.isub, 1) := by decide +kernel
theorem dX9_isLong_17 : decode cX9_isLong 17 = .ok (.iload 5, 2) := by decide +kernel
theorem dX9_isLong_19 : decode cX9_isLong 19 = .ok (.if_icmp .eq 5, 3) := by decide +kernel
theorem dX9_isLong_22 : decode cX9_isLong 22 = .ok (.iconst 0, 1) := by decide +kernel
theorem dX9_isLong_23 : decode cX9_isLong 23 = .ok (.ireturn, 1) := by decide +kernel
theorem dX9_isLong_24 : decode cX9_isLong 24 = .ok (.iload 5, 2) := by decide +kernel
theorem dX9_isLong_26 : decode cX9_isLong 26 = .ok (.bipush 7, 2) := by decide +kernel
theorem dX9_isLong_28 : decode cX9_isLong 28 = .ok (.if_icmp .ne 40, 3) := by decide +kernel
theorem dX9_isLong_31 : decode cX9_isLong 31 = .ok (.aload_n 0, 1) := by decide +kernel
theorem dX9_isLong_32 : decode cX9_isLong 32 = .ok (.aload_n 0, 1) := by decide +kernel
theorem dX9_isLong_33 : decode cX9_isLong 33 = .ok (.getfield 103, 3) := by decide +kernel
theorem dX9_isLong_36 : decode cX9_isLong 36 = .ok (.iconst 4, 1) := by decide +kernel
theorem dX9_isLong_37 : decode cX9_isLong 37 = .ok (.iadd, 1) := by decide +kernel
theorem dX9_isLong_38 : decode cX9_isLong 38 = .ok (.invokevirtual 99, 3) := by decide +kernel
theorem dX9_isLong_41 : decode cX9_isLong 41 = .ok (.aload_n 0, 1) := by decide +kernel
theorem dX9_isLong_42 : decode cX9_isLong 42 = .ok (.aload_n 0, 1) := by decide +kernel
theorem dX9_isLong_43 : decode cX9_isLong 43 = .ok (.getfield 103, 3) := by decide +kernel
theorem dX9_isLong_46 : decode cX9_isLong 46 = .ok (.iconst 5, 1) := by decide +kernel
theorem dX9_isLong_47 : decode cX9_isLong 47 = .ok (.iadd, 1) := by decide +kernel
theorem dX9_isLong_48 : decode cX9_isLong 48 = .ok (.invokevirtual 99, 3) := by decide +kernel
theorem dX9_isLong_51 : decode cX9_isLong 51 = .ok (.aload_n 0, 1) := by decide +kernel
theorem dX9_isLong_52 : decode cX9_isLong 52 = .ok (.aload_n 0, 1) := by decide +kernel
theorem dX9_isLong_53 : decode cX9_isLong 53 = .ok (.getfield 103, 3) := by decide +kernel
theorem dX9_isLong_56 : decode cX9_isLong 56 = .ok (.bipush 6, 2) := by decide +kernel
theorem dX9_isLong_58 : decode cX9_isLong 58 = .ok (.iadd, 1) := by decide +kernel
theorem dX9_isLong_59 : decode cX9_isLong 59 = .ok (.invokevirtual 99, 3) := by decide +kernel
theorem dX9_isLong_62 : decode cX9_isLong 62 = .ok (.invokestatic 132, 3) := by decide +kernel
theorem dX9_isLong_65 : decode cX9_isLong 65 = .ok (.goto 48, 3) := by decide +kernel
theorem dX9_isLong_68 : decode cX9_isLong 68 = .ok (.aload_n 0, 1) := by decide +kernel
theorem dX9_isLong_69 : decode cX9_isLong 69 = .ok (.aload_n 0, 1) := by decide +kernel
theorem dX9_isLong_70 : decode cX9_isLong 70 = .ok (.getfield 103, 3) := by decide +kernel
theorem dX9_isLong_73 : decode cX9_isLong 73 = .ok (.iconst 4, 1) := by decide +kernel
theorem dX9_isLong_74 : decode cX9_isLong 74 = .ok (.iadd, 1) := by decide +kernel
theorem dX9_isLong_75 : decode cX9_isLong 75 = .ok (.invokevirtual 99, 3) := by decide +kernel
theorem dX9_isLong_78 : decode cX9_isLong 78 = .ok (.aload_n 0, 1) := by decide +kernel
theorem dX9_isLong_79 : decode cX9_isLong 79 = .ok (.aload_n 0, 1) := by decide +kernel
theorem dX9_isLong_80 : decode cX9_isLong 80 = .ok (.getfield 103, 3) := by decide +kernel
theorem dX9_isLong_83 : decode cX9_isLong 83 = .ok (.iconst 5, 1) := by decide +kernel
theorem dX9_isLong_84 : decode cX9_isLong 84 = .ok (.iadd, 1) := by decide +kernel
theorem dX9_isLong_85 : decode cX9_isLong 85 = .ok (.invokevirtual 99, 3) := by decide +kernel
theorem dX9_isLong_88 : decode cX9_isLong 88 = .ok (.aload_n 0, 1) := by decide +kernel
theorem dX9_isLong_89 : decode cX9_isLong 89 = .ok (.aload_n 0, 1) := by decide +kernel
theorem dX9_isLong_90 : decode cX9_isLong 90 = .ok (.getfield 103, 3) := by decide +kernel
theorem dX9_isLong_93 : decode cX9_isLong 93 = .ok (.bipush 6, 2) := by decide +kernel
theorem dX9_isLong_95 : decode cX9_isLong 95 = .ok (.iadd, 1) := by decide +kernel
theorem dX9_isLong_96 : decode cX9_isLong 96 = .ok (.invokevirtual 99, 3) := by decide +kernel
theorem dX9_isLong_99 : decode cX9_isLong 99 = .ok (.aload_n 0, 1) := by decide +kernel
theorem dX9_isLong_100 : decode cX9_isLong 100 = .ok (.aload_n 0, 1) := by decide +kernel
theorem dX9_isLong_101 : decode cX9_isLong 101 = .ok (.getfield 103, 3) := by decide +kernel
theorem dX9_isLong_104 : decode cX9_isLong 104 = .ok (.bipush 7, 2) := by decide +kernel
theorem dX9_isLong_106 : decode cX9_isLong 106 = .ok (.iadd, 1) := by decide +kernel
theorem dX9_isLong_107 : decode cX9_isLong 107 = .ok (.invokevirtual 99, 3) := by decide +kernel
theorem dX9_isLong_110 : decode cX9_isLong 110 = .ok (.invokestatic 136, 3) := by decide +kernel
theorem dX9_isLong_113 : decode cX9_isLong 113 = .ok (.lstore 6, 2) := by decide +kernel
theorem dX9_isLong_115 : decode cX9_isLong 115 = .ok (.aload_n 0, 1) := by decide +kernel
theorem dX9_isLong_116 : decode cX9_isLong 116 = .ok (.aload_n 0, 1) := by decide +kernel
theorem dX9_isLong_117 : decode cX9_isLong 117 = .ok (.getfield 103, 3) := by decide +kernel
theorem dX9_isLong_120 : decode cX9_isLong 120 = .ok (.invokevirtual 99, 3) := by decide +kernel
theorem dX9_isLong_123 : decode cX9_isLong 123 = .ok (.aload_n 0, 1) := by decide +kernel
theorem dX9_isLong_124 : decode cX9_isLong 124 = .ok (.aload_n 0, 1) := by decide +kernel
theorem dX9_isLong_125 : decode cX9_isLong 125 = .ok (.getfield 103, 3) := by decide +kernel
theorem dX9_isLong_128 : decode cX9_isLong 128 = .ok (.iconst 1, 1) := by decide +kernel
theorem dX9_isLong_129 : decode cX9_isLong 129 = .ok (.iadd, 1) := by decide +kernel
theorem dX9_isLong_130 : decode cX9_isLong 130 = .ok (.invokevirtual 99, 3) := by decide +kernel
theorem dX9_isLong_133 : decode cX9_isLong 133 = .ok (.aload_n 0, 1) := by decide +kernel
theorem dX9_isLong_134 : decode cX9_isLong 134 = .ok (.aload_n 0, 1) := by decide +kernel
theorem dX9_isLong_135 : decode cX9_isLong 135 = .ok (.getfield 103, 3) := by decide +kernel
theorem dX9_isLong_138 : decode cX9_isLong 138 = .ok (.iconst 2, 1) := by decide +kernel
theorem dX9_isLong_139 : decode cX9_isLong 139 = .ok (.iadd, 1) := by decide +kernel
theorem dX9_isLong_140 : decode cX9_isLong 140 = .ok (.invokevirtual 99, 3) := by decide +kernel
theorem dX9_isLong_143 : decode cX9_isLong 143 = .ok (.aload_n 0, 1) := by decide +kernel
theorem dX9_isLong_144 : decode cX9_isLong 144 = .ok (.aload_n 0, 1) := by decide +kernel
theorem dX9_isLong_145 : decode cX9_isLong 145 = .ok (.getfield 103, 3) := by decide +kernel
theorem dX9_isLong_148 : decode cX9_isLong 148 = .ok (.iconst 3, 1) := by decide +kernel
theorem dX9_isLong_149 : decode cX9_isLong 149 = .ok (.iadd, 1) := by decide +kernel
theorem dX9_isLong_150 : decode cX9_isLong 150 = .ok (.invokevirtual 99, 3) := by decide +kernel
theorem dX9_isLong_153 : decode cX9_isLong 153 = .ok (.invokestatic 136, 3) := by decide +kernel
theorem dX9_isLong_156 : decode cX9_isLong 156 = .ok (.lload_n 1, 1) := by decide +kernel
theorem dX9_isLong_157 : decode cX9_isLong 157 = .ok (.lcmp, 1) := by decide +kernel
theorem dX9_isLong_158 : decode cX9_isLong 158 = .ok (.ifCond .ne 14, 3) := by decide +kernel
theorem dX9_isLong_161 : decode cX9_isLong 161 = .ok (.lload 6, 2) := by decide +kernel
theorem dX9_isLong_163 : decode cX9_isLong 163 = .ok (.lload_n 3, 1) := by decide +kernel
theorem dX9_isLong_164 : decode cX9_isLong 164 = .ok (.lcmp, 1) := by decide +kernel
theorem dX9_isLong_165 : decode cX9_isLong 165 = .ok (.ifCond .ne 7, 3) := by decide +kernel
theorem dX9_isLong_168 : decode cX9_isLong 168 = .ok (.iconst 1, 1) := by decide +kernel
theorem dX9_isLong_169 : decode cX9_isLong 169 = .ok (.goto 4, 3) := by decide +kernel
theorem dX9_isLong_172 : decode cX9_isLong 172 = .ok (.iconst 0, 1) := by decide +kernel
theorem dX9_isLong_173 : decode cX9_isLong 173 = .ok (.ireturn, 1) := by decide +kernel
theorem dX9_nameOf_0 : decode cX9_nameOf 0 = .ok (.aload_n 0, 1) := by decide +kernel
theorem dX9_nameOf_1 : decode cX9_nameOf 1 = .ok (.getfield 106, 3) := by decide +kernel
theorem dX9_nameOf_4 : decode cX9_nameOf 4 = .ok (.iconst 2, 1) := by decide +kernel
theorem dX9_nameOf_5 : decode cX9_nameOf 5 = .ok (.if_icmp .eq 5, 3) := by decide +kernel
theorem dX9_nameOf_8 : decode cX9_nameOf 8 = .ok (.iconst (-1), 1) := by decide +kernel
theorem dX9_nameOf_9 : decode cX9_nameOf 9 = .ok (.ireturn, 1) := by decide +kernel
theorem dX9_nameOf_10 : decode cX9_nameOf 10 = .ok (.aload_n 0, 1) := by decide +kernel
theorem dX9_nameOf_11 : decode cX9_nameOf 11 = .ok (.getfield 119, 3) := by decide +kernel
theorem dX9_nameOf_14 : decode cX9_nameOf 14 = .ok (.bipush 100, 2) := by decide +kernel
theorem dX9_nameOf_16 : decode cX9_nameOf 16 = .ok (.bipush 97, 2) := by decide +kernel
theorem dX9_nameOf_18 : decode cX9_nameOf 18 = .ok (.bipush 121, 2) := by decide +kernel
theorem dX9_nameOf_20 : decode cX9_nameOf 20 = .ok (.invokestatic 132, 3) := by decide +kernel
theorem dX9_nameOf_23 : decode cX9_nameOf 23 = .ok (.lcmp, 1) := by decide +kernel
theorem dX9_nameOf_24 : decode cX9_nameOf 24 = .ok (.ifCond .ne 5, 3) := by decide +kernel
theorem dX9_nameOf_27 : decode cX9_nameOf 27 = .ok (.iconst 0, 1) := by decide +kernel
theorem dX9_nameOf_28 : decode cX9_nameOf 28 = .ok (.ireturn, 1) := by decide +kernel
theorem dX9_nameOf_29 : decode cX9_nameOf 29 = .ok (.aload_n 0, 1) := by decide +kernel
theorem dX9_nameOf_30 : decode cX9_nameOf 30 = .ok (.getfield 119, 3) := by decide +kernel
theorem dX9_nameOf_33 : decode cX9_nameOf 33 = .ok (.bipush 109, 2) := by decide +kernel
theorem dX9_nameOf_35 : decode cX9_nameOf 35 = .ok (.bipush 97, 2) := by decide +kernel
theorem dX9_nameOf_37 : decode cX9_nameOf 37 = .ok (.bipush 110, 2) := by decide +kernel
theorem dX9_nameOf_39 : decode cX9_nameOf 39 = .ok (.bipush 121, 2) := by decide +kernel
theorem dX9_nameOf_41 : decode cX9_nameOf 41 = .ok (.invokestatic 136, 3) := by decide +kernel
theorem dX9_nameOf_44 : decode cX9_nameOf 44 = .ok (.lcmp, 1) := by decide +kernel
theorem dX9_nameOf_45 : decode cX9_nameOf 45 = .ok (.ifCond .ne 5, 3) := by decide +kernel
theorem dX9_nameOf_48 : decode cX9_nameOf 48 = .ok (.iconst 1, 1) := by decide +kernel
theorem dX9_nameOf_49 : decode cX9_nameOf 49 = .ok (.ireturn, 1) := by decide +kernel
theorem dX9_nameOf_50 : decode cX9_nameOf 50 = .ok (.aload_n 0, 1) := by decide +kernel
theorem dX9_nameOf_51 : decode cX9_nameOf 51 = .ok (.getfield 119, 3) := by decide +kernel
theorem dX9_nameOf_54 : decode cX9_nameOf 54 = .ok (.bipush 102, 2) := by decide +kernel
theorem dX9_nameOf_56 : decode cX9_nameOf 56 = .ok (.bipush 97, 2) := by decide +kernel
theorem dX9_nameOf_58 : decode cX9_nameOf 58 = .ok (.bipush 99, 2) := by decide +kernel
theorem dX9_nameOf_60 : decode cX9_nameOf 60 = .ok (.bipush 116, 2) := by decide +kernel
theorem dX9_nameOf_62 : decode cX9_nameOf 62 = .ok (.invokestatic 136, 3) := by decide +kernel
theorem dX9_nameOf_65 : decode cX9_nameOf 65 = .ok (.lcmp, 1) := by decide +kernel
theorem dX9_nameOf_66 : decode cX9_nameOf 66 = .ok (.ifCond .ne 5, 3) := by decide +kernel
theorem dX9_nameOf_69 : decode cX9_nameOf 69 = .ok (.iconst 2, 1) := by decide +kernel
theorem dX9_nameOf_70 : decode cX9_nameOf 70 = .ok (.ireturn, 1) := by decide +kernel
theorem dX9_nameOf_71 : decode cX9_nameOf 71 = .ok (.aload_n 0, 1) := by decide +kernel
theorem dX9_nameOf_72 : decode cX9_nameOf 72 = .ok (.getfield 119, 3) := by decide +kernel
theorem dX9_nameOf_75 : decode cX9_nameOf 75 = .ok (.bipush 111, 2) := by decide +kernel
theorem dX9_nameOf_77 : decode cX9_nameOf 77 = .ok (.bipush 100, 2) := by decide +kernel
theorem dX9_nameOf_79 : decode cX9_nameOf 79 = .ok (.bipush 100, 2) := by decide +kernel
theorem dX9_nameOf_81 : decode cX9_nameOf 81 = .ok (.bipush 115, 2) := by decide +kernel
theorem dX9_nameOf_83 : decode cX9_nameOf 83 = .ok (.invokestatic 136, 3) := by decide +kernel
theorem dX9_nameOf_86 : decode cX9_nameOf 86 = .ok (.lcmp, 1) := by decide +kernel
theorem dX9_nameOf_87 : decode cX9_nameOf 87 = .ok (.ifCond .ne 5, 3) := by decide +kernel
theorem dX9_nameOf_90 : decode cX9_nameOf 90 = .ok (.iconst 3, 1) := by decide +kernel
theorem dX9_nameOf_91 : decode cX9_nameOf 91 = .ok (.ireturn, 1) := by decide +kernel
theorem dX9_nameOf_92 : decode cX9_nameOf 92 = .ok (.aload_n 0, 1) := by decide +kernel
theorem dX9_nameOf_93 : decode cX9_nameOf 93 = .ok (.getfield 119, 3) := by decide +kernel
theorem dX9_nameOf_96 : decode cX9_nameOf 96 = .ok (.bipush 99, 2) := by decide +kernel
theorem dX9_nameOf_98 : decode cX9_nameOf 98 = .ok (.bipush 111, 2) := by decide +kernel
theorem dX9_nameOf_100 : decode cX9_nameOf 100 = .ok (.bipush 115, 2) := by decide +kernel
theorem dX9_nameOf_102 : decode cX9_nameOf 102 = .ok (.bipush 116, 2) := by decide +kernel
theorem dX9_nameOf_104 : decode cX9_nameOf 104 = .ok (.invokestatic 136, 3) := by decide +kernel
theorem dX9_nameOf_107 : decode cX9_nameOf 107 = .ok (.lcmp, 1) := by decide +kernel
theorem dX9_nameOf_108 : decode cX9_nameOf 108 = .ok (.ifCond .ne 5, 3) := by decide +kernel
theorem dX9_nameOf_111 : decode cX9_nameOf 111 = .ok (.iconst 4, 1) := by decide +kernel
theorem dX9_nameOf_112 : decode cX9_nameOf 112 = .ok (.ireturn, 1) := by decide +kernel
theorem dX9_nameOf_113 : decode cX9_nameOf 113 = .ok (.aload_n 0, 1) := by decide +kernel
theorem dX9_nameOf_114 : decode cX9_nameOf 114 = .ok (.getfield 119, 3) := by decide +kernel
theorem dX9_nameOf_117 : decode cX9_nameOf 117 = .ok (.bipush 119, 2) := by decide +kernel
theorem dX9_nameOf_119 : decode cX9_nameOf 119 = .ok (.bipush 104, 2) := by decide +kernel
theorem dX9_nameOf_121 : decode cX9_nameOf 121 = .ok (.bipush 111, 2) := by decide +kernel
theorem dX9_nameOf_123 : decode cX9_nameOf 123 = .ok (.invokestatic 132, 3) := by decide +kernel
theorem dX9_nameOf_126 : decode cX9_nameOf 126 = .ok (.lcmp, 1) := by decide +kernel
theorem dX9_nameOf_127 : decode cX9_nameOf 127 = .ok (.ifCond .ne 5, 3) := by decide +kernel
theorem dX9_nameOf_130 : decode cX9_nameOf 130 = .ok (.iconst 5, 1) := by decide +kernel
theorem dX9_nameOf_131 : decode cX9_nameOf 131 = .ok (.ireturn, 1) := by decide +kernel
theorem dX9_nameOf_132 : decode cX9_nameOf 132 = .ok (.aload_n 0, 1) := by decide +kernel
theorem dX9_nameOf_133 : decode cX9_nameOf 133 = .ok (.getfield 119, 3) := by decide +kernel
theorem dX9_nameOf_136 : decode cX9_nameOf 136 = .ok (.bipush 102, 2) := by decide +kernel
theorem dX9_nameOf_138 : decode cX9_nameOf 138 = .ok (.bipush 97, 2) := by decide +kernel
theorem dX9_nameOf_140 : decode cX9_nameOf 140 = .ok (.bipush 109, 2) := by decide +kernel
theorem dX9_nameOf_142 : decode cX9_nameOf 142 = .ok (.bipush 101, 2) := by decide +kernel
theorem dX9_nameOf_144 : decode cX9_nameOf 144 = .ok (.invokestatic 136, 3) := by decide +kernel
theorem dX9_nameOf_147 : decode cX9_nameOf 147 = .ok (.lcmp, 1) := by decide +kernel
theorem dX9_nameOf_148 : decode cX9_nameOf 148 = .ok (.ifCond .ne 6, 3) := by decide +kernel
theorem dX9_nameOf_151 : decode cX9_nameOf 151 = .ok (.bipush 6, 2) := by decide +kernel
theorem dX9_nameOf_153 : decode cX9_nameOf 153 = .ok (.ireturn, 1) := by decide +kernel
theorem dX9_nameOf_154 : decode cX9_nameOf 154 = .ok (.aload_n 0, 1) := by decide +kernel
theorem dX9_nameOf_155 : decode cX9_nameOf 155 = .ok (.getfield 119, 3) := by decide +kernel
theorem dX9_nameOf_158 : decode cX9_nameOf 158 = .ok (.bipush 112, 2) := by decide +kernel
theorem dX9_nameOf_160 : decode cX9_nameOf 160 = .ok (.bipush 117, 2) := by decide +kernel
theorem dX9_nameOf_162 : decode cX9_nameOf 162 = .ok (.bipush 114, 2) := by decide +kernel
theorem dX9_nameOf_164 : decode cX9_nameOf 164 = .ok (.bipush 115, 2) := by decide +kernel
theorem dX9_nameOf_166 : decode cX9_nameOf 166 = .ok (.bipush 101, 2) := by decide +kernel
theorem dX9_nameOf_168 : decode cX9_nameOf 168 = .ok (.invokestatic 140, 3) := by decide +kernel
theorem dX9_nameOf_171 : decode cX9_nameOf 171 = .ok (.lcmp, 1) := by decide +kernel
theorem dX9_nameOf_172 : decode cX9_nameOf 172 = .ok (.ifCond .ne 6, 3) := by decide +kernel
theorem dX9_nameOf_175 : decode cX9_nameOf 175 = .ok (.bipush 7, 2) := by decide +kernel
theorem dX9_nameOf_177 : decode cX9_nameOf 177 = .ok (.ireturn, 1) := by decide +kernel
theorem dX9_nameOf_178 : decode cX9_nameOf 178 = .ok (.aload_n 0, 1) := by decide +kernel
theorem dX9_nameOf_179 : decode cX9_nameOf 179 = .ok (.getfield 119, 3) := by decide +kernel
theorem dX9_nameOf_182 : decode cX9_nameOf 182 = .ok (.bipush 102, 2) := by decide +kernel
theorem dX9_nameOf_184 : decode cX9_nameOf 184 = .ok (.bipush 101, 2) := by decide +kernel
theorem dX9_nameOf_186 : decode cX9_nameOf 186 = .ok (.bipush 101, 2) := by decide +kernel
theorem dX9_nameOf_188 : decode cX9_nameOf 188 = .ok (.invokestatic 132, 3) := by decide +kernel
theorem dX9_nameOf_191 : decode cX9_nameOf 191 = .ok (.lcmp, 1) := by decide +kernel
theorem dX9_nameOf_192 : decode cX9_nameOf 192 = .ok (.ifCond .ne 6, 3) := by decide +kernel
theorem dX9_nameOf_195 : decode cX9_nameOf 195 = .ok (.bipush 8, 2) := by decide +kernel
theorem dX9_nameOf_197 : decode cX9_nameOf 197 = .ok (.ireturn, 1) := by decide +kernel
theorem dX9_nameOf_198 : decode cX9_nameOf 198 = .ok (.aload_n 0, 1) := by decide +kernel
theorem dX9_nameOf_199 : decode cX9_nameOf 199 = .ok (.getfield 119, 3) := by decide +kernel
theorem dX9_nameOf_202 : decode cX9_nameOf 202 = .ok (.bipush 102, 2) := by decide +kernel
theorem dX9_nameOf_204 : decode cX9_nameOf 204 = .ok (.bipush 97, 2) := by decide +kernel
theorem dX9_nameOf_206 : decode cX9_nameOf 206 = .ok (.bipush 99, 2) := by decide +kernel
theorem dX9_nameOf_208 : decode cX9_nameOf 208 = .ok (.bipush 116, 2) := by decide +kernel
theorem dX9_nameOf_210 : decode cX9_nameOf 210 = .ok (.bipush 115, 2) := by decide +kernel
theorem dX9_nameOf_212 : decode cX9_nameOf 212 = .ok (.invokestatic 140, 3) := by decide +kernel
theorem dX9_nameOf_215 : decode cX9_nameOf 215 = .ok (.lcmp, 1) := by decide +kernel
theorem dX9_nameOf_216 : decode cX9_nameOf 216 = .ok (.ifCond .ne 8, 3) := by decide +kernel
theorem dX9_nameOf_219 : decode cX9_nameOf 219 = .ok (.bipush 9, 2) := by decide +kernel
theorem dX9_nameOf_221 : decode cX9_nameOf 221 = .ok (.goto 26, 3) := by decide +kernel
theorem dX9_nameOf_224 : decode cX9_nameOf 224 = .ok (.aload_n 0, 1) := by decide +kernel
theorem dX9_nameOf_225 : decode cX9_nameOf 225 = .ok (.getfield 119, 3) := by decide +kernel
theorem dX9_nameOf_228 : decode cX9_nameOf 228 = .ok (.bipush 100, 2) := by decide +kernel
theorem dX9_nameOf_230 : decode cX9_nameOf 230 = .ok (.bipush 117, 2) := by decide +kernel
theorem dX9_nameOf_232 : decode cX9_nameOf 232 = .ok (.bipush 101, 2) := by decide +kernel
theorem dX9_nameOf_234 : decode cX9_nameOf 234 = .ok (.invokestatic 132, 3) := by decide +kernel
theorem dX9_nameOf_237 : decode cX9_nameOf 237 = .ok (.lcmp, 1) := by decide +kernel
theorem dX9_nameOf_238 : decode cX9_nameOf 238 = .ok (.ifCond .ne 8, 3) := by decide +kernel
theorem dX9_nameOf_241 : decode cX9_nameOf 241 = .ok (.bipush 10, 2) := by decide +kernel
theorem dX9_nameOf_243 : decode cX9_nameOf 243 = .ok (.goto 4, 3) := by decide +kernel
theorem dX9_nameOf_246 : decode cX9_nameOf 246 = .ok (.iconst (-1), 1) := by decide +kernel
theorem dX9_nameOf_247 : decode cX9_nameOf 247 = .ok (.ireturn, 1) := by decide +kernel
theorem dX9_isOf_0 : decode cX9_isOf 0 = .ok (.iload_n 1, 1) := by decide +kernel
theorem dX9_isOf_1 : decode cX9_isOf 1 = .ok (.iconst 2, 1) := by decide +kernel
theorem dX9_isOf_2 : decode cX9_isOf 2 = .ok (.if_icmp .lt 25, 3) := by decide +kernel
theorem dX9_isOf_5 : decode cX9_isOf 5 = .ok (.iload_n 1, 1) := by decide +kernel
theorem dX9_isOf_6 : decode cX9_isOf 6 = .ok (.iconst 5, 1) := by decide +kernel
theorem dX9_isOf_7 : decode cX9_isOf 7 = .ok (.if_icmp .ge 13, 3) := by decide +kernel
theorem dX9_isOf_10 : decode cX9_isOf 10 = .ok (.aload_n 0, 1) := by decide +kernel
theorem dX9_isOf_11 : decode cX9_isOf 11 = .ok (.getfield 150, 3) := by decide +kernel
theorem dX9_isOf_14 : decode cX9_isOf 14 = .ok (.ifCond .ne 17, 3) := by decide +kernel
theorem dX9_isOf_17 : decode cX9_isOf 17 = .ok (.goto 10, 3) := by decide +kernel
theorem dX9_isOf_20 : decode cX9_isOf 20 = .ok (.aload_n 0, 1) := by decide +kernel
theorem dX9_isOf_21 : decode cX9_isOf 21 = .ok (.getfield 150, 3) := by decide +kernel
theorem dX9_isOf_24 : decode cX9_isOf 24 = .ok (.ifCond .eq 7, 3) := by decide +kernel
theorem dX9_isOf_27 : decode cX9_isOf 27 = .ok (.iconst 1, 1) := by decide +kernel
theorem dX9_isOf_28 : decode cX9_isOf 28 = .ok (.goto 4, 3) := by decide +kernel
theorem dX9_isOf_31 : decode cX9_isOf 31 = .ok (.iconst 0, 1) := by decide +kernel
theorem dX9_isOf_32 : decode cX9_isOf 32 = .ok (.ireturn, 1) := by decide +kernel
theorem dX9_rank_0 : decode cX9_rank 0 = .ok (.iload_n 0, 1) := by decide +kernel
theorem dX9_rank_1 : decode cX9_rank 1 = .ok (.bipush 40, 2) := by decide +kernel
theorem dX9_rank_3 : decode cX9_rank 3 = .ok (.if_icmp .lt 7, 3) := by decide +kernel
theorem dX9_rank_6 : decode cX9_rank 6 = .ok (.iconst 0, 1) := by decide +kernel
theorem dX9_rank_7 : decode cX9_rank 7 = .ok (.goto 75, 3) := by decide +kernel
theorem dX9_rank_10 : decode cX9_rank 10 = .ok (.iload_n 0, 1) := by decide +kernel
theorem dX9_rank_11 : decode cX9_rank 11 = .ok (.bipush 22, 2) := by decide +kernel
theorem dX9_rank_13 : decode cX9_rank 13 = .ok (.if_icmp .ne 7, 3) := by decide +kernel
theorem dX9_rank_16 : decode cX9_rank 16 = .ok (.iconst 1, 1) := by decide +kernel
theorem dX9_rank_17 : decode cX9_rank 17 = .ok (.goto 65, 3) := by decide +kernel
theorem dX9_rank_20 : decode cX9_rank 20 = .ok (.iload_n 0, 1) := by decide +kernel
theorem dX9_rank_21 : decode cX9_rank 21 = .ok (.bipush 21, 2) := by decide +kernel
theorem dX9_rank_23 : decode cX9_rank 23 = .ok (.if_icmp .ne 7, 3) := by decide +kernel
theorem dX9_rank_26 : decode cX9_rank 26 = .ok (.iconst 2, 1) := by decide +kernel
theorem dX9_rank_27 : decode cX9_rank 27 = .ok (.goto 55, 3) := by decide +kernel
theorem dX9_rank_30 : decode cX9_rank 30 = .ok (.iload_n 0, 1) := by decide +kernel
theorem dX9_rank_31 : decode cX9_rank 31 = .ok (.bipush 20, 2) := by decide +kernel
theorem dX9_rank_33 : decode cX9_rank 33 = .ok (.if_icmp .ne 7, 3) := by decide +kernel
theorem dX9_rank_36 : decode cX9_rank 36 = .ok (.iconst 3, 1) := by decide +kernel
theorem dX9_rank_37 : decode cX9_rank 37 = .ok (.goto 45, 3) := by decide +kernel
theorem dX9_rank_40 : decode cX9_rank 40 = .ok (.iload_n 0, 1) := by decide +kernel
theorem dX9_rank_41 : decode cX9_rank 41 = .ok (.bipush 10, 2) := by decide +kernel
theorem dX9_rank_43 : decode cX9_rank 43 = .ok (.if_icmp .lt 7, 3) := by decide +kernel
theorem dX9_rank_46 : decode cX9_rank 46 = .ok (.iconst 4, 1) := by decide +kernel
theorem dX9_rank_47 : decode cX9_rank 47 = .ok (.goto 35, 3) := by decide +kernel
theorem dX9_rank_50 : decode cX9_rank 50 = .ok (.iload_n 0, 1) := by decide +kernel
theorem dX9_rank_51 : decode cX9_rank 51 = .ok (.iconst 5, 1) := by decide +kernel
theorem dX9_rank_52 : decode cX9_rank 52 = .ok (.if_icmp .eq 13, 3) := by decide +kernel
theorem dX9_rank_55 : decode cX9_rank 55 = .ok (.iload_n 0, 1) := by decide +kernel
theorem dX9_rank_56 : decode cX9_rank 56 = .ok (.iconst 2, 1) := by decide +kernel
theorem dX9_rank_57 : decode cX9_rank 57 = .ok (.if_icmp .eq 8, 3) := by decide +kernel
theorem dX9_rank_60 : decode cX9_rank 60 = .ok (.iload_n 0, 1) := by decide +kernel
theorem dX9_rank_61 : decode cX9_rank 61 = .ok (.iconst 4, 1) := by decide +kernel
theorem dX9_rank_62 : decode cX9_rank 62 = .ok (.if_icmp .ne 8, 3) := by decide +kernel
theorem dX9_rank_65 : decode cX9_rank 65 = .ok (.bipush 7, 2) := by decide +kernel
theorem dX9_rank_67 : decode cX9_rank 67 = .ok (.goto 15, 3) := by decide +kernel
theorem dX9_rank_70 : decode cX9_rank 70 = .ok (.iload_n 0, 1) := by decide +kernel
theorem dX9_rank_71 : decode cX9_rank 71 = .ok (.bipush 8, 2) := by decide +kernel
theorem dX9_rank_73 : decode cX9_rank 73 = .ok (.if_icmp .lt 8, 3) := by decide +kernel
theorem dX9_rank_76 : decode cX9_rank 76 = .ok (.bipush 6, 2) := by decide +kernel
theorem dX9_rank_78 : decode cX9_rank 78 = .ok (.goto 4, 3) := by decide +kernel
theorem dX9_rank_81 : decode cX9_rank 81 = .ok (.iconst 5, 1) := by decide +kernel
theorem dX9_rank_82 : decode cX9_rank 82 = .ok (.ireturn, 1) := by decide +kernel
theorem dX9_settle_0 : decode cX9_settle 0 = .ok (.aload_n 0, 1) := by decide +kernel
theorem dX9_settle_1 : decode cX9_settle 1 = .ok (.getfield 153, 3) := by decide +kernel
theorem dX9_settle_4 : decode cX9_settle 4 = .ok (.ifCond .le 89, 3) := by decide +kernel
theorem dX9_settle_7 : decode cX9_settle 7 = .ok (.aload_n 0, 1) := by decide +kernel
theorem dX9_settle_8 : decode cX9_settle 8 = .ok (.getfield 29, 3) := by decide +kernel
theorem dX9_settle_11 : decode cX9_settle 11 = .ok (.aload_n 0, 1) := by decide +kernel
theorem dX9_settle_12 : decode cX9_settle 12 = .ok (.getfield 153, 3) := by decide +kernel
theorem dX9_settle_15 : decode cX9_settle 15 = .ok (.iconst 1, 1) := by decide +kernel
theorem dX9_settle_16 : decode cX9_settle 16 = .ok (.isub, 1) := by decide +kernel
theorem dX9_settle_17 : decode cX9_settle 17 = .ok (.iaload, 1) := by decide +kernel
theorem dX9_settle_18 : decode cX9_settle 18 = .ok (.invokestatic 156, 3) := by decide +kernel
theorem dX9_settle_21 : decode cX9_settle 21 = .ok (.iload_n 1, 1) := by decide +kernel
theorem dX9_settle_22 : decode cX9_settle 22 = .ok (.if_icmp .lt 71, 3) := by decide +kernel
theorem dX9_settle_25 : decode cX9_settle 25 = .ok (.aload_n 0, 1) := by decide +kernel
theorem dX9_settle_26 : decode cX9_settle 26 = .ok (.dup, 1) := by decide +kernel
theorem dX9_settle_27 : decode cX9_settle 27 = .ok (.getfield 153, 3) := by decide +kernel
theorem dX9_settle_30 : decode cX9_settle 30 = .ok (.iconst 1, 1) := by decide +kernel
theorem dX9_settle_31 : decode cX9_settle 31 = .ok (.isub, 1) := by decide +kernel
theorem dX9_settle_32 : decode cX9_settle 32 = .ok (.putfield 153, 3) := by decide +kernel
theorem dX9_settle_35 : decode cX9_settle 35 = .ok (.aload_n 0, 1) := by decide +kernel
theorem dX9_settle_36 : decode cX9_settle 36 = .ok (.aload_n 0, 1) := by decide +kernel
theorem dX9_settle_37 : decode cX9_settle 37 = .ok (.getfield 29, 3) := by decide +kernel
theorem dX9_settle_40 : decode cX9_settle 40 = .ok (.aload_n 0, 1) := by decide +kernel
theorem dX9_settle_41 : decode cX9_settle 41 = .ok (.getfield 153, 3) := by decide +kernel
theorem dX9_settle_44 : decode cX9_settle 44 = .ok (.iaload, 1) := by decide +kernel
theorem dX9_settle_45 : decode cX9_settle 45 = .ok (.iconst 0, 1) := by decide +kernel
theorem dX9_settle_46 : decode cX9_settle 46 = .ok (.invokevirtual 159, 3) := by decide +kernel
theorem dX9_settle_49 : decode cX9_settle 49 = .ok (.aload_n 0, 1) := by decide +kernel
theorem dX9_settle_50 : decode cX9_settle 50 = .ok (.getfield 29, 3) := by decide +kernel
theorem dX9_settle_53 : decode cX9_settle 53 = .ok (.aload_n 0, 1) := by decide +kernel
theorem dX9_settle_54 : decode cX9_settle 54 = .ok (.getfield 153, 3) := by decide +kernel
theorem dX9_settle_57 : decode cX9_settle 57 = .ok (.iaload, 1) := by decide +kernel
theorem dX9_settle_58 : decode cX9_settle 58 = .ok (.invokestatic 156, 3) := by decide +kernel
theorem dX9_settle_61 : decode cX9_settle 61 = .ok (.bipush 7, 2) := by decide +kernel
theorem dX9_settle_63 : decode cX9_settle 63 = .ok (.if_icmp .eq 17, 3) := by decide +kernel
theorem dX9_settle_66 : decode cX9_settle 66 = .ok (.aload_n 0, 1) := by decide +kernel
theorem dX9_settle_67 : decode cX9_settle 67 = .ok (.getfield 29, 3) := by decide +kernel
theorem dX9_settle_70 : decode cX9_settle 70 = .ok (.aload_n 0, 1) := by decide +kernel
theorem dX9_settle_71 : decode cX9_settle 71 = .ok (.getfield 153, 3) := by decide +kernel
theorem dX9_settle_74 : decode cX9_settle 74 = .ok (.iaload, 1) := by decide +kernel
theorem dX9_settle_75 : decode cX9_settle 75 = .ok (.bipush 20, 2) := by decide +kernel
theorem dX9_settle_77 : decode cX9_settle 77 = .ok (.if_icmp .ne (-77), 3) := by decide +kernel
theorem dX9_settle_80 : decode cX9_settle 80 = .ok (.aload_n 0, 1) := by decide +kernel
theorem dX9_settle_81 : decode cX9_settle 81 = .ok (.dup, 1) := by decide +kernel
theorem dX9_settle_82 : decode cX9_settle 82 = .ok (.getfield 163, 3) := by decide +kernel
theorem dX9_settle_85 : decode cX9_settle 85 = .ok (.iconst 1, 1) := by decide +kernel
theorem dX9_settle_86 : decode cX9_settle 86 = .ok (.isub, 1) := by decide +kernel
theorem dX9_settle_87 : decode cX9_settle 87 = .ok (.putfield 163, 3) := by decide +kernel
theorem dX9_settle_90 : decode cX9_settle 90 = .ok (.goto (-90), 3) := by decide +kernel
theorem dX9_settle_93 : decode cX9_settle 93 = .ok (.return_, 1) := by decide +kernel
theorem dX9_openAt_0 : decode cX9_openAt 0 = .ok (.aload_n 0, 1) := by decide +kernel
theorem dX9_openAt_1 : decode cX9_openAt 1 = .ok (.getfield 153, 3) := by decide +kernel
theorem dX9_openAt_4 : decode cX9_openAt 4 = .ok (.iconst 1, 1) := by decide +kernel
theorem dX9_openAt_5 : decode cX9_openAt 5 = .ok (.isub, 1) := by decide +kernel
theorem dX9_openAt_6 : decode cX9_openAt 6 = .ok (.istore_n 1, 1) := by decide +kernel
theorem dX9_openAt_7 : decode cX9_openAt 7 = .ok (.iload_n 1, 1) := by decide +kernel
theorem dX9_openAt_8 : decode cX9_openAt 8 = .ok (.ifCond .lt 20, 3) := by decide +kernel
theorem dX9_openAt_11 : decode cX9_openAt 11 = .ok (.aload_n 0, 1) := by decide +kernel
theorem dX9_openAt_12 : decode cX9_openAt 12 = .ok (.getfield 29, 3) := by decide +kernel
theorem dX9_openAt_15 : decode cX9_openAt 15 = .ok (.iload_n 1, 1) := by decide +kernel
theorem dX9_openAt_16 : decode cX9_openAt 16 = .ok (.iaload, 1) := by decide +kernel
theorem dX9_openAt_17 : decode cX9_openAt 17 = .ok (.bipush 40, 2) := by decide +kernel
theorem dX9_openAt_19 : decode cX9_openAt 19 = .ok (.if_icmp .ge 9, 3) := by decide +kernel
theorem dX9_openAt_22 : decode cX9_openAt 22 = .ok (.iinc 1 (-1), 3) := by decide +kernel
theorem dX9_openAt_25 : decode cX9_openAt 25 = .ok (.goto (-18), 3) := by decide +kernel
theorem dX9_openAt_28 : decode cX9_openAt 28 = .ok (.iload_n 1, 1) := by decide +kernel
theorem dX9_openAt_29 : decode cX9_openAt 29 = .ok (.ireturn, 1) := by decide +kernel
theorem dX9_openNow_0 : decode cX9_openNow 0 = .ok (.aload_n 0, 1) := by decide +kernel
theorem dX9_openNow_1 : decode cX9_openNow 1 = .ok (.invokevirtual 166, 3) := by decide +kernel
theorem dX9_openNow_4 : decode cX9_openNow 4 = .ok (.ifCond .ge 7, 3) := by decide +kernel
theorem dX9_openNow_7 : decode cX9_openNow 7 = .ok (.iconst (-1), 1) := by decide +kernel
theorem dX9_openNow_8 : decode cX9_openNow 8 = .ok (.goto 12, 3) := by decide +kernel
theorem dX9_openNow_11 : decode cX9_openNow 11 = .ok (.aload_n 0, 1) := by decide +kernel
theorem dX9_openNow_12 : decode cX9_openNow 12 = .ok (.getfield 29, 3) := by decide +kernel
theorem dX9_openNow_15 : decode cX9_openNow 15 = .ok (.aload_n 0, 1) := by decide +kernel
theorem dX9_openNow_16 : decode cX9_openNow 16 = .ok (.invokevirtual 166, 3) := by decide +kernel
theorem dX9_openNow_19 : decode cX9_openNow 19 = .ok (.iaload, 1) := by decide +kernel
theorem dX9_openNow_20 : decode cX9_openNow 20 = .ok (.ireturn, 1) := by decide +kernel
theorem dX9_isCompared_0 : decode cX9_isCompared 0 = .ok (.aload_n 0, 1) := by decide +kernel
theorem dX9_isCompared_1 : decode cX9_isCompared 1 = .ok (.getfield 153, 3) := by decide +kernel
theorem dX9_isCompared_4 : decode cX9_isCompared 4 = .ok (.iconst 1, 1) := by decide +kernel
theorem dX9_isCompared_5 : decode cX9_isCompared 5 = .ok (.isub, 1) := by decide +kernel
theorem dX9_isCompared_6 : decode cX9_isCompared 6 = .ok (.istore_n 1, 1) := by decide +kernel
theorem dX9_isCompared_7 : decode cX9_isCompared 7 = .ok (.iload_n 1, 1) := by decide +kernel
theorem dX9_isCompared_8 : decode cX9_isCompared 8 = .ok (.ifCond .lt 22, 3) := by decide +kernel
theorem dX9_isCompared_11 : decode cX9_isCompared 11 = .ok (.aload_n 0, 1) := by decide +kernel
theorem dX9_isCompared_12 : decode cX9_isCompared 12 = .ok (.getfield 29, 3) := by decide +kernel
theorem dX9_isCompared_15 : decode cX9_isCompared 15 = .ok (.iload_n 1, 1) := by decide +kernel
theorem dX9_isCompared_16 : decode cX9_isCompared 16 = .ok (.iaload, 1) := by decide +kernel
theorem dX9_isCompared_17 : decode cX9_isCompared 17 = .ok (.invokestatic 156, 3) := by decide +kernel
theorem dX9_isCompared_20 : decode cX9_isCompared 20 = .ok (.iconst 4, 1) := by decide +kernel
theorem dX9_isCompared_21 : decode cX9_isCompared 21 = .ok (.if_icmp .le 9, 3) := by decide +kernel
theorem dX9_isCompared_24 : decode cX9_isCompared 24 = .ok (.iinc 1 (-1), 3) := by decide +kernel
theorem dX9_isCompared_27 : decode cX9_isCompared 27 = .ok (.goto (-20), 3) := by decide +kernel
theorem dX9_isCompared_30 : decode cX9_isCompared 30 = .ok (.iload_n 1, 1) := by decide +kernel
theorem dX9_isCompared_31 : decode cX9_isCompared 31 = .ok (.ifCond .lt 20, 3) := by decide +kernel
theorem dX9_isCompared_34 : decode cX9_isCompared 34 = .ok (.aload_n 0, 1) := by decide +kernel
theorem dX9_isCompared_35 : decode cX9_isCompared 35 = .ok (.getfield 29, 3) := by decide +kernel
theorem dX9_isCompared_38 : decode cX9_isCompared 38 = .ok (.iload_n 1, 1) := by decide +kernel
theorem dX9_isCompared_39 : decode cX9_isCompared 39 = .ok (.iaload, 1) := by decide +kernel
theorem dX9_isCompared_40 : decode cX9_isCompared 40 = .ok (.invokestatic 156, 3) := by decide +kernel
theorem dX9_isCompared_43 : decode cX9_isCompared 43 = .ok (.iconst 4, 1) := by decide +kernel
theorem dX9_isCompared_44 : decode cX9_isCompared 44 = .ok (.if_icmp .ne 7, 3) := by decide +kernel
theorem dX9_isCompared_47 : decode cX9_isCompared 47 = .ok (.iconst 1, 1) := by decide +kernel
theorem dX9_isCompared_48 : decode cX9_isCompared 48 = .ok (.goto 4, 3) := by decide +kernel
theorem dX9_isCompared_51 : decode cX9_isCompared 51 = .ok (.iconst 0, 1) := by decide +kernel
theorem dX9_isCompared_52 : decode cX9_isCompared 52 = .ok (.ireturn, 1) := by decide +kernel
theorem dX9_isAskAhead_0 : decode cX9_isAskAhead 0 = .ok (.aload_n 0, 1) := by decide +kernel
theorem dX9_isAskAhead_1 : decode cX9_isAskAhead 1 = .ok (.invokevirtual 170, 3) := by decide +kernel
theorem dX9_isAskAhead_4 : decode cX9_isAskAhead 4 = .ok (.bipush 42, 2) := by decide +kernel
theorem dX9_isAskAhead_6 : decode cX9_isAskAhead 6 = .ok (.if_icmp .ne 45, 3) := by decide +kernel
theorem dX9_isAskAhead_9 : decode cX9_isAskAhead 9 = .ok (.aload_n 0, 1) := by decide +kernel
theorem dX9_isAskAhead_10 : decode cX9_isAskAhead 10 = .ok (.getfield 29, 3) := by decide +kernel
theorem dX9_isAskAhead_13 : decode cX9_isAskAhead 13 = .ok (.aload_n 0, 1) := by decide +kernel
theorem dX9_isAskAhead_14 : decode cX9_isAskAhead 14 = .ok (.getfield 153, 3) := by decide +kernel
theorem dX9_isAskAhead_17 : decode cX9_isAskAhead 17 = .ok (.iconst 1, 1) := by decide +kernel
theorem dX9_isAskAhead_18 : decode cX9_isAskAhead 18 = .ok (.isub, 1) := by decide +kernel
theorem dX9_isAskAhead_19 : decode cX9_isAskAhead 19 = .ok (.iaload, 1) := by decide +kernel
theorem dX9_isAskAhead_20 : decode cX9_isAskAhead 20 = .ok (.bipush 40, 2) := by decide +kernel
theorem dX9_isAskAhead_22 : decode cX9_isAskAhead 22 = .ok (.if_icmp .ge 25, 3) := by decide +kernel
theorem dX9_isAskAhead_25 : decode cX9_isAskAhead 25 = .ok (.aload_n 0, 1) := by decide +kernel
theorem dX9_isAskAhead_26 : decode cX9_isAskAhead 26 = .ok (.getfield 29, 3) := by decide +kernel
theorem dX9_isAskAhead_29 : decode cX9_isAskAhead 29 = .ok (.aload_n 0, 1) := by decide +kernel
theorem dX9_isAskAhead_30 : decode cX9_isAskAhead 30 = .ok (.getfield 153, 3) := by decide +kernel
theorem dX9_isAskAhead_33 : decode cX9_isAskAhead 33 = .ok (.iconst 1, 1) := by decide +kernel
theorem dX9_isAskAhead_34 : decode cX9_isAskAhead 34 = .ok (.isub, 1) := by decide +kernel
theorem dX9_isAskAhead_35 : decode cX9_isAskAhead 35 = .ok (.iaload, 1) := by decide +kernel
theorem dX9_isAskAhead_36 : decode cX9_isAskAhead 36 = .ok (.invokestatic 156, 3) := by decide +kernel
theorem dX9_isAskAhead_39 : decode cX9_isAskAhead 39 = .ok (.iconst 1, 1) := by decide +kernel
theorem dX9_isAskAhead_40 : decode cX9_isAskAhead 40 = .ok (.iconst 3, 1) := by decide +kernel
theorem dX9_isAskAhead_41 : decode cX9_isAskAhead 41 = .ok (.invokestatic 63, 3) := by decide +kernel
theorem dX9_isAskAhead_44 : decode cX9_isAskAhead 44 = .ok (.ifCond .eq 7, 3) := by decide +kernel
theorem dX9_isAskAhead_47 : decode cX9_isAskAhead 47 = .ok (.iconst 1, 1) := by decide +kernel
theorem dX9_isAskAhead_48 : decode cX9_isAskAhead 48 = .ok (.goto 4, 3) := by decide +kernel
theorem dX9_isAskAhead_51 : decode cX9_isAskAhead 51 = .ok (.iconst 0, 1) := by decide +kernel
theorem dX9_isAskAhead_52 : decode cX9_isAskAhead 52 = .ok (.ireturn, 1) := by decide +kernel
theorem dX9_opened_0 : decode cX9_opened 0 = .ok (.aload_n 0, 1) := by decide +kernel
theorem dX9_opened_1 : decode cX9_opened 1 = .ok (.getfield 163, 3) := by decide +kernel
theorem dX9_opened_4 : decode cX9_opened 4 = .ok (.bipush 8, 2) := by decide +kernel
theorem dX9_opened_6 : decode cX9_opened 6 = .ok (.if_icmp .ne 5, 3) := by decide +kernel
theorem dX9_opened_9 : decode cX9_opened 9 = .ok (.iconst 3, 1) := by decide +kernel
theorem dX9_opened_10 : decode cX9_opened 10 = .ok (.ireturn, 1) := by decide +kernel
theorem dX9_opened_11 : decode cX9_opened 11 = .ok (.aload_n 0, 1) := by decide +kernel
theorem dX9_opened_12 : decode cX9_opened 12 = .ok (.dup, 1) := by decide +kernel
theorem dX9_opened_13 : decode cX9_opened 13 = .ok (.getfield 163, 3) := by decide +kernel
theorem dX9_opened_16 : decode cX9_opened 16 = .ok (.iconst 1, 1) := by decide +kernel
theorem dX9_opened_17 : decode cX9_opened 17 = .ok (.iadd, 1) := by decide +kernel
theorem dX9_opened_18 : decode cX9_opened 18 = .ok (.putfield 163, 3) := by decide +kernel
theorem dX9_opened_21 : decode cX9_opened 21 = .ok (.aload_n 0, 1) := by decide +kernel
theorem dX9_opened_22 : decode cX9_opened 22 = .ok (.getfield 29, 3) := by decide +kernel
theorem dX9_opened_25 : decode cX9_opened 25 = .ok (.aload_n 0, 1) := by decide +kernel
theorem dX9_opened_26 : decode cX9_opened 26 = .ok (.getfield 153, 3) := by decide +kernel
theorem dX9_opened_29 : decode cX9_opened 29 = .ok (.iload_n 1, 1) := by decide +kernel
theorem dX9_opened_30 : decode cX9_opened 30 = .ok (.iastore, 1) := by decide +kernel
theorem dX9_opened_31 : decode cX9_opened 31 = .ok (.aload_n 0, 1) := by decide +kernel
theorem dX9_opened_32 : decode cX9_opened 32 = .ok (.dup, 1) := by decide +kernel
theorem dX9_opened_33 : decode cX9_opened 33 = .ok (.getfield 153, 3) := by decide +kernel
theorem dX9_opened_36 : decode cX9_opened 36 = .ok (.iconst 1, 1) := by decide +kernel
theorem dX9_opened_37 : decode cX9_opened 37 = .ok (.iadd, 1) := by decide +kernel
theorem dX9_opened_38 : decode cX9_opened 38 = .ok (.putfield 153, 3) := by decide +kernel
theorem dX9_opened_41 : decode cX9_opened 41 = .ok (.aload_n 0, 1) := by decide +kernel
theorem dX9_opened_42 : decode cX9_opened 42 = .ok (.invokevirtual 173, 3) := by decide +kernel
theorem dX9_opened_45 : decode cX9_opened 45 = .ok (.iconst 0, 1) := by decide +kernel
theorem dX9_opened_46 : decode cX9_opened 46 = .ok (.ireturn, 1) := by decide +kernel
theorem dX9_beginOne_0 : decode cX9_beginOne 0 = .ok (.aload_n 0, 1) := by decide +kernel
theorem dX9_beginOne_1 : decode cX9_beginOne 1 = .ok (.getfield 106, 3) := by decide +kernel
theorem dX9_beginOne_4 : decode cX9_beginOne 4 = .ok (.iconst 1, 1) := by decide +kernel
theorem dX9_beginOne_5 : decode cX9_beginOne 5 = .ok (.if_icmp .ne 15, 3) := by decide +kernel
theorem dX9_beginOne_8 : decode cX9_beginOne 8 = .ok (.aload_n 0, 1) := by decide +kernel
theorem dX9_beginOne_9 : decode cX9_beginOne 9 = .ok (.getfield 112, 3) := by decide +kernel
theorem dX9_beginOne_12 : decode cX9_beginOne 12 = .ok (.sipush 9999, 3) := by decide +kernel
theorem dX9_beginOne_15 : decode cX9_beginOne 15 = .ok (.if_icmp .le 5, 3) := by decide +kernel
theorem dX9_beginOne_18 : decode cX9_beginOne 18 = .ok (.iconst 2, 1) := by decide +kernel
theorem dX9_beginOne_19 : decode cX9_beginOne 19 = .ok (.ireturn, 1) := by decide +kernel
theorem dX9_beginOne_20 : decode cX9_beginOne 20 = .ok (.aload_n 0, 1) := by decide +kernel
theorem dX9_beginOne_21 : decode cX9_beginOne 21 = .ok (.invokevirtual 176, 3) := by decide +kernel
theorem dX9_beginOne_24 : decode cX9_beginOne 24 = .ok (.istore_n 1, 1) := by decide +kernel
theorem dX9_beginOne_25 : decode cX9_beginOne 25 = .ok (.iload_n 1, 1) := by decide +kernel
theorem dX9_beginOne_26 : decode cX9_beginOne 26 = .ok (.ifCond .lt 13, 3) := by decide +kernel
theorem dX9_beginOne_29 : decode cX9_beginOne 29 = .ok (.aload_n 0, 1) := by decide +kernel
theorem dX9_beginOne_30 : decode cX9_beginOne 30 = .ok (.iload_n 1, 1) := by decide +kernel
theorem dX9_beginOne_31 : decode cX9_beginOne 31 = .ok (.invokevirtual 179, 3) := by decide +kernel
theorem dX9_beginOne_34 : decode cX9_beginOne 34 = .ok (.ifCond .ne 5, 3) := by decide +kernel
theorem dX9_beginOne_37 : decode cX9_beginOne 37 = .ok (.iconst 5, 1) := by decide +kernel
theorem dX9_beginOne_38 : decode cX9_beginOne 38 = .ok (.ireturn, 1) := by decide +kernel
theorem dX9_beginOne_39 : decode cX9_beginOne 39 = .ok (.aload_n 0, 1) := by decide +kernel
theorem dX9_beginOne_40 : decode cX9_beginOne 40 = .ok (.getfield 106, 3) := by decide +kernel
theorem dX9_beginOne_43 : decode cX9_beginOne 43 = .ok (.iconst 1, 1) := by decide +kernel
theorem dX9_beginOne_44 : decode cX9_beginOne 44 = .ok (.if_icmp .eq 7, 3) := by decide +kernel
theorem dX9_beginOne_47 : decode cX9_beginOne 47 = .ok (.iload_n 1, 1) := by decide +kernel
theorem dX9_beginOne_48 : decode cX9_beginOne 48 = .ok (.ifCond .lt 45, 3) := by decide +kernel
theorem dX9_beginOne_51 : decode cX9_beginOne 51 = .ok (.aload_n 0, 1) := by decide +kernel
theorem dX9_beginOne_52 : decode cX9_beginOne 52 = .ok (.aload_n 0, 1) := by decide +kernel
theorem dX9_beginOne_53 : decode cX9_beginOne 53 = .ok (.getfield 106, 3) := by decide +kernel
theorem dX9_beginOne_56 : decode cX9_beginOne 56 = .ok (.iconst 1, 1) := by decide +kernel
theorem dX9_beginOne_57 : decode cX9_beginOne 57 = .ok (.if_icmp .ne 7, 3) := by decide +kernel
theorem dX9_beginOne_60 : decode cX9_beginOne 60 = .ok (.iconst 0, 1) := by decide +kernel
theorem dX9_beginOne_61 : decode cX9_beginOne 61 = .ok (.goto 4, 3) := by decide +kernel
theorem dX9_beginOne_64 : decode cX9_beginOne 64 = .ok (.iconst 1, 1) := by decide +kernel
theorem dX9_beginOne_65 : decode cX9_beginOne 65 = .ok (.aload_n 0, 1) := by decide +kernel
theorem dX9_beginOne_66 : decode cX9_beginOne 66 = .ok (.getfield 106, 3) := by decide +kernel
theorem dX9_beginOne_69 : decode cX9_beginOne 69 = .ok (.iconst 1, 1) := by decide +kernel
theorem dX9_beginOne_70 : decode cX9_beginOne 70 = .ok (.if_icmp .ne 10, 3) := by decide +kernel
theorem dX9_beginOne_73 : decode cX9_beginOne 73 = .ok (.aload_n 0, 1) := by decide +kernel
theorem dX9_beginOne_74 : decode cX9_beginOne 74 = .ok (.getfield 112, 3) := by decide +kernel
theorem dX9_beginOne_77 : decode cX9_beginOne 77 = .ok (.goto 4, 3) := by decide +kernel
theorem dX9_beginOne_80 : decode cX9_beginOne 80 = .ok (.iload_n 1, 1) := by decide +kernel
theorem dX9_beginOne_81 : decode cX9_beginOne 81 = .ok (.invokevirtual 159, 3) := by decide +kernel
theorem dX9_beginOne_84 : decode cX9_beginOne 84 = .ok (.aload_n 0, 1) := by decide +kernel
theorem dX9_beginOne_85 : decode cX9_beginOne 85 = .ok (.invokevirtual 173, 3) := by decide +kernel
theorem dX9_beginOne_88 : decode cX9_beginOne 88 = .ok (.aload_n 0, 1) := by decide +kernel
theorem dX9_beginOne_89 : decode cX9_beginOne 89 = .ok (.invokevirtual 182, 3) := by decide +kernel
theorem dX9_beginOne_92 : decode cX9_beginOne 92 = .ok (.ireturn, 1) := by decide +kernel
theorem dX9_beginOne_93 : decode cX9_beginOne 93 = .ok (.aload_n 0, 1) := by decide +kernel
theorem dX9_beginOne_94 : decode cX9_beginOne 94 = .ok (.getfield 106, 3) := by decide +kernel
theorem dX9_beginOne_97 : decode cX9_beginOne 97 = .ok (.bipush 40, 2) := by decide +kernel
theorem dX9_beginOne_99 : decode cX9_beginOne 99 = .ok (.if_icmp .ne 10, 3) := by decide +kernel
theorem dX9_beginOne_102 : decode cX9_beginOne 102 = .ok (.aload_n 0, 1) := by decide +kernel
theorem dX9_beginOne_103 : decode cX9_beginOne 103 = .ok (.bipush 40, 2) := by decide +kernel
theorem dX9_beginOne_105 : decode cX9_beginOne 105 = .ok (.invokevirtual 185, 3) := by decide +kernel
theorem dX9_beginOne_108 : decode cX9_beginOne 108 = .ok (.ireturn, 1) := by decide +kernel
theorem dX9_beginOne_109 : decode cX9_beginOne 109 = .ok (.aload_n 0, 1) := by decide +kernel
theorem dX9_beginOne_110 : decode cX9_beginOne 110 = .ok (.getfield 106, 3) := by decide +kernel
theorem dX9_beginOne_113 : decode cX9_beginOne 113 = .ok (.bipush 45, 2) := by decide +kernel
theorem dX9_beginOne_115 : decode cX9_beginOne 115 = .ok (.if_icmp .ne 9, 3) := by decide +kernel
theorem dX9_beginOne_118 : decode cX9_beginOne 118 = .ok (.aload_n 0, 1) := by decide +kernel
theorem dX9_beginOne_119 : decode cX9_beginOne 119 = .ok (.iconst 5, 1) := by decide +kernel
theorem dX9_beginOne_120 : decode cX9_beginOne 120 = .ok (.invokevirtual 185, 3) := by decide +kernel
theorem dX9_beginOne_123 : decode cX9_beginOne 123 = .ok (.ireturn, 1) := by decide +kernel
theorem dX9_beginOne_124 : decode cX9_beginOne 124 = .ok (.aload_n 0, 1) := by decide +kernel
theorem dX9_beginOne_125 : decode cX9_beginOne 125 = .ok (.bipush 112, 2) := by decide +kernel
theorem dX9_beginOne_127 : decode cX9_beginOne 127 = .ok (.bipush 101, 2) := by decide +kernel
theorem dX9_beginOne_129 : decode cX9_beginOne 129 = .ok (.bipush 114, 2) := by decide +kernel
theorem dX9_beginOne_131 : decode cX9_beginOne 131 = .ok (.bipush 99, 2) := by decide +kernel
theorem dX9_beginOne_133 : decode cX9_beginOne 133 = .ok (.invokestatic 136, 3) := by decide +kernel
theorem dX9_beginOne_136 : decode cX9_beginOne 136 = .ok (.bipush 101, 2) := by decide +kernel
theorem dX9_beginOne_138 : decode cX9_beginOne 138 = .ok (.bipush 110, 2) := by decide +kernel
theorem dX9_beginOne_140 : decode cX9_beginOne 140 = .ok (.bipush 116, 2) := by decide +kernel
theorem dX9_beginOne_142 : decode cX9_beginOne 142 = .ok (.invokestatic 132, 3) := by decide +kernel
theorem dX9_beginOne_145 : decode cX9_beginOne 145 = .ok (.bipush 7, 2) := by decide +kernel
theorem dX9_beginOne_147 : decode cX9_beginOne 147 = .ok (.invokevirtual 188, 3) := by decide +kernel
theorem dX9_beginOne_150 : decode cX9_beginOne 150 = .ok (.ifCond .eq 10, 3) := by decide +kernel
theorem dX9_beginOne_153 : decode cX9_beginOne 153 = .ok (.aload_n 0, 1) := by decide +kernel
theorem dX9_beginOne_154 : decode cX9_beginOne 154 = .ok (.bipush 41, 2) := by decide +kernel
theorem dX9_beginOne_156 : decode cX9_beginOne 156 = .ok (.invokevirtual 185, 3) := by decide +kernel
theorem dX9_beginOne_159 : decode cX9_beginOne 159 = .ok (.ireturn, 1) := by decide +kernel
theorem dX9_beginOne_160 : decode cX9_beginOne 160 = .ok (.aload_n 0, 1) := by decide +kernel
theorem dX9_beginOne_161 : decode cX9_beginOne 161 = .ok (.bipush 115, 2) := by decide +kernel
theorem dX9_beginOne_163 : decode cX9_beginOne 163 = .ok (.bipush 111, 2) := by decide +kernel
theorem dX9_beginOne_165 : decode cX9_beginOne 165 = .ok (.invokestatic 128, 3) := by decide +kernel
theorem dX9_beginOne_168 : decode cX9_beginOne 168 = .ok (.invokevirtual 192, 3) := by decide +kernel
theorem dX9_beginOne_171 : decode cX9_beginOne 171 = .ok (.ifCond .eq 9, 3) := by decide +kernel
theorem dX9_beginOne_174 : decode cX9_beginOne 174 = .ok (.aload_n 0, 1) := by decide +kernel
theorem dX9_beginOne_175 : decode cX9_beginOne 175 = .ok (.iconst 2, 1) := by decide +kernel
theorem dX9_beginOne_176 : decode cX9_beginOne 176 = .ok (.invokevirtual 185, 3) := by decide +kernel
theorem dX9_beginOne_179 : decode cX9_beginOne 179 = .ok (.ireturn, 1) := by decide +kernel
theorem dX9_beginOne_180 : decode cX9_beginOne 180 = .ok (.aload_n 0, 1) := by decide +kernel
theorem dX9_beginOne_181 : decode cX9_beginOne 181 = .ok (.bipush 105, 2) := by decide +kernel
theorem dX9_beginOne_183 : decode cX9_beginOne 183 = .ok (.bipush 102, 2) := by decide +kernel
theorem dX9_beginOne_185 : decode cX9_beginOne 185 = .ok (.invokestatic 128, 3) := by decide +kernel
theorem dX9_beginOne_188 : decode cX9_beginOne 188 = .ok (.invokevirtual 192, 3) := by decide +kernel
theorem dX9_beginOne_191 : decode cX9_beginOne 191 = .ok (.ifCond .eq 10, 3) := by decide +kernel
theorem dX9_beginOne_194 : decode cX9_beginOne 194 = .ok (.aload_n 0, 1) := by decide +kernel
theorem dX9_beginOne_195 : decode cX9_beginOne 195 = .ok (.bipush 42, 2) := by decide +kernel
theorem dX9_beginOne_197 : decode cX9_beginOne 197 = .ok (.invokevirtual 185, 3) := by decide +kernel
theorem dX9_beginOne_200 : decode cX9_beginOne 200 = .ok (.ireturn, 1) := by decide +kernel
theorem dX9_beginOne_201 : decode cX9_beginOne 201 = .ok (.aload_n 0, 1) := by decide +kernel
theorem dX9_beginOne_202 : decode cX9_beginOne 202 = .ok (.bipush 110, 2) := by decide +kernel
theorem dX9_beginOne_204 : decode cX9_beginOne 204 = .ok (.bipush 111, 2) := by decide +kernel
theorem dX9_beginOne_206 : decode cX9_beginOne 206 = .ok (.bipush 116, 2) := by decide +kernel
theorem dX9_beginOne_208 : decode cX9_beginOne 208 = .ok (.invokestatic 132, 3) := by decide +kernel
theorem dX9_beginOne_211 : decode cX9_beginOne 211 = .ok (.invokevirtual 192, 3) := by decide +kernel
theorem dX9_beginOne_214 : decode cX9_beginOne 214 = .ok (.ifCond .eq 19, 3) := by decide +kernel
theorem dX9_beginOne_217 : decode cX9_beginOne 217 = .ok (.aload_n 0, 1) := by decide +kernel
theorem dX9_beginOne_218 : decode cX9_beginOne 218 = .ok (.invokevirtual 196, 3) := by decide +kernel
theorem dX9_beginOne_221 : decode cX9_beginOne 221 = .ok (.ifCond .eq 12, 3) := by decide +kernel
theorem dX9_beginOne_224 : decode cX9_beginOne 224 = .ok (.aload_n 0, 1) := by decide +kernel
theorem dX9_beginOne_225 : decode cX9_beginOne 225 = .ok (.bipush 20, 2) := by decide +kernel
theorem dX9_beginOne_227 : decode cX9_beginOne 227 = .ok (.invokevirtual 185, 3) := by decide +kernel
theorem dX9_beginOne_230 : decode cX9_beginOne 230 = .ok (.goto 4, 3) := by decide +kernel
theorem dX9_beginOne_233 : decode cX9_beginOne 233 = .ok (.iconst 1, 1) := by decide +kernel
theorem dX9_beginOne_234 : decode cX9_beginOne 234 = .ok (.ireturn, 1) := by decide +kernel
theorem dX9_endOne_0 : decode cX9_endOne 0 = .ok (.aload_n 0, 1) := by decide +kernel
theorem dX9_endOne_1 : decode cX9_endOne 1 = .ok (.bipush 7, 2) := by decide +kernel
theorem dX9_endOne_3 : decode cX9_endOne 3 = .ok (.invokevirtual 200, 3) := by decide +kernel
theorem dX9_endOne_6 : decode cX9_endOne 6 = .ok (.aload_n 0, 1) := by decide +kernel
theorem dX9_endOne_7 : decode cX9_endOne 7 = .ok (.iconst 1, 1) := by decide +kernel
theorem dX9_endOne_8 : decode cX9_endOne 8 = .ok (.putfield 203, 3) := by decide +kernel
theorem dX9_endOne_11 : decode cX9_endOne 11 = .ok (.aload_n 0, 1) := by decide +kernel
theorem dX9_endOne_12 : decode cX9_endOne 12 = .ok (.getfield 153, 3) := by decide +kernel
theorem dX9_endOne_15 : decode cX9_endOne 15 = .ok (.ifCond .eq 19, 3) := by decide +kernel
theorem dX9_endOne_18 : decode cX9_endOne 18 = .ok (.aload_n 0, 1) := by decide +kernel
theorem dX9_endOne_19 : decode cX9_endOne 19 = .ok (.getfield 29, 3) := by decide +kernel
theorem dX9_endOne_22 : decode cX9_endOne 22 = .ok (.aload_n 0, 1) := by decide +kernel
theorem dX9_endOne_23 : decode cX9_endOne 23 = .ok (.getfield 153, 3) := by decide +kernel
theorem dX9_endOne_26 : decode cX9_endOne 26 = .ok (.iconst 1, 1) := by decide +kernel
theorem dX9_endOne_27 : decode cX9_endOne 27 = .ok (.isub, 1) := by decide +kernel
theorem dX9_endOne_28 : decode cX9_endOne 28 = .ok (.iaload, 1) := by decide +kernel
theorem dX9_endOne_29 : decode cX9_endOne 29 = .ok (.bipush 41, 2) := by decide +kernel
theorem dX9_endOne_31 : decode cX9_endOne 31 = .ok (.if_icmp .eq 5, 3) := by decide +kernel
theorem dX9_endOne_34 : decode cX9_endOne 34 = .ok (.iconst 0, 1) := by decide +kernel
theorem dX9_endOne_35 : decode cX9_endOne 35 = .ok (.ireturn, 1) := by decide +kernel
theorem dX9_endOne_36 : decode cX9_endOne 36 = .ok (.aload_n 0, 1) := by decide +kernel
theorem dX9_endOne_37 : decode cX9_endOne 37 = .ok (.bipush 111, 2) := by decide +kernel
theorem dX9_endOne_39 : decode cX9_endOne 39 = .ok (.bipush 102, 2) := by decide +kernel
theorem dX9_endOne_41 : decode cX9_endOne 41 = .ok (.invokestatic 128, 3) := by decide +kernel
theorem dX9_endOne_44 : decode cX9_endOne 44 = .ok (.invokevirtual 192, 3) := by decide +kernel
theorem dX9_endOne_47 : decode cX9_endOne 47 = .ok (.ifCond .ne 5, 3) := by decide +kernel
theorem dX9_endOne_50 : decode cX9_endOne 50 = .ok (.iconst 1, 1) := by decide +kernel
theorem dX9_endOne_51 : decode cX9_endOne 51 = .ok (.ireturn, 1) := by decide +kernel
theorem dX9_endOne_52 : decode cX9_endOne 52 = .ok (.aload_n 0, 1) := by decide +kernel
theorem dX9_endOne_53 : decode cX9_endOne 53 = .ok (.invokevirtual 173, 3) := by decide +kernel
theorem dX9_endOne_56 : decode cX9_endOne 56 = .ok (.aload_n 0, 1) := by decide +kernel
theorem dX9_endOne_57 : decode cX9_endOne 57 = .ok (.getfield 29, 3) := by decide +kernel
theorem dX9_endOne_60 : decode cX9_endOne 60 = .ok (.aload_n 0, 1) := by decide +kernel
theorem dX9_endOne_61 : decode cX9_endOne 61 = .ok (.getfield 153, 3) := by decide +kernel
theorem dX9_endOne_64 : decode cX9_endOne 64 = .ok (.iconst 1, 1) := by decide +kernel
theorem dX9_endOne_65 : decode cX9_endOne 65 = .ok (.isub, 1) := by decide +kernel
theorem dX9_endOne_66 : decode cX9_endOne 66 = .ok (.iconst 4, 1) := by decide +kernel
theorem dX9_endOne_67 : decode cX9_endOne 67 = .ok (.iastore, 1) := by decide +kernel
theorem dX9_endOne_68 : decode cX9_endOne 68 = .ok (.aload_n 0, 1) := by decide +kernel
theorem dX9_endOne_69 : decode cX9_endOne 69 = .ok (.iconst 0, 1) := by decide +kernel
theorem dX9_endOne_70 : decode cX9_endOne 70 = .ok (.putfield 203, 3) := by decide +kernel
theorem dX9_endOne_73 : decode cX9_endOne 73 = .ok (.iconst 0, 1) := by decide +kernel
theorem dX9_endOne_74 : decode cX9_endOne 74 = .ok (.ireturn, 1) := by decide +kernel
theorem dX9_compareOf_0 : decode cX9_compareOf 0 = .ok (.aload_n 0, 1) := by decide +kernel
theorem dX9_compareOf_1 : decode cX9_compareOf 1 = .ok (.getfield 106, 3) := by decide +kernel
theorem dX9_compareOf_4 : decode cX9_compareOf 4 = .ok (.bipush 60, 2) := by decide +kernel
theorem dX9_compareOf_6 : decode cX9_compareOf 6 = .ok (.if_icmp .ne 8, 3) := by decide +kernel
theorem dX9_compareOf_9 : decode cX9_compareOf 9 = .ok (.bipush 10, 2) := by decide +kernel
theorem dX9_compareOf_11 : decode cX9_compareOf 11 = .ok (.goto 72, 3) := by decide +kernel
theorem dX9_compareOf_14 : decode cX9_compareOf 14 = .ok (.aload_n 0, 1) := by decide +kernel
theorem dX9_compareOf_15 : decode cX9_compareOf 15 = .ok (.getfield 106, 3) := by decide +kernel
theorem dX9_compareOf_18 : decode cX9_compareOf 18 = .ok (.iconst 4, 1) := by decide +kernel
theorem dX9_compareOf_19 : decode cX9_compareOf 19 = .ok (.if_icmp .ne 8, 3) := by decide +kernel
theorem dX9_compareOf_22 : decode cX9_compareOf 22 = .ok (.bipush 11, 2) := by decide +kernel
theorem dX9_compareOf_24 : decode cX9_compareOf 24 = .ok (.goto 59, 3) := by decide +kernel
theorem dX9_compareOf_27 : decode cX9_compareOf 27 = .ok (.aload_n 0, 1) := by decide +kernel
theorem dX9_compareOf_28 : decode cX9_compareOf 28 = .ok (.getfield 106, 3) := by decide +kernel
theorem dX9_compareOf_31 : decode cX9_compareOf 31 = .ok (.bipush 62, 2) := by decide +kernel
theorem dX9_compareOf_33 : decode cX9_compareOf 33 = .ok (.if_icmp .ne 8, 3) := by decide +kernel
theorem dX9_compareOf_36 : decode cX9_compareOf 36 = .ok (.bipush 12, 2) := by decide +kernel
theorem dX9_compareOf_38 : decode cX9_compareOf 38 = .ok (.goto 45, 3) := by decide +kernel
theorem dX9_compareOf_41 : decode cX9_compareOf 41 = .ok (.aload_n 0, 1) := by decide +kernel
theorem dX9_compareOf_42 : decode cX9_compareOf 42 = .ok (.getfield 106, 3) := by decide +kernel
theorem dX9_compareOf_45 : decode cX9_compareOf 45 = .ok (.iconst 5, 1) := by decide +kernel
theorem dX9_compareOf_46 : decode cX9_compareOf 46 = .ok (.if_icmp .ne 8, 3) := by decide +kernel
theorem dX9_compareOf_49 : decode cX9_compareOf 49 = .ok (.bipush 13, 2) := by decide +kernel
theorem dX9_compareOf_51 : decode cX9_compareOf 51 = .ok (.goto 32, 3) := by decide +kernel
theorem dX9_compareOf_54 : decode cX9_compareOf 54 = .ok (.aload_n 0, 1) := by decide +kernel
theorem dX9_compareOf_55 : decode cX9_compareOf 55 = .ok (.getfield 106, 3) := by decide +kernel
theorem dX9_compareOf_58 : decode cX9_compareOf 58 = .ok (.bipush 61, 2) := by decide +kernel
theorem dX9_compareOf_60 : decode cX9_compareOf 60 = .ok (.if_icmp .ne 8, 3) := by decide +kernel
theorem dX9_compareOf_63 : decode cX9_compareOf 63 = .ok (.bipush 14, 2) := by decide +kernel
theorem dX9_compareOf_65 : decode cX9_compareOf 65 = .ok (.goto 18, 3) := by decide +kernel
theorem dX9_compareOf_68 : decode cX9_compareOf 68 = .ok (.aload_n 0, 1) := by decide +kernel
theorem dX9_compareOf_69 : decode cX9_compareOf 69 = .ok (.getfield 106, 3) := by decide +kernel
theorem dX9_compareOf_72 : decode cX9_compareOf 72 = .ok (.bipush 35, 2) := by decide +kernel
theorem dX9_compareOf_74 : decode cX9_compareOf 74 = .ok (.if_icmp .ne 8, 3) := by decide +kernel
theorem dX9_compareOf_77 : decode cX9_compareOf 77 = .ok (.bipush 15, 2) := by decide +kernel
theorem dX9_compareOf_79 : decode cX9_compareOf 79 = .ok (.goto 4, 3) := by decide +kernel
theorem dX9_compareOf_82 : decode cX9_compareOf 82 = .ok (.iconst (-1), 1) := by decide +kernel
theorem dX9_compareOf_83 : decode cX9_compareOf 83 = .ok (.ireturn, 1) := by decide +kernel
theorem dX9_betweenOf_0 : decode cX9_betweenOf 0 = .ok (.aload_n 0, 1) := by decide +kernel
theorem dX9_betweenOf_1 : decode cX9_betweenOf 1 = .ok (.getfield 106, 3) := by decide +kernel
theorem dX9_betweenOf_4 : decode cX9_betweenOf 4 = .ok (.bipush 43, 2) := by decide +kernel
theorem dX9_betweenOf_6 : decode cX9_betweenOf 6 = .ok (.if_icmp .ne 6, 3) := by decide +kernel
theorem dX9_betweenOf_9 : decode cX9_betweenOf 9 = .ok (.bipush 6, 2) := by decide +kernel
theorem dX9_betweenOf_11 : decode cX9_betweenOf 11 = .ok (.ireturn, 1) := by decide +kernel
theorem dX9_betweenOf_12 : decode cX9_betweenOf 12 = .ok (.aload_n 0, 1) := by decide +kernel
theorem dX9_betweenOf_13 : decode cX9_betweenOf 13 = .ok (.getfield 106, 3) := by decide +kernel
theorem dX9_betweenOf_16 : decode cX9_betweenOf 16 = .ok (.bipush 45, 2) := by decide +kernel
theorem dX9_betweenOf_18 : decode cX9_betweenOf 18 = .ok (.if_icmp .ne 6, 3) := by decide +kernel
theorem dX9_betweenOf_21 : decode cX9_betweenOf 21 = .ok (.bipush 7, 2) := by decide +kernel
theorem dX9_betweenOf_23 : decode cX9_betweenOf 23 = .ok (.ireturn, 1) := by decide +kernel
theorem dX9_betweenOf_24 : decode cX9_betweenOf 24 = .ok (.aload_n 0, 1) := by decide +kernel
theorem dX9_betweenOf_25 : decode cX9_betweenOf 25 = .ok (.getfield 106, 3) := by decide +kernel
theorem dX9_betweenOf_28 : decode cX9_betweenOf 28 = .ok (.bipush 42, 2) := by decide +kernel
theorem dX9_betweenOf_30 : decode cX9_betweenOf 30 = .ok (.if_icmp .ne 6, 3) := by decide +kernel
theorem dX9_betweenOf_33 : decode cX9_betweenOf 33 = .ok (.bipush 8, 2) := by decide +kernel
theorem dX9_betweenOf_35 : decode cX9_betweenOf 35 = .ok (.ireturn, 1) := by decide +kernel
theorem dX9_betweenOf_36 : decode cX9_betweenOf 36 = .ok (.aload_n 0, 1) := by decide +kernel
theorem dX9_betweenOf_37 : decode cX9_betweenOf 37 = .ok (.getfield 106, 3) := by decide +kernel
theorem dX9_betweenOf_40 : decode cX9_betweenOf 40 = .ok (.bipush 47, 2) := by decide +kernel
theorem dX9_betweenOf_42 : decode cX9_betweenOf 42 = .ok (.if_icmp .ne 6, 3) := by decide +kernel
theorem dX9_betweenOf_45 : decode cX9_betweenOf 45 = .ok (.bipush 9, 2) := by decide +kernel
theorem dX9_betweenOf_47 : decode cX9_betweenOf 47 = .ok (.ireturn, 1) := by decide +kernel
theorem dX9_betweenOf_48 : decode cX9_betweenOf 48 = .ok (.aload_n 0, 1) := by decide +kernel
theorem dX9_betweenOf_49 : decode cX9_betweenOf 49 = .ok (.invokevirtual 170, 3) := by decide +kernel
theorem dX9_betweenOf_52 : decode cX9_betweenOf 52 = .ok (.bipush 42, 2) := by decide +kernel
theorem dX9_betweenOf_54 : decode cX9_betweenOf 54 = .ok (.if_icmp .eq 5, 3) := by decide +kernel
theorem dX9_betweenOf_57 : decode cX9_betweenOf 57 = .ok (.iconst (-1), 1) := by decide +kernel
theorem dX9_betweenOf_58 : decode cX9_betweenOf 58 = .ok (.ireturn, 1) := by decide +kernel
theorem dX9_betweenOf_59 : decode cX9_betweenOf 59 = .ok (.aload_n 0, 1) := by decide +kernel
theorem dX9_betweenOf_60 : decode cX9_betweenOf 60 = .ok (.invokevirtual 206, 3) := by decide +kernel
theorem dX9_betweenOf_63 : decode cX9_betweenOf 63 = .ok (.ifCond .ne 8, 3) := by decide +kernel
theorem dX9_betweenOf_66 : decode cX9_betweenOf 66 = .ok (.aload_n 0, 1) := by decide +kernel
theorem dX9_betweenOf_67 : decode cX9_betweenOf 67 = .ok (.invokevirtual 209, 3) := by decide +kernel
theorem dX9_betweenOf_70 : decode cX9_betweenOf 70 = .ok (.ireturn, 1) := by decide +kernel
theorem dX9_betweenOf_71 : decode cX9_betweenOf 71 = .ok (.aload_n 0, 1) := by decide +kernel
theorem dX9_betweenOf_72 : decode cX9_betweenOf 72 = .ok (.bipush 97, 2) := by decide +kernel
theorem dX9_betweenOf_74 : decode cX9_betweenOf 74 = .ok (.bipush 110, 2) := by decide +kernel
theorem dX9_betweenOf_76 : decode cX9_betweenOf 76 = .ok (.bipush 100, 2) := by decide +kernel
theorem dX9_betweenOf_78 : decode cX9_betweenOf 78 = .ok (.invokestatic 132, 3) := by decide +kernel
theorem dX9_betweenOf_81 : decode cX9_betweenOf 81 = .ok (.invokevirtual 192, 3) := by decide +kernel
theorem dX9_betweenOf_84 : decode cX9_betweenOf 84 = .ok (.ifCond .eq 8, 3) := by decide +kernel
theorem dX9_betweenOf_87 : decode cX9_betweenOf 87 = .ok (.bipush 21, 2) := by decide +kernel
theorem dX9_betweenOf_89 : decode cX9_betweenOf 89 = .ok (.goto 23, 3) := by decide +kernel
theorem dX9_betweenOf_92 : decode cX9_betweenOf 92 = .ok (.aload_n 0, 1) := by decide +kernel
theorem dX9_betweenOf_93 : decode cX9_betweenOf 93 = .ok (.bipush 111, 2) := by decide +kernel
theorem dX9_betweenOf_95 : decode cX9_betweenOf 95 = .ok (.bipush 114, 2) := by decide +kernel
theorem dX9_betweenOf_97 : decode cX9_betweenOf 97 = .ok (.invokestatic 128, 3) := by decide +kernel
theorem dX9_betweenOf_100 : decode cX9_betweenOf 100 = .ok (.invokevirtual 192, 3) := by decide +kernel
theorem dX9_betweenOf_103 : decode cX9_betweenOf 103 = .ok (.ifCond .eq 8, 3) := by decide +kernel
theorem dX9_betweenOf_106 : decode cX9_betweenOf 106 = .ok (.bipush 22, 2) := by decide +kernel
theorem dX9_betweenOf_108 : decode cX9_betweenOf 108 = .ok (.goto 4, 3) := by decide +kernel
theorem dX9_betweenOf_111 : decode cX9_betweenOf 111 = .ok (.iconst (-1), 1) := by decide +kernel
theorem dX9_betweenOf_112 : decode cX9_betweenOf 112 = .ok (.ireturn, 1) := by decide +kernel
theorem dX9_partOf_0 : decode cX9_partOf 0 = .ok (.iload_n 1, 1) := by decide +kernel
theorem dX9_partOf_1 : decode cX9_partOf 1 = .ok (.tableswitch 129 40 44 #[35, 129, 50, 82, 107], 35) := by decide +kernel
theorem dX9_partOf_36 : decode cX9_partOf 36 = .ok (.aload_n 0, 1) := by decide +kernel
theorem dX9_partOf_37 : decode cX9_partOf 37 = .ok (.getfield 106, 3) := by decide +kernel
theorem dX9_partOf_40 : decode cX9_partOf 40 = .ok (.bipush 41, 2) := by decide +kernel
theorem dX9_partOf_42 : decode cX9_partOf 42 = .ok (.if_icmp .ne 7, 3) := by decide +kernel
theorem dX9_partOf_45 : decode cX9_partOf 45 = .ok (.iconst 0, 1) := by decide +kernel
theorem dX9_partOf_46 : decode cX9_partOf 46 = .ok (.goto 4, 3) := by decide +kernel
theorem dX9_partOf_49 : decode cX9_partOf 49 = .ok (.iconst (-1), 1) := by decide +kernel
theorem dX9_partOf_50 : decode cX9_partOf 50 = .ok (.ireturn, 1) := by decide +kernel
theorem dX9_partOf_51 : decode cX9_partOf 51 = .ok (.aload_n 0, 1) := by decide +kernel
theorem dX9_partOf_52 : decode cX9_partOf 52 = .ok (.bipush 116, 2) := by decide +kernel
theorem dX9_partOf_54 : decode cX9_partOf 54 = .ok (.bipush 104, 2) := by decide +kernel
theorem dX9_partOf_56 : decode cX9_partOf 56 = .ok (.bipush 101, 2) := by decide +kernel
theorem dX9_partOf_58 : decode cX9_partOf 58 = .ok (.bipush 110, 2) := by decide +kernel
theorem dX9_partOf_60 : decode cX9_partOf 60 = .ok (.invokestatic 136, 3) := by decide +kernel
theorem dX9_partOf_63 : decode cX9_partOf 63 = .ok (.invokevirtual 192, 3) := by decide +kernel
theorem dX9_partOf_66 : decode cX9_partOf 66 = .ok (.ifCond .eq 15, 3) := by decide +kernel
theorem dX9_partOf_69 : decode cX9_partOf 69 = .ok (.aload_n 0, 1) := by decide +kernel
theorem dX9_partOf_70 : decode cX9_partOf 70 = .ok (.invokevirtual 206, 3) := by decide +kernel
theorem dX9_partOf_73 : decode cX9_partOf 73 = .ok (.ifCond .eq 8, 3) := by decide +kernel
theorem dX9_partOf_76 : decode cX9_partOf 76 = .ok (.bipush 43, 2) := by decide +kernel
theorem dX9_partOf_78 : decode cX9_partOf 78 = .ok (.goto 4, 3) := by decide +kernel
theorem dX9_partOf_81 : decode cX9_partOf 81 = .ok (.iconst (-1), 1) := by decide +kernel
theorem dX9_partOf_82 : decode cX9_partOf 82 = .ok (.ireturn, 1) := by decide +kernel
theorem dX9_partOf_83 : decode cX9_partOf 83 = .ok (.aload_n 0, 1) := by decide +kernel
theorem dX9_partOf_84 : decode cX9_partOf 84 = .ok (.bipush 101, 2) := by decide +kernel
theorem dX9_partOf_86 : decode cX9_partOf 86 = .ok (.bipush 108, 2) := by decide +kernel
theorem dX9_partOf_88 : decode cX9_partOf 88 = .ok (.bipush 115, 2) := by decide +kernel
theorem dX9_partOf_90 : decode cX9_partOf 90 = .ok (.bipush 101, 2) := by decide +kernel
theorem dX9_partOf_92 : decode cX9_partOf 92 = .ok (.invokestatic 136, 3) := by decide +kernel
theorem dX9_partOf_95 : decode cX9_partOf 95 = .ok (.invokevirtual 192, 3) := by decide +kernel
theorem dX9_partOf_98 : decode cX9_partOf 98 = .ok (.ifCond .eq 8, 3) := by decide +kernel
theorem dX9_partOf_101 : decode cX9_partOf 101 = .ok (.bipush 44, 2) := by decide +kernel
theorem dX9_partOf_103 : decode cX9_partOf 103 = .ok (.goto 4, 3) := by decide +kernel
theorem dX9_partOf_106 : decode cX9_partOf 106 = .ok (.iconst (-1), 1) := by decide +kernel
theorem dX9_partOf_107 : decode cX9_partOf 107 = .ok (.ireturn, 1) := by decide +kernel
theorem dX9_partOf_108 : decode cX9_partOf 108 = .ok (.aload_n 0, 1) := by decide +kernel
theorem dX9_partOf_109 : decode cX9_partOf 109 = .ok (.bipush 101, 2) := by decide +kernel
theorem dX9_partOf_111 : decode cX9_partOf 111 = .ok (.bipush 110, 2) := by decide +kernel
theorem dX9_partOf_113 : decode cX9_partOf 113 = .ok (.bipush 100, 2) := by decide +kernel
theorem dX9_partOf_115 : decode cX9_partOf 115 = .ok (.invokestatic 132, 3) := by decide +kernel
theorem dX9_partOf_118 : decode cX9_partOf 118 = .ok (.invokevirtual 192, 3) := by decide +kernel
theorem dX9_partOf_121 : decode cX9_partOf 121 = .ok (.ifCond .eq 7, 3) := by decide +kernel
theorem dX9_partOf_124 : decode cX9_partOf 124 = .ok (.iconst 0, 1) := by decide +kernel
theorem dX9_partOf_125 : decode cX9_partOf 125 = .ok (.goto 4, 3) := by decide +kernel
theorem dX9_partOf_128 : decode cX9_partOf 128 = .ok (.iconst (-1), 1) := by decide +kernel
theorem dX9_partOf_129 : decode cX9_partOf 129 = .ok (.ireturn, 1) := by decide +kernel
theorem dX9_partOf_130 : decode cX9_partOf 130 = .ok (.iconst (-1), 1) := by decide +kernel
theorem dX9_partOf_131 : decode cX9_partOf 131 = .ok (.ireturn, 1) := by decide +kernel
theorem dX9_behindOne_0 : decode cX9_behindOne 0 = .ok (.aload_n 0, 1) := by decide +kernel
theorem dX9_behindOne_1 : decode cX9_behindOne 1 = .ok (.invokevirtual 212, 3) := by decide +kernel
theorem dX9_behindOne_4 : decode cX9_behindOne 4 = .ok (.istore_n 1, 1) := by decide +kernel
theorem dX9_behindOne_5 : decode cX9_behindOne 5 = .ok (.iload_n 1, 1) := by decide +kernel
theorem dX9_behindOne_6 : decode cX9_behindOne 6 = .ok (.ifCond .lt 54, 3) := by decide +kernel
theorem dX9_behindOne_9 : decode cX9_behindOne 9 = .ok (.aload_n 0, 1) := by decide +kernel
theorem dX9_behindOne_10 : decode cX9_behindOne 10 = .ok (.iload_n 1, 1) := by decide +kernel
theorem dX9_behindOne_11 : decode cX9_behindOne 11 = .ok (.invokestatic 156, 3) := by decide +kernel
theorem dX9_behindOne_14 : decode cX9_behindOne 14 = .ok (.iconst 4, 1) := by decide +kernel
theorem dX9_behindOne_15 : decode cX9_behindOne 15 = .ok (.if_icmp .ne 7, 3) := by decide +kernel
theorem dX9_behindOne_18 : decode cX9_behindOne 18 = .ok (.iconst 5, 1) := by decide +kernel
theorem dX9_behindOne_19 : decode cX9_behindOne 19 = .ok (.goto 7, 3) := by decide +kernel
theorem dX9_behindOne_22 : decode cX9_behindOne 22 = .ok (.iload_n 1, 1) := by decide +kernel
theorem dX9_behindOne_23 : decode cX9_behindOne 23 = .ok (.invokestatic 156, 3) := by decide +kernel
theorem dX9_behindOne_26 : decode cX9_behindOne 26 = .ok (.invokevirtual 200, 3) := by decide +kernel
theorem dX9_behindOne_29 : decode cX9_behindOne 29 = .ok (.aload_n 0, 1) := by decide +kernel
theorem dX9_behindOne_30 : decode cX9_behindOne 30 = .ok (.getfield 29, 3) := by decide +kernel
theorem dX9_behindOne_33 : decode cX9_behindOne 33 = .ok (.aload_n 0, 1) := by decide +kernel
theorem dX9_behindOne_34 : decode cX9_behindOne 34 = .ok (.getfield 153, 3) := by decide +kernel
theorem dX9_behindOne_37 : decode cX9_behindOne 37 = .ok (.iload_n 1, 1) := by decide +kernel
theorem dX9_behindOne_38 : decode cX9_behindOne 38 = .ok (.iastore, 1) := by decide +kernel
theorem dX9_behindOne_39 : decode cX9_behindOne 39 = .ok (.aload_n 0, 1) := by decide +kernel
theorem dX9_behindOne_40 : decode cX9_behindOne 40 = .ok (.dup, 1) := by decide +kernel
theorem dX9_behindOne_41 : decode cX9_behindOne 41 = .ok (.getfield 153, 3) := by decide +kernel
theorem dX9_behindOne_44 : decode cX9_behindOne 44 = .ok (.iconst 1, 1) := by decide +kernel
theorem dX9_behindOne_45 : decode cX9_behindOne 45 = .ok (.iadd, 1) := by decide +kernel
theorem dX9_behindOne_46 : decode cX9_behindOne 46 = .ok (.putfield 153, 3) := by decide +kernel
theorem dX9_behindOne_49 : decode cX9_behindOne 49 = .ok (.aload_n 0, 1) := by decide +kernel
theorem dX9_behindOne_50 : decode cX9_behindOne 50 = .ok (.iconst 0, 1) := by decide +kernel
theorem dX9_behindOne_51 : decode cX9_behindOne 51 = .ok (.putfield 203, 3) := by decide +kernel
theorem dX9_behindOne_54 : decode cX9_behindOne 54 = .ok (.aload_n 0, 1) := by decide +kernel
theorem dX9_behindOne_55 : decode cX9_behindOne 55 = .ok (.invokevirtual 173, 3) := by decide +kernel
theorem dX9_behindOne_58 : decode cX9_behindOne 58 = .ok (.iconst 0, 1) := by decide +kernel
theorem dX9_behindOne_59 : decode cX9_behindOne 59 = .ok (.ireturn, 1) := by decide +kernel
theorem dX9_behindOne_60 : decode cX9_behindOne 60 = .ok (.aload_n 0, 1) := by decide +kernel
theorem dX9_behindOne_61 : decode cX9_behindOne 61 = .ok (.invokevirtual 170, 3) := by decide +kernel
theorem dX9_behindOne_64 : decode cX9_behindOne 64 = .ok (.istore_n 2, 1) := by decide +kernel
theorem dX9_behindOne_65 : decode cX9_behindOne 65 = .ok (.aload_n 0, 1) := by decide +kernel
theorem dX9_behindOne_66 : decode cX9_behindOne 66 = .ok (.iload_n 2, 1) := by decide +kernel
theorem dX9_behindOne_67 : decode cX9_behindOne 67 = .ok (.invokevirtual 215, 3) := by decide +kernel
theorem dX9_behindOne_70 : decode cX9_behindOne 70 = .ok (.istore_n 3, 1) := by decide +kernel
theorem dX9_behindOne_71 : decode cX9_behindOne 71 = .ok (.iload_n 3, 1) := by decide +kernel
theorem dX9_behindOne_72 : decode cX9_behindOne 72 = .ok (.ifCond .ge 5, 3) := by decide +kernel
theorem dX9_behindOne_75 : decode cX9_behindOne 75 = .ok (.iconst (-1), 1) := by decide +kernel
theorem dX9_behindOne_76 : decode cX9_behindOne 76 = .ok (.ireturn, 1) := by decide +kernel
theorem dX9_behindOne_77 : decode cX9_behindOne 77 = .ok (.aload_n 0, 1) := by decide +kernel
theorem dX9_behindOne_78 : decode cX9_behindOne 78 = .ok (.iconst 1, 1) := by decide +kernel
theorem dX9_behindOne_79 : decode cX9_behindOne 79 = .ok (.invokevirtual 200, 3) := by decide +kernel
theorem dX9_behindOne_82 : decode cX9_behindOne 82 = .ok (.aload_n 0, 1) := by decide +kernel
theorem dX9_behindOne_83 : decode cX9_behindOne 83 = .ok (.invokevirtual 173, 3) := by decide +kernel
theorem dX9_behindOne_86 : decode cX9_behindOne 86 = .ok (.iload_n 3, 1) := by decide +kernel
theorem dX9_behindOne_87 : decode cX9_behindOne 87 = .ok (.ifCond .ne 40, 3) := by decide +kernel
theorem dX9_behindOne_90 : decode cX9_behindOne 90 = .ok (.aload_n 0, 1) := by decide +kernel
theorem dX9_behindOne_91 : decode cX9_behindOne 91 = .ok (.dup, 1) := by decide +kernel
theorem dX9_behindOne_92 : decode cX9_behindOne 92 = .ok (.getfield 163, 3) := by decide +kernel
theorem dX9_behindOne_95 : decode cX9_behindOne 95 = .ok (.iconst 1, 1) := by decide +kernel
theorem dX9_behindOne_96 : decode cX9_behindOne 96 = .ok (.isub, 1) := by decide +kernel
theorem dX9_behindOne_97 : decode cX9_behindOne 97 = .ok (.putfield 163, 3) := by decide +kernel
theorem dX9_behindOne_100 : decode cX9_behindOne 100 = .ok (.aload_n 0, 1) := by decide +kernel
theorem dX9_behindOne_101 : decode cX9_behindOne 101 = .ok (.dup, 1) := by decide +kernel
theorem dX9_behindOne_102 : decode cX9_behindOne 102 = .ok (.getfield 153, 3) := by decide +kernel
theorem dX9_behindOne_105 : decode cX9_behindOne 105 = .ok (.iconst 1, 1) := by decide +kernel
theorem dX9_behindOne_106 : decode cX9_behindOne 106 = .ok (.isub, 1) := by decide +kernel
theorem dX9_behindOne_107 : decode cX9_behindOne 107 = .ok (.putfield 153, 3) := by decide +kernel
theorem dX9_behindOne_110 : decode cX9_behindOne 110 = .ok (.iload_n 2, 1) := by decide +kernel
theorem dX9_behindOne_111 : decode cX9_behindOne 111 = .ok (.bipush 44, 2) := by decide +kernel
theorem dX9_behindOne_113 : decode cX9_behindOne 113 = .ok (.if_icmp .ne 9, 3) := by decide +kernel
theorem dX9_behindOne_116 : decode cX9_behindOne 116 = .ok (.aload_n 0, 1) := by decide +kernel
theorem dX9_behindOne_117 : decode cX9_behindOne 117 = .ok (.iconst 3, 1) := by decide +kernel
theorem dX9_behindOne_118 : decode cX9_behindOne 118 = .ok (.iconst 0, 1) := by decide +kernel
theorem dX9_behindOne_119 : decode cX9_behindOne 119 = .ok (.invokevirtual 159, 3) := by decide +kernel
theorem dX9_behindOne_122 : decode cX9_behindOne 122 = .ok (.aload_n 0, 1) := by decide +kernel
theorem dX9_behindOne_123 : decode cX9_behindOne 123 = .ok (.invokevirtual 182, 3) := by decide +kernel
theorem dX9_behindOne_126 : decode cX9_behindOne 126 = .ok (.ireturn, 1) := by decide +kernel
theorem dX9_behindOne_127 : decode cX9_behindOne 127 = .ok (.aload_n 0, 1) := by decide +kernel
theorem dX9_behindOne_128 : decode cX9_behindOne 128 = .ok (.getfield 29, 3) := by decide +kernel
theorem dX9_behindOne_131 : decode cX9_behindOne 131 = .ok (.aload_n 0, 1) := by decide +kernel
theorem dX9_behindOne_132 : decode cX9_behindOne 132 = .ok (.invokevirtual 166, 3) := by decide +kernel
theorem dX9_behindOne_135 : decode cX9_behindOne 135 = .ok (.iload_n 3, 1) := by decide +kernel
