theorem dX9_behindOne_136 : decode cX9_behindOne 136 = .ok (.iastore, 1) := by decide +kernel
theorem dX9_behindOne_137 : decode cX9_behindOne 137 = .ok (.aload_n 0, 1) := by decide +kernel
theorem dX9_behindOne_138 : decode cX9_behindOne 138 = .ok (.iconst 0, 1) := by decide +kernel
theorem dX9_behindOne_139 : decode cX9_behindOne 139 = .ok (.putfield 203, 3) := by decide +kernel
theorem dX9_behindOne_142 : decode cX9_behindOne 142 = .ok (.iconst 0, 1) := by decide +kernel
theorem dX9_behindOne_143 : decode cX9_behindOne 143 = .ok (.ireturn, 1) := by decide +kernel
theorem dX9_summed_0 : decode cX9_summed 0 = .ok (.aload_n 0, 1) := by decide +kernel
theorem dX9_summed_1 : decode cX9_summed 1 = .ok (.iconst 0, 1) := by decide +kernel
theorem dX9_summed_2 : decode cX9_summed 2 = .ok (.putfield 153, 3) := by decide +kernel
theorem dX9_summed_5 : decode cX9_summed 5 = .ok (.aload_n 0, 1) := by decide +kernel
theorem dX9_summed_6 : decode cX9_summed 6 = .ok (.iconst 0, 1) := by decide +kernel
theorem dX9_summed_7 : decode cX9_summed 7 = .ok (.putfield 163, 3) := by decide +kernel
theorem dX9_summed_10 : decode cX9_summed 10 = .ok (.aload_n 0, 1) := by decide +kernel
theorem dX9_summed_11 : decode cX9_summed 11 = .ok (.iconst 0, 1) := by decide +kernel
theorem dX9_summed_12 : decode cX9_summed 12 = .ok (.putfield 203, 3) := by decide +kernel
theorem dX9_summed_15 : decode cX9_summed 15 = .ok (.aload_n 0, 1) := by decide +kernel
theorem dX9_summed_16 : decode cX9_summed 16 = .ok (.getfield 203, 3) := by decide +kernel
theorem dX9_summed_19 : decode cX9_summed 19 = .ok (.ifCond .eq 10, 3) := by decide +kernel
theorem dX9_summed_22 : decode cX9_summed 22 = .ok (.aload_n 0, 1) := by decide +kernel
theorem dX9_summed_23 : decode cX9_summed 23 = .ok (.invokevirtual 218, 3) := by decide +kernel
theorem dX9_summed_26 : decode cX9_summed 26 = .ok (.goto 7, 3) := by decide +kernel
theorem dX9_summed_29 : decode cX9_summed 29 = .ok (.aload_n 0, 1) := by decide +kernel
theorem dX9_summed_30 : decode cX9_summed 30 = .ok (.invokevirtual 221, 3) := by decide +kernel
theorem dX9_summed_33 : decode cX9_summed 33 = .ok (.istore_n 1, 1) := by decide +kernel
theorem dX9_summed_34 : decode cX9_summed 34 = .ok (.iload_n 1, 1) := by decide +kernel
theorem dX9_summed_35 : decode cX9_summed 35 = .ok (.ifCond .le 5, 3) := by decide +kernel
theorem dX9_summed_38 : decode cX9_summed 38 = .ok (.iload_n 1, 1) := by decide +kernel
theorem dX9_summed_39 : decode cX9_summed 39 = .ok (.ireturn, 1) := by decide +kernel
theorem dX9_summed_40 : decode cX9_summed 40 = .ok (.iload_n 1, 1) := by decide +kernel
theorem dX9_summed_41 : decode cX9_summed 41 = .ok (.ifCond .ne 6, 3) := by decide +kernel
theorem dX9_summed_44 : decode cX9_summed 44 = .ok (.goto (-29), 3) := by decide +kernel
theorem dX9_summed_47 : decode cX9_summed 47 = .ok (.aload_n 0, 1) := by decide +kernel
theorem dX9_summed_48 : decode cX9_summed 48 = .ok (.invokevirtual 170, 3) := by decide +kernel
theorem dX9_summed_51 : decode cX9_summed 51 = .ok (.ifCond .lt 5, 3) := by decide +kernel
theorem dX9_summed_54 : decode cX9_summed 54 = .ok (.iconst 1, 1) := by decide +kernel
theorem dX9_summed_55 : decode cX9_summed 55 = .ok (.ireturn, 1) := by decide +kernel
theorem dX9_summed_56 : decode cX9_summed 56 = .ok (.aload_n 0, 1) := by decide +kernel
theorem dX9_summed_57 : decode cX9_summed 57 = .ok (.iconst 1, 1) := by decide +kernel
theorem dX9_summed_58 : decode cX9_summed 58 = .ok (.invokevirtual 200, 3) := by decide +kernel
theorem dX9_summed_61 : decode cX9_summed 61 = .ok (.iconst 0, 1) := by decide +kernel
theorem dX9_summed_62 : decode cX9_summed 62 = .ok (.ireturn, 1) := by decide +kernel
theorem dX9_figure_0 : decode cX9_figure 0 = .ok (.aload_n 0, 1) := by decide +kernel
theorem dX9_figure_1 : decode cX9_figure 1 = .ok (.getfield 106, 3) := by decide +kernel
theorem dX9_figure_4 : decode cX9_figure 4 = .ok (.iconst 1, 1) := by decide +kernel
theorem dX9_figure_5 : decode cX9_figure 5 = .ok (.if_icmp .eq 5, 3) := by decide +kernel
theorem dX9_figure_8 : decode cX9_figure 8 = .ok (.iconst 1, 1) := by decide +kernel
theorem dX9_figure_9 : decode cX9_figure 9 = .ok (.ireturn, 1) := by decide +kernel
theorem dX9_figure_10 : decode cX9_figure 10 = .ok (.aload_n 0, 1) := by decide +kernel
theorem dX9_figure_11 : decode cX9_figure 11 = .ok (.getfield 112, 3) := by decide +kernel
theorem dX9_figure_14 : decode cX9_figure 14 = .ok (.iload_n 2, 1) := by decide +kernel
theorem dX9_figure_15 : decode cX9_figure 15 = .ok (.iload_n 3, 1) := by decide +kernel
theorem dX9_figure_16 : decode cX9_figure 16 = .ok (.invokestatic 63, 3) := by decide +kernel
theorem dX9_figure_19 : decode cX9_figure 19 = .ok (.ifCond .ne 5, 3) := by decide +kernel
theorem dX9_figure_22 : decode cX9_figure 22 = .ok (.iconst 2, 1) := by decide +kernel
theorem dX9_figure_23 : decode cX9_figure 23 = .ok (.ireturn, 1) := by decide +kernel
theorem dX9_figure_24 : decode cX9_figure 24 = .ok (.aload_n 0, 1) := by decide +kernel
theorem dX9_figure_25 : decode cX9_figure 25 = .ok (.getfield 16, 3) := by decide +kernel
theorem dX9_figure_28 : decode cX9_figure 28 = .ok (.iload_n 1, 1) := by decide +kernel
theorem dX9_figure_29 : decode cX9_figure 29 = .ok (.aload_n 0, 1) := by decide +kernel
theorem dX9_figure_30 : decode cX9_figure 30 = .ok (.getfield 112, 3) := by decide +kernel
theorem dX9_figure_33 : decode cX9_figure 33 = .ok (.iastore, 1) := by decide +kernel
theorem dX9_figure_34 : decode cX9_figure 34 = .ok (.aload_n 0, 1) := by decide +kernel
theorem dX9_figure_35 : decode cX9_figure 35 = .ok (.invokevirtual 173, 3) := by decide +kernel
theorem dX9_figure_38 : decode cX9_figure 38 = .ok (.iconst 0, 1) := by decide +kernel
theorem dX9_figure_39 : decode cX9_figure 39 = .ok (.ireturn, 1) := by decide +kernel
theorem dX9_worded_0 : decode cX9_worded 0 = .ok (.aload_n 0, 1) := by decide +kernel
theorem dX9_worded_1 : decode cX9_worded 1 = .ok (.lload_n 1, 1) := by decide +kernel
theorem dX9_worded_2 : decode cX9_worded 2 = .ok (.invokevirtual 192, 3) := by decide +kernel
theorem dX9_worded_5 : decode cX9_worded 5 = .ok (.ifCond .ne 5, 3) := by decide +kernel
theorem dX9_worded_8 : decode cX9_worded 8 = .ok (.iconst 1, 1) := by decide +kernel
theorem dX9_worded_9 : decode cX9_worded 9 = .ok (.ireturn, 1) := by decide +kernel
theorem dX9_worded_10 : decode cX9_worded 10 = .ok (.aload_n 0, 1) := by decide +kernel
theorem dX9_worded_11 : decode cX9_worded 11 = .ok (.invokevirtual 173, 3) := by decide +kernel
theorem dX9_worded_14 : decode cX9_worded 14 = .ok (.aload_n 0, 1) := by decide +kernel
theorem dX9_worded_15 : decode cX9_worded 15 = .ok (.iload_n 3, 1) := by decide +kernel
theorem dX9_worded_16 : decode cX9_worded 16 = .ok (.iload 4, 2) := by decide +kernel
theorem dX9_worded_18 : decode cX9_worded 18 = .ok (.iload 5, 2) := by decide +kernel
theorem dX9_worded_20 : decode cX9_worded 20 = .ok (.invokevirtual 224, 3) := by decide +kernel
theorem dX9_worded_23 : decode cX9_worded 23 = .ok (.ireturn, 1) := by decide +kernel
theorem dX9_lawClause_0 : decode cX9_lawClause 0 = .ok (.aload_n 0, 1) := by decide +kernel
theorem dX9_lawClause_1 : decode cX9_lawClause 1 = .ok (.getfield 16, 3) := by decide +kernel
theorem dX9_lawClause_4 : decode cX9_lawClause 4 = .ok (.iload_n 1, 1) := by decide +kernel
theorem dX9_lawClause_5 : decode cX9_lawClause 5 = .ok (.iconst 1, 1) := by decide +kernel
theorem dX9_lawClause_6 : decode cX9_lawClause 6 = .ok (.iadd, 1) := by decide +kernel
theorem dX9_lawClause_7 : decode cX9_lawClause 7 = .ok (.aload_n 0, 1) := by decide +kernel
theorem dX9_lawClause_8 : decode cX9_lawClause 8 = .ok (.getfield 147, 3) := by decide +kernel
theorem dX9_lawClause_11 : decode cX9_lawClause 11 = .ok (.iastore, 1) := by decide +kernel
theorem dX9_lawClause_12 : decode cX9_lawClause 12 = .ok (.aload_n 0, 1) := by decide +kernel
theorem dX9_lawClause_13 : decode cX9_lawClause 13 = .ok (.invokevirtual 228, 3) := by decide +kernel
theorem dX9_lawClause_16 : decode cX9_lawClause 16 = .ok (.istore_n 2, 1) := by decide +kernel
theorem dX9_lawClause_17 : decode cX9_lawClause 17 = .ok (.aload_n 0, 1) := by decide +kernel
theorem dX9_lawClause_18 : decode cX9_lawClause 18 = .ok (.getfield 16, 3) := by decide +kernel
theorem dX9_lawClause_21 : decode cX9_lawClause 21 = .ok (.iload_n 1, 1) := by decide +kernel
theorem dX9_lawClause_22 : decode cX9_lawClause 22 = .ok (.iconst 2, 1) := by decide +kernel
theorem dX9_lawClause_23 : decode cX9_lawClause 23 = .ok (.iadd, 1) := by decide +kernel
theorem dX9_lawClause_24 : decode cX9_lawClause 24 = .ok (.aload_n 0, 1) := by decide +kernel
theorem dX9_lawClause_25 : decode cX9_lawClause 25 = .ok (.getfield 147, 3) := by decide +kernel
theorem dX9_lawClause_28 : decode cX9_lawClause 28 = .ok (.iastore, 1) := by decide +kernel
theorem dX9_lawClause_29 : decode cX9_lawClause 29 = .ok (.iload_n 2, 1) := by decide +kernel
theorem dX9_lawClause_30 : decode cX9_lawClause 30 = .ok (.ireturn, 1) := by decide +kernel
theorem dX9_pair_0 : decode cX9_pair 0 = .ok (.aload_n 0, 1) := by decide +kernel
theorem dX9_pair_1 : decode cX9_pair 1 = .ok (.iload_n 1, 1) := by decide +kernel
theorem dX9_pair_2 : decode cX9_pair 2 = .ok (.iconst 1, 1) := by decide +kernel
theorem dX9_pair_3 : decode cX9_pair 3 = .ok (.iadd, 1) := by decide +kernel
theorem dX9_pair_4 : decode cX9_pair 4 = .ok (.iconst 0, 1) := by decide +kernel
theorem dX9_pair_5 : decode cX9_pair 5 = .ok (.iload_n 2, 1) := by decide +kernel
theorem dX9_pair_6 : decode cX9_pair 6 = .ok (.invokevirtual 224, 3) := by decide +kernel
theorem dX9_pair_9 : decode cX9_pair 9 = .ok (.istore 6, 2) := by decide +kernel
theorem dX9_pair_11 : decode cX9_pair 11 = .ok (.iload 6, 2) := by decide +kernel
theorem dX9_pair_13 : decode cX9_pair 13 = .ok (.ifCond .eq 8, 3) := by decide +kernel
theorem dX9_pair_16 : decode cX9_pair 16 = .ok (.iload 6, 2) := by decide +kernel
theorem dX9_pair_18 : decode cX9_pair 18 = .ok (.goto 14, 3) := by decide +kernel
theorem dX9_pair_21 : decode cX9_pair 21 = .ok (.aload_n 0, 1) := by decide +kernel
theorem dX9_pair_22 : decode cX9_pair 22 = .ok (.lload_n 3, 1) := by decide +kernel
theorem dX9_pair_23 : decode cX9_pair 23 = .ok (.iload_n 1, 1) := by decide +kernel
theorem dX9_pair_24 : decode cX9_pair 24 = .ok (.iconst 2, 1) := by decide +kernel
theorem dX9_pair_25 : decode cX9_pair 25 = .ok (.iadd, 1) := by decide +kernel
theorem dX9_pair_26 : decode cX9_pair 26 = .ok (.iconst 0, 1) := by decide +kernel
theorem dX9_pair_27 : decode cX9_pair 27 = .ok (.iload 5, 2) := by decide +kernel
theorem dX9_pair_29 : decode cX9_pair 29 = .ok (.invokevirtual 231, 3) := by decide +kernel
theorem dX9_pair_32 : decode cX9_pair 32 = .ok (.ireturn, 1) := by decide +kernel
theorem dX9_factsClause_0 : decode cX9_factsClause 0 = .ok (.iconst 0, 1) := by decide +kernel
theorem dX9_factsClause_1 : decode cX9_factsClause 1 = .ok (.istore_n 2, 1) := by decide +kernel
theorem dX9_factsClause_2 : decode cX9_factsClause 2 = .ok (.iconst 0, 1) := by decide +kernel
theorem dX9_factsClause_3 : decode cX9_factsClause 3 = .ok (.istore_n 3, 1) := by decide +kernel
theorem dX9_factsClause_4 : decode cX9_factsClause 4 = .ok (.aload_n 0, 1) := by decide +kernel
theorem dX9_factsClause_5 : decode cX9_factsClause 5 = .ok (.iload_n 1, 1) := by decide +kernel
theorem dX9_factsClause_6 : decode cX9_factsClause 6 = .ok (.iconst 0, 1) := by decide +kernel
theorem dX9_factsClause_7 : decode cX9_factsClause 7 = .ok (.bipush 7, 2) := by decide +kernel
theorem dX9_factsClause_9 : decode cX9_factsClause 9 = .ok (.invokevirtual 224, 3) := by decide +kernel
theorem dX9_factsClause_12 : decode cX9_factsClause 12 = .ok (.istore 4, 2) := by decide +kernel
theorem dX9_factsClause_14 : decode cX9_factsClause 14 = .ok (.iload 4, 2) := by decide +kernel
theorem dX9_factsClause_16 : decode cX9_factsClause 16 = .ok (.ifCond .eq 6, 3) := by decide +kernel
theorem dX9_factsClause_19 : decode cX9_factsClause 19 = .ok (.iload 4, 2) := by decide +kernel
theorem dX9_factsClause_21 : decode cX9_factsClause 21 = .ok (.ireturn, 1) := by decide +kernel
theorem dX9_factsClause_22 : decode cX9_factsClause 22 = .ok (.iload_n 2, 1) := by decide +kernel
theorem dX9_factsClause_23 : decode cX9_factsClause 23 = .ok (.iconst 1, 1) := by decide +kernel
theorem dX9_factsClause_24 : decode cX9_factsClause 24 = .ok (.aload_n 0, 1) := by decide +kernel
theorem dX9_factsClause_25 : decode cX9_factsClause 25 = .ok (.getfield 16, 3) := by decide +kernel
theorem dX9_factsClause_28 : decode cX9_factsClause 28 = .ok (.iload_n 1, 1) := by decide +kernel
theorem dX9_factsClause_29 : decode cX9_factsClause 29 = .ok (.iaload, 1) := by decide +kernel
theorem dX9_factsClause_30 : decode cX9_factsClause 30 = .ok (.ishl, 1) := by decide +kernel
theorem dX9_factsClause_31 : decode cX9_factsClause 31 = .ok (.ior, 1) := by decide +kernel
theorem dX9_factsClause_32 : decode cX9_factsClause 32 = .ok (.istore_n 2, 1) := by decide +kernel
theorem dX9_factsClause_33 : decode cX9_factsClause 33 = .ok (.aload_n 0, 1) := by decide +kernel
theorem dX9_factsClause_34 : decode cX9_factsClause 34 = .ok (.getfield 16, 3) := by decide +kernel
theorem dX9_factsClause_37 : decode cX9_factsClause 37 = .ok (.iload_n 1, 1) := by decide +kernel
theorem dX9_factsClause_38 : decode cX9_factsClause 38 = .ok (.iload_n 2, 1) := by decide +kernel
theorem dX9_factsClause_39 : decode cX9_factsClause 39 = .ok (.iastore, 1) := by decide +kernel
theorem dX9_factsClause_40 : decode cX9_factsClause 40 = .ok (.iinc 3 1, 3) := by decide +kernel
theorem dX9_factsClause_43 : decode cX9_factsClause 43 = .ok (.aload_n 0, 1) := by decide +kernel
theorem dX9_factsClause_44 : decode cX9_factsClause 44 = .ok (.getfield 106, 3) := by decide +kernel
theorem dX9_factsClause_47 : decode cX9_factsClause 47 = .ok (.bipush 44, 2) := by decide +kernel
theorem dX9_factsClause_49 : decode cX9_factsClause 49 = .ok (.if_icmp .eq 5, 3) := by decide +kernel
theorem dX9_factsClause_52 : decode cX9_factsClause 52 = .ok (.iconst 0, 1) := by decide +kernel
theorem dX9_factsClause_53 : decode cX9_factsClause 53 = .ok (.ireturn, 1) := by decide +kernel
theorem dX9_factsClause_54 : decode cX9_factsClause 54 = .ok (.iload_n 3, 1) := by decide +kernel
theorem dX9_factsClause_55 : decode cX9_factsClause 55 = .ok (.bipush 8, 2) := by decide +kernel
theorem dX9_factsClause_57 : decode cX9_factsClause 57 = .ok (.if_icmp .ne 6, 3) := by decide +kernel
theorem dX9_factsClause_60 : decode cX9_factsClause 60 = .ok (.bipush 7, 2) := by decide +kernel
theorem dX9_factsClause_62 : decode cX9_factsClause 62 = .ok (.ireturn, 1) := by decide +kernel
theorem dX9_factsClause_63 : decode cX9_factsClause 63 = .ok (.aload_n 0, 1) := by decide +kernel
theorem dX9_factsClause_64 : decode cX9_factsClause 64 = .ok (.invokevirtual 173, 3) := by decide +kernel
theorem dX9_factsClause_67 : decode cX9_factsClause 67 = .ok (.goto (-63), 3) := by decide +kernel
theorem dX9_foretellClause_0 : decode cX9_foretellClause 0 = .ok (.aload_n 0, 1) := by decide +kernel
theorem dX9_foretellClause_1 : decode cX9_foretellClause 1 = .ok (.iload_n 1, 1) := by decide +kernel
theorem dX9_foretellClause_2 : decode cX9_foretellClause 2 = .ok (.iconst 1, 1) := by decide +kernel
theorem dX9_foretellClause_3 : decode cX9_foretellClause 3 = .ok (.iadd, 1) := by decide +kernel
theorem dX9_foretellClause_4 : decode cX9_foretellClause 4 = .ok (.iconst 0, 1) := by decide +kernel
theorem dX9_foretellClause_5 : decode cX9_foretellClause 5 = .ok (.iconst 4, 1) := by decide +kernel
theorem dX9_foretellClause_6 : decode cX9_foretellClause 6 = .ok (.invokevirtual 224, 3) := by decide +kernel
theorem dX9_foretellClause_9 : decode cX9_foretellClause 9 = .ok (.istore_n 2, 1) := by decide +kernel
theorem dX9_foretellClause_10 : decode cX9_foretellClause 10 = .ok (.iload_n 2, 1) := by decide +kernel
theorem dX9_foretellClause_11 : decode cX9_foretellClause 11 = .ok (.ifCond .eq 5, 3) := by decide +kernel
theorem dX9_foretellClause_14 : decode cX9_foretellClause 14 = .ok (.iload_n 2, 1) := by decide +kernel
theorem dX9_foretellClause_15 : decode cX9_foretellClause 15 = .ok (.ireturn, 1) := by decide +kernel
theorem dX9_foretellClause_16 : decode cX9_foretellClause 16 = .ok (.aload_n 0, 1) := by decide +kernel
theorem dX9_foretellClause_17 : decode cX9_foretellClause 17 = .ok (.bipush 97, 2) := by decide +kernel
theorem dX9_foretellClause_19 : decode cX9_foretellClause 19 = .ok (.bipush 108, 2) := by decide +kernel
theorem dX9_foretellClause_21 : decode cX9_foretellClause 21 = .ok (.bipush 108, 2) := by decide +kernel
theorem dX9_foretellClause_23 : decode cX9_foretellClause 23 = .ok (.invokestatic 132, 3) := by decide +kernel
theorem dX9_foretellClause_26 : decode cX9_foretellClause 26 = .ok (.invokevirtual 192, 3) := by decide +kernel
theorem dX9_foretellClause_29 : decode cX9_foretellClause 29 = .ok (.istore_n 3, 1) := by decide +kernel
theorem dX9_foretellClause_30 : decode cX9_foretellClause 30 = .ok (.iload_n 3, 1) := by decide +kernel
theorem dX9_foretellClause_31 : decode cX9_foretellClause 31 = .ok (.ifCond .ne 21, 3) := by decide +kernel
theorem dX9_foretellClause_34 : decode cX9_foretellClause 34 = .ok (.aload_n 0, 1) := by decide +kernel
theorem dX9_foretellClause_35 : decode cX9_foretellClause 35 = .ok (.bipush 97, 2) := by decide +kernel
theorem dX9_foretellClause_37 : decode cX9_foretellClause 37 = .ok (.bipush 110, 2) := by decide +kernel
theorem dX9_foretellClause_39 : decode cX9_foretellClause 39 = .ok (.bipush 121, 2) := by decide +kernel
theorem dX9_foretellClause_41 : decode cX9_foretellClause 41 = .ok (.invokestatic 132, 3) := by decide +kernel
theorem dX9_foretellClause_44 : decode cX9_foretellClause 44 = .ok (.invokevirtual 192, 3) := by decide +kernel
theorem dX9_foretellClause_47 : decode cX9_foretellClause 47 = .ok (.ifCond .ne 5, 3) := by decide +kernel
theorem dX9_foretellClause_50 : decode cX9_foretellClause 50 = .ok (.iconst 1, 1) := by decide +kernel
theorem dX9_foretellClause_51 : decode cX9_foretellClause 51 = .ok (.ireturn, 1) := by decide +kernel
theorem dX9_foretellClause_52 : decode cX9_foretellClause 52 = .ok (.aload_n 0, 1) := by decide +kernel
theorem dX9_foretellClause_53 : decode cX9_foretellClause 53 = .ok (.getfield 16, 3) := by decide +kernel
theorem dX9_foretellClause_56 : decode cX9_foretellClause 56 = .ok (.iload_n 1, 1) := by decide +kernel
theorem dX9_foretellClause_57 : decode cX9_foretellClause 57 = .ok (.iconst 2, 1) := by decide +kernel
theorem dX9_foretellClause_58 : decode cX9_foretellClause 58 = .ok (.iadd, 1) := by decide +kernel
theorem dX9_foretellClause_59 : decode cX9_foretellClause 59 = .ok (.iload_n 3, 1) := by decide +kernel
theorem dX9_foretellClause_60 : decode cX9_foretellClause 60 = .ok (.ifCond .eq 7, 3) := by decide +kernel
theorem dX9_foretellClause_63 : decode cX9_foretellClause 63 = .ok (.iconst 1, 1) := by decide +kernel
theorem dX9_foretellClause_64 : decode cX9_foretellClause 64 = .ok (.goto 4, 3) := by decide +kernel
theorem dX9_foretellClause_67 : decode cX9_foretellClause 67 = .ok (.iconst 0, 1) := by decide +kernel
theorem dX9_foretellClause_68 : decode cX9_foretellClause 68 = .ok (.iastore, 1) := by decide +kernel
theorem dX9_foretellClause_69 : decode cX9_foretellClause 69 = .ok (.aload_n 0, 1) := by decide +kernel
theorem dX9_foretellClause_70 : decode cX9_foretellClause 70 = .ok (.invokevirtual 173, 3) := by decide +kernel
theorem dX9_foretellClause_73 : decode cX9_foretellClause 73 = .ok (.aload_n 0, 1) := by decide +kernel
theorem dX9_foretellClause_74 : decode cX9_foretellClause 74 = .ok (.iload_n 1, 1) := by decide +kernel
theorem dX9_foretellClause_75 : decode cX9_foretellClause 75 = .ok (.iconst 3, 1) := by decide +kernel
theorem dX9_foretellClause_76 : decode cX9_foretellClause 76 = .ok (.iadd, 1) := by decide +kernel
theorem dX9_foretellClause_77 : decode cX9_foretellClause 77 = .ok (.invokevirtual 235, 3) := by decide +kernel
theorem dX9_foretellClause_80 : decode cX9_foretellClause 80 = .ok (.istore_n 2, 1) := by decide +kernel
theorem dX9_foretellClause_81 : decode cX9_foretellClause 81 = .ok (.iload_n 2, 1) := by decide +kernel
theorem dX9_foretellClause_82 : decode cX9_foretellClause 82 = .ok (.ifCond .ne 21, 3) := by decide +kernel
theorem dX9_foretellClause_85 : decode cX9_foretellClause 85 = .ok (.aload_n 0, 1) := by decide +kernel
theorem dX9_foretellClause_86 : decode cX9_foretellClause 86 = .ok (.bipush 105, 2) := by decide +kernel
theorem dX9_foretellClause_88 : decode cX9_foretellClause 88 = .ok (.bipush 110, 2) := by decide +kernel
theorem dX9_foretellClause_90 : decode cX9_foretellClause 90 = .ok (.invokestatic 128, 3) := by decide +kernel
theorem dX9_foretellClause_93 : decode cX9_foretellClause 93 = .ok (.iload_n 1, 1) := by decide +kernel
theorem dX9_foretellClause_94 : decode cX9_foretellClause 94 = .ok (.iconst 4, 1) := by decide +kernel
theorem dX9_foretellClause_95 : decode cX9_foretellClause 95 = .ok (.iadd, 1) := by decide +kernel
theorem dX9_foretellClause_96 : decode cX9_foretellClause 96 = .ok (.iconst 1, 1) := by decide +kernel
theorem dX9_foretellClause_97 : decode cX9_foretellClause 97 = .ok (.bipush 99, 2) := by decide +kernel
theorem dX9_foretellClause_99 : decode cX9_foretellClause 99 = .ok (.invokevirtual 231, 3) := by decide +kernel
theorem dX9_foretellClause_102 : decode cX9_foretellClause 102 = .ok (.istore_n 2, 1) := by decide +kernel
theorem dX9_foretellClause_103 : decode cX9_foretellClause 103 = .ok (.iload_n 2, 1) := by decide +kernel
theorem dX9_foretellClause_104 : decode cX9_foretellClause 104 = .ok (.ifCond .eq 7, 3) := by decide +kernel
theorem dX9_foretellClause_107 : decode cX9_foretellClause 107 = .ok (.iload_n 2, 1) := by decide +kernel
theorem dX9_foretellClause_108 : decode cX9_foretellClause 108 = .ok (.goto 23, 3) := by decide +kernel
theorem dX9_foretellClause_111 : decode cX9_foretellClause 111 = .ok (.aload_n 0, 1) := by decide +kernel
theorem dX9_foretellClause_112 : decode cX9_foretellClause 112 = .ok (.bipush 102, 2) := by decide +kernel
theorem dX9_foretellClause_114 : decode cX9_foretellClause 114 = .ok (.bipush 101, 2) := by decide +kernel
theorem dX9_foretellClause_116 : decode cX9_foretellClause 116 = .ok (.bipush 101, 2) := by decide +kernel
theorem dX9_foretellClause_118 : decode cX9_foretellClause 118 = .ok (.invokestatic 132, 3) := by decide +kernel
theorem dX9_foretellClause_121 : decode cX9_foretellClause 121 = .ok (.iload_n 1, 1) := by decide +kernel
theorem dX9_foretellClause_122 : decode cX9_foretellClause 122 = .ok (.iconst 5, 1) := by decide +kernel
theorem dX9_foretellClause_123 : decode cX9_foretellClause 123 = .ok (.iadd, 1) := by decide +kernel
theorem dX9_foretellClause_124 : decode cX9_foretellClause 124 = .ok (.iconst 0, 1) := by decide +kernel
theorem dX9_foretellClause_125 : decode cX9_foretellClause 125 = .ok (.sipush 999, 3) := by decide +kernel
theorem dX9_foretellClause_128 : decode cX9_foretellClause 128 = .ok (.invokevirtual 231, 3) := by decide +kernel
theorem dX9_foretellClause_131 : decode cX9_foretellClause 131 = .ok (.ireturn, 1) := by decide +kernel
theorem dX9_sellClause_0 : decode cX9_sellClause 0 = .ok (.aload_n 0, 1) := by decide +kernel
theorem dX9_sellClause_1 : decode cX9_sellClause 1 = .ok (.iload_n 1, 1) := by decide +kernel
theorem dX9_sellClause_2 : decode cX9_sellClause 2 = .ok (.bipush 11, 2) := by decide +kernel
theorem dX9_sellClause_4 : decode cX9_sellClause 4 = .ok (.bipush 116, 2) := by decide +kernel
theorem dX9_sellClause_6 : decode cX9_sellClause 6 = .ok (.bipush 111, 2) := by decide +kernel
theorem dX9_sellClause_8 : decode cX9_sellClause 8 = .ok (.invokestatic 128, 3) := by decide +kernel
theorem dX9_sellClause_11 : decode cX9_sellClause 11 = .ok (.iconst 4, 1) := by decide +kernel
theorem dX9_sellClause_12 : decode cX9_sellClause 12 = .ok (.invokevirtual 238, 3) := by decide +kernel
theorem dX9_sellClause_15 : decode cX9_sellClause 15 = .ok (.istore_n 2, 1) := by decide +kernel
theorem dX9_sellClause_16 : decode cX9_sellClause 16 = .ok (.iload_n 2, 1) := by decide +kernel
theorem dX9_sellClause_17 : decode cX9_sellClause 17 = .ok (.ifCond .eq 7, 3) := by decide +kernel
theorem dX9_sellClause_20 : decode cX9_sellClause 20 = .ok (.iload_n 2, 1) := by decide +kernel
theorem dX9_sellClause_21 : decode cX9_sellClause 21 = .ok (.goto 27, 3) := by decide +kernel
theorem dX9_sellClause_24 : decode cX9_sellClause 24 = .ok (.aload_n 0, 1) := by decide +kernel
theorem dX9_sellClause_25 : decode cX9_sellClause 25 = .ok (.bipush 112, 2) := by decide +kernel
theorem dX9_sellClause_27 : decode cX9_sellClause 27 = .ok (.bipush 114, 2) := by decide +kernel
theorem dX9_sellClause_29 : decode cX9_sellClause 29 = .ok (.bipush 105, 2) := by decide +kernel
theorem dX9_sellClause_31 : decode cX9_sellClause 31 = .ok (.bipush 99, 2) := by decide +kernel
theorem dX9_sellClause_33 : decode cX9_sellClause 33 = .ok (.bipush 101, 2) := by decide +kernel
theorem dX9_sellClause_35 : decode cX9_sellClause 35 = .ok (.invokestatic 140, 3) := by decide +kernel
theorem dX9_sellClause_38 : decode cX9_sellClause 38 = .ok (.iload_n 1, 1) := by decide +kernel
theorem dX9_sellClause_39 : decode cX9_sellClause 39 = .ok (.iconst 3, 1) := by decide +kernel
theorem dX9_sellClause_40 : decode cX9_sellClause 40 = .ok (.iadd, 1) := by decide +kernel
theorem dX9_sellClause_41 : decode cX9_sellClause 41 = .ok (.iconst 0, 1) := by decide +kernel
theorem dX9_sellClause_42 : decode cX9_sellClause 42 = .ok (.sipush 999, 3) := by decide +kernel
theorem dX9_sellClause_45 : decode cX9_sellClause 45 = .ok (.invokevirtual 231, 3) := by decide +kernel
theorem dX9_sellClause_48 : decode cX9_sellClause 48 = .ok (.ireturn, 1) := by decide +kernel
theorem dX9_body_0 : decode cX9_body 0 = .ok (.iload_n 1, 1) := by decide +kernel
theorem dX9_body_1 : decode cX9_body 1 = .ok (.tableswitch 109 3 9 #[43, 64, 86, 109, 109, 92, 98], 43) := by decide +kernel
theorem dX9_body_44 : decode cX9_body 44 = .ok (.aload_n 0, 1) := by decide +kernel
theorem dX9_body_45 : decode cX9_body 45 = .ok (.iload_n 2, 1) := by decide +kernel
theorem dX9_body_46 : decode cX9_body 46 = .ok (.bipush 10, 2) := by decide +kernel
theorem dX9_body_48 : decode cX9_body 48 = .ok (.bipush 99, 2) := by decide +kernel
theorem dX9_body_50 : decode cX9_body 50 = .ok (.bipush 111, 2) := by decide +kernel
theorem dX9_body_52 : decode cX9_body 52 = .ok (.bipush 115, 2) := by decide +kernel
theorem dX9_body_54 : decode cX9_body 54 = .ok (.bipush 116, 2) := by decide +kernel
theorem dX9_body_56 : decode cX9_body 56 = .ok (.invokestatic 136, 3) := by decide +kernel
theorem dX9_body_59 : decode cX9_body 59 = .ok (.bipush 99, 2) := by decide +kernel
theorem dX9_body_61 : decode cX9_body 61 = .ok (.invokevirtual 238, 3) := by decide +kernel
theorem dX9_body_64 : decode cX9_body 64 = .ok (.ireturn, 1) := by decide +kernel
theorem dX9_body_65 : decode cX9_body 65 = .ok (.aload_n 0, 1) := by decide +kernel
theorem dX9_body_66 : decode cX9_body 66 = .ok (.iload_n 2, 1) := by decide +kernel
theorem dX9_body_67 : decode cX9_body 67 = .ok (.sipush 9999, 3) := by decide +kernel
theorem dX9_body_70 : decode cX9_body 70 = .ok (.bipush 102, 2) := by decide +kernel
theorem dX9_body_72 : decode cX9_body 72 = .ok (.bipush 97, 2) := by decide +kernel
theorem dX9_body_74 : decode cX9_body 74 = .ok (.bipush 109, 2) := by decide +kernel
theorem dX9_body_76 : decode cX9_body 76 = .ok (.bipush 101, 2) := by decide +kernel
theorem dX9_body_78 : decode cX9_body 78 = .ok (.invokestatic 136, 3) := by decide +kernel
theorem dX9_body_81 : decode cX9_body 81 = .ok (.bipush 99, 2) := by decide +kernel
theorem dX9_body_83 : decode cX9_body 83 = .ok (.invokevirtual 238, 3) := by decide +kernel
theorem dX9_body_86 : decode cX9_body 86 = .ok (.ireturn, 1) := by decide +kernel
theorem dX9_body_87 : decode cX9_body 87 = .ok (.aload_n 0, 1) := by decide +kernel
theorem dX9_body_88 : decode cX9_body 88 = .ok (.iload_n 2, 1) := by decide +kernel
theorem dX9_body_89 : decode cX9_body 89 = .ok (.invokevirtual 242, 3) := by decide +kernel
theorem dX9_body_92 : decode cX9_body 92 = .ok (.ireturn, 1) := by decide +kernel
theorem dX9_body_93 : decode cX9_body 93 = .ok (.aload_n 0, 1) := by decide +kernel
theorem dX9_body_94 : decode cX9_body 94 = .ok (.iload_n 2, 1) := by decide +kernel
theorem dX9_body_95 : decode cX9_body 95 = .ok (.invokevirtual 245, 3) := by decide +kernel
theorem dX9_body_98 : decode cX9_body 98 = .ok (.ireturn, 1) := by decide +kernel
theorem dX9_body_99 : decode cX9_body 99 = .ok (.aload_n 0, 1) := by decide +kernel
theorem dX9_body_100 : decode cX9_body 100 = .ok (.iload_n 2, 1) := by decide +kernel
theorem dX9_body_101 : decode cX9_body 101 = .ok (.iconst 1, 1) := by decide +kernel
theorem dX9_body_102 : decode cX9_body 102 = .ok (.iadd, 1) := by decide +kernel
theorem dX9_body_103 : decode cX9_body 103 = .ok (.iconst 1, 1) := by decide +kernel
theorem dX9_body_104 : decode cX9_body 104 = .ok (.bipush 60, 2) := by decide +kernel
theorem dX9_body_106 : decode cX9_body 106 = .ok (.invokevirtual 224, 3) := by decide +kernel
theorem dX9_body_109 : decode cX9_body 109 = .ok (.ireturn, 1) := by decide +kernel
theorem dX9_body_110 : decode cX9_body 110 = .ok (.iload_n 1, 1) := by decide +kernel
theorem dX9_body_111 : decode cX9_body 111 = .ok (.iconst 2, 1) := by decide +kernel
theorem dX9_body_112 : decode cX9_body 112 = .ok (.if_icmp .gt 11, 3) := by decide +kernel
theorem dX9_body_115 : decode cX9_body 115 = .ok (.aload_n 0, 1) := by decide +kernel
theorem dX9_body_116 : decode cX9_body 116 = .ok (.iload_n 2, 1) := by decide +kernel
theorem dX9_body_117 : decode cX9_body 117 = .ok (.invokevirtual 248, 3) := by decide +kernel
theorem dX9_body_120 : decode cX9_body 120 = .ok (.goto 18, 3) := by decide +kernel
theorem dX9_body_123 : decode cX9_body 123 = .ok (.aload_n 0, 1) := by decide +kernel
theorem dX9_body_124 : decode cX9_body 124 = .ok (.iload_n 2, 1) := by decide +kernel
theorem dX9_body_125 : decode cX9_body 125 = .ok (.bipush 7, 2) := by decide +kernel
theorem dX9_body_127 : decode cX9_body 127 = .ok (.bipush 98, 2) := by decide +kernel
theorem dX9_body_129 : decode cX9_body 129 = .ok (.bipush 121, 2) := by decide +kernel
theorem dX9_body_131 : decode cX9_body 131 = .ok (.invokestatic 128, 3) := by decide +kernel
theorem dX9_body_134 : decode cX9_body 134 = .ok (.iconst 4, 1) := by decide +kernel
theorem dX9_body_135 : decode cX9_body 135 = .ok (.invokevirtual 238, 3) := by decide +kernel
theorem dX9_body_138 : decode cX9_body 138 = .ok (.ireturn, 1) := by decide +kernel
theorem dX9_sortOf_0 : decode cX9_sortOf 0 = .ok (.aload_n 0, 1) := by decide +kernel
theorem dX9_sortOf_1 : decode cX9_sortOf 1 = .ok (.bipush 99, 2) := by decide +kernel
theorem dX9_sortOf_3 : decode cX9_sortOf 3 = .ok (.bipush 111, 2) := by decide +kernel
theorem dX9_sortOf_5 : decode cX9_sortOf 5 = .ok (.bipush 109, 2) := by decide +kernel
theorem dX9_sortOf_7 : decode cX9_sortOf 7 = .ok (.bipush 101, 2) := by decide +kernel
theorem dX9_sortOf_9 : decode cX9_sortOf 9 = .ok (.bipush 115, 2) := by decide +kernel
theorem dX9_sortOf_11 : decode cX9_sortOf 11 = .ok (.invokestatic 140, 3) := by decide +kernel
theorem dX9_sortOf_14 : decode cX9_sortOf 14 = .ok (.invokevirtual 192, 3) := by decide +kernel
theorem dX9_sortOf_17 : decode cX9_sortOf 17 = .ok (.ifCond .eq 5, 3) := by decide +kernel
theorem dX9_sortOf_20 : decode cX9_sortOf 20 = .ok (.iconst 0, 1) := by decide +kernel
theorem dX9_sortOf_21 : decode cX9_sortOf 21 = .ok (.ireturn, 1) := by decide +kernel
theorem dX9_sortOf_22 : decode cX9_sortOf 22 = .ok (.aload_n 0, 1) := by decide +kernel
theorem dX9_sortOf_23 : decode cX9_sortOf 23 = .ok (.bipush 100, 2) := by decide +kernel
theorem dX9_sortOf_25 : decode cX9_sortOf 25 = .ok (.bipush 117, 2) := by decide +kernel
theorem dX9_sortOf_27 : decode cX9_sortOf 27 = .ok (.bipush 101, 2) := by decide +kernel
theorem dX9_sortOf_29 : decode cX9_sortOf 29 = .ok (.bipush 115, 2) := by decide +kernel
theorem dX9_sortOf_31 : decode cX9_sortOf 31 = .ok (.invokestatic 136, 3) := by decide +kernel
theorem dX9_sortOf_34 : decode cX9_sortOf 34 = .ok (.invokevirtual 192, 3) := by decide +kernel
theorem dX9_sortOf_37 : decode cX9_sortOf 37 = .ok (.ifCond .eq 5, 3) := by decide +kernel
theorem dX9_sortOf_40 : decode cX9_sortOf 40 = .ok (.iconst 1, 1) := by decide +kernel
theorem dX9_sortOf_41 : decode cX9_sortOf 41 = .ok (.ireturn, 1) := by decide +kernel
theorem dX9_sortOf_42 : decode cX9_sortOf 42 = .ok (.aload_n 0, 1) := by decide +kernel
theorem dX9_sortOf_43 : decode cX9_sortOf 43 = .ok (.bipush 114, 2) := by decide +kernel
theorem dX9_sortOf_45 : decode cX9_sortOf 45 = .ok (.bipush 101, 2) := by decide +kernel
theorem dX9_sortOf_47 : decode cX9_sortOf 47 = .ok (.bipush 110, 2) := by decide +kernel
theorem dX9_sortOf_49 : decode cX9_sortOf 49 = .ok (.bipush 111, 2) := by decide +kernel
theorem dX9_sortOf_51 : decode cX9_sortOf 51 = .ok (.bipush 119, 2) := by decide +kernel
theorem dX9_sortOf_53 : decode cX9_sortOf 53 = .ok (.bipush 110, 2) := by decide +kernel
theorem dX9_sortOf_55 : decode cX9_sortOf 55 = .ok (.invokestatic 251, 3) := by decide +kernel
theorem dX9_sortOf_58 : decode cX9_sortOf 58 = .ok (.invokevirtual 192, 3) := by decide +kernel
theorem dX9_sortOf_61 : decode cX9_sortOf 61 = .ok (.ifCond .eq 5, 3) := by decide +kernel
theorem dX9_sortOf_64 : decode cX9_sortOf 64 = .ok (.iconst 2, 1) := by decide +kernel
theorem dX9_sortOf_65 : decode cX9_sortOf 65 = .ok (.ireturn, 1) := by decide +kernel
theorem dX9_sortOf_66 : decode cX9_sortOf 66 = .ok (.aload_n 0, 1) := by decide +kernel
theorem dX9_sortOf_67 : decode cX9_sortOf 67 = .ok (.bipush 102, 2) := by decide +kernel
theorem dX9_sortOf_69 : decode cX9_sortOf 69 = .ok (.bipush 97, 2) := by decide +kernel
theorem dX9_sortOf_71 : decode cX9_sortOf 71 = .ok (.bipush 99, 2) := by decide +kernel
theorem dX9_sortOf_73 : decode cX9_sortOf 73 = .ok (.bipush 116, 2) := by decide +kernel
theorem dX9_sortOf_75 : decode cX9_sortOf 75 = .ok (.invokestatic 136, 3) := by decide +kernel
theorem dX9_sortOf_78 : decode cX9_sortOf 78 = .ok (.invokevirtual 192, 3) := by decide +kernel
theorem dX9_sortOf_81 : decode cX9_sortOf 81 = .ok (.ifCond .eq 5, 3) := by decide +kernel
theorem dX9_sortOf_84 : decode cX9_sortOf 84 = .ok (.iconst 3, 1) := by decide +kernel
theorem dX9_sortOf_85 : decode cX9_sortOf 85 = .ok (.ireturn, 1) := by decide +kernel
theorem dX9_sortOf_86 : decode cX9_sortOf 86 = .ok (.aload_n 0, 1) := by decide +kernel
theorem dX9_sortOf_87 : decode cX9_sortOf 87 = .ok (.bipush 112, 2) := by decide +kernel
theorem dX9_sortOf_89 : decode cX9_sortOf 89 = .ok (.bipush 114, 2) := by decide +kernel
theorem dX9_sortOf_91 : decode cX9_sortOf 91 = .ok (.bipush 111, 2) := by decide +kernel
theorem dX9_sortOf_93 : decode cX9_sortOf 93 = .ok (.bipush 112, 2) := by decide +kernel
theorem dX9_sortOf_95 : decode cX9_sortOf 95 = .ok (.invokestatic 136, 3) := by decide +kernel
theorem dX9_sortOf_98 : decode cX9_sortOf 98 = .ok (.bipush 104, 2) := by decide +kernel
theorem dX9_sortOf_100 : decode cX9_sortOf 100 = .ok (.bipush 101, 2) := by decide +kernel
theorem dX9_sortOf_102 : decode cX9_sortOf 102 = .ok (.bipush 116, 2) := by decide +kernel
theorem dX9_sortOf_104 : decode cX9_sortOf 104 = .ok (.invokestatic 132, 3) := by decide +kernel
theorem dX9_sortOf_107 : decode cX9_sortOf 107 = .ok (.bipush 7, 2) := by decide +kernel
theorem dX9_sortOf_109 : decode cX9_sortOf 109 = .ok (.invokevirtual 188, 3) := by decide +kernel
theorem dX9_sortOf_112 : decode cX9_sortOf 112 = .ok (.ifCond .eq 5, 3) := by decide +kernel
theorem dX9_sortOf_115 : decode cX9_sortOf 115 = .ok (.iconst 4, 1) := by decide +kernel
theorem dX9_sortOf_116 : decode cX9_sortOf 116 = .ok (.ireturn, 1) := by decide +kernel
theorem dX9_sortOf_117 : decode cX9_sortOf 117 = .ok (.aload_n 0, 1) := by decide +kernel
theorem dX9_sortOf_118 : decode cX9_sortOf 118 = .ok (.bipush 102, 2) := by decide +kernel
theorem dX9_sortOf_120 : decode cX9_sortOf 120 = .ok (.bipush 111, 2) := by decide +kernel
theorem dX9_sortOf_122 : decode cX9_sortOf 122 = .ok (.bipush 114, 2) := by decide +kernel
theorem dX9_sortOf_124 : decode cX9_sortOf 124 = .ok (.bipush 101, 2) := by decide +kernel
theorem dX9_sortOf_126 : decode cX9_sortOf 126 = .ok (.invokestatic 136, 3) := by decide +kernel
theorem dX9_sortOf_129 : decode cX9_sortOf 129 = .ok (.bipush 116, 2) := by decide +kernel
theorem dX9_sortOf_131 : decode cX9_sortOf 131 = .ok (.bipush 101, 2) := by decide +kernel
theorem dX9_sortOf_133 : decode cX9_sortOf 133 = .ok (.bipush 108, 2) := by decide +kernel
theorem dX9_sortOf_135 : decode cX9_sortOf 135 = .ok (.bipush 108, 2) := by decide +kernel
theorem dX9_sortOf_137 : decode cX9_sortOf 137 = .ok (.invokestatic 136, 3) := by decide +kernel
theorem dX9_sortOf_140 : decode cX9_sortOf 140 = .ok (.bipush 8, 2) := by decide +kernel
theorem dX9_sortOf_142 : decode cX9_sortOf 142 = .ok (.invokevirtual 188, 3) := by decide +kernel
theorem dX9_sortOf_145 : decode cX9_sortOf 145 = .ok (.ifCond .eq 5, 3) := by decide +kernel
theorem dX9_sortOf_148 : decode cX9_sortOf 148 = .ok (.iconst 5, 1) := by decide +kernel
theorem dX9_sortOf_149 : decode cX9_sortOf 149 = .ok (.ireturn, 1) := by decide +kernel
theorem dX9_sortOf_150 : decode cX9_sortOf 150 = .ok (.aload_n 0, 1) := by decide +kernel
theorem dX9_sortOf_151 : decode cX9_sortOf 151 = .ok (.bipush 98, 2) := by decide +kernel
theorem dX9_sortOf_153 : decode cX9_sortOf 153 = .ok (.bipush 114, 2) := by decide +kernel
theorem dX9_sortOf_155 : decode cX9_sortOf 155 = .ok (.bipush 105, 2) := by decide +kernel
theorem dX9_sortOf_157 : decode cX9_sortOf 157 = .ok (.bipush 110, 2) := by decide +kernel
theorem dX9_sortOf_159 : decode cX9_sortOf 159 = .ok (.bipush 103, 2) := by decide +kernel
theorem dX9_sortOf_161 : decode cX9_sortOf 161 = .ok (.invokestatic 140, 3) := by decide +kernel
theorem dX9_sortOf_164 : decode cX9_sortOf 164 = .ok (.invokevirtual 192, 3) := by decide +kernel
theorem dX9_sortOf_167 : decode cX9_sortOf 167 = .ok (.ifCond .eq 6, 3) := by decide +kernel
theorem dX9_sortOf_170 : decode cX9_sortOf 170 = .ok (.bipush 6, 2) := by decide +kernel
theorem dX9_sortOf_172 : decode cX9_sortOf 172 = .ok (.ireturn, 1) := by decide +kernel
theorem dX9_sortOf_173 : decode cX9_sortOf 173 = .ok (.aload_n 0, 1) := by decide +kernel
theorem dX9_sortOf_174 : decode cX9_sortOf 174 = .ok (.bipush 115, 2) := by decide +kernel
theorem dX9_sortOf_176 : decode cX9_sortOf 176 = .ok (.bipush 112, 2) := by decide +kernel
theorem dX9_sortOf_178 : decode cX9_sortOf 178 = .ok (.bipush 111, 2) := by decide +kernel
theorem dX9_sortOf_180 : decode cX9_sortOf 180 = .ok (.bipush 105, 2) := by decide +kernel
theorem dX9_sortOf_182 : decode cX9_sortOf 182 = .ok (.bipush 108, 2) := by decide +kernel
theorem dX9_sortOf_184 : decode cX9_sortOf 184 = .ok (.invokestatic 140, 3) := by decide +kernel
theorem dX9_sortOf_187 : decode cX9_sortOf 187 = .ok (.invokevirtual 192, 3) := by decide +kernel
theorem dX9_sortOf_190 : decode cX9_sortOf 190 = .ok (.ifCond .eq 6, 3) := by decide +kernel
theorem dX9_sortOf_193 : decode cX9_sortOf 193 = .ok (.bipush 7, 2) := by decide +kernel
theorem dX9_sortOf_195 : decode cX9_sortOf 195 = .ok (.ireturn, 1) := by decide +kernel
theorem dX9_sortOf_196 : decode cX9_sortOf 196 = .ok (.aload_n 0, 1) := by decide +kernel
theorem dX9_sortOf_197 : decode cX9_sortOf 197 = .ok (.bipush 115, 2) := by decide +kernel
theorem dX9_sortOf_199 : decode cX9_sortOf 199 = .ok (.bipush 101, 2) := by decide +kernel
theorem dX9_sortOf_201 : decode cX9_sortOf 201 = .ok (.bipush 108, 2) := by decide +kernel
theorem dX9_sortOf_203 : decode cX9_sortOf 203 = .ok (.bipush 108, 2) := by decide +kernel
theorem dX9_sortOf_205 : decode cX9_sortOf 205 = .ok (.invokestatic 136, 3) := by decide +kernel
theorem dX9_sortOf_208 : decode cX9_sortOf 208 = .ok (.invokevirtual 192, 3) := by decide +kernel
theorem dX9_sortOf_211 : decode cX9_sortOf 211 = .ok (.ifCond .eq 8, 3) := by decide +kernel
theorem dX9_sortOf_214 : decode cX9_sortOf 214 = .ok (.bipush 8, 2) := by decide +kernel
theorem dX9_sortOf_216 : decode cX9_sortOf 216 = .ok (.goto 25, 3) := by decide +kernel
theorem dX9_sortOf_219 : decode cX9_sortOf 219 = .ok (.aload_n 0, 1) := by decide +kernel
theorem dX9_sortOf_220 : decode cX9_sortOf 220 = .ok (.bipush 100, 2) := by decide +kernel
theorem dX9_sortOf_222 : decode cX9_sortOf 222 = .ok (.bipush 97, 2) := by decide +kernel
theorem dX9_sortOf_224 : decode cX9_sortOf 224 = .ok (.bipush 121, 2) := by decide +kernel
theorem dX9_sortOf_226 : decode cX9_sortOf 226 = .ok (.invokestatic 132, 3) := by decide +kernel
theorem dX9_sortOf_229 : decode cX9_sortOf 229 = .ok (.invokevirtual 192, 3) := by decide +kernel
theorem dX9_sortOf_232 : decode cX9_sortOf 232 = .ok (.ifCond .eq 8, 3) := by decide +kernel
theorem dX9_sortOf_235 : decode cX9_sortOf 235 = .ok (.bipush 9, 2) := by decide +kernel
theorem dX9_sortOf_237 : decode cX9_sortOf 237 = .ok (.goto 4, 3) := by decide +kernel
theorem dX9_sortOf_240 : decode cX9_sortOf 240 = .ok (.iconst (-1), 1) := by decide +kernel
theorem dX9_sortOf_241 : decode cX9_sortOf 241 = .ok (.ireturn, 1) := by decide +kernel
theorem dX9_clause_0 : decode cX9_clause 0 = .ok (.aload_n 0, 1) := by decide +kernel
theorem dX9_clause_1 : decode cX9_clause 1 = .ok (.invokevirtual 255, 3) := by decide +kernel
theorem dX9_clause_4 : decode cX9_clause 4 = .ok (.istore_n 1, 1) := by decide +kernel
theorem dX9_clause_5 : decode cX9_clause 5 = .ok (.iload_n 1, 1) := by decide +kernel
theorem dX9_clause_6 : decode cX9_clause 6 = .ok (.ifCond .ge 5, 3) := by decide +kernel
theorem dX9_clause_9 : decode cX9_clause 9 = .ok (.iconst 1, 1) := by decide +kernel
theorem dX9_clause_10 : decode cX9_clause 10 = .ok (.ireturn, 1) := by decide +kernel
theorem dX9_clause_11 : decode cX9_clause 11 = .ok (.iload_n 1, 1) := by decide +kernel
theorem dX9_clause_12 : decode cX9_clause 12 = .ok (.iconst 2, 1) := by decide +kernel
theorem dX9_clause_13 : decode cX9_clause 13 = .ok (.if_icmp .gt 16, 3) := by decide +kernel
theorem dX9_clause_16 : decode cX9_clause 16 = .ok (.aload_n 0, 1) := by decide +kernel
theorem dX9_clause_17 : decode cX9_clause 17 = .ok (.getfield 258, 3) := by decide +kernel
theorem dX9_clause_20 : decode cX9_clause 20 = .ok (.iload_n 1, 1) := by decide +kernel
theorem dX9_clause_21 : decode cX9_clause 21 = .ok (.invokestatic 261, 3) := by decide +kernel
theorem dX9_clause_24 : decode cX9_clause 24 = .ok (.ifCond .eq 5, 3) := by decide +kernel
theorem dX9_clause_27 : decode cX9_clause 27 = .ok (.iconst 4, 1) := by decide +kernel
theorem dX9_clause_28 : decode cX9_clause 28 = .ok (.ireturn, 1) := by decide +kernel
theorem dX9_clause_29 : decode cX9_clause 29 = .ok (.aload_n 0, 1) := by decide +kernel
theorem dX9_clause_30 : decode cX9_clause 30 = .ok (.getfield 16, 3) := by decide +kernel
theorem dX9_clause_33 : decode cX9_clause 33 = .ok (.aload_n 0, 1) := by decide +kernel
theorem dX9_clause_34 : decode cX9_clause 34 = .ok (.getfield 144, 3) := by decide +kernel
theorem dX9_clause_37 : decode cX9_clause 37 = .ok (.iaload, 1) := by decide +kernel
theorem dX9_clause_38 : decode cX9_clause 38 = .ok (.istore_n 2, 1) := by decide +kernel
theorem dX9_clause_39 : decode cX9_clause 39 = .ok (.iload_n 2, 1) := by decide +kernel
theorem dX9_clause_40 : decode cX9_clause 40 = .ok (.bipush 24, 2) := by decide +kernel
theorem dX9_clause_42 : decode cX9_clause 42 = .ok (.if_icmp .ne 6, 3) := by decide +kernel
theorem dX9_clause_45 : decode cX9_clause 45 = .ok (.bipush 6, 2) := by decide +kernel
theorem dX9_clause_47 : decode cX9_clause 47 = .ok (.ireturn, 1) := by decide +kernel
theorem dX9_clause_48 : decode cX9_clause 48 = .ok (.iload_n 1, 1) := by decide +kernel
theorem dX9_clause_49 : decode cX9_clause 49 = .ok (.iconst 2, 1) := by decide +kernel
theorem dX9_clause_50 : decode cX9_clause 50 = .ok (.if_icmp .gt 15, 3) := by decide +kernel
theorem dX9_clause_53 : decode cX9_clause 53 = .ok (.aload_n 0, 1) := by decide +kernel
theorem dX9_clause_54 : decode cX9_clause 54 = .ok (.dup, 1) := by decide +kernel
theorem dX9_clause_55 : decode cX9_clause 55 = .ok (.getfield 258, 3) := by decide +kernel
theorem dX9_clause_58 : decode cX9_clause 58 = .ok (.iconst 1, 1) := by decide +kernel
theorem dX9_clause_59 : decode cX9_clause 59 = .ok (.iload_n 1, 1) := by decide +kernel
theorem dX9_clause_60 : decode cX9_clause 60 = .ok (.ishl, 1) := by decide +kernel
theorem dX9_clause_61 : decode cX9_clause 61 = .ok (.ior, 1) := by decide +kernel
theorem dX9_clause_62 : decode cX9_clause 62 = .ok (.putfield 258, 3) := by decide +kernel
theorem dX9_clause_65 : decode cX9_clause 65 = .ok (.aload_n 0, 1) := by decide +kernel
theorem dX9_clause_66 : decode cX9_clause 66 = .ok (.iload_n 1, 1) := by decide +kernel
theorem dX9_clause_67 : decode cX9_clause 67 = .ok (.putfield 150, 3) := by decide +kernel
theorem dX9_clause_70 : decode cX9_clause 70 = .ok (.aload_n 0, 1) := by decide +kernel
theorem dX9_clause_71 : decode cX9_clause 71 = .ok (.invokevirtual 173, 3) := by decide +kernel
theorem dX9_clause_74 : decode cX9_clause 74 = .ok (.aload_n 0, 1) := by decide +kernel
theorem dX9_clause_75 : decode cX9_clause 75 = .ok (.getfield 144, 3) := by decide +kernel
theorem dX9_clause_78 : decode cX9_clause 78 = .ok (.iconst 1, 1) := by decide +kernel
theorem dX9_clause_79 : decode cX9_clause 79 = .ok (.iadd, 1) := by decide +kernel
theorem dX9_clause_80 : decode cX9_clause 80 = .ok (.bipush 6, 2) := by decide +kernel
theorem dX9_clause_82 : decode cX9_clause 82 = .ok (.iload_n 2, 1) := by decide +kernel
theorem dX9_clause_83 : decode cX9_clause 83 = .ok (.imul, 1) := by decide +kernel
theorem dX9_clause_84 : decode cX9_clause 84 = .ok (.iadd, 1) := by decide +kernel
theorem dX9_clause_85 : decode cX9_clause 85 = .ok (.istore_n 3, 1) := by decide +kernel
theorem dX9_clause_86 : decode cX9_clause 86 = .ok (.aload_n 0, 1) := by decide +kernel
theorem dX9_clause_87 : decode cX9_clause 87 = .ok (.getfield 16, 3) := by decide +kernel
theorem dX9_clause_90 : decode cX9_clause 90 = .ok (.iload_n 3, 1) := by decide +kernel
theorem dX9_clause_91 : decode cX9_clause 91 = .ok (.iload_n 1, 1) := by decide +kernel
theorem dX9_clause_92 : decode cX9_clause 92 = .ok (.iastore, 1) := by decide +kernel
theorem dX9_clause_93 : decode cX9_clause 93 = .ok (.aload_n 0, 1) := by decide +kernel
theorem dX9_clause_94 : decode cX9_clause 94 = .ok (.iload_n 1, 1) := by decide +kernel
theorem dX9_clause_95 : decode cX9_clause 95 = .ok (.iload_n 3, 1) := by decide +kernel
theorem dX9_clause_96 : decode cX9_clause 96 = .ok (.invokevirtual 265, 3) := by decide +kernel
theorem dX9_clause_99 : decode cX9_clause 99 = .ok (.istore 4, 2) := by decide +kernel
theorem dX9_clause_101 : decode cX9_clause 101 = .ok (.iload 4, 2) := by decide +kernel
theorem dX9_clause_103 : decode cX9_clause 103 = .ok (.ifCond .eq 6, 3) := by decide +kernel
theorem dX9_clause_106 : decode cX9_clause 106 = .ok (.iload 4, 2) := by decide +kernel
theorem dX9_clause_108 : decode cX9_clause 108 = .ok (.ireturn, 1) := by decide +kernel
theorem dX9_clause_109 : decode cX9_clause 109 = .ok (.aload_n 0, 1) := by decide +kernel
theorem dX9_clause_110 : decode cX9_clause 110 = .ok (.getfield 16, 3) := by decide +kernel
theorem dX9_clause_113 : decode cX9_clause 113 = .ok (.aload_n 0, 1) := by decide +kernel
theorem dX9_clause_114 : decode cX9_clause 114 = .ok (.getfield 144, 3) := by decide +kernel
theorem dX9_clause_117 : decode cX9_clause 117 = .ok (.dup2, 1) := by decide +kernel
theorem dX9_clause_118 : decode cX9_clause 118 = .ok (.iaload, 1) := by decide +kernel
theorem dX9_clause_119 : decode cX9_clause 119 = .ok (.iconst 1, 1) := by decide +kernel
theorem dX9_clause_120 : decode cX9_clause 120 = .ok (.iadd, 1) := by decide +kernel
theorem dX9_clause_121 : decode cX9_clause 121 = .ok (.iastore, 1) := by decide +kernel
theorem dX9_clause_122 : decode cX9_clause 122 = .ok (.aload_n 0, 1) := by decide +kernel
theorem dX9_clause_123 : decode cX9_clause 123 = .ok (.getfield 106, 3) := by decide +kernel
theorem dX9_clause_126 : decode cX9_clause 126 = .ok (.bipush 59, 2) := by decide +kernel
theorem dX9_clause_128 : decode cX9_clause 128 = .ok (.if_icmp .eq 5, 3) := by decide +kernel
theorem dX9_clause_131 : decode cX9_clause 131 = .ok (.iconst 1, 1) := by decide +kernel
theorem dX9_clause_132 : decode cX9_clause 132 = .ok (.ireturn, 1) := by decide +kernel
theorem dX9_clause_133 : decode cX9_clause 133 = .ok (.aload_n 0, 1) := by decide +kernel
theorem dX9_clause_134 : decode cX9_clause 134 = .ok (.invokevirtual 173, 3) := by decide +kernel
theorem dX9_clause_137 : decode cX9_clause 137 = .ok (.iconst 0, 1) := by decide +kernel
theorem dX9_clause_138 : decode cX9_clause 138 = .ok (.ireturn, 1) := by decide +kernel
theorem dX9_readText_0 : decode cX9_readText 0 = .ok (.aload_n 0, 1) := by decide +kernel
theorem dX9_readText_1 : decode cX9_readText 1 = .ok (.sipush 753, 3) := by decide +kernel
theorem dX9_readText_4 : decode cX9_readText 4 = .ok (.aload_n 0, 1) := by decide +kernel
theorem dX9_readText_5 : decode cX9_readText 5 = .ok (.getfield 7, 3) := by decide +kernel
theorem dX9_readText_8 : decode cX9_readText 8 = .ok (.iconst 2, 1) := by decide +kernel
theorem dX9_readText_9 : decode cX9_readText 9 = .ok (.iaload, 1) := by decide +kernel
theorem dX9_readText_10 : decode cX9_readText 10 = .ok (.imul, 1) := by decide +kernel
theorem dX9_readText_11 : decode cX9_readText 11 = .ok (.putfield 144, 3) := by decide +kernel
theorem dX9_readText_14 : decode cX9_readText 14 = .ok (.aload_n 0, 1) := by decide +kernel
theorem dX9_readText_15 : decode cX9_readText 15 = .ok (.getfield 16, 3) := by decide +kernel
theorem dX9_readText_18 : decode cX9_readText 18 = .ok (.aload_n 0, 1) := by decide +kernel
theorem dX9_readText_19 : decode cX9_readText 19 = .ok (.getfield 144, 3) := by decide +kernel
theorem dX9_readText_22 : decode cX9_readText 22 = .ok (.iconst 0, 1) := by decide +kernel
theorem dX9_readText_23 : decode cX9_readText 23 = .ok (.iastore, 1) := by decide +kernel
theorem dX9_readText_24 : decode cX9_readText 24 = .ok (.aload_n 0, 1) := by decide +kernel
theorem dX9_readText_25 : decode cX9_readText 25 = .ok (.iconst 0, 1) := by decide +kernel
theorem dX9_readText_26 : decode cX9_readText 26 = .ok (.putfield 147, 3) := by decide +kernel
theorem dX9_readText_29 : decode cX9_readText 29 = .ok (.aload_n 0, 1) := by decide +kernel
theorem dX9_readText_30 : decode cX9_readText 30 = .ok (.iconst 0, 1) := by decide +kernel
theorem dX9_readText_31 : decode cX9_readText 31 = .ok (.putfield 258, 3) := by decide +kernel
theorem dX9_readText_34 : decode cX9_readText 34 = .ok (.aload_n 0, 1) := by decide +kernel
theorem dX9_readText_35 : decode cX9_readText 35 = .ok (.iconst 0, 1) := by decide +kernel
theorem dX9_readText_36 : decode cX9_readText 36 = .ok (.putfield 96, 3) := by decide +kernel
theorem dX9_readText_39 : decode cX9_readText 39 = .ok (.aload_n 0, 1) := by decide +kernel
theorem dX9_readText_40 : decode cX9_readText 40 = .ok (.invokevirtual 173, 3) := by decide +kernel
theorem dX9_readText_43 : decode cX9_readText 43 = .ok (.aload_n 0, 1) := by decide +kernel
theorem dX9_readText_44 : decode cX9_readText 44 = .ok (.getfield 106, 3) := by decide +kernel
theorem dX9_readText_47 : decode cX9_readText 47 = .ok (.ifCond .eq 17, 3) := by decide +kernel
theorem dX9_readText_50 : decode cX9_readText 50 = .ok (.aload_n 0, 1) := by decide +kernel
theorem dX9_readText_51 : decode cX9_readText 51 = .ok (.invokevirtual 268, 3) := by decide +kernel
theorem dX9_readText_54 : decode cX9_readText 54 = .ok (.istore_n 1, 1) := by decide +kernel
theorem dX9_readText_55 : decode cX9_readText 55 = .ok (.iload_n 1, 1) := by decide +kernel
theorem dX9_readText_56 : decode cX9_readText 56 = .ok (.ifCond .eq 5, 3) := by decide +kernel
theorem dX9_readText_59 : decode cX9_readText 59 = .ok (.iload_n 1, 1) := by decide +kernel
theorem dX9_readText_60 : decode cX9_readText 60 = .ok (.ireturn, 1) := by decide +kernel
theorem dX9_readText_61 : decode cX9_readText 61 = .ok (.goto (-18), 3) := by decide +kernel
theorem dX9_readText_64 : decode cX9_readText 64 = .ok (.iconst 0, 1) := by decide +kernel
theorem dX9_readText_65 : decode cX9_readText 65 = .ok (.ireturn, 1) := by decide +kernel
theorem dX9_text_0 : decode cX9_text 0 = .ok (.aload_n 0, 1) := by decide +kernel
theorem dX9_text_1 : decode cX9_text 1 = .ok (.getfield 7, 3) := by decide +kernel
theorem dX9_text_4 : decode cX9_text 4 = .ok (.iconst 2, 1) := by decide +kernel
theorem dX9_text_5 : decode cX9_text 5 = .ok (.iaload, 1) := by decide +kernel
theorem dX9_text_6 : decode cX9_text 6 = .ok (.iconst 4, 1) := by decide +kernel
theorem dX9_text_7 : decode cX9_text 7 = .ok (.if_icmp .ne 5, 3) := by decide +kernel
theorem dX9_text_10 : decode cX9_text 10 = .ok (.iconst (-1), 1) := by decide +kernel
theorem dX9_text_11 : decode cX9_text 11 = .ok (.ireturn, 1) := by decide +kernel
theorem dX9_text_12 : decode cX9_text 12 = .ok (.aload_n 0, 1) := by decide +kernel
theorem dX9_text_13 : decode cX9_text 13 = .ok (.aload_n 0, 1) := by decide +kernel
theorem dX9_text_14 : decode cX9_text 14 = .ok (.invokevirtual 271, 3) := by decide +kernel
theorem dX9_text_17 : decode cX9_text 17 = .ok (.putfield 22, 3) := by decide +kernel
theorem dX9_text_20 : decode cX9_text 20 = .ok (.aload_n 0, 1) := by decide +kernel
theorem dX9_text_21 : decode cX9_text 21 = .ok (.aload_n 0, 1) := by decide +kernel
theorem dX9_text_22 : decode cX9_text 22 = .ok (.getfield 22, 3) := by decide +kernel
theorem dX9_text_25 : decode cX9_text 25 = .ok (.ifCond .ne 7, 3) := by decide +kernel
theorem dX9_text_28 : decode cX9_text 28 = .ok (.iconst (-1), 1) := by decide +kernel
theorem dX9_text_29 : decode cX9_text 29 = .ok (.goto 7, 3) := by decide +kernel
theorem dX9_text_32 : decode cX9_text 32 = .ok (.aload_n 0, 1) := by decide +kernel
theorem dX9_text_33 : decode cX9_text 33 = .ok (.getfield 103, 3) := by decide +kernel
theorem dX9_text_36 : decode cX9_text 36 = .ok (.putfield 26, 3) := by decide +kernel
theorem dX9_text_39 : decode cX9_text 39 = .ok (.aload_n 0, 1) := by decide +kernel
theorem dX9_text_40 : decode cX9_text 40 = .ok (.iconst 0, 1) := by decide +kernel
theorem dX9_text_41 : decode cX9_text 41 = .ok (.putfield 90, 3) := by decide +kernel
theorem dX9_text_44 : decode cX9_text 44 = .ok (.aload_n 0, 1) := by decide +kernel
theorem dX9_text_45 : decode cX9_text 45 = .ok (.getfield 22, 3) := by decide +kernel
theorem dX9_text_48 : decode cX9_text 48 = .ok (.ifCond .eq 5, 3) := by decide +kernel
theorem dX9_text_51 : decode cX9_text 51 = .ok (.iconst (-1), 1) := by decide +kernel
theorem dX9_text_52 : decode cX9_text 52 = .ok (.ireturn, 1) := by decide +kernel
theorem dX9_text_53 : decode cX9_text 53 = .ok (.aload_n 0, 1) := by decide +kernel
theorem dX9_text_54 : decode cX9_text 54 = .ok (.getfield 7, 3) := by decide +kernel
theorem dX9_text_57 : decode cX9_text 57 = .ok (.iconst 2, 1) := by decide +kernel
theorem dX9_text_58 : decode cX9_text 58 = .ok (.dup2, 1) := by decide +kernel
theorem dX9_text_59 : decode cX9_text 59 = .ok (.iaload, 1) := by decide +kernel
theorem dX9_text_60 : decode cX9_text 60 = .ok (.iconst 1, 1) := by decide +kernel
theorem dX9_text_61 : decode cX9_text 61 = .ok (.iadd, 1) := by decide +kernel
theorem dX9_text_62 : decode cX9_text 62 = .ok (.iastore, 1) := by decide +kernel
theorem dX9_text_63 : decode cX9_text 63 = .ok (.aload_n 0, 1) := by decide +kernel
theorem dX9_text_64 : decode cX9_text 64 = .ok (.getfield 7, 3) := by decide +kernel
theorem dX9_text_67 : decode cX9_text 67 = .ok (.iconst 2, 1) := by decide +kernel
theorem dX9_text_68 : decode cX9_text 68 = .ok (.iaload, 1) := by decide +kernel
theorem dX9_text_69 : decode cX9_text 69 = .ok (.iconst 1, 1) := by decide +kernel
theorem dX9_text_70 : decode cX9_text 70 = .ok (.isub, 1) := by decide +kernel
theorem dX9_text_71 : decode cX9_text 71 = .ok (.ireturn, 1) := by decide +kernel
theorem dX9_fault_0 : decode cX9_fault 0 = .ok (.iload_n 1, 1) := by decide +kernel
theorem dX9_fault_1 : decode cX9_fault 1 = .ok (.ifCond .ne 10, 3) := by decide +kernel
theorem dX9_fault_4 : decode cX9_fault 4 = .ok (.aload_n 0, 1) := by decide +kernel
theorem dX9_fault_5 : decode cX9_fault 5 = .ok (.getfield 22, 3) := by decide +kernel
theorem dX9_fault_8 : decode cX9_fault 8 = .ok (.goto 16, 3) := by decide +kernel
theorem dX9_fault_11 : decode cX9_fault 11 = .ok (.iload_n 1, 1) := by decide +kernel
theorem dX9_fault_12 : decode cX9_fault 12 = .ok (.iconst 1, 1) := by decide +kernel
theorem dX9_fault_13 : decode cX9_fault 13 = .ok (.if_icmp .ne 10, 3) := by decide +kernel
theorem dX9_fault_16 : decode cX9_fault 16 = .ok (.aload_n 0, 1) := by decide +kernel
theorem dX9_fault_17 : decode cX9_fault 17 = .ok (.getfield 26, 3) := by decide +kernel
theorem dX9_fault_20 : decode cX9_fault 20 = .ok (.goto 4, 3) := by decide +kernel
theorem dX9_fault_23 : decode cX9_fault 23 = .ok (.iconst (-1), 1) := by decide +kernel
theorem dX9_fault_24 : decode cX9_fault 24 = .ok (.ireturn, 1) := by decide +kernel
theorem dX9_by_0 : decode cX9_by 0 = .ok (.iload_n 1, 1) := by decide +kernel
theorem dX9_by_1 : decode cX9_by 1 = .ok (.iconst (-1), 1) := by decide +kernel
theorem dX9_by_2 : decode cX9_by 2 = .ok (.aload_n 0, 1) := by decide +kernel
theorem dX9_by_3 : decode cX9_by 3 = .ok (.getfield 7, 3) := by decide +kernel
theorem dX9_by_6 : decode cX9_by 6 = .ok (.iconst 2, 1) := by decide +kernel
theorem dX9_by_7 : decode cX9_by 7 = .ok (.iaload, 1) := by decide +kernel
theorem dX9_by_8 : decode cX9_by 8 = .ok (.iconst 1, 1) := by decide +kernel
theorem dX9_by_9 : decode cX9_by 9 = .ok (.isub, 1) := by decide +kernel
theorem dX9_by_10 : decode cX9_by 10 = .ok (.invokestatic 63, 3) := by decide +kernel
theorem dX9_by_13 : decode cX9_by 13 = .ok (.ifCond .ne 5, 3) := by decide +kernel
theorem dX9_by_16 : decode cX9_by 16 = .ok (.iconst 0, 1) := by decide +kernel
theorem dX9_by_17 : decode cX9_by 17 = .ok (.ireturn, 1) := by decide +kernel
theorem dX9_by_18 : decode cX9_by 18 = .ok (.aload_n 0, 1) := by decide +kernel
theorem dX9_by_19 : decode cX9_by 19 = .ok (.getfield 7, 3) := by decide +kernel
theorem dX9_by_22 : decode cX9_by 22 = .ok (.iconst 3, 1) := by decide +kernel
theorem dX9_by_23 : decode cX9_by 23 = .ok (.iload_n 1, 1) := by decide +kernel
theorem dX9_by_24 : decode cX9_by 24 = .ok (.iastore, 1) := by decide +kernel
theorem dX9_by_25 : decode cX9_by 25 = .ok (.iconst 1, 1) := by decide +kernel
theorem dX9_by_26 : decode cX9_by 26 = .ok (.ireturn, 1) := by decide +kernel
theorem dX9_clip_0 : decode cX9_clip 0 = .ok (.lload_n 0, 1) := by decide +kernel
theorem dX9_clip_1 : decode cX9_clip 1 = .ok (.ldc2_w 274, 3) := by decide +kernel
theorem dX9_clip_4 : decode cX9_clip 4 = .ok (.lcmp, 1) := by decide +kernel
theorem dX9_clip_5 : decode cX9_clip 5 = .ok (.ifCond .le 9, 3) := by decide +kernel
theorem dX9_clip_8 : decode cX9_clip 8 = .ok (.ldc2_w 274, 3) := by decide +kernel
theorem dX9_clip_11 : decode cX9_clip 11 = .ok (.goto 18, 3) := by decide +kernel
theorem dX9_clip_14 : decode cX9_clip 14 = .ok (.lload_n 0, 1) := by decide +kernel
theorem dX9_clip_15 : decode cX9_clip 15 = .ok (.ldc2_w 276, 3) := by decide +kernel
theorem dX9_clip_18 : decode cX9_clip 18 = .ok (.lcmp, 1) := by decide +kernel
theorem dX9_clip_19 : decode cX9_clip 19 = .ok (.ifCond .ge 9, 3) := by decide +kernel
theorem dX9_clip_22 : decode cX9_clip 22 = .ok (.ldc2_w 276, 3) := by decide +kernel
theorem dX9_clip_25 : decode cX9_clip 25 = .ok (.goto 4, 3) := by decide +kernel
theorem dX9_clip_28 : decode cX9_clip 28 = .ok (.lload_n 0, 1) := by decide +kernel
theorem dX9_clip_29 : decode cX9_clip 29 = .ok (.lreturn, 1) := by decide +kernel
theorem dX9_two_0 : decode cX9_two 0 = .ok (.iload_n 0, 1) := by decide +kernel
theorem dX9_two_1 : decode cX9_two 1 = .ok (.tableswitch 48 6 8 #[27, 34, 41], 27) := by decide +kernel
theorem dX9_two_28 : decode cX9_two 28 = .ok (.lload_n 1, 1) := by decide +kernel
theorem dX9_two_29 : decode cX9_two 29 = .ok (.lload_n 3, 1) := by decide +kernel
theorem dX9_two_30 : decode cX9_two 30 = .ok (.ladd, 1) := by decide +kernel
theorem dX9_two_31 : decode cX9_two 31 = .ok (.invokestatic 278, 3) := by decide +kernel
theorem dX9_two_34 : decode cX9_two 34 = .ok (.lreturn, 1) := by decide +kernel
theorem dX9_two_35 : decode cX9_two 35 = .ok (.lload_n 1, 1) := by decide +kernel
theorem dX9_two_36 : decode cX9_two 36 = .ok (.lload_n 3, 1) := by decide +kernel
theorem dX9_two_37 : decode cX9_two 37 = .ok (.lsub, 1) := by decide +kernel
theorem dX9_two_38 : decode cX9_two 38 = .ok (.invokestatic 278, 3) := by decide +kernel
theorem dX9_two_41 : decode cX9_two 41 = .ok (.lreturn, 1) := by decide +kernel
theorem dX9_two_42 : decode cX9_two 42 = .ok (.lload_n 1, 1) := by decide +kernel
theorem dX9_two_43 : decode cX9_two 43 = .ok (.lload_n 3, 1) := by decide +kernel
theorem dX9_two_44 : decode cX9_two 44 = .ok (.lmul, 1) := by decide +kernel
theorem dX9_two_45 : decode cX9_two 45 = .ok (.invokestatic 278, 3) := by decide +kernel
theorem dX9_two_48 : decode cX9_two 48 = .ok (.lreturn, 1) := by decide +kernel
theorem dX9_two_49 : decode cX9_two 49 = .ok (.lload_n 3, 1) := by decide +kernel
theorem dX9_two_50 : decode cX9_two 50 = .ok (.lconst 0, 1) := by decide +kernel
theorem dX9_two_51 : decode cX9_two 51 = .ok (.lcmp, 1) := by decide +kernel
theorem dX9_two_52 : decode cX9_two 52 = .ok (.ifCond .ne 7, 3) := by decide +kernel
theorem dX9_two_55 : decode cX9_two 55 = .ok (.lconst 0, 1) := by decide +kernel
theorem dX9_two_56 : decode cX9_two 56 = .ok (.goto 9, 3) := by decide +kernel
theorem dX9_two_59 : decode cX9_two 59 = .ok (.lload_n 1, 1) := by decide +kernel
theorem dX9_two_60 : decode cX9_two 60 = .ok (.lload_n 3, 1) := by decide +kernel
theorem dX9_two_61 : decode cX9_two 61 = .ok (.ldiv, 1) := by decide +kernel
theorem dX9_two_62 : decode cX9_two 62 = .ok (.invokestatic 278, 3) := by decide +kernel
theorem dX9_two_65 : decode cX9_two 65 = .ok (.lreturn, 1) := by decide +kernel
theorem dX9_isAsked_0 : decode cX9_isAsked 0 = .ok (.iload_n 0, 1) := by decide +kernel
theorem dX9_isAsked_1 : decode cX9_isAsked 1 = .ok (.bipush 10, 2) := by decide +kernel
theorem dX9_isAsked_3 : decode cX9_isAsked 3 = .ok (.if_icmp .ne 17, 3) := by decide +kernel
theorem dX9_isAsked_6 : decode cX9_isAsked 6 = .ok (.lload_n 1, 1) := by decide +kernel
theorem dX9_isAsked_7 : decode cX9_isAsked 7 = .ok (.lload_n 3, 1) := by decide +kernel
theorem dX9_isAsked_8 : decode cX9_isAsked 8 = .ok (.lcmp, 1) := by decide +kernel
theorem dX9_isAsked_9 : decode cX9_isAsked 9 = .ok (.ifCond .ge 7, 3) := by decide +kernel
theorem dX9_isAsked_12 : decode cX9_isAsked 12 = .ok (.iconst 1, 1) := by decide +kernel
theorem dX9_isAsked_13 : decode cX9_isAsked 13 = .ok (.goto 98, 3) := by decide +kernel
theorem dX9_isAsked_16 : decode cX9_isAsked 16 = .ok (.iconst 0, 1) := by decide +kernel
theorem dX9_isAsked_17 : decode cX9_isAsked 17 = .ok (.goto 94, 3) := by decide +kernel
theorem dX9_isAsked_20 : decode cX9_isAsked 20 = .ok (.iload_n 0, 1) := by decide +kernel
theorem dX9_isAsked_21 : decode cX9_isAsked 21 = .ok (.bipush 11, 2) := by decide +kernel
theorem dX9_isAsked_23 : decode cX9_isAsked 23 = .ok (.if_icmp .ne 17, 3) := by decide +kernel
theorem dX9_isAsked_26 : decode cX9_isAsked 26 = .ok (.lload_n 1, 1) := by decide +kernel
theorem dX9_isAsked_27 : decode cX9_isAsked 27 = .ok (.lload_n 3, 1) := by decide +kernel
theorem dX9_isAsked_28 : decode cX9_isAsked 28 = .ok (.lcmp, 1) := by decide +kernel
theorem dX9_isAsked_29 : decode cX9_isAsked 29 = .ok (.ifCond .gt 7, 3) := by decide +kernel
theorem dX9_isAsked_32 : decode cX9_isAsked 32 = .ok (.iconst 1, 1) := by decide +kernel
theorem dX9_isAsked_33 : decode cX9_isAsked 33 = .ok (.goto 78, 3) := by decide +kernel
theorem dX9_isAsked_36 : decode cX9_isAsked 36 = .ok (.iconst 0, 1) := by decide +kernel
theorem dX9_isAsked_37 : decode cX9_isAsked 37 = .ok (.goto 74, 3) := by decide +kernel
theorem dX9_isAsked_40 : decode cX9_isAsked 40 = .ok (.iload_n 0, 1) := by decide +kernel
theorem dX9_isAsked_41 : decode cX9_isAsked 41 = .ok (.bipush 12, 2) := by decide +kernel
theorem dX9_isAsked_43 : decode cX9_isAsked 43 = .ok (.if_icmp .ne 17, 3) := by decide +kernel
theorem dX9_isAsked_46 : decode cX9_isAsked 46 = .ok (.lload_n 1, 1) := by decide +kernel
theorem dX9_isAsked_47 : decode cX9_isAsked 47 = .ok (.lload_n 3, 1) := by decide +kernel
theorem dX9_isAsked_48 : decode cX9_isAsked 48 = .ok (.lcmp, 1) := by decide +kernel
theorem dX9_isAsked_49 : decode cX9_isAsked 49 = .ok (.ifCond .le 7, 3) := by decide +kernel
theorem dX9_isAsked_52 : decode cX9_isAsked 52 = .ok (.iconst 1, 1) := by decide +kernel
theorem dX9_isAsked_53 : decode cX9_isAsked 53 = .ok (.goto 58, 3) := by decide +kernel
theorem dX9_isAsked_56 : decode cX9_isAsked 56 = .ok (.iconst 0, 1) := by decide +kernel
theorem dX9_isAsked_57 : decode cX9_isAsked 57 = .ok (.goto 54, 3) := by decide +kernel
theorem dX9_isAsked_60 : decode cX9_isAsked 60 = .ok (.iload_n 0, 1) := by decide +kernel
theorem dX9_isAsked_61 : decode cX9_isAsked 61 = .ok (.bipush 13, 2) := by decide +kernel
theorem dX9_isAsked_63 : decode cX9_isAsked 63 = .ok (.if_icmp .ne 17, 3) := by decide +kernel
theorem dX9_isAsked_66 : decode cX9_isAsked 66 = .ok (.lload_n 1, 1) := by decide +kernel
theorem dX9_isAsked_67 : decode cX9_isAsked 67 = .ok (.lload_n 3, 1) := by decide +kernel
theorem dX9_isAsked_68 : decode cX9_isAsked 68 = .ok (.lcmp, 1) := by decide +kernel
theorem dX9_isAsked_69 : decode cX9_isAsked 69 = .ok (.ifCond .lt 7, 3) := by decide +kernel
theorem dX9_isAsked_72 : decode cX9_isAsked 72 = .ok (.iconst 1, 1) := by decide +kernel
theorem dX9_isAsked_73 : decode cX9_isAsked 73 = .ok (.goto 38, 3) := by decide +kernel
theorem dX9_isAsked_76 : decode cX9_isAsked 76 = .ok (.iconst 0, 1) := by decide +kernel
theorem dX9_isAsked_77 : decode cX9_isAsked 77 = .ok (.goto 34, 3) := by decide +kernel
theorem dX9_isAsked_80 : decode cX9_isAsked 80 = .ok (.iload_n 0, 1) := by decide +kernel
theorem dX9_isAsked_81 : decode cX9_isAsked 81 = .ok (.bipush 14, 2) := by decide +kernel
theorem dX9_isAsked_83 : decode cX9_isAsked 83 = .ok (.if_icmp .ne 17, 3) := by decide +kernel
theorem dX9_isAsked_86 : decode cX9_isAsked 86 = .ok (.lload_n 1, 1) := by decide +kernel
theorem dX9_isAsked_87 : decode cX9_isAsked 87 = .ok (.lload_n 3, 1) := by decide +kernel
theorem dX9_isAsked_88 : decode cX9_isAsked 88 = .ok (.lcmp, 1) := by decide +kernel
theorem dX9_isAsked_89 : decode cX9_isAsked 89 = .ok (.ifCond .ne 7, 3) := by decide +kernel
theorem dX9_isAsked_92 : decode cX9_isAsked 92 = .ok (.iconst 1, 1) := by decide +kernel
theorem dX9_isAsked_93 : decode cX9_isAsked 93 = .ok (.goto 18, 3) := by decide +kernel
theorem dX9_isAsked_96 : decode cX9_isAsked 96 = .ok (.iconst 0, 1) := by decide +kernel
theorem dX9_isAsked_97 : decode cX9_isAsked 97 = .ok (.goto 14, 3) := by decide +kernel
theorem dX9_isAsked_100 : decode cX9_isAsked 100 = .ok (.lload_n 1, 1) := by decide +kernel
theorem dX9_isAsked_101 : decode cX9_isAsked 101 = .ok (.lload_n 3, 1) := by decide +kernel
theorem dX9_isAsked_102 : decode cX9_isAsked 102 = .ok (.lcmp, 1) := by decide +kernel
theorem dX9_isAsked_103 : decode cX9_isAsked 103 = .ok (.ifCond .eq 7, 3) := by decide +kernel
theorem dX9_isAsked_106 : decode cX9_isAsked 106 = .ok (.iconst 1, 1) := by decide +kernel
theorem dX9_isAsked_107 : decode cX9_isAsked 107 = .ok (.goto 4, 3) := by decide +kernel
theorem dX9_isAsked_110 : decode cX9_isAsked 110 = .ok (.iconst 0, 1) := by decide +kernel
theorem dX9_isAsked_111 : decode cX9_isAsked 111 = .ok (.ireturn, 1) := by decide +kernel
theorem dX9_soOf_0 : decode cX9_soOf 0 = .ok (.lload_n 1, 1) := by decide +kernel
theorem dX9_soOf_1 : decode cX9_soOf 1 = .ok (.lconst 0, 1) := by decide +kernel
theorem dX9_soOf_2 : decode cX9_soOf 2 = .ok (.lcmp, 1) := by decide +kernel
theorem dX9_soOf_3 : decode cX9_soOf 3 = .ok (.ifCond .lt 34, 3) := by decide +kernel
theorem dX9_soOf_6 : decode cX9_soOf 6 = .ok (.lload_n 1, 1) := by decide +kernel
theorem dX9_soOf_7 : decode cX9_soOf 7 = .ok (.aload_n 0, 1) := by decide +kernel
theorem dX9_soOf_8 : decode cX9_soOf 8 = .ok (.getfield 7, 3) := by decide +kernel
theorem dX9_soOf_11 : decode cX9_soOf 11 = .ok (.iconst 0, 1) := by decide +kernel
theorem dX9_soOf_12 : decode cX9_soOf 12 = .ok (.iaload, 1) := by decide +kernel
theorem dX9_soOf_13 : decode cX9_soOf 13 = .ok (.i2l, 1) := by decide +kernel
theorem dX9_soOf_14 : decode cX9_soOf 14 = .ok (.lcmp, 1) := by decide +kernel
theorem dX9_soOf_15 : decode cX9_soOf 15 = .ok (.ifCond .ge 22, 3) := by decide +kernel
theorem dX9_soOf_18 : decode cX9_soOf 18 = .ok (.aload_n 0, 1) := by decide +kernel
theorem dX9_soOf_19 : decode cX9_soOf 19 = .ok (.getfield 7, 3) := by decide +kernel
theorem dX9_soOf_22 : decode cX9_soOf 22 = .ok (.bipush 10, 2) := by decide +kernel
theorem dX9_soOf_24 : decode cX9_soOf 24 = .ok (.iaload, 1) := by decide +kernel
theorem dX9_soOf_25 : decode cX9_soOf 25 = .ok (.lload_n 1, 1) := by decide +kernel
theorem dX9_soOf_26 : decode cX9_soOf 26 = .ok (.l2i, 1) := by decide +kernel
theorem dX9_soOf_27 : decode cX9_soOf 27 = .ok (.invokestatic 261, 3) := by decide +kernel
theorem dX9_soOf_30 : decode cX9_soOf 30 = .ok (.ifCond .eq 7, 3) := by decide +kernel
theorem dX9_soOf_33 : decode cX9_soOf 33 = .ok (.lconst 1, 1) := by decide +kernel
theorem dX9_soOf_34 : decode cX9_soOf 34 = .ok (.goto 4, 3) := by decide +kernel
theorem dX9_soOf_37 : decode cX9_soOf 37 = .ok (.lconst 0, 1) := by decide +kernel
theorem dX9_soOf_38 : decode cX9_soOf 38 = .ok (.lreturn, 1) := by decide +kernel
theorem dX9_percentOf_0 : decode cX9_percentOf 0 = .ok (.lload_n 2, 1) := by decide +kernel
theorem dX9_percentOf_1 : decode cX9_percentOf 1 = .ok (.lconst 0, 1) := by decide +kernel
theorem dX9_percentOf_2 : decode cX9_percentOf 2 = .ok (.lcmp, 1) := by decide +kernel
theorem dX9_percentOf_3 : decode cX9_percentOf 3 = .ok (.ifCond .ne 7, 3) := by decide +kernel
theorem dX9_percentOf_6 : decode cX9_percentOf 6 = .ok (.lconst 0, 1) := by decide +kernel
theorem dX9_percentOf_7 : decode cX9_percentOf 7 = .ok (.goto 10, 3) := by decide +kernel
theorem dX9_percentOf_10 : decode cX9_percentOf 10 = .ok (.ldc2_w 282, 3) := by decide +kernel
theorem dX9_percentOf_13 : decode cX9_percentOf 13 = .ok (.lload_n 0, 1) := by decide +kernel
theorem dX9_percentOf_14 : decode cX9_percentOf 14 = .ok (.lmul, 1) := by decide +kernel
theorem dX9_percentOf_15 : decode cX9_percentOf 15 = .ok (.lload_n 2, 1) := by decide +kernel
theorem dX9_percentOf_16 : decode cX9_percentOf 16 = .ok (.ldiv, 1) := by decide +kernel
theorem dX9_percentOf_17 : decode cX9_percentOf 17 = .ok (.lstore 4, 2) := by decide +kernel
theorem dX9_percentOf_19 : decode cX9_percentOf 19 = .ok (.lload 4, 2) := by decide +kernel
theorem dX9_percentOf_21 : decode cX9_percentOf 21 = .ok (.ldc2_w 274, 3) := by decide +kernel
theorem dX9_percentOf_24 : decode cX9_percentOf 24 = .ok (.lcmp, 1) := by decide +kernel
theorem dX9_percentOf_25 : decode cX9_percentOf 25 = .ok (.ifCond .le 9, 3) := by decide +kernel
theorem dX9_percentOf_28 : decode cX9_percentOf 28 = .ok (.ldc2_w 274, 3) := by decide +kernel
theorem dX9_percentOf_31 : decode cX9_percentOf 31 = .ok (.goto 20, 3) := by decide +kernel
theorem dX9_percentOf_34 : decode cX9_percentOf 34 = .ok (.lload 4, 2) := by decide +kernel
theorem dX9_percentOf_36 : decode cX9_percentOf 36 = .ok (.ldc2_w 276, 3) := by decide +kernel
theorem dX9_percentOf_39 : decode cX9_percentOf 39 = .ok (.lcmp, 1) := by decide +kernel
theorem dX9_percentOf_40 : decode cX9_percentOf 40 = .ok (.ifCond .ge 9, 3) := by decide +kernel
theorem dX9_percentOf_43 : decode cX9_percentOf 43 = .ok (.ldc2_w 276, 3) := by decide +kernel
theorem dX9_percentOf_46 : decode cX9_percentOf 46 = .ok (.goto 5, 3) := by decide +kernel
theorem dX9_percentOf_49 : decode cX9_percentOf 49 = .ok (.lload 4, 2) := by decide +kernel
theorem dX9_percentOf_51 : decode cX9_percentOf 51 = .ok (.lreturn, 1) := by decide +kernel
theorem dX9_joined_0 : decode cX9_joined 0 = .ok (.iload_n 0, 1) := by decide +kernel
theorem dX9_joined_1 : decode cX9_joined 1 = .ok (.bipush 21, 2) := by decide +kernel
theorem dX9_joined_3 : decode cX9_joined 3 = .ok (.if_icmp .ne 19, 3) := by decide +kernel
theorem dX9_joined_6 : decode cX9_joined 6 = .ok (.iload_n 1, 1) := by decide +kernel
theorem dX9_joined_7 : decode cX9_joined 7 = .ok (.ifCond .eq 11, 3) := by decide +kernel
theorem dX9_joined_10 : decode cX9_joined 10 = .ok (.iload_n 2, 1) := by decide +kernel
theorem dX9_joined_11 : decode cX9_joined 11 = .ok (.ifCond .eq 7, 3) := by decide +kernel
theorem dX9_joined_14 : decode cX9_joined 14 = .ok (.iconst 1, 1) := by decide +kernel
theorem dX9_joined_15 : decode cX9_joined 15 = .ok (.goto 20, 3) := by decide +kernel
theorem dX9_joined_18 : decode cX9_joined 18 = .ok (.iconst 0, 1) := by decide +kernel
theorem dX9_joined_19 : decode cX9_joined 19 = .ok (.goto 16, 3) := by decide +kernel
theorem dX9_joined_22 : decode cX9_joined 22 = .ok (.iload_n 1, 1) := by decide +kernel
theorem dX9_joined_23 : decode cX9_joined 23 = .ok (.ifCond .ne 7, 3) := by decide +kernel
theorem dX9_joined_26 : decode cX9_joined 26 = .ok (.iload_n 2, 1) := by decide +kernel
theorem dX9_joined_27 : decode cX9_joined 27 = .ok (.ifCond .eq 7, 3) := by decide +kernel
theorem dX9_joined_30 : decode cX9_joined 30 = .ok (.iconst 1, 1) := by decide +kernel
theorem dX9_joined_31 : decode cX9_joined 31 = .ok (.goto 4, 3) := by decide +kernel
theorem dX9_joined_34 : decode cX9_joined 34 = .ok (.iconst 0, 1) := by decide +kernel
theorem dX9_joined_35 : decode cX9_joined 35 = .ok (.ireturn, 1) := by decide +kernel
theorem dX9_summedUp_0 : decode cX9_summedUp 0 = .ok (.sipush 753, 3) := by decide +kernel
theorem dX9_summedUp_3 : decode cX9_summedUp 3 = .ok (.iload_n 1, 1) := by decide +kernel
theorem dX9_summedUp_4 : decode cX9_summedUp 4 = .ok (.imul, 1) := by decide +kernel
theorem dX9_summedUp_5 : decode cX9_summedUp 5 = .ok (.iconst 1, 1) := by decide +kernel
theorem dX9_summedUp_6 : decode cX9_summedUp 6 = .ok (.iadd, 1) := by decide +kernel
theorem dX9_summedUp_7 : decode cX9_summedUp 7 = .ok (.bipush 6, 2) := by decide +kernel
theorem dX9_summedUp_9 : decode cX9_summedUp 9 = .ok (.iload_n 2, 1) := by decide +kernel
theorem dX9_summedUp_10 : decode cX9_summedUp 10 = .ok (.imul, 1) := by decide +kernel
theorem dX9_summedUp_11 : decode cX9_summedUp 11 = .ok (.iadd, 1) := by decide +kernel
theorem dX9_summedUp_12 : decode cX9_summedUp 12 = .ok (.istore_n 3, 1) := by decide +kernel
theorem dX9_summedUp_13 : decode cX9_summedUp 13 = .ok (.sipush 753, 3) := by decide +kernel
theorem dX9_summedUp_16 : decode cX9_summedUp 16 = .ok (.iload_n 1, 1) := by decide +kernel
theorem dX9_summedUp_17 : decode cX9_summedUp 17 = .ok (.imul, 1) := by decide +kernel
theorem dX9_summedUp_18 : decode cX9_summedUp 18 = .ok (.sipush 145, 3) := by decide +kernel
theorem dX9_summedUp_21 : decode cX9_summedUp 21 = .ok (.iadd, 1) := by decide +kernel
theorem dX9_summedUp_22 : decode cX9_summedUp 22 = .ok (.istore 4, 2) := by decide +kernel
theorem dX9_summedUp_24 : decode cX9_summedUp 24 = .ok (.iconst 0, 1) := by decide +kernel
theorem dX9_summedUp_25 : decode cX9_summedUp 25 = .ok (.istore 5, 2) := by decide +kernel
theorem dX9_summedUp_27 : decode cX9_summedUp 27 = .ok (.iconst 0, 1) := by decide +kernel
theorem dX9_summedUp_28 : decode cX9_summedUp 28 = .ok (.istore 6, 2) := by decide +kernel
theorem dX9_summedUp_30 : decode cX9_summedUp 30 = .ok (.aload_n 0, 1) := by decide +kernel
theorem dX9_summedUp_31 : decode cX9_summedUp 31 = .ok (.getfield 16, 3) := by decide +kernel
theorem dX9_summedUp_34 : decode cX9_summedUp 34 = .ok (.iload_n 3, 1) := by decide +kernel
theorem dX9_summedUp_35 : decode cX9_summedUp 35 = .ok (.iconst 1, 1) := by decide +kernel
theorem dX9_summedUp_36 : decode cX9_summedUp 36 = .ok (.iadd, 1) := by decide +kernel
theorem dX9_summedUp_37 : decode cX9_summedUp 37 = .ok (.iaload, 1) := by decide +kernel
theorem dX9_summedUp_38 : decode cX9_summedUp 38 = .ok (.istore 7, 2) := by decide +kernel
theorem dX9_summedUp_40 : decode cX9_summedUp 40 = .ok (.iload 7, 2) := by decide +kernel
theorem dX9_summedUp_42 : decode cX9_summedUp 42 = .ok (.aload_n 0, 1) := by decide +kernel
theorem dX9_summedUp_43 : decode cX9_summedUp 43 = .ok (.getfield 16, 3) := by decide +kernel
theorem dX9_summedUp_46 : decode cX9_summedUp 46 = .ok (.iload_n 3, 1) := by decide +kernel
theorem dX9_summedUp_47 : decode cX9_summedUp 47 = .ok (.iconst 2, 1) := by decide +kernel
theorem dX9_summedUp_48 : decode cX9_summedUp 48 = .ok (.iadd, 1) := by decide +kernel
theorem dX9_summedUp_49 : decode cX9_summedUp 49 = .ok (.iaload, 1) := by decide +kernel
theorem dX9_summedUp_50 : decode cX9_summedUp 50 = .ok (.if_icmp .ge 358, 3) := by decide +kernel
theorem dX9_summedUp_53 : decode cX9_summedUp 53 = .ok (.aload_n 0, 1) := by decide +kernel
theorem dX9_summedUp_54 : decode cX9_summedUp 54 = .ok (.getfield 16, 3) := by decide +kernel
theorem dX9_summedUp_57 : decode cX9_summedUp 57 = .ok (.iload 4, 2) := by decide +kernel
theorem dX9_summedUp_59 : decode cX9_summedUp 59 = .ok (.iconst 2, 1) := by decide +kernel
theorem dX9_summedUp_60 : decode cX9_summedUp 60 = .ok (.iload 7, 2) := by decide +kernel
theorem dX9_summedUp_62 : decode cX9_summedUp 62 = .ok (.imul, 1) := by decide +kernel
theorem dX9_summedUp_63 : decode cX9_summedUp 63 = .ok (.iadd, 1) := by decide +kernel
theorem dX9_summedUp_64 : decode cX9_summedUp 64 = .ok (.iaload, 1) := by decide +kernel
theorem dX9_summedUp_65 : decode cX9_summedUp 65 = .ok (.istore 8, 2) := by decide +kernel
theorem dX9_summedUp_67 : decode cX9_summedUp 67 = .ok (.aload_n 0, 1) := by decide +kernel
theorem dX9_summedUp_68 : decode cX9_summedUp 68 = .ok (.getfield 16, 3) := by decide +kernel
theorem dX9_summedUp_71 : decode cX9_summedUp 71 = .ok (.iload 4, 2) := by decide +kernel
theorem dX9_summedUp_73 : decode cX9_summedUp 73 = .ok (.iconst 2, 1) := by decide +kernel
theorem dX9_summedUp_74 : decode cX9_summedUp 74 = .ok (.iload 7, 2) := by decide +kernel
theorem dX9_summedUp_76 : decode cX9_summedUp 76 = .ok (.imul, 1) := by decide +kernel
theorem dX9_summedUp_77 : decode cX9_summedUp 77 = .ok (.iadd, 1) := by decide +kernel
theorem dX9_summedUp_78 : decode cX9_summedUp 78 = .ok (.iconst 1, 1) := by decide +kernel
theorem dX9_summedUp_79 : decode cX9_summedUp 79 = .ok (.iadd, 1) := by decide +kernel
theorem dX9_summedUp_80 : decode cX9_summedUp 80 = .ok (.iaload, 1) := by decide +kernel
theorem dX9_summedUp_81 : decode cX9_summedUp 81 = .ok (.istore 9, 2) := by decide +kernel
theorem dX9_summedUp_83 : decode cX9_summedUp 83 = .ok (.iload 8, 2) := by decide +kernel
theorem dX9_summedUp_85 : decode cX9_summedUp 85 = .ok (.iconst 1, 1) := by decide +kernel
theorem dX9_summedUp_86 : decode cX9_summedUp 86 = .ok (.if_icmp .gt 35, 3) := by decide +kernel
theorem dX9_summedUp_89 : decode cX9_summedUp 89 = .ok (.aload_n 0, 1) := by decide +kernel
theorem dX9_summedUp_90 : decode cX9_summedUp 90 = .ok (.getfield 35, 3) := by decide +kernel
theorem dX9_summedUp_93 : decode cX9_summedUp 93 = .ok (.iload 5, 2) := by decide +kernel
theorem dX9_summedUp_95 : decode cX9_summedUp 95 = .ok (.iload 8, 2) := by decide +kernel
theorem dX9_summedUp_97 : decode cX9_summedUp 97 = .ok (.ifCond .ne 9, 3) := by decide +kernel
theorem dX9_summedUp_100 : decode cX9_summedUp 100 = .ok (.iload 9, 2) := by decide +kernel
theorem dX9_summedUp_102 : decode cX9_summedUp 102 = .ok (.i2l, 1) := by decide +kernel
theorem dX9_summedUp_103 : decode cX9_summedUp 103 = .ok (.goto 11, 3) := by decide +kernel
theorem dX9_summedUp_106 : decode cX9_summedUp 106 = .ok (.aload_n 0, 1) := by decide +kernel
theorem dX9_summedUp_107 : decode cX9_summedUp 107 = .ok (.getfield 32, 3) := by decide +kernel
theorem dX9_summedUp_110 : decode cX9_summedUp 110 = .ok (.iload 9, 2) := by decide +kernel
theorem dX9_summedUp_112 : decode cX9_summedUp 112 = .ok (.iaload, 1) := by decide +kernel
theorem dX9_summedUp_113 : decode cX9_summedUp 113 = .ok (.i2l, 1) := by decide +kernel
theorem dX9_summedUp_114 : decode cX9_summedUp 114 = .ok (.lastore, 1) := by decide +kernel
theorem dX9_summedUp_115 : decode cX9_summedUp 115 = .ok (.iinc 5 1, 3) := by decide +kernel
theorem dX9_summedUp_118 : decode cX9_summedUp 118 = .ok (.goto 284, 3) := by decide +kernel
theorem dX9_summedUp_121 : decode cX9_summedUp 121 = .ok (.iload 8, 2) := by decide +kernel
theorem dX9_summedUp_123 : decode cX9_summedUp 123 = .ok (.iconst 3, 1) := by decide +kernel
theorem dX9_summedUp_124 : decode cX9_summedUp 124 = .ok (.if_icmp .ne 38, 3) := by decide +kernel
theorem dX9_summedUp_127 : decode cX9_summedUp 127 = .ok (.iinc 5 (-1), 3) := by decide +kernel
theorem dX9_summedUp_130 : decode cX9_summedUp 130 = .ok (.iinc 6 (-1), 3) := by decide +kernel
theorem dX9_summedUp_133 : decode cX9_summedUp 133 = .ok (.aload_n 0, 1) := by decide +kernel
theorem dX9_summedUp_134 : decode cX9_summedUp 134 = .ok (.getfield 39, 3) := by decide +kernel
theorem dX9_summedUp_137 : decode cX9_summedUp 137 = .ok (.iload 6, 2) := by decide +kernel
theorem dX9_summedUp_139 : decode cX9_summedUp 139 = .ok (.baload, 1) := by decide +kernel
theorem dX9_summedUp_140 : decode cX9_summedUp 140 = .ok (.ifCond .ne 262, 3) := by decide +kernel
theorem dX9_summedUp_143 : decode cX9_summedUp 143 = .ok (.aload_n 0, 1) := by decide +kernel
theorem dX9_summedUp_144 : decode cX9_summedUp 144 = .ok (.getfield 35, 3) := by decide +kernel
theorem dX9_summedUp_147 : decode cX9_summedUp 147 = .ok (.iload 5, 2) := by decide +kernel
theorem dX9_summedUp_149 : decode cX9_summedUp 149 = .ok (.iconst 1, 1) := by decide +kernel
theorem dX9_summedUp_150 : decode cX9_summedUp 150 = .ok (.isub, 1) := by decide +kernel
theorem dX9_summedUp_151 : decode cX9_summedUp 151 = .ok (.aload_n 0, 1) := by decide +kernel
theorem dX9_summedUp_152 : decode cX9_summedUp 152 = .ok (.getfield 35, 3) := by decide +kernel
theorem dX9_summedUp_155 : decode cX9_summedUp 155 = .ok (.iload 5, 2) := by decide +kernel
theorem dX9_summedUp_157 : decode cX9_summedUp 157 = .ok (.laload, 1) := by decide +kernel
theorem dX9_summedUp_158 : decode cX9_summedUp 158 = .ok (.lastore, 1) := by decide +kernel
theorem dX9_summedUp_159 : decode cX9_summedUp 159 = .ok (.goto 243, 3) := by decide +kernel
theorem dX9_summedUp_162 : decode cX9_summedUp 162 = .ok (.iload 8, 2) := by decide +kernel
theorem dX9_summedUp_164 : decode cX9_summedUp 164 = .ok (.iconst 5, 1) := by decide +kernel
theorem dX9_summedUp_165 : decode cX9_summedUp 165 = .ok (.if_icmp .eq 9, 3) := by decide +kernel
theorem dX9_summedUp_168 : decode cX9_summedUp 168 = .ok (.iload 8, 2) := by decide +kernel
theorem dX9_summedUp_170 : decode cX9_summedUp 170 = .ok (.iconst 2, 1) := by decide +kernel
theorem dX9_summedUp_171 : decode cX9_summedUp 171 = .ok (.if_icmp .ne 47, 3) := by decide +kernel
theorem dX9_summedUp_174 : decode cX9_summedUp 174 = .ok (.aload_n 0, 1) := by decide +kernel
theorem dX9_summedUp_175 : decode cX9_summedUp 175 = .ok (.getfield 35, 3) := by decide +kernel
theorem dX9_summedUp_178 : decode cX9_summedUp 178 = .ok (.iload 5, 2) := by decide +kernel
theorem dX9_summedUp_180 : decode cX9_summedUp 180 = .ok (.iconst 1, 1) := by decide +kernel
theorem dX9_summedUp_181 : decode cX9_summedUp 181 = .ok (.isub, 1) := by decide +kernel
theorem dX9_summedUp_182 : decode cX9_summedUp 182 = .ok (.iload 8, 2) := by decide +kernel
theorem dX9_summedUp_184 : decode cX9_summedUp 184 = .ok (.iconst 5, 1) := by decide +kernel
theorem dX9_summedUp_185 : decode cX9_summedUp 185 = .ok (.if_icmp .ne 16, 3) := by decide +kernel
theorem dX9_summedUp_188 : decode cX9_summedUp 188 = .ok (.aload_n 0, 1) := by decide +kernel
theorem dX9_summedUp_189 : decode cX9_summedUp 189 = .ok (.getfield 35, 3) := by decide +kernel
theorem dX9_summedUp_192 : decode cX9_summedUp 192 = .ok (.iload 5, 2) := by decide +kernel
theorem dX9_summedUp_194 : decode cX9_summedUp 194 = .ok (.iconst 1, 1) := by decide +kernel
theorem dX9_summedUp_195 : decode cX9_summedUp 195 = .ok (.isub, 1) := by decide +kernel
theorem dX9_summedUp_196 : decode cX9_summedUp 196 = .ok (.laload, 1) := by decide +kernel
theorem dX9_summedUp_197 : decode cX9_summedUp 197 = .ok (.lneg, 1) := by decide +kernel
theorem dX9_summedUp_198 : decode cX9_summedUp 198 = .ok (.goto 16, 3) := by decide +kernel
theorem dX9_summedUp_201 : decode cX9_summedUp 201 = .ok (.aload_n 0, 1) := by decide +kernel
theorem dX9_summedUp_202 : decode cX9_summedUp 202 = .ok (.aload_n 0, 1) := by decide +kernel
theorem dX9_summedUp_203 : decode cX9_summedUp 203 = .ok (.getfield 35, 3) := by decide +kernel
theorem dX9_summedUp_206 : decode cX9_summedUp 206 = .ok (.iload 5, 2) := by decide +kernel
theorem dX9_summedUp_208 : decode cX9_summedUp 208 = .ok (.iconst 1, 1) := by decide +kernel
theorem dX9_summedUp_209 : decode cX9_summedUp 209 = .ok (.isub, 1) := by decide +kernel
theorem dX9_summedUp_210 : decode cX9_summedUp 210 = .ok (.laload, 1) := by decide +kernel
theorem dX9_summedUp_211 : decode cX9_summedUp 211 = .ok (.invokevirtual 284, 3) := by decide +kernel
theorem dX9_summedUp_214 : decode cX9_summedUp 214 = .ok (.lastore, 1) := by decide +kernel
theorem dX9_summedUp_215 : decode cX9_summedUp 215 = .ok (.goto 187, 3) := by decide +kernel
theorem dX9_summedUp_218 : decode cX9_summedUp 218 = .ok (.iload 8, 2) := by decide +kernel
theorem dX9_summedUp_220 : decode cX9_summedUp 220 = .ok (.bipush 10, 2) := by decide +kernel
theorem dX9_summedUp_222 : decode cX9_summedUp 222 = .ok (.if_icmp .ge 67, 3) := by decide +kernel
theorem dX9_summedUp_225 : decode cX9_summedUp 225 = .ok (.iinc 5 (-1), 3) := by decide +kernel
theorem dX9_summedUp_228 : decode cX9_summedUp 228 = .ok (.aload_n 0, 1) := by decide +kernel
theorem dX9_summedUp_229 : decode cX9_summedUp 229 = .ok (.getfield 35, 3) := by decide +kernel
theorem dX9_summedUp_232 : decode cX9_summedUp 232 = .ok (.iload 5, 2) := by decide +kernel
theorem dX9_summedUp_234 : decode cX9_summedUp 234 = .ok (.iconst 1, 1) := by decide +kernel
theorem dX9_summedUp_235 : decode cX9_summedUp 235 = .ok (.isub, 1) := by decide +kernel
theorem dX9_summedUp_236 : decode cX9_summedUp 236 = .ok (.iload 8, 2) := by decide +kernel
theorem dX9_summedUp_238 : decode cX9_summedUp 238 = .ok (.iconst 4, 1) := by decide +kernel
theorem dX9_summedUp_239 : decode cX9_summedUp 239 = .ok (.if_icmp .ne 25, 3) := by decide +kernel
theorem dX9_summedUp_242 : decode cX9_summedUp 242 = .ok (.aload_n 0, 1) := by decide +kernel
theorem dX9_summedUp_243 : decode cX9_summedUp 243 = .ok (.getfield 35, 3) := by decide +kernel
theorem dX9_summedUp_246 : decode cX9_summedUp 246 = .ok (.iload 5, 2) := by decide +kernel
theorem dX9_summedUp_248 : decode cX9_summedUp 248 = .ok (.iconst 1, 1) := by decide +kernel
theorem dX9_summedUp_249 : decode cX9_summedUp 249 = .ok (.isub, 1) := by decide +kernel
theorem dX9_summedUp_250 : decode cX9_summedUp 250 = .ok (.laload, 1) := by decide +kernel
theorem dX9_summedUp_251 : decode cX9_summedUp 251 = .ok (.aload_n 0, 1) := by decide +kernel
theorem dX9_summedUp_252 : decode cX9_summedUp 252 = .ok (.getfield 35, 3) := by decide +kernel
theorem dX9_summedUp_255 : decode cX9_summedUp 255 = .ok (.iload 5, 2) := by decide +kernel
theorem dX9_summedUp_257 : decode cX9_summedUp 257 = .ok (.laload, 1) := by decide +kernel
theorem dX9_summedUp_258 : decode cX9_summedUp 258 = .ok (.invokestatic 287, 3) := by decide +kernel
theorem dX9_summedUp_261 : decode cX9_summedUp 261 = .ok (.goto 24, 3) := by decide +kernel
theorem dX9_summedUp_264 : decode cX9_summedUp 264 = .ok (.iload 8, 2) := by decide +kernel
theorem dX9_summedUp_266 : decode cX9_summedUp 266 = .ok (.aload_n 0, 1) := by decide +kernel
theorem dX9_summedUp_267 : decode cX9_summedUp 267 = .ok (.getfield 35, 3) := by decide +kernel
theorem dX9_summedUp_270 : decode cX9_summedUp 270 = .ok (.iload 5, 2) := by decide +kernel
theorem dX9_summedUp_272 : decode cX9_summedUp 272 = .ok (.iconst 1, 1) := by decide +kernel
theorem dX9_summedUp_273 : decode cX9_summedUp 273 = .ok (.isub, 1) := by decide +kernel
theorem dX9_summedUp_274 : decode cX9_summedUp 274 = .ok (.laload, 1) := by decide +kernel
theorem dX9_summedUp_275 : decode cX9_summedUp 275 = .ok (.aload_n 0, 1) := by decide +kernel
theorem dX9_summedUp_276 : decode cX9_summedUp 276 = .ok (.getfield 35, 3) := by decide +kernel
theorem dX9_summedUp_279 : decode cX9_summedUp 279 = .ok (.iload 5, 2) := by decide +kernel
theorem dX9_summedUp_281 : decode cX9_summedUp 281 = .ok (.laload, 1) := by decide +kernel
theorem dX9_summedUp_282 : decode cX9_summedUp 282 = .ok (.invokestatic 291, 3) := by decide +kernel
theorem dX9_summedUp_285 : decode cX9_summedUp 285 = .ok (.lastore, 1) := by decide +kernel
theorem dX9_summedUp_286 : decode cX9_summedUp 286 = .ok (.goto 116, 3) := by decide +kernel
theorem dX9_summedUp_289 : decode cX9_summedUp 289 = .ok (.iload 8, 2) := by decide +kernel
theorem dX9_summedUp_291 : decode cX9_summedUp 291 = .ok (.bipush 20, 2) := by decide +kernel
theorem dX9_summedUp_293 : decode cX9_summedUp 293 = .ok (.if_icmp .ge 40, 3) := by decide +kernel
theorem dX9_summedUp_296 : decode cX9_summedUp 296 = .ok (.iinc 5 (-2), 3) := by decide +kernel
theorem dX9_summedUp_299 : decode cX9_summedUp 299 = .ok (.aload_n 0, 1) := by decide +kernel
theorem dX9_summedUp_300 : decode cX9_summedUp 300 = .ok (.getfield 39, 3) := by decide +kernel
theorem dX9_summedUp_303 : decode cX9_summedUp 303 = .ok (.iload 6, 2) := by decide +kernel
theorem dX9_summedUp_305 : decode cX9_summedUp 305 = .ok (.iload 8, 2) := by decide +kernel
theorem dX9_summedUp_307 : decode cX9_summedUp 307 = .ok (.aload_n 0, 1) := by decide +kernel
theorem dX9_summedUp_308 : decode cX9_summedUp 308 = .ok (.getfield 35, 3) := by decide +kernel
theorem dX9_summedUp_311 : decode cX9_summedUp 311 = .ok (.iload 5, 2) := by decide +kernel
theorem dX9_summedUp_313 : decode cX9_summedUp 313 = .ok (.laload, 1) := by decide +kernel
theorem dX9_summedUp_314 : decode cX9_summedUp 314 = .ok (.aload_n 0, 1) := by decide +kernel
theorem dX9_summedUp_315 : decode cX9_summedUp 315 = .ok (.getfield 35, 3) := by decide +kernel
theorem dX9_summedUp_318 : decode cX9_summedUp 318 = .ok (.iload 5, 2) := by decide +kernel
theorem dX9_summedUp_320 : decode cX9_summedUp 320 = .ok (.iconst 1, 1) := by decide +kernel
theorem dX9_summedUp_321 : decode cX9_summedUp 321 = .ok (.iadd, 1) := by decide +kernel
theorem dX9_summedUp_322 : decode cX9_summedUp 322 = .ok (.laload, 1) := by decide +kernel
theorem dX9_summedUp_323 : decode cX9_summedUp 323 = .ok (.invokestatic 295, 3) := by decide +kernel
theorem dX9_summedUp_326 : decode cX9_summedUp 326 = .ok (.bastore, 1) := by decide +kernel
theorem dX9_summedUp_327 : decode cX9_summedUp 327 = .ok (.iinc 6 1, 3) := by decide +kernel
theorem dX9_summedUp_330 : decode cX9_summedUp 330 = .ok (.goto 72, 3) := by decide +kernel
theorem dX9_summedUp_333 : decode cX9_summedUp 333 = .ok (.iload 8, 2) := by decide +kernel
theorem dX9_summedUp_335 : decode cX9_summedUp 335 = .ok (.bipush 20, 2) := by decide +kernel
theorem dX9_summedUp_337 : decode cX9_summedUp 337 = .ok (.if_icmp .ne 32, 3) := by decide +kernel
theorem dX9_summedUp_340 : decode cX9_summedUp 340 = .ok (.aload_n 0, 1) := by decide +kernel
theorem dX9_summedUp_341 : decode cX9_summedUp 341 = .ok (.getfield 39, 3) := by decide +kernel
theorem dX9_summedUp_344 : decode cX9_summedUp 344 = .ok (.iload 6, 2) := by decide +kernel
theorem dX9_summedUp_346 : decode cX9_summedUp 346 = .ok (.iconst 1, 1) := by decide +kernel
theorem dX9_summedUp_347 : decode cX9_summedUp 347 = .ok (.isub, 1) := by decide +kernel
theorem dX9_summedUp_348 : decode cX9_summedUp 348 = .ok (.aload_n 0, 1) := by decide +kernel
theorem dX9_summedUp_349 : decode cX9_summedUp 349 = .ok (.getfield 39, 3) := by decide +kernel
theorem dX9_summedUp_352 : decode cX9_summedUp 352 = .ok (.iload 6, 2) := by decide +kernel
theorem dX9_summedUp_354 : decode cX9_summedUp 354 = .ok (.iconst 1, 1) := by decide +kernel
theorem dX9_summedUp_355 : decode cX9_summedUp 355 = .ok (.isub, 1) := by decide +kernel
theorem dX9_summedUp_356 : decode cX9_summedUp 356 = .ok (.baload, 1) := by decide +kernel
theorem dX9_summedUp_357 : decode cX9_summedUp 357 = .ok (.ifCond .ne 7, 3) := by decide +kernel
theorem dX9_summedUp_360 : decode cX9_summedUp 360 = .ok (.iconst 1, 1) := by decide +kernel
theorem dX9_summedUp_361 : decode cX9_summedUp 361 = .ok (.goto 4, 3) := by decide +kernel
theorem dX9_summedUp_364 : decode cX9_summedUp 364 = .ok (.iconst 0, 1) := by decide +kernel
theorem dX9_summedUp_365 : decode cX9_summedUp 365 = .ok (.bastore, 1) := by decide +kernel
theorem dX9_summedUp_366 : decode cX9_summedUp 366 = .ok (.goto 36, 3) := by decide +kernel
theorem dX9_summedUp_369 : decode cX9_summedUp 369 = .ok (.iinc 6 (-1), 3) := by decide +kernel
theorem dX9_summedUp_372 : decode cX9_summedUp 372 = .ok (.aload_n 0, 1) := by decide +kernel
theorem dX9_summedUp_373 : decode cX9_summedUp 373 = .ok (.getfield 39, 3) := by decide +kernel
theorem dX9_summedUp_376 : decode cX9_summedUp 376 = .ok (.iload 6, 2) := by decide +kernel
theorem dX9_summedUp_378 : decode cX9_summedUp 378 = .ok (.iconst 1, 1) := by decide +kernel
theorem dX9_summedUp_379 : decode cX9_summedUp 379 = .ok (.isub, 1) := by decide +kernel
theorem dX9_summedUp_380 : decode cX9_summedUp 380 = .ok (.iload 8, 2) := by decide +kernel
theorem dX9_summedUp_382 : decode cX9_summedUp 382 = .ok (.aload_n 0, 1) := by decide +kernel
theorem dX9_summedUp_383 : decode cX9_summedUp 383 = .ok (.getfield 39, 3) := by decide +kernel
theorem dX9_summedUp_386 : decode cX9_summedUp 386 = .ok (.iload 6, 2) := by decide +kernel
theorem dX9_summedUp_388 : decode cX9_summedUp 388 = .ok (.iconst 1, 1) := by decide +kernel
theorem dX9_summedUp_389 : decode cX9_summedUp 389 = .ok (.isub, 1) := by decide +kernel
theorem dX9_summedUp_390 : decode cX9_summedUp 390 = .ok (.baload, 1) := by decide +kernel
theorem dX9_summedUp_391 : decode cX9_summedUp 391 = .ok (.aload_n 0, 1) := by decide +kernel
theorem dX9_summedUp_392 : decode cX9_summedUp 392 = .ok (.getfield 39, 3) := by decide +kernel
theorem dX9_summedUp_395 : decode cX9_summedUp 395 = .ok (.iload 6, 2) := by decide +kernel
theorem dX9_summedUp_397 : decode cX9_summedUp 397 = .ok (.baload, 1) := by decide +kernel
theorem dX9_summedUp_398 : decode cX9_summedUp 398 = .ok (.invokestatic 299, 3) := by decide +kernel
theorem dX9_summedUp_401 : decode cX9_summedUp 401 = .ok (.bastore, 1) := by decide +kernel
theorem dX9_summedUp_402 : decode cX9_summedUp 402 = .ok (.iinc 7 1, 3) := by decide +kernel
theorem dX9_summedUp_405 : decode cX9_summedUp 405 = .ok (.goto (-365), 3) := by decide +kernel
theorem dX9_summedUp_408 : decode cX9_summedUp 408 = .ok (.aload_n 0, 1) := by decide +kernel
theorem dX9_summedUp_409 : decode cX9_summedUp 409 = .ok (.getfield 35, 3) := by decide +kernel
theorem dX9_summedUp_412 : decode cX9_summedUp 412 = .ok (.iconst 0, 1) := by decide +kernel
theorem dX9_summedUp_413 : decode cX9_summedUp 413 = .ok (.laload, 1) := by decide +kernel
theorem dX9_summedUp_414 : decode cX9_summedUp 414 = .ok (.lreturn, 1) := by decide +kernel
theorem dX9_says_0 : decode cX9_says 0 = .ok (.iconst 0, 1) := by decide +kernel
theorem dX9_says_1 : decode cX9_says 1 = .ok (.istore 5, 2) := by decide +kernel
theorem dX9_says_3 : decode cX9_says 3 = .ok (.iload_n 1, 1) := by decide +kernel
theorem dX9_says_4 : decode cX9_says 4 = .ok (.ifCond .lt 60, 3) := by decide +kernel
theorem dX9_says_7 : decode cX9_says 7 = .ok (.iload 5, 2) := by decide +kernel
theorem dX9_says_9 : decode cX9_says 9 = .ok (.aload_n 0, 1) := by decide +kernel
theorem dX9_says_10 : decode cX9_says 10 = .ok (.getfield 16, 3) := by decide +kernel
theorem dX9_says_13 : decode cX9_says 13 = .ok (.sipush 753, 3) := by decide +kernel
theorem dX9_says_16 : decode cX9_says 16 = .ok (.iload_n 1, 1) := by decide +kernel
theorem dX9_says_17 : decode cX9_says 17 = .ok (.imul, 1) := by decide +kernel
theorem dX9_says_18 : decode cX9_says 18 = .ok (.iaload, 1) := by decide +kernel
theorem dX9_says_19 : decode cX9_says 19 = .ok (.if_icmp .ge 45, 3) := by decide +kernel
theorem dX9_says_22 : decode cX9_says 22 = .ok (.aload_n 0, 1) := by decide +kernel
theorem dX9_says_23 : decode cX9_says 23 = .ok (.getfield 16, 3) := by decide +kernel
theorem dX9_says_26 : decode cX9_says 26 = .ok (.sipush 753, 3) := by decide +kernel
theorem dX9_says_29 : decode cX9_says 29 = .ok (.iload_n 1, 1) := by decide +kernel
theorem dX9_says_30 : decode cX9_says 30 = .ok (.imul, 1) := by decide +kernel
theorem dX9_says_31 : decode cX9_says 31 = .ok (.iconst 1, 1) := by decide +kernel
theorem dX9_says_32 : decode cX9_says 32 = .ok (.iadd, 1) := by decide +kernel
theorem dX9_says_33 : decode cX9_says 33 = .ok (.bipush 6, 2) := by decide +kernel
theorem dX9_says_35 : decode cX9_says 35 = .ok (.iload 5, 2) := by decide +kernel
theorem dX9_says_37 : decode cX9_says 37 = .ok (.imul, 1) := by decide +kernel
theorem dX9_says_38 : decode cX9_says 38 = .ok (.iadd, 1) := by decide +kernel
theorem dX9_says_39 : decode cX9_says 39 = .ok (.iaload, 1) := by decide +kernel
theorem dX9_says_40 : decode cX9_says 40 = .ok (.iload_n 2, 1) := by decide +kernel
theorem dX9_says_41 : decode cX9_says 41 = .ok (.if_icmp .ne 17, 3) := by decide +kernel
theorem dX9_says_44 : decode cX9_says 44 = .ok (.aload_n 0, 1) := by decide +kernel
theorem dX9_says_45 : decode cX9_says 45 = .ok (.iload_n 1, 1) := by decide +kernel
theorem dX9_says_46 : decode cX9_says 46 = .ok (.iload 5, 2) := by decide +kernel
theorem dX9_says_48 : decode cX9_says 48 = .ok (.invokevirtual 303, 3) := by decide +kernel
theorem dX9_says_51 : decode cX9_says 51 = .ok (.iconst 0, 1) := by decide +kernel
theorem dX9_says_52 : decode cX9_says 52 = .ok (.iload 4, 2) := by decide +kernel
theorem dX9_says_54 : decode cX9_says 54 = .ok (.invokestatic 306, 3) := by decide +kernel
theorem dX9_says_57 : decode cX9_says 57 = .ok (.ireturn, 1) := by decide +kernel
theorem dX9_says_58 : decode cX9_says 58 = .ok (.iinc 5 1, 3) := by decide +kernel
theorem dX9_says_61 : decode cX9_says 61 = .ok (.goto (-58), 3) := by decide +kernel
theorem dX9_says_64 : decode cX9_says 64 = .ok (.iload_n 3, 1) := by decide +kernel
theorem dX9_says_65 : decode cX9_says 65 = .ok (.i2l, 1) := by decide +kernel
theorem dX9_says_66 : decode cX9_says 66 = .ok (.iconst 0, 1) := by decide +kernel
theorem dX9_says_67 : decode cX9_says 67 = .ok (.iload 4, 2) := by decide +kernel
theorem dX9_says_69 : decode cX9_says 69 = .ok (.invokestatic 306, 3) := by decide +kernel
theorem dX9_says_72 : decode cX9_says 72 = .ok (.ireturn, 1) := by decide +kernel
theorem dX9_comesOf_0 : decode cX9_comesOf 0 = .ok (.aload_n 0, 1) := by decide +kernel
theorem dX9_comesOf_1 : decode cX9_comesOf 1 = .ok (.getfield 32, 3) := by decide +kernel
theorem dX9_comesOf_4 : decode cX9_comesOf 4 = .ok (.iconst 0, 1) := by decide +kernel
theorem dX9_comesOf_5 : decode cX9_comesOf 5 = .ok (.aload_n 0, 1) := by decide +kernel
theorem dX9_comesOf_6 : decode cX9_comesOf 6 = .ok (.getfield 7, 3) := by decide +kernel
theorem dX9_comesOf_9 : decode cX9_comesOf 9 = .ok (.bipush 8, 2) := by decide +kernel
theorem dX9_comesOf_11 : decode cX9_comesOf 11 = .ok (.iaload, 1) := by decide +kernel
theorem dX9_comesOf_12 : decode cX9_comesOf 12 = .ok (.iastore, 1) := by decide +kernel
theorem dX9_comesOf_13 : decode cX9_comesOf 13 = .ok (.aload_n 0, 1) := by decide +kernel
theorem dX9_comesOf_14 : decode cX9_comesOf 14 = .ok (.getfield 32, 3) := by decide +kernel
theorem dX9_comesOf_17 : decode cX9_comesOf 17 = .ok (.iconst 1, 1) := by decide +kernel
theorem dX9_comesOf_18 : decode cX9_comesOf 18 = .ok (.aload_n 0, 1) := by decide +kernel
theorem dX9_comesOf_19 : decode cX9_comesOf 19 = .ok (.getfield 7, 3) := by decide +kernel
theorem dX9_comesOf_22 : decode cX9_comesOf 22 = .ok (.bipush 10, 2) := by decide +kernel
theorem dX9_comesOf_24 : decode cX9_comesOf 24 = .ok (.iaload, 1) := by decide +kernel
theorem dX9_comesOf_25 : decode cX9_comesOf 25 = .ok (.invokestatic 310, 3) := by decide +kernel
theorem dX9_comesOf_28 : decode cX9_comesOf 28 = .ok (.iastore, 1) := by decide +kernel
theorem dX9_comesOf_29 : decode cX9_comesOf 29 = .ok (.aload_n 0, 1) := by decide +kernel
theorem dX9_comesOf_30 : decode cX9_comesOf 30 = .ok (.getfield 32, 3) := by decide +kernel
theorem dX9_comesOf_33 : decode cX9_comesOf 33 = .ok (.iconst 2, 1) := by decide +kernel
theorem dX9_comesOf_34 : decode cX9_comesOf 34 = .ok (.iload_n 1, 1) := by decide +kernel
theorem dX9_comesOf_35 : decode cX9_comesOf 35 = .ok (.iastore, 1) := by decide +kernel
theorem dX9_comesOf_36 : decode cX9_comesOf 36 = .ok (.aload_n 0, 1) := by decide +kernel
theorem dX9_comesOf_37 : decode cX9_comesOf 37 = .ok (.getfield 32, 3) := by decide +kernel
theorem dX9_comesOf_40 : decode cX9_comesOf 40 = .ok (.iconst 3, 1) := by decide +kernel
theorem dX9_comesOf_41 : decode cX9_comesOf 41 = .ok (.aload_n 0, 1) := by decide +kernel
theorem dX9_comesOf_42 : decode cX9_comesOf 42 = .ok (.getfield 7, 3) := by decide +kernel
theorem dX9_comesOf_45 : decode cX9_comesOf 45 = .ok (.bipush 110, 2) := by decide +kernel
theorem dX9_comesOf_47 : decode cX9_comesOf 47 = .ok (.iconst 2, 1) := by decide +kernel
theorem dX9_comesOf_48 : decode cX9_comesOf 48 = .ok (.iload_n 1, 1) := by decide +kernel
theorem dX9_comesOf_49 : decode cX9_comesOf 49 = .ok (.imul, 1) := by decide +kernel
theorem dX9_comesOf_50 : decode cX9_comesOf 50 = .ok (.iadd, 1) := by decide +kernel
theorem dX9_comesOf_51 : decode cX9_comesOf 51 = .ok (.iaload, 1) := by decide +kernel
theorem dX9_comesOf_52 : decode cX9_comesOf 52 = .ok (.iastore, 1) := by decide +kernel
theorem dX9_comesOf_53 : decode cX9_comesOf 53 = .ok (.aload_n 0, 1) := by decide +kernel
theorem dX9_comesOf_54 : decode cX9_comesOf 54 = .ok (.getfield 32, 3) := by decide +kernel
theorem dX9_comesOf_57 : decode cX9_comesOf 57 = .ok (.iconst 4, 1) := by decide +kernel
theorem dX9_comesOf_58 : decode cX9_comesOf 58 = .ok (.aload_n 0, 1) := by decide +kernel
theorem dX9_comesOf_59 : decode cX9_comesOf 59 = .ok (.getfield 7, 3) := by decide +kernel
theorem dX9_comesOf_62 : decode cX9_comesOf 62 = .ok (.bipush 110, 2) := by decide +kernel
theorem dX9_comesOf_64 : decode cX9_comesOf 64 = .ok (.iconst 2, 1) := by decide +kernel
theorem dX9_comesOf_65 : decode cX9_comesOf 65 = .ok (.iload_n 1, 1) := by decide +kernel
theorem dX9_comesOf_66 : decode cX9_comesOf 66 = .ok (.imul, 1) := by decide +kernel
theorem dX9_comesOf_67 : decode cX9_comesOf 67 = .ok (.iadd, 1) := by decide +kernel
theorem dX9_comesOf_68 : decode cX9_comesOf 68 = .ok (.iconst 1, 1) := by decide +kernel
theorem dX9_comesOf_69 : decode cX9_comesOf 69 = .ok (.iadd, 1) := by decide +kernel
theorem dX9_comesOf_70 : decode cX9_comesOf 70 = .ok (.iaload, 1) := by decide +kernel
theorem dX9_comesOf_71 : decode cX9_comesOf 71 = .ok (.iastore, 1) := by decide +kernel
theorem dX9_comesOf_72 : decode cX9_comesOf 72 = .ok (.aload_n 0, 1) := by decide +kernel
theorem dX9_comesOf_73 : decode cX9_comesOf 73 = .ok (.aload_n 0, 1) := by decide +kernel
theorem dX9_comesOf_74 : decode cX9_comesOf 74 = .ok (.getfield 7, 3) := by decide +kernel
theorem dX9_comesOf_77 : decode cX9_comesOf 77 = .ok (.iconst 3, 1) := by decide +kernel
theorem dX9_comesOf_78 : decode cX9_comesOf 78 = .ok (.iaload, 1) := by decide +kernel
theorem dX9_comesOf_79 : decode cX9_comesOf 79 = .ok (.iconst 0, 1) := by decide +kernel
theorem dX9_comesOf_80 : decode cX9_comesOf 80 = .ok (.aload_n 0, 1) := by decide +kernel
theorem dX9_comesOf_81 : decode cX9_comesOf 81 = .ok (.getfield 32, 3) := by decide +kernel
theorem dX9_comesOf_84 : decode cX9_comesOf 84 = .ok (.iconst 3, 1) := by decide +kernel
theorem dX9_comesOf_85 : decode cX9_comesOf 85 = .ok (.iaload, 1) := by decide +kernel
theorem dX9_comesOf_86 : decode cX9_comesOf 86 = .ok (.bipush 10, 2) := by decide +kernel
theorem dX9_comesOf_88 : decode cX9_comesOf 88 = .ok (.invokevirtual 313, 3) := by decide +kernel
theorem dX9_comesOf_91 : decode cX9_comesOf 91 = .ok (.ireturn, 1) := by decide +kernel
theorem dX9_nameProphecy_0 : decode cX9_nameProphecy 0 = .ok (.aload_n 0, 1) := by decide +kernel
theorem dX9_nameProphecy_1 : decode cX9_nameProphecy 1 = .ok (.iload_n 1, 1) := by decide +kernel
theorem dX9_nameProphecy_2 : decode cX9_nameProphecy 2 = .ok (.iconst 0, 1) := by decide +kernel
theorem dX9_nameProphecy_3 : decode cX9_nameProphecy 3 = .ok (.invokevirtual 67, 3) := by decide +kernel
theorem dX9_nameProphecy_6 : decode cX9_nameProphecy 6 = .ok (.istore_n 2, 1) := by decide +kernel
theorem dX9_nameProphecy_7 : decode cX9_nameProphecy 7 = .ok (.aload_n 0, 1) := by decide +kernel
theorem dX9_nameProphecy_8 : decode cX9_nameProphecy 8 = .ok (.getfield 32, 3) := by decide +kernel
theorem dX9_nameProphecy_11 : decode cX9_nameProphecy 11 = .ok (.iconst 0, 1) := by decide +kernel
theorem dX9_nameProphecy_12 : decode cX9_nameProphecy 12 = .ok (.aload_n 0, 1) := by decide +kernel
theorem dX9_nameProphecy_13 : decode cX9_nameProphecy 13 = .ok (.getfield 7, 3) := by decide +kernel
theorem dX9_nameProphecy_16 : decode cX9_nameProphecy 16 = .ok (.bipush 8, 2) := by decide +kernel
theorem dX9_nameProphecy_18 : decode cX9_nameProphecy 18 = .ok (.iaload, 1) := by decide +kernel
theorem dX9_nameProphecy_19 : decode cX9_nameProphecy 19 = .ok (.iastore, 1) := by decide +kernel
theorem dX9_nameProphecy_20 : decode cX9_nameProphecy 20 = .ok (.aload_n 0, 1) := by decide +kernel
theorem dX9_nameProphecy_21 : decode cX9_nameProphecy 21 = .ok (.getfield 32, 3) := by decide +kernel
theorem dX9_nameProphecy_24 : decode cX9_nameProphecy 24 = .ok (.iconst 1, 1) := by decide +kernel
theorem dX9_nameProphecy_25 : decode cX9_nameProphecy 25 = .ok (.aload_n 0, 1) := by decide +kernel
theorem dX9_nameProphecy_26 : decode cX9_nameProphecy 26 = .ok (.getfield 7, 3) := by decide +kernel
theorem dX9_nameProphecy_29 : decode cX9_nameProphecy 29 = .ok (.bipush 10, 2) := by decide +kernel
theorem dX9_nameProphecy_31 : decode cX9_nameProphecy 31 = .ok (.iaload, 1) := by decide +kernel
theorem dX9_nameProphecy_32 : decode cX9_nameProphecy 32 = .ok (.invokestatic 310, 3) := by decide +kernel
theorem dX9_nameProphecy_35 : decode cX9_nameProphecy 35 = .ok (.iastore, 1) := by decide +kernel
theorem dX9_nameProphecy_36 : decode cX9_nameProphecy 36 = .ok (.aload_n 0, 1) := by decide +kernel
theorem dX9_nameProphecy_37 : decode cX9_nameProphecy 37 = .ok (.getfield 32, 3) := by decide +kernel
theorem dX9_nameProphecy_40 : decode cX9_nameProphecy 40 = .ok (.iconst 5, 1) := by decide +kernel
theorem dX9_nameProphecy_41 : decode cX9_nameProphecy 41 = .ok (.iload_n 2, 1) := by decide +kernel
theorem dX9_nameProphecy_42 : decode cX9_nameProphecy 42 = .ok (.iastore, 1) := by decide +kernel
theorem dX9_nameProphecy_43 : decode cX9_nameProphecy 43 = .ok (.aload_n 0, 1) := by decide +kernel
theorem dX9_nameProphecy_44 : decode cX9_nameProphecy 44 = .ok (.getfield 32, 3) := by decide +kernel
theorem dX9_nameProphecy_47 : decode cX9_nameProphecy 47 = .ok (.bipush 6, 2) := by decide +kernel
theorem dX9_nameProphecy_49 : decode cX9_nameProphecy 49 = .ok (.aload_n 0, 1) := by decide +kernel
theorem dX9_nameProphecy_50 : decode cX9_nameProphecy 50 = .ok (.iload_n 2, 1) := by decide +kernel
theorem dX9_nameProphecy_51 : decode cX9_nameProphecy 51 = .ok (.iconst 1, 1) := by decide +kernel
theorem dX9_nameProphecy_52 : decode cX9_nameProphecy 52 = .ok (.invokevirtual 87, 3) := by decide +kernel
theorem dX9_nameProphecy_55 : decode cX9_nameProphecy 55 = .ok (.iastore, 1) := by decide +kernel
theorem dX9_nameProphecy_56 : decode cX9_nameProphecy 56 = .ok (.aload_n 0, 1) := by decide +kernel
theorem dX9_nameProphecy_57 : decode cX9_nameProphecy 57 = .ok (.getfield 32, 3) := by decide +kernel
theorem dX9_nameProphecy_60 : decode cX9_nameProphecy 60 = .ok (.bipush 7, 2) := by decide +kernel
theorem dX9_nameProphecy_62 : decode cX9_nameProphecy 62 = .ok (.aload_n 0, 1) := by decide +kernel
theorem dX9_nameProphecy_63 : decode cX9_nameProphecy 63 = .ok (.iload_n 2, 1) := by decide +kernel
theorem dX9_nameProphecy_64 : decode cX9_nameProphecy 64 = .ok (.iconst 0, 1) := by decide +kernel
theorem dX9_nameProphecy_65 : decode cX9_nameProphecy 65 = .ok (.invokevirtual 87, 3) := by decide +kernel
theorem dX9_nameProphecy_68 : decode cX9_nameProphecy 68 = .ok (.iastore, 1) := by decide +kernel
theorem dX9_nameProphecy_69 : decode cX9_nameProphecy 69 = .ok (.aload_n 0, 1) := by decide +kernel
theorem dX9_nameProphecy_70 : decode cX9_nameProphecy 70 = .ok (.getfield 32, 3) := by decide +kernel
theorem dX9_nameProphecy_73 : decode cX9_nameProphecy 73 = .ok (.bipush 8, 2) := by decide +kernel
theorem dX9_nameProphecy_75 : decode cX9_nameProphecy 75 = .ok (.aload_n 0, 1) := by decide +kernel
theorem dX9_nameProphecy_76 : decode cX9_nameProphecy 76 = .ok (.iload_n 1, 1) := by decide +kernel
theorem dX9_nameProphecy_77 : decode cX9_nameProphecy 77 = .ok (.iconst 4, 1) := by decide +kernel
theorem dX9_nameProphecy_78 : decode cX9_nameProphecy 78 = .ok (.invokevirtual 67, 3) := by decide +kernel
theorem dX9_nameProphecy_81 : decode cX9_nameProphecy 81 = .ok (.iastore, 1) := by decide +kernel
theorem dX9_nameProphecy_82 : decode cX9_nameProphecy 82 = .ok (.aload_n 0, 1) := by decide +kernel
theorem dX9_nameProphecy_83 : decode cX9_nameProphecy 83 = .ok (.getfield 32, 3) := by decide +kernel
theorem dX9_nameProphecy_86 : decode cX9_nameProphecy 86 = .ok (.bipush 9, 2) := by decide +kernel
theorem dX9_nameProphecy_88 : decode cX9_nameProphecy 88 = .ok (.aload_n 0, 1) := by decide +kernel
theorem dX9_nameProphecy_89 : decode cX9_nameProphecy 89 = .ok (.iload_n 1, 1) := by decide +kernel
theorem dX9_nameProphecy_90 : decode cX9_nameProphecy 90 = .ok (.iconst 2, 1) := by decide +kernel
theorem dX9_nameProphecy_91 : decode cX9_nameProphecy 91 = .ok (.invokevirtual 67, 3) := by decide +kernel
theorem dX9_nameProphecy_94 : decode cX9_nameProphecy 94 = .ok (.invokestatic 310, 3) := by decide +kernel
theorem dX9_nameProphecy_97 : decode cX9_nameProphecy 97 = .ok (.iastore, 1) := by decide +kernel
theorem dX9_nameProphecy_98 : decode cX9_nameProphecy 98 = .ok (.aload_n 0, 1) := by decide +kernel
theorem dX9_nameProphecy_99 : decode cX9_nameProphecy 99 = .ok (.getfield 32, 3) := by decide +kernel
theorem dX9_nameProphecy_102 : decode cX9_nameProphecy 102 = .ok (.bipush 10, 2) := by decide +kernel
theorem dX9_nameProphecy_104 : decode cX9_nameProphecy 104 = .ok (.aload_n 0, 1) := by decide +kernel
theorem dX9_nameProphecy_105 : decode cX9_nameProphecy 105 = .ok (.iload_n 1, 1) := by decide +kernel
theorem dX9_nameProphecy_106 : decode cX9_nameProphecy 106 = .ok (.iconst 3, 1) := by decide +kernel
theorem dX9_nameProphecy_107 : decode cX9_nameProphecy 107 = .ok (.invokevirtual 67, 3) := by decide +kernel
theorem dX9_nameProphecy_110 : decode cX9_nameProphecy 110 = .ok (.aload_n 0, 1) := by decide +kernel
theorem dX9_nameProphecy_111 : decode cX9_nameProphecy 111 = .ok (.getfield 7, 3) := by decide +kernel
theorem dX9_nameProphecy_114 : decode cX9_nameProphecy 114 = .ok (.bipush 8, 2) := by decide +kernel
theorem dX9_nameProphecy_116 : decode cX9_nameProphecy 116 = .ok (.iaload, 1) := by decide +kernel
theorem dX9_nameProphecy_117 : decode cX9_nameProphecy 117 = .ok (.isub, 1) := by decide +kernel
theorem dX9_nameProphecy_118 : decode cX9_nameProphecy 118 = .ok (.iastore, 1) := by decide +kernel
theorem dX9_nameProphecy_119 : decode cX9_nameProphecy 119 = .ok (.return_, 1) := by decide +kernel
theorem dX9_duesOf_0 : decode cX9_duesOf 0 = .ok (.aload_n 0, 1) := by decide +kernel
theorem dX9_duesOf_1 : decode cX9_duesOf 1 = .ok (.iload_n 2, 1) := by decide +kernel
theorem dX9_duesOf_2 : decode cX9_duesOf 2 = .ok (.invokevirtual 317, 3) := by decide +kernel
theorem dX9_duesOf_5 : decode cX9_duesOf 5 = .ok (.aload_n 0, 1) := by decide +kernel
theorem dX9_duesOf_6 : decode cX9_duesOf 6 = .ok (.iload_n 1, 1) := by decide +kernel
theorem dX9_duesOf_7 : decode cX9_duesOf 7 = .ok (.iconst 1, 1) := by decide +kernel
theorem dX9_duesOf_8 : decode cX9_duesOf 8 = .ok (.bipush 10, 2) := by decide +kernel
theorem dX9_duesOf_10 : decode cX9_duesOf 10 = .ok (.aload_n 0, 1) := by decide +kernel
theorem dX9_duesOf_11 : decode cX9_duesOf 11 = .ok (.getfield 32, 3) := by decide +kernel
theorem dX9_duesOf_14 : decode cX9_duesOf 14 = .ok (.bipush 8, 2) := by decide +kernel
theorem dX9_duesOf_16 : decode cX9_duesOf 16 = .ok (.iaload, 1) := by decide +kernel
theorem dX9_duesOf_17 : decode cX9_duesOf 17 = .ok (.imul, 1) := by decide +kernel
theorem dX9_duesOf_18 : decode cX9_duesOf 18 = .ok (.sipush 9999, 3) := by decide +kernel
theorem dX9_duesOf_21 : decode cX9_duesOf 21 = .ok (.invokevirtual 313, 3) := by decide +kernel
theorem dX9_duesOf_24 : decode cX9_duesOf 24 = .ok (.ireturn, 1) := by decide +kernel
theorem dX9_renownOf_0 : decode cX9_renownOf 0 = .ok (.aload_n 0, 1) := by decide +kernel
theorem dX9_renownOf_1 : decode cX9_renownOf 1 = .ok (.iload_n 1, 1) := by decide +kernel
theorem dX9_renownOf_2 : decode cX9_renownOf 2 = .ok (.invokevirtual 317, 3) := by decide +kernel
theorem dX9_renownOf_5 : decode cX9_renownOf 5 = .ok (.aload_n 0, 1) := by decide +kernel
theorem dX9_renownOf_6 : decode cX9_renownOf 6 = .ok (.aload_n 0, 1) := by decide +kernel
theorem dX9_renownOf_7 : decode cX9_renownOf 7 = .ok (.getfield 7, 3) := by decide +kernel
theorem dX9_renownOf_10 : decode cX9_renownOf 10 = .ok (.iconst 3, 1) := by decide +kernel
theorem dX9_renownOf_11 : decode cX9_renownOf 11 = .ok (.iaload, 1) := by decide +kernel
theorem dX9_renownOf_12 : decode cX9_renownOf 12 = .ok (.iconst 2, 1) := by decide +kernel
theorem dX9_renownOf_13 : decode cX9_renownOf 13 = .ok (.aload_n 0, 1) := by decide +kernel
theorem dX9_renownOf_14 : decode cX9_renownOf 14 = .ok (.getfield 32, 3) := by decide +kernel
theorem dX9_renownOf_17 : decode cX9_renownOf 17 = .ok (.bipush 9, 2) := by decide +kernel
theorem dX9_renownOf_19 : decode cX9_renownOf 19 = .ok (.iaload, 1) := by decide +kernel
theorem dX9_renownOf_20 : decode cX9_renownOf 20 = .ok (.bipush 99, 2) := by decide +kernel
theorem dX9_renownOf_22 : decode cX9_renownOf 22 = .ok (.invokevirtual 313, 3) := by decide +kernel
theorem dX9_renownOf_25 : decode cX9_renownOf 25 = .ok (.ireturn, 1) := by decide +kernel
theorem dX9_write_0 : decode cX9_write 0 = .ok (.aload_n 0, 1) := by decide +kernel
theorem dX9_write_1 : decode cX9_write 1 = .ok (.getfield 43, 3) := by decide +kernel
theorem dX9_write_4 : decode cX9_write 4 = .ok (.ifCond .ne 4, 3) := by decide +kernel
theorem dX9_write_7 : decode cX9_write 7 = .ok (.return_, 1) := by decide +kernel
theorem dX9_write_8 : decode cX9_write 8 = .ok (.aload_n 0, 1) := by decide +kernel
theorem dX9_write_9 : decode cX9_write 9 = .ok (.getfield 7, 3) := by decide +kernel
theorem dX9_write_12 : decode cX9_write 12 = .ok (.bipush 12, 2) := by decide +kernel
theorem dX9_write_14 : decode cX9_write 14 = .ok (.iaload, 1) := by decide +kernel
theorem dX9_write_15 : decode cX9_write 15 = .ok (.bipush 30, 2) := by decide +kernel
theorem dX9_write_17 : decode cX9_write 17 = .ok (.if_icmp .ne 54, 3) := by decide +kernel
theorem dX9_write_20 : decode cX9_write 20 = .ok (.iconst 2, 1) := by decide +kernel
theorem dX9_write_21 : decode cX9_write 21 = .ok (.istore 4, 2) := by decide +kernel
theorem dX9_write_23 : decode cX9_write 23 = .ok (.iload 4, 2) := by decide +kernel
theorem dX9_write_25 : decode cX9_write 25 = .ok (.bipush 60, 2) := by decide +kernel
theorem dX9_write_27 : decode cX9_write 27 = .ok (.if_icmp .ge 33, 3) := by decide +kernel
theorem dX9_write_30 : decode cX9_write 30 = .ok (.aload_n 0, 1) := by decide +kernel
theorem dX9_write_31 : decode cX9_write 31 = .ok (.getfield 7, 3) := by decide +kernel
theorem dX9_write_34 : decode cX9_write 34 = .ok (.sipush 4810, 3) := by decide +kernel
theorem dX9_write_37 : decode cX9_write 37 = .ok (.iload 4, 2) := by decide +kernel
theorem dX9_write_39 : decode cX9_write 39 = .ok (.iadd, 1) := by decide +kernel
theorem dX9_write_40 : decode cX9_write 40 = .ok (.iconst 2, 1) := by decide +kernel
theorem dX9_write_41 : decode cX9_write 41 = .ok (.isub, 1) := by decide +kernel
theorem dX9_write_42 : decode cX9_write 42 = .ok (.aload_n 0, 1) := by decide +kernel
theorem dX9_write_43 : decode cX9_write 43 = .ok (.getfield 7, 3) := by decide +kernel
theorem dX9_write_46 : decode cX9_write 46 = .ok (.sipush 4810, 3) := by decide +kernel
theorem dX9_write_49 : decode cX9_write 49 = .ok (.iload 4, 2) := by decide +kernel
theorem dX9_write_51 : decode cX9_write 51 = .ok (.iadd, 1) := by decide +kernel
theorem dX9_write_52 : decode cX9_write 52 = .ok (.iaload, 1) := by decide +kernel
theorem dX9_write_53 : decode cX9_write 53 = .ok (.iastore, 1) := by decide +kernel
theorem dX9_write_54 : decode cX9_write 54 = .ok (.iinc 4 1, 3) := by decide +kernel
theorem dX9_write_57 : decode cX9_write 57 = .ok (.goto (-34), 3) := by decide +kernel
theorem dX9_write_60 : decode cX9_write 60 = .ok (.aload_n 0, 1) := by decide +kernel
theorem dX9_write_61 : decode cX9_write 61 = .ok (.getfield 7, 3) := by decide +kernel
theorem dX9_write_64 : decode cX9_write 64 = .ok (.bipush 12, 2) := by decide +kernel
theorem dX9_write_66 : decode cX9_write 66 = .ok (.dup2, 1) := by decide +kernel
theorem dX9_write_67 : decode cX9_write 67 = .ok (.iaload, 1) := by decide +kernel
theorem dX9_write_68 : decode cX9_write 68 = .ok (.iconst 1, 1) := by decide +kernel
theorem dX9_write_69 : decode cX9_write 69 = .ok (.isub, 1) := by decide +kernel
theorem dX9_write_70 : decode cX9_write 70 = .ok (.iastore, 1) := by decide +kernel
theorem dX9_write_71 : decode cX9_write 71 = .ok (.aload_n 0, 1) := by decide +kernel
theorem dX9_write_72 : decode cX9_write 72 = .ok (.getfield 7, 3) := by decide +kernel
theorem dX9_write_75 : decode cX9_write 75 = .ok (.sipush 4810, 3) := by decide +kernel
theorem dX9_write_78 : decode cX9_write 78 = .ok (.iconst 2, 1) := by decide +kernel
theorem dX9_write_79 : decode cX9_write 79 = .ok (.aload_n 0, 1) := by decide +kernel
theorem dX9_write_80 : decode cX9_write 80 = .ok (.getfield 7, 3) := by decide +kernel
theorem dX9_write_83 : decode cX9_write 83 = .ok (.bipush 12, 2) := by decide +kernel
theorem dX9_write_85 : decode cX9_write 85 = .ok (.iaload, 1) := by decide +kernel
theorem dX9_write_86 : decode cX9_write 86 = .ok (.imul, 1) := by decide +kernel
theorem dX9_write_87 : decode cX9_write 87 = .ok (.iadd, 1) := by decide +kernel
theorem dX9_write_88 : decode cX9_write 88 = .ok (.aload_n 0, 1) := by decide +kernel
theorem dX9_write_89 : decode cX9_write 89 = .ok (.getfield 7, 3) := by decide +kernel
theorem dX9_write_92 : decode cX9_write 92 = .ok (.bipush 8, 2) := by decide +kernel
theorem dX9_write_94 : decode cX9_write 94 = .ok (.iaload, 1) := by decide +kernel
theorem dX9_write_95 : decode cX9_write 95 = .ok (.iastore, 1) := by decide +kernel
theorem dX9_write_96 : decode cX9_write 96 = .ok (.aload_n 0, 1) := by decide +kernel
theorem dX9_write_97 : decode cX9_write 97 = .ok (.getfield 7, 3) := by decide +kernel
theorem dX9_write_100 : decode cX9_write 100 = .ok (.sipush 4810, 3) := by decide +kernel
theorem dX9_write_103 : decode cX9_write 103 = .ok (.iconst 2, 1) := by decide +kernel
theorem dX9_write_104 : decode cX9_write 104 = .ok (.aload_n 0, 1) := by decide +kernel
theorem dX9_write_105 : decode cX9_write 105 = .ok (.getfield 7, 3) := by decide +kernel
theorem dX9_write_108 : decode cX9_write 108 = .ok (.bipush 12, 2) := by decide +kernel
theorem dX9_write_110 : decode cX9_write 110 = .ok (.iaload, 1) := by decide +kernel
theorem dX9_write_111 : decode cX9_write 111 = .ok (.imul, 1) := by decide +kernel
theorem dX9_write_112 : decode cX9_write 112 = .ok (.iadd, 1) := by decide +kernel
theorem dX9_write_113 : decode cX9_write 113 = .ok (.iconst 1, 1) := by decide +kernel
theorem dX9_write_114 : decode cX9_write 114 = .ok (.iadd, 1) := by decide +kernel
theorem dX9_write_115 : decode cX9_write 115 = .ok (.iload_n 1, 1) := by decide +kernel
theorem dX9_write_116 : decode cX9_write 116 = .ok (.iconst 4, 1) := by decide +kernel
theorem dX9_write_117 : decode cX9_write 117 = .ok (.imul, 1) := by decide +kernel
theorem dX9_write_118 : decode cX9_write 118 = .ok (.iload_n 2, 1) := by decide +kernel
theorem dX9_write_119 : decode cX9_write 119 = .ok (.iadd, 1) := by decide +kernel
theorem dX9_write_120 : decode cX9_write 120 = .ok (.sipush 10000, 3) := by decide +kernel
theorem dX9_write_123 : decode cX9_write 123 = .ok (.imul, 1) := by decide +kernel
theorem dX9_write_124 : decode cX9_write 124 = .ok (.iload_n 3, 1) := by decide +kernel
theorem dX9_write_125 : decode cX9_write 125 = .ok (.iadd, 1) := by decide +kernel
theorem dX9_write_126 : decode cX9_write 126 = .ok (.iastore, 1) := by decide +kernel
theorem dX9_write_127 : decode cX9_write 127 = .ok (.aload_n 0, 1) := by decide +kernel
theorem dX9_write_128 : decode cX9_write 128 = .ok (.getfield 7, 3) := by decide +kernel
theorem dX9_write_131 : decode cX9_write 131 = .ok (.bipush 12, 2) := by decide +kernel
theorem dX9_write_133 : decode cX9_write 133 = .ok (.dup2, 1) := by decide +kernel
theorem dX9_write_134 : decode cX9_write 134 = .ok (.iaload, 1) := by decide +kernel
theorem dX9_write_135 : decode cX9_write 135 = .ok (.iconst 1, 1) := by decide +kernel
theorem dX9_write_136 : decode cX9_write 136 = .ok (.iadd, 1) := by decide +kernel
theorem dX9_write_137 : decode cX9_write 137 = .ok (.iastore, 1) := by decide +kernel
theorem dX9_write_138 : decode cX9_write 138 = .ok (.return_, 1) := by decide +kernel
theorem dX9_drawn_0 : decode cX9_drawn 0 = .ok (.aload_n 0, 1) := by decide +kernel
theorem dX9_drawn_1 : decode cX9_drawn 1 = .ok (.getfield 7, 3) := by decide +kernel
theorem dX9_drawn_4 : decode cX9_drawn 4 = .ok (.bipush 9, 2) := by decide +kernel
theorem dX9_drawn_6 : decode cX9_drawn 6 = .ok (.iaload, 1) := by decide +kernel
theorem dX9_drawn_7 : decode cX9_drawn 7 = .ok (.bipush 10, 2) := by decide +kernel
theorem dX9_drawn_9 : decode cX9_drawn 9 = .ok (.irem, 1) := by decide +kernel
theorem dX9_drawn_10 : decode cX9_drawn 10 = .ok (.istore_n 1, 1) := by decide +kernel
theorem dX9_drawn_11 : decode cX9_drawn 11 = .ok (.aload_n 0, 1) := by decide +kernel
theorem dX9_drawn_12 : decode cX9_drawn 12 = .ok (.invokevirtual 320, 3) := by decide +kernel
theorem dX9_drawn_15 : decode cX9_drawn 15 = .ok (.iload_n 1, 1) := by decide +kernel
theorem dX9_drawn_16 : decode cX9_drawn 16 = .ok (.ireturn, 1) := by decide +kernel
theorem dX9_anew_0 : decode cX9_anew 0 = .ok (.aload_n 0, 1) := by decide +kernel
theorem dX9_anew_1 : decode cX9_anew 1 = .ok (.getfield 7, 3) := by decide +kernel
theorem dX9_anew_4 : decode cX9_anew 4 = .ok (.bipush 9, 2) := by decide +kernel
theorem dX9_anew_6 : decode cX9_anew 6 = .ok (.aload_n 0, 1) := by decide +kernel
theorem dX9_anew_7 : decode cX9_anew 7 = .ok (.getfield 7, 3) := by decide +kernel
theorem dX9_anew_10 : decode cX9_anew 10 = .ok (.bipush 9, 2) := by decide +kernel
theorem dX9_anew_12 : decode cX9_anew 12 = .ok (.iaload, 1) := by decide +kernel
theorem dX9_anew_13 : decode cX9_anew 13 = .ok (.i2l, 1) := by decide +kernel
theorem dX9_anew_14 : decode cX9_anew 14 = .ok (.ldc2_w 323, 3) := by decide +kernel
theorem dX9_anew_17 : decode cX9_anew 17 = .ok (.lmul, 1) := by decide +kernel
theorem dX9_anew_18 : decode cX9_anew 18 = .ok (.ldc2_w 325, 3) := by decide +kernel
theorem dX9_anew_21 : decode cX9_anew 21 = .ok (.ladd, 1) := by decide +kernel
theorem dX9_anew_22 : decode cX9_anew 22 = .ok (.ldc2_w 327, 3) := by decide +kernel
theorem dX9_anew_25 : decode cX9_anew 25 = .ok (.lrem, 1) := by decide +kernel
theorem dX9_anew_26 : decode cX9_anew 26 = .ok (.l2i, 1) := by decide +kernel
theorem dX9_anew_27 : decode cX9_anew 27 = .ok (.iastore, 1) := by decide +kernel
theorem dX9_anew_28 : decode cX9_anew 28 = .ok (.return_, 1) := by decide +kernel
theorem dX9_endNow_0 : decode cX9_endNow 0 = .ok (.aload_n 0, 1) := by decide +kernel
theorem dX9_endNow_1 : decode cX9_endNow 1 = .ok (.iload_n 1, 1) := by decide +kernel
theorem dX9_endNow_2 : decode cX9_endNow 2 = .ok (.iconst 5, 1) := by decide +kernel
theorem dX9_endNow_3 : decode cX9_endNow 3 = .ok (.iload_n 2, 1) := by decide +kernel
theorem dX9_endNow_4 : decode cX9_endNow 4 = .ok (.invokevirtual 329, 3) := by decide +kernel
theorem dX9_endNow_7 : decode cX9_endNow 7 = .ok (.aload_n 0, 1) := by decide +kernel
theorem dX9_endNow_8 : decode cX9_endNow 8 = .ok (.dup, 1) := by decide +kernel
theorem dX9_endNow_9 : decode cX9_endNow 9 = .ok (.getfield 332, 3) := by decide +kernel
theorem dX9_endNow_12 : decode cX9_endNow 12 = .ok (.iconst 1, 1) := by decide +kernel
theorem dX9_endNow_13 : decode cX9_endNow 13 = .ok (.iadd, 1) := by decide +kernel
theorem dX9_endNow_14 : decode cX9_endNow 14 = .ok (.putfield 332, 3) := by decide +kernel
theorem dX9_endNow_17 : decode cX9_endNow 17 = .ok (.aload_n 0, 1) := by decide +kernel
theorem dX9_endNow_18 : decode cX9_endNow 18 = .ok (.iload_n 1, 1) := by decide +kernel
theorem dX9_endNow_19 : decode cX9_endNow 19 = .ok (.iload_n 2, 1) := by decide +kernel
theorem dX9_endNow_20 : decode cX9_endNow 20 = .ok (.iconst 1, 1) := by decide +kernel
theorem dX9_endNow_21 : decode cX9_endNow 21 = .ok (.isub, 1) := by decide +kernel
theorem dX9_endNow_22 : decode cX9_endNow 22 = .ok (.iload_n 3, 1) := by decide +kernel
theorem dX9_endNow_23 : decode cX9_endNow 23 = .ok (.invokevirtual 335, 3) := by decide +kernel
theorem dX9_endNow_26 : decode cX9_endNow 26 = .ok (.return_, 1) := by decide +kernel
theorem dX9_comeTrue_0 : decode cX9_comeTrue 0 = .ok (.aload_n 0, 1) := by decide +kernel
theorem dX9_comeTrue_1 : decode cX9_comeTrue 1 = .ok (.iload_n 1, 1) := by decide +kernel
theorem dX9_comeTrue_2 : decode cX9_comeTrue 2 = .ok (.iconst 0, 1) := by decide +kernel
theorem dX9_comeTrue_3 : decode cX9_comeTrue 3 = .ok (.invokevirtual 67, 3) := by decide +kernel
theorem dX9_comeTrue_6 : decode cX9_comeTrue 6 = .ok (.istore_n 2, 1) := by decide +kernel
theorem dX9_comeTrue_7 : decode cX9_comeTrue 7 = .ok (.aload_n 0, 1) := by decide +kernel
theorem dX9_comeTrue_8 : decode cX9_comeTrue 8 = .ok (.iload_n 1, 1) := by decide +kernel
theorem dX9_comeTrue_9 : decode cX9_comeTrue 9 = .ok (.invokevirtual 338, 3) := by decide +kernel
theorem dX9_comeTrue_12 : decode cX9_comeTrue 12 = .ok (.istore_n 3, 1) := by decide +kernel
theorem dX9_comeTrue_13 : decode cX9_comeTrue 13 = .ok (.aload_n 0, 1) := by decide +kernel
theorem dX9_comeTrue_14 : decode cX9_comeTrue 14 = .ok (.iload_n 2, 1) := by decide +kernel
theorem dX9_comeTrue_15 : decode cX9_comeTrue 15 = .ok (.iconst 1, 1) := by decide +kernel
theorem dX9_comeTrue_16 : decode cX9_comeTrue 16 = .ok (.aload_n 0, 1) := by decide +kernel
theorem dX9_comeTrue_17 : decode cX9_comeTrue 17 = .ok (.iload_n 2, 1) := by decide +kernel
theorem dX9_comeTrue_18 : decode cX9_comeTrue 18 = .ok (.iconst 1, 1) := by decide +kernel
theorem dX9_comeTrue_19 : decode cX9_comeTrue 19 = .ok (.invokevirtual 87, 3) := by decide +kernel
theorem dX9_comeTrue_22 : decode cX9_comeTrue 22 = .ok (.iload_n 3, 1) := by decide +kernel
theorem dX9_comeTrue_23 : decode cX9_comeTrue 23 = .ok (.iadd, 1) := by decide +kernel
theorem dX9_comeTrue_24 : decode cX9_comeTrue 24 = .ok (.i2l, 1) := by decide +kernel
theorem dX9_comeTrue_25 : decode cX9_comeTrue 25 = .ok (.iconst 0, 1) := by decide +kernel
theorem dX9_comeTrue_26 : decode cX9_comeTrue 26 = .ok (.bipush 99, 2) := by decide +kernel
theorem dX9_comeTrue_28 : decode cX9_comeTrue 28 = .ok (.invokestatic 306, 3) := by decide +kernel
theorem dX9_comeTrue_31 : decode cX9_comeTrue 31 = .ok (.invokevirtual 79, 3) := by decide +kernel
theorem dX9_comeTrue_34 : decode cX9_comeTrue 34 = .ok (.aload_n 0, 1) := by decide +kernel
theorem dX9_comeTrue_35 : decode cX9_comeTrue 35 = .ok (.iload_n 1, 1) := by decide +kernel
theorem dX9_comeTrue_36 : decode cX9_comeTrue 36 = .ok (.iconst 1, 1) := by decide +kernel
theorem dX9_comeTrue_37 : decode cX9_comeTrue 37 = .ok (.iload_n 3, 1) := by decide +kernel
theorem dX9_comeTrue_38 : decode cX9_comeTrue 38 = .ok (.invokevirtual 341, 3) := by decide +kernel
theorem dX9_comeTrue_41 : decode cX9_comeTrue 41 = .ok (.return_, 1) := by decide +kernel
theorem dX9_fail_0 : decode cX9_fail 0 = .ok (.aload_n 0, 1) := by decide +kernel
theorem dX9_fail_1 : decode cX9_fail 1 = .ok (.iload_n 1, 1) := by decide +kernel
theorem dX9_fail_2 : decode cX9_fail 2 = .ok (.iconst 0, 1) := by decide +kernel
theorem dX9_fail_3 : decode cX9_fail 3 = .ok (.invokevirtual 67, 3) := by decide +kernel
theorem dX9_fail_6 : decode cX9_fail 6 = .ok (.istore_n 2, 1) := by decide +kernel
theorem dX9_fail_7 : decode cX9_fail 7 = .ok (.aload_n 0, 1) := by decide +kernel
theorem dX9_fail_8 : decode cX9_fail 8 = .ok (.aload_n 0, 1) := by decide +kernel
theorem dX9_fail_9 : decode cX9_fail 9 = .ok (.getfield 7, 3) := by decide +kernel
theorem dX9_fail_12 : decode cX9_fail 12 = .ok (.iconst 3, 1) := by decide +kernel
theorem dX9_fail_13 : decode cX9_fail 13 = .ok (.iaload, 1) := by decide +kernel
theorem dX9_fail_14 : decode cX9_fail 14 = .ok (.iload_n 1, 1) := by decide +kernel
theorem dX9_fail_15 : decode cX9_fail 15 = .ok (.invokevirtual 344, 3) := by decide +kernel
theorem dX9_fail_18 : decode cX9_fail 18 = .ok (.istore_n 3, 1) := by decide +kernel
theorem dX9_fail_19 : decode cX9_fail 19 = .ok (.iload_n 3, 1) := by decide +kernel
theorem dX9_fail_20 : decode cX9_fail 20 = .ok (.aload_n 0, 1) := by decide +kernel
theorem dX9_fail_21 : decode cX9_fail 21 = .ok (.iload_n 2, 1) := by decide +kernel
theorem dX9_fail_22 : decode cX9_fail 22 = .ok (.iconst 0, 1) := by decide +kernel
theorem dX9_fail_23 : decode cX9_fail 23 = .ok (.invokevirtual 87, 3) := by decide +kernel
theorem dX9_fail_26 : decode cX9_fail 26 = .ok (.if_icmp .ge 7, 3) := by decide +kernel
theorem dX9_fail_29 : decode cX9_fail 29 = .ok (.iload_n 3, 1) := by decide +kernel
theorem dX9_fail_30 : decode cX9_fail 30 = .ok (.goto 9, 3) := by decide +kernel
theorem dX9_fail_33 : decode cX9_fail 33 = .ok (.aload_n 0, 1) := by decide +kernel
theorem dX9_fail_34 : decode cX9_fail 34 = .ok (.iload_n 2, 1) := by decide +kernel
theorem dX9_fail_35 : decode cX9_fail 35 = .ok (.iconst 0, 1) := by decide +kernel
theorem dX9_fail_36 : decode cX9_fail 36 = .ok (.invokevirtual 87, 3) := by decide +kernel
theorem dX9_fail_39 : decode cX9_fail 39 = .ok (.istore 4, 2) := by decide +kernel
theorem dX9_fail_41 : decode cX9_fail 41 = .ok (.aload_n 0, 1) := by decide +kernel
theorem dX9_fail_42 : decode cX9_fail 42 = .ok (.iload_n 2, 1) := by decide +kernel
theorem dX9_fail_43 : decode cX9_fail 43 = .ok (.iconst 0, 1) := by decide +kernel
theorem dX9_fail_44 : decode cX9_fail 44 = .ok (.aload_n 0, 1) := by decide +kernel
theorem dX9_fail_45 : decode cX9_fail 45 = .ok (.iload_n 2, 1) := by decide +kernel
theorem dX9_fail_46 : decode cX9_fail 46 = .ok (.iconst 0, 1) := by decide +kernel
theorem dX9_fail_47 : decode cX9_fail 47 = .ok (.invokevirtual 87, 3) := by decide +kernel
theorem dX9_fail_50 : decode cX9_fail 50 = .ok (.iload 4, 2) := by decide +kernel
theorem dX9_fail_52 : decode cX9_fail 52 = .ok (.isub, 1) := by decide +kernel
theorem dX9_fail_53 : decode cX9_fail 53 = .ok (.invokevirtual 79, 3) := by decide +kernel
theorem dX9_fail_56 : decode cX9_fail 56 = .ok (.iload 4, 2) := by decide +kernel
theorem dX9_fail_58 : decode cX9_fail 58 = .ok (.iload_n 3, 1) := by decide +kernel
theorem dX9_fail_59 : decode cX9_fail 59 = .ok (.if_icmp .ge 10, 3) := by decide +kernel
theorem dX9_fail_62 : decode cX9_fail 62 = .ok (.aload_n 0, 1) := by decide +kernel
theorem dX9_fail_63 : decode cX9_fail 63 = .ok (.iload_n 2, 1) := by decide +kernel
theorem dX9_fail_64 : decode cX9_fail 64 = .ok (.iconst 2, 1) := by decide +kernel
theorem dX9_fail_65 : decode cX9_fail 65 = .ok (.iconst 1, 1) := by decide +kernel
theorem dX9_fail_66 : decode cX9_fail 66 = .ok (.invokevirtual 79, 3) := by decide +kernel
theorem dX9_fail_69 : decode cX9_fail 69 = .ok (.aload_n 0, 1) := by decide +kernel
theorem dX9_fail_70 : decode cX9_fail 70 = .ok (.iload_n 1, 1) := by decide +kernel
theorem dX9_fail_71 : decode cX9_fail 71 = .ok (.iconst 2, 1) := by decide +kernel
theorem dX9_fail_72 : decode cX9_fail 72 = .ok (.iload 4, 2) := by decide +kernel
theorem dX9_fail_74 : decode cX9_fail 74 = .ok (.invokevirtual 341, 3) := by decide +kernel
theorem dX9_fail_77 : decode cX9_fail 77 = .ok (.return_, 1) := by decide +kernel
theorem dX9_pass_0 : decode cX9_pass 0 = .ok (.iconst 0, 1) := by decide +kernel
theorem dX9_pass_1 : decode cX9_pass 1 = .ok (.istore_n 1, 1) := by decide +kernel
theorem dX9_pass_2 : decode cX9_pass 2 = .ok (.iload_n 1, 1) := by decide +kernel
theorem dX9_pass_3 : decode cX9_pass 3 = .ok (.aload_n 0, 1) := by decide +kernel
theorem dX9_pass_4 : decode cX9_pass 4 = .ok (.getfield 7, 3) := by decide +kernel
theorem dX9_pass_7 : decode cX9_pass 7 = .ok (.iconst 0, 1) := by decide +kernel
theorem dX9_pass_8 : decode cX9_pass 8 = .ok (.iaload, 1) := by decide +kernel
theorem dX9_pass_9 : decode cX9_pass 9 = .ok (.if_icmp .ge 53, 3) := by decide +kernel
theorem dX9_pass_12 : decode cX9_pass 12 = .ok (.aload_n 0, 1) := by decide +kernel
theorem dX9_pass_13 : decode cX9_pass 13 = .ok (.getfield 7, 3) := by decide +kernel
theorem dX9_pass_16 : decode cX9_pass 16 = .ok (.bipush 10, 2) := by decide +kernel
theorem dX9_pass_18 : decode cX9_pass 18 = .ok (.iaload, 1) := by decide +kernel
theorem dX9_pass_19 : decode cX9_pass 19 = .ok (.iload_n 1, 1) := by decide +kernel
theorem dX9_pass_20 : decode cX9_pass 20 = .ok (.invokestatic 261, 3) := by decide +kernel
theorem dX9_pass_23 : decode cX9_pass 23 = .ok (.ifCond .eq 6, 3) := by decide +kernel
theorem dX9_pass_26 : decode cX9_pass 26 = .ok (.goto 30, 3) := by decide +kernel
theorem dX9_pass_29 : decode cX9_pass 29 = .ok (.aload_n 0, 1) := by decide +kernel
theorem dX9_pass_30 : decode cX9_pass 30 = .ok (.iload_n 1, 1) := by decide +kernel
theorem dX9_pass_31 : decode cX9_pass 31 = .ok (.invokevirtual 347, 3) := by decide +kernel
theorem dX9_pass_34 : decode cX9_pass 34 = .ok (.istore_n 2, 1) := by decide +kernel
theorem dX9_pass_35 : decode cX9_pass 35 = .ok (.aload_n 0, 1) := by decide +kernel
theorem dX9_pass_36 : decode cX9_pass 36 = .ok (.invokevirtual 350, 3) := by decide +kernel
theorem dX9_pass_39 : decode cX9_pass 39 = .ok (.iload_n 2, 1) := by decide +kernel
theorem dX9_pass_40 : decode cX9_pass 40 = .ok (.if_icmp .ge 16, 3) := by decide +kernel
theorem dX9_pass_43 : decode cX9_pass 43 = .ok (.aload_n 0, 1) := by decide +kernel
theorem dX9_pass_44 : decode cX9_pass 44 = .ok (.getfield 7, 3) := by decide +kernel
theorem dX9_pass_47 : decode cX9_pass 47 = .ok (.bipush 10, 2) := by decide +kernel
theorem dX9_pass_49 : decode cX9_pass 49 = .ok (.dup2, 1) := by decide +kernel
theorem dX9_pass_50 : decode cX9_pass 50 = .ok (.iaload, 1) := by decide +kernel
theorem dX9_pass_51 : decode cX9_pass 51 = .ok (.iconst 1, 1) := by decide +kernel
theorem dX9_pass_52 : decode cX9_pass 52 = .ok (.iload_n 1, 1) := by decide +kernel
theorem dX9_pass_53 : decode cX9_pass 53 = .ok (.ishl, 1) := by decide +kernel
theorem dX9_pass_54 : decode cX9_pass 54 = .ok (.ior, 1) := by decide +kernel
theorem dX9_pass_55 : decode cX9_pass 55 = .ok (.iastore, 1) := by decide +kernel
theorem dX9_pass_56 : decode cX9_pass 56 = .ok (.iinc 1 1, 3) := by decide +kernel
theorem dX9_pass_59 : decode cX9_pass 59 = .ok (.goto (-57), 3) := by decide +kernel
theorem dX9_pass_62 : decode cX9_pass 62 = .ok (.iconst 0, 1) := by decide +kernel
theorem dX9_pass_63 : decode cX9_pass 63 = .ok (.istore_n 1, 1) := by decide +kernel
theorem dX9_pass_64 : decode cX9_pass 64 = .ok (.iload_n 1, 1) := by decide +kernel
theorem dX9_pass_65 : decode cX9_pass 65 = .ok (.aload_n 0, 1) := by decide +kernel
theorem dX9_pass_66 : decode cX9_pass 66 = .ok (.getfield 7, 3) := by decide +kernel
theorem dX9_pass_69 : decode cX9_pass 69 = .ok (.bipush 11, 2) := by decide +kernel
theorem dX9_pass_71 : decode cX9_pass 71 = .ok (.iaload, 1) := by decide +kernel
theorem dX9_pass_72 : decode cX9_pass 72 = .ok (.if_icmp .ge 64, 3) := by decide +kernel
theorem dX9_pass_75 : decode cX9_pass 75 = .ok (.aload_n 0, 1) := by decide +kernel
theorem dX9_pass_76 : decode cX9_pass 76 = .ok (.iload_n 1, 1) := by decide +kernel
theorem dX9_pass_77 : decode cX9_pass 77 = .ok (.invokevirtual 353, 3) := by decide +kernel
theorem dX9_pass_80 : decode cX9_pass 80 = .ok (.ifCond .ne 6, 3) := by decide +kernel
theorem dX9_pass_83 : decode cX9_pass 83 = .ok (.goto 47, 3) := by decide +kernel
theorem dX9_pass_86 : decode cX9_pass 86 = .ok (.aload_n 0, 1) := by decide +kernel
theorem dX9_pass_87 : decode cX9_pass 87 = .ok (.iload_n 1, 1) := by decide +kernel
theorem dX9_pass_88 : decode cX9_pass 88 = .ok (.aload_n 0, 1) := by decide +kernel
theorem dX9_pass_89 : decode cX9_pass 89 = .ok (.getfield 7, 3) := by decide +kernel
theorem dX9_pass_92 : decode cX9_pass 92 = .ok (.bipush 10, 2) := by decide +kernel
theorem dX9_pass_94 : decode cX9_pass 94 = .ok (.iaload, 1) := by decide +kernel
theorem dX9_pass_95 : decode cX9_pass 95 = .ok (.invokevirtual 356, 3) := by decide +kernel
theorem dX9_pass_98 : decode cX9_pass 98 = .ok (.ifCond .eq 11, 3) := by decide +kernel
theorem dX9_pass_101 : decode cX9_pass 101 = .ok (.aload_n 0, 1) := by decide +kernel
theorem dX9_pass_102 : decode cX9_pass 102 = .ok (.iload_n 1, 1) := by decide +kernel
theorem dX9_pass_103 : decode cX9_pass 103 = .ok (.invokevirtual 359, 3) := by decide +kernel
theorem dX9_pass_106 : decode cX9_pass 106 = .ok (.goto 24, 3) := by decide +kernel
theorem dX9_pass_109 : decode cX9_pass 109 = .ok (.aload_n 0, 1) := by decide +kernel
theorem dX9_pass_110 : decode cX9_pass 110 = .ok (.getfield 7, 3) := by decide +kernel
theorem dX9_pass_113 : decode cX9_pass 113 = .ok (.bipush 8, 2) := by decide +kernel
theorem dX9_pass_115 : decode cX9_pass 115 = .ok (.iaload, 1) := by decide +kernel
theorem dX9_pass_116 : decode cX9_pass 116 = .ok (.aload_n 0, 1) := by decide +kernel
theorem dX9_pass_117 : decode cX9_pass 117 = .ok (.iload_n 1, 1) := by decide +kernel
theorem dX9_pass_118 : decode cX9_pass 118 = .ok (.iconst 3, 1) := by decide +kernel
theorem dX9_pass_119 : decode cX9_pass 119 = .ok (.invokevirtual 67, 3) := by decide +kernel
theorem dX9_pass_122 : decode cX9_pass 122 = .ok (.if_icmp .lt 8, 3) := by decide +kernel
theorem dX9_pass_125 : decode cX9_pass 125 = .ok (.aload_n 0, 1) := by decide +kernel
theorem dX9_pass_126 : decode cX9_pass 126 = .ok (.iload_n 1, 1) := by decide +kernel
theorem dX9_pass_127 : decode cX9_pass 127 = .ok (.invokevirtual 362, 3) := by decide +kernel
theorem dX9_pass_130 : decode cX9_pass 130 = .ok (.iinc 1 1, 3) := by decide +kernel
theorem dX9_pass_133 : decode cX9_pass 133 = .ok (.goto (-69), 3) := by decide +kernel
theorem dX9_pass_136 : decode cX9_pass 136 = .ok (.aload_n 0, 1) := by decide +kernel
theorem dX9_pass_137 : decode cX9_pass 137 = .ok (.getfield 7, 3) := by decide +kernel
theorem dX9_pass_140 : decode cX9_pass 140 = .ok (.bipush 8, 2) := by decide +kernel
theorem dX9_pass_142 : decode cX9_pass 142 = .ok (.dup2, 1) := by decide +kernel
theorem dX9_pass_143 : decode cX9_pass 143 = .ok (.iaload, 1) := by decide +kernel
theorem dX9_pass_144 : decode cX9_pass 144 = .ok (.iconst 1, 1) := by decide +kernel
theorem dX9_pass_145 : decode cX9_pass 145 = .ok (.iadd, 1) := by decide +kernel
theorem dX9_pass_146 : decode cX9_pass 146 = .ok (.iastore, 1) := by decide +kernel
theorem dX9_pass_147 : decode cX9_pass 147 = .ok (.return_, 1) := by decide +kernel
theorem dX9_keep_0 : decode cX9_keep 0 = .ok (.aload_n 0, 1) := by decide +kernel
theorem dX9_keep_1 : decode cX9_keep 1 = .ok (.getfield 7, 3) := by decide +kernel
theorem dX9_keep_4 : decode cX9_keep 4 = .ok (.iconst 4, 1) := by decide +kernel
theorem dX9_keep_5 : decode cX9_keep 5 = .ok (.iaload, 1) := by decide +kernel
theorem dX9_keep_6 : decode cX9_keep 6 = .ok (.bipush 30, 2) := by decide +kernel
theorem dX9_keep_8 : decode cX9_keep 8 = .ok (.if_icmp .ne 48, 3) := by decide +kernel
theorem dX9_keep_11 : decode cX9_keep 11 = .ok (.iconst 0, 1) := by decide +kernel
theorem dX9_keep_12 : decode cX9_keep 12 = .ok (.istore_n 1, 1) := by decide +kernel
theorem dX9_keep_13 : decode cX9_keep 13 = .ok (.iload_n 1, 1) := by decide +kernel
theorem dX9_keep_14 : decode cX9_keep 14 = .ok (.sipush 4466, 3) := by decide +kernel
theorem dX9_keep_17 : decode cX9_keep 17 = .ok (.if_icmp .ge 29, 3) := by decide +kernel
theorem dX9_keep_20 : decode cX9_keep 20 = .ok (.aload_n 0, 1) := by decide +kernel
theorem dX9_keep_21 : decode cX9_keep 21 = .ok (.getfield 7, 3) := by decide +kernel
theorem dX9_keep_24 : decode cX9_keep 24 = .ok (.sipush 190, 3) := by decide +kernel
theorem dX9_keep_27 : decode cX9_keep 27 = .ok (.iload_n 1, 1) := by decide +kernel
theorem dX9_keep_28 : decode cX9_keep 28 = .ok (.iadd, 1) := by decide +kernel
theorem dX9_keep_29 : decode cX9_keep 29 = .ok (.aload_n 0, 1) := by decide +kernel
theorem dX9_keep_30 : decode cX9_keep 30 = .ok (.getfield 7, 3) := by decide +kernel
theorem dX9_keep_33 : decode cX9_keep 33 = .ok (.sipush 344, 3) := by decide +kernel
theorem dX9_keep_36 : decode cX9_keep 36 = .ok (.iload_n 1, 1) := by decide +kernel
theorem dX9_keep_37 : decode cX9_keep 37 = .ok (.iadd, 1) := by decide +kernel
theorem dX9_keep_38 : decode cX9_keep 38 = .ok (.iaload, 1) := by decide +kernel
theorem dX9_keep_39 : decode cX9_keep 39 = .ok (.iastore, 1) := by decide +kernel
theorem dX9_keep_40 : decode cX9_keep 40 = .ok (.iinc 1 1, 3) := by decide +kernel
theorem dX9_keep_43 : decode cX9_keep 43 = .ok (.goto (-30), 3) := by decide +kernel
theorem dX9_keep_46 : decode cX9_keep 46 = .ok (.aload_n 0, 1) := by decide +kernel
theorem dX9_keep_47 : decode cX9_keep 47 = .ok (.getfield 7, 3) := by decide +kernel
theorem dX9_keep_50 : decode cX9_keep 50 = .ok (.iconst 4, 1) := by decide +kernel
theorem dX9_keep_51 : decode cX9_keep 51 = .ok (.dup2, 1) := by decide +kernel
theorem dX9_keep_52 : decode cX9_keep 52 = .ok (.iaload, 1) := by decide +kernel
theorem dX9_keep_53 : decode cX9_keep 53 = .ok (.iconst 1, 1) := by decide +kernel
theorem dX9_keep_54 : decode cX9_keep 54 = .ok (.isub, 1) := by decide +kernel
theorem dX9_keep_55 : decode cX9_keep 55 = .ok (.iastore, 1) := by decide +kernel
theorem dX9_keep_56 : decode cX9_keep 56 = .ok (.sipush 190, 3) := by decide +kernel
theorem dX9_keep_59 : decode cX9_keep 59 = .ok (.sipush 154, 3) := by decide +kernel
theorem dX9_keep_62 : decode cX9_keep 62 = .ok (.aload_n 0, 1) := by decide +kernel
theorem dX9_keep_63 : decode cX9_keep 63 = .ok (.getfield 7, 3) := by decide +kernel
theorem dX9_keep_66 : decode cX9_keep 66 = .ok (.iconst 4, 1) := by decide +kernel
theorem dX9_keep_67 : decode cX9_keep 67 = .ok (.iaload, 1) := by decide +kernel
theorem dX9_keep_68 : decode cX9_keep 68 = .ok (.imul, 1) := by decide +kernel
theorem dX9_keep_69 : decode cX9_keep 69 = .ok (.iadd, 1) := by decide +kernel
theorem dX9_keep_70 : decode cX9_keep 70 = .ok (.istore_n 1, 1) := by decide +kernel
theorem dX9_keep_71 : decode cX9_keep 71 = .ok (.aload_n 0, 1) := by decide +kernel
theorem dX9_keep_72 : decode cX9_keep 72 = .ok (.getfield 7, 3) := by decide +kernel
theorem dX9_keep_75 : decode cX9_keep 75 = .ok (.iload_n 1, 1) := by decide +kernel
theorem dX9_keep_76 : decode cX9_keep 76 = .ok (.aload_n 0, 1) := by decide +kernel
theorem dX9_keep_77 : decode cX9_keep 77 = .ok (.getfield 7, 3) := by decide +kernel
theorem dX9_keep_80 : decode cX9_keep 80 = .ok (.iconst 1, 1) := by decide +kernel
