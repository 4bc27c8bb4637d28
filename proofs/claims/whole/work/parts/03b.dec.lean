theorem dX2_init_0 : decode cX2_init 0 = .ok (.aload_n 0, 1) := by decide +kernel
theorem dX2_init_1 : decode cX2_init 1 = .ok (.invokespecial 3, 3) := by decide +kernel
theorem dX2_init_4 : decode cX2_init 4 = .ok (.aload_n 0, 1) := by decide +kernel
theorem dX2_init_5 : decode cX2_init 5 = .ok (.new 9, 3) := by decide +kernel
theorem dX2_init_8 : decode cX2_init 8 = .ok (.dup, 1) := by decide +kernel
theorem dX2_init_9 : decode cX2_init 9 = .ok (.invokespecial 11, 3) := by decide +kernel
theorem dX2_init_12 : decode cX2_init 12 = .ok (.putfield 12, 3) := by decide +kernel
theorem dX2_init_15 : decode cX2_init 15 = .ok (.aload_n 0, 1) := by decide +kernel
theorem dX2_init_16 : decode cX2_init 16 = .ok (.sipush 300, 3) := by decide +kernel
theorem dX2_init_19 : decode cX2_init 19 = .ok (.newarray .int, 2) := by decide +kernel
theorem dX2_init_21 : decode cX2_init 21 = .ok (.putfield 18, 3) := by decide +kernel
theorem dX2_init_24 : decode cX2_init 24 = .ok (.aload_n 0, 1) := by decide +kernel
theorem dX2_init_25 : decode cX2_init 25 = .ok (.new 22, 3) := by decide +kernel
theorem dX2_init_28 : decode cX2_init 28 = .ok (.dup, 1) := by decide +kernel
theorem dX2_init_29 : decode cX2_init 29 = .ok (.invokespecial 24, 3) := by decide +kernel
theorem dX2_init_32 : decode cX2_init 32 = .ok (.putfield 25, 3) := by decide +kernel
theorem dX2_init_35 : decode cX2_init 35 = .ok (.return_, 1) := by decide +kernel
theorem dX2_read_0 : decode cX2_read 0 = .ok (.aload_n 0, 1) := by decide +kernel
theorem dX2_read_1 : decode cX2_read 1 = .ok (.getfield 12, 3) := by decide +kernel
theorem dX2_read_4 : decode cX2_read 4 = .ok (.aload_n 1, 1) := by decide +kernel
theorem dX2_read_5 : decode cX2_read 5 = .ok (.iload_n 2, 1) := by decide +kernel
theorem dX2_read_6 : decode cX2_read 6 = .ok (.invokevirtual 29, 3) := by decide +kernel
theorem dX2_read_9 : decode cX2_read 9 = .ok (.aload_n 0, 1) := by decide +kernel
theorem dX2_read_10 : decode cX2_read 10 = .ok (.iconst (-1), 1) := by decide +kernel
theorem dX2_read_11 : decode cX2_read 11 = .ok (.putfield 33, 3) := by decide +kernel
theorem dX2_read_14 : decode cX2_read 14 = .ok (.aload_n 0, 1) := by decide +kernel
theorem dX2_read_15 : decode cX2_read 15 = .ok (.invokevirtual 37, 3) := by decide +kernel
theorem dX2_read_18 : decode cX2_read 18 = .ok (.aload_n 0, 1) := by decide +kernel
theorem dX2_read_19 : decode cX2_read 19 = .ok (.iconst 0, 1) := by decide +kernel
theorem dX2_read_20 : decode cX2_read 20 = .ok (.putfield 40, 3) := by decide +kernel
theorem dX2_read_23 : decode cX2_read 23 = .ok (.aload_n 0, 1) := by decide +kernel
theorem dX2_read_24 : decode cX2_read 24 = .ok (.new 22, 3) := by decide +kernel
theorem dX2_read_27 : decode cX2_read 27 = .ok (.dup, 1) := by decide +kernel
theorem dX2_read_28 : decode cX2_read 28 = .ok (.invokespecial 24, 3) := by decide +kernel
theorem dX2_read_31 : decode cX2_read 31 = .ok (.putfield 25, 3) := by decide +kernel
theorem dX2_read_34 : decode cX2_read 34 = .ok (.iconst 0, 1) := by decide +kernel
theorem dX2_read_35 : decode cX2_read 35 = .ok (.istore_n 3, 1) := by decide +kernel
theorem dX2_read_36 : decode cX2_read 36 = .ok (.iload_n 3, 1) := by decide +kernel
theorem dX2_read_37 : decode cX2_read 37 = .ok (.bipush 24, 2) := by decide +kernel
theorem dX2_read_39 : decode cX2_read 39 = .ok (.if_icmp .gt 29, 3) := by decide +kernel
theorem dX2_read_42 : decode cX2_read 42 = .ok (.aload_n 0, 1) := by decide +kernel
theorem dX2_read_43 : decode cX2_read 43 = .ok (.getfield 40, 3) := by decide +kernel
theorem dX2_read_46 : decode cX2_read 46 = .ok (.ifCond .ne 22, 3) := by decide +kernel
theorem dX2_read_49 : decode cX2_read 49 = .ok (.aload_n 0, 1) := by decide +kernel
theorem dX2_read_50 : decode cX2_read 50 = .ok (.getfield 43, 3) := by decide +kernel
theorem dX2_read_53 : decode cX2_read 53 = .ok (.bipush 54, 2) := by decide +kernel
theorem dX2_read_55 : decode cX2_read 55 = .ok (.if_icmp .eq 13, 3) := by decide +kernel
theorem dX2_read_58 : decode cX2_read 58 = .ok (.aload_n 0, 1) := by decide +kernel
theorem dX2_read_59 : decode cX2_read 59 = .ok (.invokevirtual 46, 3) := by decide +kernel
theorem dX2_read_62 : decode cX2_read 62 = .ok (.iinc 3 1, 3) := by decide +kernel
theorem dX2_read_65 : decode cX2_read 65 = .ok (.goto (-29), 3) := by decide +kernel
theorem dX2_read_68 : decode cX2_read 68 = .ok (.aload_n 0, 1) := by decide +kernel
theorem dX2_read_69 : decode cX2_read 69 = .ok (.getfield 40, 3) := by decide +kernel
theorem dX2_read_72 : decode cX2_read 72 = .ok (.ifCond .ne 10, 3) := by decide +kernel
theorem dX2_read_75 : decode cX2_read 75 = .ok (.aload_n 0, 1) := by decide +kernel
theorem dX2_read_76 : decode cX2_read 76 = .ok (.getfield 25, 3) := by decide +kernel
theorem dX2_read_79 : decode cX2_read 79 = .ok (.goto 4, 3) := by decide +kernel
theorem dX2_read_82 : decode cX2_read 82 = .ok (.aconst_null, 1) := by decide +kernel
theorem dX2_read_83 : decode cX2_read 83 = .ok (.areturn, 1) := by decide +kernel
theorem dX2_place_0 : decode cX2_place 0 = .ok (.aload_n 0, 1) := by decide +kernel
theorem dX2_place_1 : decode cX2_place 1 = .ok (.getfield 12, 3) := by decide +kernel
theorem dX2_place_4 : decode cX2_place 4 = .ok (.aload_n 0, 1) := by decide +kernel
theorem dX2_place_5 : decode cX2_place 5 = .ok (.getfield 33, 3) := by decide +kernel
theorem dX2_place_8 : decode cX2_place 8 = .ok (.invokevirtual 49, 3) := by decide +kernel
theorem dX2_place_11 : decode cX2_place 11 = .ok (.ireturn, 1) := by decide +kernel
theorem dX2_advance_0 : decode cX2_advance 0 = .ok (.aload_n 0, 1) := by decide +kernel
theorem dX2_advance_1 : decode cX2_advance 1 = .ok (.dup, 1) := by decide +kernel
theorem dX2_advance_2 : decode cX2_advance 2 = .ok (.getfield 33, 3) := by decide +kernel
theorem dX2_advance_5 : decode cX2_advance 5 = .ok (.iconst 1, 1) := by decide +kernel
theorem dX2_advance_6 : decode cX2_advance 6 = .ok (.iadd, 1) := by decide +kernel
theorem dX2_advance_7 : decode cX2_advance 7 = .ok (.putfield 33, 3) := by decide +kernel
theorem dX2_advance_10 : decode cX2_advance 10 = .ok (.aload_n 0, 1) := by decide +kernel
theorem dX2_advance_11 : decode cX2_advance 11 = .ok (.getfield 33, 3) := by decide +kernel
theorem dX2_advance_14 : decode cX2_advance 14 = .ok (.ifCond .lt 36, 3) := by decide +kernel
theorem dX2_advance_17 : decode cX2_advance 17 = .ok (.aload_n 0, 1) := by decide +kernel
theorem dX2_advance_18 : decode cX2_advance 18 = .ok (.getfield 33, 3) := by decide +kernel
theorem dX2_advance_21 : decode cX2_advance 21 = .ok (.aload_n 0, 1) := by decide +kernel
theorem dX2_advance_22 : decode cX2_advance 22 = .ok (.getfield 12, 3) := by decide +kernel
theorem dX2_advance_25 : decode cX2_advance 25 = .ok (.getfield 53, 3) := by decide +kernel
theorem dX2_advance_28 : decode cX2_advance 28 = .ok (.if_icmp .ge 22, 3) := by decide +kernel
theorem dX2_advance_31 : decode cX2_advance 31 = .ok (.aload_n 0, 1) := by decide +kernel
theorem dX2_advance_32 : decode cX2_advance 32 = .ok (.getfield 33, 3) := by decide +kernel
theorem dX2_advance_35 : decode cX2_advance 35 = .ok (.aload_n 0, 1) := by decide +kernel
theorem dX2_advance_36 : decode cX2_advance 36 = .ok (.getfield 12, 3) := by decide +kernel
theorem dX2_advance_39 : decode cX2_advance 39 = .ok (.getfield 56, 3) := by decide +kernel
theorem dX2_advance_42 : decode cX2_advance 42 = .ok (.arraylength, 1) := by decide +kernel
theorem dX2_advance_43 : decode cX2_advance 43 = .ok (.if_icmp .ge 7, 3) := by decide +kernel
theorem dX2_advance_46 : decode cX2_advance 46 = .ok (.iconst 1, 1) := by decide +kernel
theorem dX2_advance_47 : decode cX2_advance 47 = .ok (.goto 4, 3) := by decide +kernel
theorem dX2_advance_50 : decode cX2_advance 50 = .ok (.iconst 0, 1) := by decide +kernel
theorem dX2_advance_51 : decode cX2_advance 51 = .ok (.istore_n 1, 1) := by decide +kernel
theorem dX2_advance_52 : decode cX2_advance 52 = .ok (.aload_n 0, 1) := by decide +kernel
theorem dX2_advance_53 : decode cX2_advance 53 = .ok (.iload_n 1, 1) := by decide +kernel
theorem dX2_advance_54 : decode cX2_advance 54 = .ok (.ifCond .eq 18, 3) := by decide +kernel
theorem dX2_advance_57 : decode cX2_advance 57 = .ok (.aload_n 0, 1) := by decide +kernel
theorem dX2_advance_58 : decode cX2_advance 58 = .ok (.getfield 12, 3) := by decide +kernel
theorem dX2_advance_61 : decode cX2_advance 61 = .ok (.getfield 56, 3) := by decide +kernel
theorem dX2_advance_64 : decode cX2_advance 64 = .ok (.aload_n 0, 1) := by decide +kernel
theorem dX2_advance_65 : decode cX2_advance 65 = .ok (.getfield 33, 3) := by decide +kernel
theorem dX2_advance_68 : decode cX2_advance 68 = .ok (.iaload, 1) := by decide +kernel
theorem dX2_advance_69 : decode cX2_advance 69 = .ok (.goto 5, 3) := by decide +kernel
theorem dX2_advance_72 : decode cX2_advance 72 = .ok (.bipush 54, 2) := by decide +kernel
theorem dX2_advance_74 : decode cX2_advance 74 = .ok (.putfield 43, 3) := by decide +kernel
theorem dX2_advance_77 : decode cX2_advance 77 = .ok (.return_, 1) := by decide +kernel
theorem dX2_blame_0 : decode cX2_blame 0 = .ok (.aload_n 0, 1) := by decide +kernel
theorem dX2_blame_1 : decode cX2_blame 1 = .ok (.getfield 40, 3) := by decide +kernel
theorem dX2_blame_4 : decode cX2_blame 4 = .ok (.ifCond .ne 8, 3) := by decide +kernel
theorem dX2_blame_7 : decode cX2_blame 7 = .ok (.aload_n 0, 1) := by decide +kernel
theorem dX2_blame_8 : decode cX2_blame 8 = .ok (.iload_n 1, 1) := by decide +kernel
theorem dX2_blame_9 : decode cX2_blame 9 = .ok (.putfield 40, 3) := by decide +kernel
theorem dX2_blame_12 : decode cX2_blame 12 = .ok (.return_, 1) := by decide +kernel
theorem dX2_expect_0 : decode cX2_expect 0 = .ok (.aload_n 0, 1) := by decide +kernel
theorem dX2_expect_1 : decode cX2_expect 1 = .ok (.getfield 40, 3) := by decide +kernel
theorem dX2_expect_4 : decode cX2_expect 4 = .ok (.ifCond .ne 16, 3) := by decide +kernel
theorem dX2_expect_7 : decode cX2_expect 7 = .ok (.aload_n 0, 1) := by decide +kernel
theorem dX2_expect_8 : decode cX2_expect 8 = .ok (.getfield 43, 3) := by decide +kernel
theorem dX2_expect_11 : decode cX2_expect 11 = .ok (.iload_n 1, 1) := by decide +kernel
theorem dX2_expect_12 : decode cX2_expect 12 = .ok (.if_icmp .eq 8, 3) := by decide +kernel
theorem dX2_expect_15 : decode cX2_expect 15 = .ok (.aload_n 0, 1) := by decide +kernel
theorem dX2_expect_16 : decode cX2_expect 16 = .ok (.iconst 1, 1) := by decide +kernel
theorem dX2_expect_17 : decode cX2_expect 17 = .ok (.invokevirtual 59, 3) := by decide +kernel
theorem dX2_expect_20 : decode cX2_expect 20 = .ok (.aload_n 0, 1) := by decide +kernel
theorem dX2_expect_21 : decode cX2_expect 21 = .ok (.getfield 40, 3) := by decide +kernel
theorem dX2_expect_24 : decode cX2_expect 24 = .ok (.ifCond .ne 7, 3) := by decide +kernel
theorem dX2_expect_27 : decode cX2_expect 27 = .ok (.aload_n 0, 1) := by decide +kernel
theorem dX2_expect_28 : decode cX2_expect 28 = .ok (.invokevirtual 37, 3) := by decide +kernel
theorem dX2_expect_31 : decode cX2_expect 31 = .ok (.return_, 1) := by decide +kernel
theorem dX2_readNumber_0 : decode cX2_readNumber 0 = .ok (.aload_n 0, 1) := by decide +kernel
theorem dX2_readNumber_1 : decode cX2_readNumber 1 = .ok (.getfield 40, 3) := by decide +kernel
theorem dX2_readNumber_4 : decode cX2_readNumber 4 = .ok (.ifCond .eq 5, 3) := by decide +kernel
theorem dX2_readNumber_7 : decode cX2_readNumber 7 = .ok (.iconst 0, 1) := by decide +kernel
theorem dX2_readNumber_8 : decode cX2_readNumber 8 = .ok (.ireturn, 1) := by decide +kernel
theorem dX2_readNumber_9 : decode cX2_readNumber 9 = .ok (.aload_n 0, 1) := by decide +kernel
theorem dX2_readNumber_10 : decode cX2_readNumber 10 = .ok (.getfield 12, 3) := by decide +kernel
theorem dX2_readNumber_13 : decode cX2_readNumber 13 = .ok (.aload_n 0, 1) := by decide +kernel
theorem dX2_readNumber_14 : decode cX2_readNumber 14 = .ok (.getfield 33, 3) := by decide +kernel
theorem dX2_readNumber_17 : decode cX2_readNumber 17 = .ok (.invokevirtual 63, 3) := by decide +kernel
theorem dX2_readNumber_20 : decode cX2_readNumber 20 = .ok (.istore_n 3, 1) := by decide +kernel
theorem dX2_readNumber_21 : decode cX2_readNumber 21 = .ok (.aload_n 0, 1) := by decide +kernel
theorem dX2_readNumber_22 : decode cX2_readNumber 22 = .ok (.getfield 43, 3) := by decide +kernel
theorem dX2_readNumber_25 : decode cX2_readNumber 25 = .ok (.bipush 52, 2) := by decide +kernel
theorem dX2_readNumber_27 : decode cX2_readNumber 27 = .ok (.if_icmp .eq 11, 3) := by decide +kernel
theorem dX2_readNumber_30 : decode cX2_readNumber 30 = .ok (.aload_n 0, 1) := by decide +kernel
theorem dX2_readNumber_31 : decode cX2_readNumber 31 = .ok (.iconst 1, 1) := by decide +kernel
theorem dX2_readNumber_32 : decode cX2_readNumber 32 = .ok (.invokevirtual 59, 3) := by decide +kernel
theorem dX2_readNumber_35 : decode cX2_readNumber 35 = .ok (.goto 25, 3) := by decide +kernel
theorem dX2_readNumber_38 : decode cX2_readNumber 38 = .ok (.iload_n 3, 1) := by decide +kernel
theorem dX2_readNumber_39 : decode cX2_readNumber 39 = .ok (.iload_n 1, 1) := by decide +kernel
theorem dX2_readNumber_40 : decode cX2_readNumber 40 = .ok (.if_icmp .lt 8, 3) := by decide +kernel
theorem dX2_readNumber_43 : decode cX2_readNumber 43 = .ok (.iload_n 3, 1) := by decide +kernel
theorem dX2_readNumber_44 : decode cX2_readNumber 44 = .ok (.iload_n 2, 1) := by decide +kernel
theorem dX2_readNumber_45 : decode cX2_readNumber 45 = .ok (.if_icmp .le 11, 3) := by decide +kernel
theorem dX2_readNumber_48 : decode cX2_readNumber 48 = .ok (.aload_n 0, 1) := by decide +kernel
theorem dX2_readNumber_49 : decode cX2_readNumber 49 = .ok (.iconst 2, 1) := by decide +kernel
theorem dX2_readNumber_50 : decode cX2_readNumber 50 = .ok (.invokevirtual 59, 3) := by decide +kernel
theorem dX2_readNumber_53 : decode cX2_readNumber 53 = .ok (.goto 7, 3) := by decide +kernel
theorem dX2_readNumber_56 : decode cX2_readNumber 56 = .ok (.aload_n 0, 1) := by decide +kernel
theorem dX2_readNumber_57 : decode cX2_readNumber 57 = .ok (.invokevirtual 37, 3) := by decide +kernel
theorem dX2_readNumber_60 : decode cX2_readNumber 60 = .ok (.aload_n 0, 1) := by decide +kernel
theorem dX2_readNumber_61 : decode cX2_readNumber 61 = .ok (.getfield 40, 3) := by decide +kernel
theorem dX2_readNumber_64 : decode cX2_readNumber 64 = .ok (.ifCond .ne 7, 3) := by decide +kernel
theorem dX2_readNumber_67 : decode cX2_readNumber 67 = .ok (.iload_n 3, 1) := by decide +kernel
theorem dX2_readNumber_68 : decode cX2_readNumber 68 = .ok (.goto 4, 3) := by decide +kernel
theorem dX2_readNumber_71 : decode cX2_readNumber 71 = .ok (.iconst 0, 1) := by decide +kernel
theorem dX2_readNumber_72 : decode cX2_readNumber 72 = .ok (.ireturn, 1) := by decide +kernel
theorem dX2_readClause_0 : decode cX2_readClause 0 = .ok (.aload_n 0, 1) := by decide +kernel
theorem dX2_readClause_1 : decode cX2_readClause 1 = .ok (.getfield 43, 3) := by decide +kernel
theorem dX2_readClause_4 : decode cX2_readClause 4 = .ok (.istore_n 1, 1) := by decide +kernel
theorem dX2_readClause_5 : decode cX2_readClause 5 = .ok (.iload_n 1, 1) := by decide +kernel
theorem dX2_readClause_6 : decode cX2_readClause 6 = .ok (.iconst 1, 1) := by decide +kernel
theorem dX2_readClause_7 : decode cX2_readClause 7 = .ok (.iconst 3, 1) := by decide +kernel
theorem dX2_readClause_8 : decode cX2_readClause 8 = .ok (.invokestatic 66, 3) := by decide +kernel
theorem dX2_readClause_11 : decode cX2_readClause 11 = .ok (.istore_n 2, 1) := by decide +kernel
theorem dX2_readClause_12 : decode cX2_readClause 12 = .ok (.iload_n 1, 1) := by decide +kernel
theorem dX2_readClause_13 : decode cX2_readClause 13 = .ok (.iconst 1, 1) := by decide +kernel
theorem dX2_readClause_14 : decode cX2_readClause 14 = .ok (.bipush 10, 2) := by decide +kernel
theorem dX2_readClause_16 : decode cX2_readClause 16 = .ok (.invokestatic 66, 3) := by decide +kernel
theorem dX2_readClause_19 : decode cX2_readClause 19 = .ok (.ifCond .ne 11, 3) := by decide +kernel
theorem dX2_readClause_22 : decode cX2_readClause 22 = .ok (.aload_n 0, 1) := by decide +kernel
theorem dX2_readClause_23 : decode cX2_readClause 23 = .ok (.iconst 1, 1) := by decide +kernel
theorem dX2_readClause_24 : decode cX2_readClause 24 = .ok (.invokevirtual 59, 3) := by decide +kernel
theorem dX2_readClause_27 : decode cX2_readClause 27 = .ok (.goto 117, 3) := by decide +kernel
theorem dX2_readClause_30 : decode cX2_readClause 30 = .ok (.iload_n 2, 1) := by decide +kernel
theorem dX2_readClause_31 : decode cX2_readClause 31 = .ok (.ifCond .eq 23, 3) := by decide +kernel
theorem dX2_readClause_34 : decode cX2_readClause 34 = .ok (.aload_n 0, 1) := by decide +kernel
theorem dX2_readClause_35 : decode cX2_readClause 35 = .ok (.getfield 25, 3) := by decide +kernel
theorem dX2_readClause_38 : decode cX2_readClause 38 = .ok (.iload_n 1, 1) := by decide +kernel
theorem dX2_readClause_39 : decode cX2_readClause 39 = .ok (.invokevirtual 70, 3) := by decide +kernel
theorem dX2_readClause_42 : decode cX2_readClause 42 = .ok (.arraylength, 1) := by decide +kernel
theorem dX2_readClause_43 : decode cX2_readClause 43 = .ok (.ifCond .le 11, 3) := by decide +kernel
theorem dX2_readClause_46 : decode cX2_readClause 46 = .ok (.aload_n 0, 1) := by decide +kernel
theorem dX2_readClause_47 : decode cX2_readClause 47 = .ok (.iconst 4, 1) := by decide +kernel
theorem dX2_readClause_48 : decode cX2_readClause 48 = .ok (.invokevirtual 59, 3) := by decide +kernel
theorem dX2_readClause_51 : decode cX2_readClause 51 = .ok (.goto 93, 3) := by decide +kernel
theorem dX2_readClause_54 : decode cX2_readClause 54 = .ok (.aload_n 0, 1) := by decide +kernel
theorem dX2_readClause_55 : decode cX2_readClause 55 = .ok (.getfield 25, 3) := by decide +kernel
theorem dX2_readClause_58 : decode cX2_readClause 58 = .ok (.getfield 74, 3) := by decide +kernel
theorem dX2_readClause_61 : decode cX2_readClause 61 = .ok (.getfield 78, 3) := by decide +kernel
theorem dX2_readClause_64 : decode cX2_readClause 64 = .ok (.bipush 24, 2) := by decide +kernel
theorem dX2_readClause_66 : decode cX2_readClause 66 = .ok (.if_icmp .lt 12, 3) := by decide +kernel
theorem dX2_readClause_69 : decode cX2_readClause 69 = .ok (.aload_n 0, 1) := by decide +kernel
theorem dX2_readClause_70 : decode cX2_readClause 70 = .ok (.bipush 6, 2) := by decide +kernel
theorem dX2_readClause_72 : decode cX2_readClause 72 = .ok (.invokevirtual 59, 3) := by decide +kernel
theorem dX2_readClause_75 : decode cX2_readClause 75 = .ok (.goto 69, 3) := by decide +kernel
theorem dX2_readClause_78 : decode cX2_readClause 78 = .ok (.aload_n 0, 1) := by decide +kernel
theorem dX2_readClause_79 : decode cX2_readClause 79 = .ok (.getfield 25, 3) := by decide +kernel
theorem dX2_readClause_82 : decode cX2_readClause 82 = .ok (.getfield 74, 3) := by decide +kernel
theorem dX2_readClause_85 : decode cX2_readClause 85 = .ok (.invokevirtual 81, 3) := by decide +kernel
theorem dX2_readClause_88 : decode cX2_readClause 88 = .ok (.istore_n 3, 1) := by decide +kernel
theorem dX2_readClause_89 : decode cX2_readClause 89 = .ok (.aload_n 0, 1) := by decide +kernel
theorem dX2_readClause_90 : decode cX2_readClause 90 = .ok (.getfield 25, 3) := by decide +kernel
theorem dX2_readClause_93 : decode cX2_readClause 93 = .ok (.getfield 74, 3) := by decide +kernel
theorem dX2_readClause_96 : decode cX2_readClause 96 = .ok (.iload_n 3, 1) := by decide +kernel
theorem dX2_readClause_97 : decode cX2_readClause 97 = .ok (.iconst 0, 1) := by decide +kernel
theorem dX2_readClause_98 : decode cX2_readClause 98 = .ok (.iload_n 1, 1) := by decide +kernel
theorem dX2_readClause_99 : decode cX2_readClause 99 = .ok (.invokevirtual 85, 3) := by decide +kernel
theorem dX2_readClause_102 : decode cX2_readClause 102 = .ok (.aload_n 0, 1) := by decide +kernel
theorem dX2_readClause_103 : decode cX2_readClause 103 = .ok (.invokevirtual 37, 3) := by decide +kernel
theorem dX2_readClause_106 : decode cX2_readClause 106 = .ok (.iload_n 2, 1) := by decide +kernel
theorem dX2_readClause_107 : decode cX2_readClause 107 = .ok (.ifCond .eq 11, 3) := by decide +kernel
theorem dX2_readClause_110 : decode cX2_readClause 110 = .ok (.aload_n 0, 1) := by decide +kernel
theorem dX2_readClause_111 : decode cX2_readClause 111 = .ok (.iload_n 1, 1) := by decide +kernel
theorem dX2_readClause_112 : decode cX2_readClause 112 = .ok (.invokevirtual 89, 3) := by decide +kernel
theorem dX2_readClause_115 : decode cX2_readClause 115 = .ok (.goto 23, 3) := by decide +kernel
theorem dX2_readClause_118 : decode cX2_readClause 118 = .ok (.iload_n 1, 1) := by decide +kernel
theorem dX2_readClause_119 : decode cX2_readClause 119 = .ok (.bipush 6, 2) := by decide +kernel
theorem dX2_readClause_121 : decode cX2_readClause 121 = .ok (.if_icmp .ne 11, 3) := by decide +kernel
theorem dX2_readClause_124 : decode cX2_readClause 124 = .ok (.aload_n 0, 1) := by decide +kernel
theorem dX2_readClause_125 : decode cX2_readClause 125 = .ok (.iload_n 3, 1) := by decide +kernel
theorem dX2_readClause_126 : decode cX2_readClause 126 = .ok (.invokevirtual 92, 3) := by decide +kernel
theorem dX2_readClause_129 : decode cX2_readClause 129 = .ok (.goto 9, 3) := by decide +kernel
theorem dX2_readClause_132 : decode cX2_readClause 132 = .ok (.aload_n 0, 1) := by decide +kernel
theorem dX2_readClause_133 : decode cX2_readClause 133 = .ok (.iload_n 1, 1) := by decide +kernel
theorem dX2_readClause_134 : decode cX2_readClause 134 = .ok (.iload_n 3, 1) := by decide +kernel
theorem dX2_readClause_135 : decode cX2_readClause 135 = .ok (.invokevirtual 95, 3) := by decide +kernel
theorem dX2_readClause_138 : decode cX2_readClause 138 = .ok (.aload_n 0, 1) := by decide +kernel
theorem dX2_readClause_139 : decode cX2_readClause 139 = .ok (.bipush 51, 2) := by decide +kernel
theorem dX2_readClause_141 : decode cX2_readClause 141 = .ok (.invokevirtual 99, 3) := by decide +kernel
theorem dX2_readClause_144 : decode cX2_readClause 144 = .ok (.return_, 1) := by decide +kernel
theorem dX2_readLaw_0 : decode cX2_readLaw 0 = .ok (.aload_n 0, 1) := by decide +kernel
theorem dX2_readLaw_1 : decode cX2_readLaw 1 = .ok (.iload_n 1, 1) := by decide +kernel
theorem dX2_readLaw_2 : decode cX2_readLaw 2 = .ok (.putfield 102, 3) := by decide +kernel
theorem dX2_readLaw_5 : decode cX2_readLaw 5 = .ok (.aload_n 0, 1) := by decide +kernel
theorem dX2_readLaw_6 : decode cX2_readLaw 6 = .ok (.iconst 0, 1) := by decide +kernel
theorem dX2_readLaw_7 : decode cX2_readLaw 7 = .ok (.putfield 105, 3) := by decide +kernel
theorem dX2_readLaw_10 : decode cX2_readLaw 10 = .ok (.aload_n 0, 1) := by decide +kernel
theorem dX2_readLaw_11 : decode cX2_readLaw 11 = .ok (.iconst 0, 1) := by decide +kernel
theorem dX2_readLaw_12 : decode cX2_readLaw 12 = .ok (.invokevirtual 108, 3) := by decide +kernel
theorem dX2_readLaw_15 : decode cX2_readLaw 15 = .ok (.aload_n 0, 1) := by decide +kernel
theorem dX2_readLaw_16 : decode cX2_readLaw 16 = .ok (.getfield 40, 3) := by decide +kernel
theorem dX2_readLaw_19 : decode cX2_readLaw 19 = .ok (.ifCond .ne 49, 3) := by decide +kernel
theorem dX2_readLaw_22 : decode cX2_readLaw 22 = .ok (.aload_n 0, 1) := by decide +kernel
theorem dX2_readLaw_23 : decode cX2_readLaw 23 = .ok (.getfield 105, 3) := by decide +kernel
theorem dX2_readLaw_26 : decode cX2_readLaw 26 = .ok (.iconst 1, 1) := by decide +kernel
theorem dX2_readLaw_27 : decode cX2_readLaw 27 = .ok (.aload_n 0, 1) := by decide +kernel
theorem dX2_readLaw_28 : decode cX2_readLaw 28 = .ok (.getfield 18, 3) := by decide +kernel
theorem dX2_readLaw_31 : decode cX2_readLaw 31 = .ok (.arraylength, 1) := by decide +kernel
theorem dX2_readLaw_32 : decode cX2_readLaw 32 = .ok (.invokestatic 66, 3) := by decide +kernel
theorem dX2_readLaw_35 : decode cX2_readLaw 35 = .ok (.ifCond .eq 33, 3) := by decide +kernel
theorem dX2_readLaw_38 : decode cX2_readLaw 38 = .ok (.aload_n 0, 1) := by decide +kernel
theorem dX2_readLaw_39 : decode cX2_readLaw 39 = .ok (.getfield 105, 3) := by decide +kernel
theorem dX2_readLaw_42 : decode cX2_readLaw 42 = .ok (.newarray .int, 2) := by decide +kernel
theorem dX2_readLaw_44 : decode cX2_readLaw 44 = .ok (.astore_n 2, 1) := by decide +kernel
theorem dX2_readLaw_45 : decode cX2_readLaw 45 = .ok (.aload_n 0, 1) := by decide +kernel
theorem dX2_readLaw_46 : decode cX2_readLaw 46 = .ok (.getfield 18, 3) := by decide +kernel
theorem dX2_readLaw_49 : decode cX2_readLaw 49 = .ok (.iconst 0, 1) := by decide +kernel
theorem dX2_readLaw_50 : decode cX2_readLaw 50 = .ok (.aload_n 2, 1) := by decide +kernel
theorem dX2_readLaw_51 : decode cX2_readLaw 51 = .ok (.iconst 0, 1) := by decide +kernel
theorem dX2_readLaw_52 : decode cX2_readLaw 52 = .ok (.aload_n 0, 1) := by decide +kernel
theorem dX2_readLaw_53 : decode cX2_readLaw 53 = .ok (.getfield 105, 3) := by decide +kernel
theorem dX2_readLaw_56 : decode cX2_readLaw 56 = .ok (.invokestatic 111, 3) := by decide +kernel
theorem dX2_readLaw_59 : decode cX2_readLaw 59 = .ok (.aload_n 0, 1) := by decide +kernel
theorem dX2_readLaw_60 : decode cX2_readLaw 60 = .ok (.getfield 25, 3) := by decide +kernel
theorem dX2_readLaw_63 : decode cX2_readLaw 63 = .ok (.iload_n 1, 1) := by decide +kernel
theorem dX2_readLaw_64 : decode cX2_readLaw 64 = .ok (.aload_n 2, 1) := by decide +kernel
theorem dX2_readLaw_65 : decode cX2_readLaw 65 = .ok (.invokevirtual 117, 3) := by decide +kernel
theorem dX2_readLaw_68 : decode cX2_readLaw 68 = .ok (.return_, 1) := by decide +kernel
theorem dX2_readAct_0 : decode cX2_readAct 0 = .ok (.aload_n 0, 1) := by decide +kernel
theorem dX2_readAct_1 : decode cX2_readAct 1 = .ok (.getfield 25, 3) := by decide +kernel
theorem dX2_readAct_4 : decode cX2_readAct 4 = .ok (.getfield 74, 3) := by decide +kernel
theorem dX2_readAct_7 : decode cX2_readAct 7 = .ok (.astore_n 3, 1) := by decide +kernel
theorem dX2_readAct_8 : decode cX2_readAct 8 = .ok (.iload_n 1, 1) := by decide +kernel
theorem dX2_readAct_9 : decode cX2_readAct 9 = .ok (.tableswitch 184 4 10 #[43, 78, 184, 184, 184, 114, 168], 43) := by decide +kernel
theorem dX2_readAct_52 : decode cX2_readAct 52 = .ok (.aload_n 3, 1) := by decide +kernel
theorem dX2_readAct_53 : decode cX2_readAct 53 = .ok (.iload_n 2, 1) := by decide +kernel
theorem dX2_readAct_54 : decode cX2_readAct 54 = .ok (.iconst 1, 1) := by decide +kernel
theorem dX2_readAct_55 : decode cX2_readAct 55 = .ok (.aload_n 0, 1) := by decide +kernel
theorem dX2_readAct_56 : decode cX2_readAct 56 = .ok (.iconst 0, 1) := by decide +kernel
theorem dX2_readAct_57 : decode cX2_readAct 57 = .ok (.bipush 10, 2) := by decide +kernel
theorem dX2_readAct_59 : decode cX2_readAct 59 = .ok (.invokevirtual 121, 3) := by decide +kernel
theorem dX2_readAct_62 : decode cX2_readAct 62 = .ok (.invokevirtual 85, 3) := by decide +kernel
theorem dX2_readAct_65 : decode cX2_readAct 65 = .ok (.aload_n 0, 1) := by decide +kernel
theorem dX2_readAct_66 : decode cX2_readAct 66 = .ok (.bipush 11, 2) := by decide +kernel
theorem dX2_readAct_68 : decode cX2_readAct 68 = .ok (.invokevirtual 99, 3) := by decide +kernel
theorem dX2_readAct_71 : decode cX2_readAct 71 = .ok (.aload_n 3, 1) := by decide +kernel
theorem dX2_readAct_72 : decode cX2_readAct 72 = .ok (.iload_n 2, 1) := by decide +kernel
theorem dX2_readAct_73 : decode cX2_readAct 73 = .ok (.iconst 2, 1) := by decide +kernel
theorem dX2_readAct_74 : decode cX2_readAct 74 = .ok (.aload_n 0, 1) := by decide +kernel
theorem dX2_readAct_75 : decode cX2_readAct 75 = .ok (.iconst 0, 1) := by decide +kernel
theorem dX2_readAct_76 : decode cX2_readAct 76 = .ok (.bipush 99, 2) := by decide +kernel
theorem dX2_readAct_78 : decode cX2_readAct 78 = .ok (.invokevirtual 121, 3) := by decide +kernel
theorem dX2_readAct_81 : decode cX2_readAct 81 = .ok (.invokevirtual 85, 3) := by decide +kernel
theorem dX2_readAct_84 : decode cX2_readAct 84 = .ok (.goto 140, 3) := by decide +kernel
theorem dX2_readAct_87 : decode cX2_readAct 87 = .ok (.aload_n 3, 1) := by decide +kernel
theorem dX2_readAct_88 : decode cX2_readAct 88 = .ok (.iload_n 2, 1) := by decide +kernel
theorem dX2_readAct_89 : decode cX2_readAct 89 = .ok (.iconst 1, 1) := by decide +kernel
theorem dX2_readAct_90 : decode cX2_readAct 90 = .ok (.aload_n 0, 1) := by decide +kernel
theorem dX2_readAct_91 : decode cX2_readAct 91 = .ok (.iconst 0, 1) := by decide +kernel
theorem dX2_readAct_92 : decode cX2_readAct 92 = .ok (.sipush 9999, 3) := by decide +kernel
theorem dX2_readAct_95 : decode cX2_readAct 95 = .ok (.invokevirtual 121, 3) := by decide +kernel
theorem dX2_readAct_98 : decode cX2_readAct 98 = .ok (.invokevirtual 85, 3) := by decide +kernel
theorem dX2_readAct_101 : decode cX2_readAct 101 = .ok (.aload_n 0, 1) := by decide +kernel
theorem dX2_readAct_102 : decode cX2_readAct 102 = .ok (.bipush 12, 2) := by decide +kernel
theorem dX2_readAct_104 : decode cX2_readAct 104 = .ok (.invokevirtual 99, 3) := by decide +kernel
theorem dX2_readAct_107 : decode cX2_readAct 107 = .ok (.aload_n 3, 1) := by decide +kernel
theorem dX2_readAct_108 : decode cX2_readAct 108 = .ok (.iload_n 2, 1) := by decide +kernel
theorem dX2_readAct_109 : decode cX2_readAct 109 = .ok (.iconst 2, 1) := by decide +kernel
theorem dX2_readAct_110 : decode cX2_readAct 110 = .ok (.aload_n 0, 1) := by decide +kernel
theorem dX2_readAct_111 : decode cX2_readAct 111 = .ok (.iconst 0, 1) := by decide +kernel
theorem dX2_readAct_112 : decode cX2_readAct 112 = .ok (.bipush 99, 2) := by decide +kernel
theorem dX2_readAct_114 : decode cX2_readAct 114 = .ok (.invokevirtual 121, 3) := by decide +kernel
theorem dX2_readAct_117 : decode cX2_readAct 117 = .ok (.invokevirtual 85, 3) := by decide +kernel
theorem dX2_readAct_120 : decode cX2_readAct 120 = .ok (.goto 104, 3) := by decide +kernel
theorem dX2_readAct_123 : decode cX2_readAct 123 = .ok (.aload_n 3, 1) := by decide +kernel
theorem dX2_readAct_124 : decode cX2_readAct 124 = .ok (.iload_n 2, 1) := by decide +kernel
theorem dX2_readAct_125 : decode cX2_readAct 125 = .ok (.iconst 1, 1) := by decide +kernel
theorem dX2_readAct_126 : decode cX2_readAct 126 = .ok (.aload_n 0, 1) := by decide +kernel
theorem dX2_readAct_127 : decode cX2_readAct 127 = .ok (.iconst 0, 1) := by decide +kernel
theorem dX2_readAct_128 : decode cX2_readAct 128 = .ok (.bipush 11, 2) := by decide +kernel
theorem dX2_readAct_130 : decode cX2_readAct 130 = .ok (.invokevirtual 121, 3) := by decide +kernel
theorem dX2_readAct_133 : decode cX2_readAct 133 = .ok (.invokevirtual 85, 3) := by decide +kernel
theorem dX2_readAct_136 : decode cX2_readAct 136 = .ok (.aload_n 0, 1) := by decide +kernel
theorem dX2_readAct_137 : decode cX2_readAct 137 = .ok (.bipush 18, 2) := by decide +kernel
theorem dX2_readAct_139 : decode cX2_readAct 139 = .ok (.invokevirtual 99, 3) := by decide +kernel
theorem dX2_readAct_142 : decode cX2_readAct 142 = .ok (.aload_n 3, 1) := by decide +kernel
theorem dX2_readAct_143 : decode cX2_readAct 143 = .ok (.iload_n 2, 1) := by decide +kernel
theorem dX2_readAct_144 : decode cX2_readAct 144 = .ok (.iconst 2, 1) := by decide +kernel
theorem dX2_readAct_145 : decode cX2_readAct 145 = .ok (.aload_n 0, 1) := by decide +kernel
theorem dX2_readAct_146 : decode cX2_readAct 146 = .ok (.iconst 0, 1) := by decide +kernel
theorem dX2_readAct_147 : decode cX2_readAct 147 = .ok (.iconst 4, 1) := by decide +kernel
theorem dX2_readAct_148 : decode cX2_readAct 148 = .ok (.invokevirtual 121, 3) := by decide +kernel
theorem dX2_readAct_151 : decode cX2_readAct 151 = .ok (.invokevirtual 85, 3) := by decide +kernel
theorem dX2_readAct_154 : decode cX2_readAct 154 = .ok (.aload_n 0, 1) := by decide +kernel
theorem dX2_readAct_155 : decode cX2_readAct 155 = .ok (.bipush 19, 2) := by decide +kernel
theorem dX2_readAct_157 : decode cX2_readAct 157 = .ok (.invokevirtual 99, 3) := by decide +kernel
theorem dX2_readAct_160 : decode cX2_readAct 160 = .ok (.aload_n 3, 1) := by decide +kernel
theorem dX2_readAct_161 : decode cX2_readAct 161 = .ok (.iload_n 2, 1) := by decide +kernel
theorem dX2_readAct_162 : decode cX2_readAct 162 = .ok (.iconst 3, 1) := by decide +kernel
theorem dX2_readAct_163 : decode cX2_readAct 163 = .ok (.aload_n 0, 1) := by decide +kernel
theorem dX2_readAct_164 : decode cX2_readAct 164 = .ok (.iconst 0, 1) := by decide +kernel
theorem dX2_readAct_165 : decode cX2_readAct 165 = .ok (.sipush 999, 3) := by decide +kernel
theorem dX2_readAct_168 : decode cX2_readAct 168 = .ok (.invokevirtual 121, 3) := by decide +kernel
theorem dX2_readAct_171 : decode cX2_readAct 171 = .ok (.invokevirtual 85, 3) := by decide +kernel
theorem dX2_readAct_174 : decode cX2_readAct 174 = .ok (.goto 50, 3) := by decide +kernel
theorem dX2_readAct_177 : decode cX2_readAct 177 = .ok (.aload_n 3, 1) := by decide +kernel
theorem dX2_readAct_178 : decode cX2_readAct 178 = .ok (.iload_n 2, 1) := by decide +kernel
theorem dX2_readAct_179 : decode cX2_readAct 179 = .ok (.iconst 1, 1) := by decide +kernel
theorem dX2_readAct_180 : decode cX2_readAct 180 = .ok (.aload_n 0, 1) := by decide +kernel
theorem dX2_readAct_181 : decode cX2_readAct 181 = .ok (.iconst 1, 1) := by decide +kernel
theorem dX2_readAct_182 : decode cX2_readAct 182 = .ok (.bipush 60, 2) := by decide +kernel
theorem dX2_readAct_184 : decode cX2_readAct 184 = .ok (.invokevirtual 121, 3) := by decide +kernel
theorem dX2_readAct_187 : decode cX2_readAct 187 = .ok (.invokevirtual 85, 3) := by decide +kernel
theorem dX2_readAct_190 : decode cX2_readAct 190 = .ok (.goto 34, 3) := by decide +kernel
theorem dX2_readAct_193 : decode cX2_readAct 193 = .ok (.aload_n 3, 1) := by decide +kernel
theorem dX2_readAct_194 : decode cX2_readAct 194 = .ok (.iload_n 2, 1) := by decide +kernel
theorem dX2_readAct_195 : decode cX2_readAct 195 = .ok (.iconst 1, 1) := by decide +kernel
theorem dX2_readAct_196 : decode cX2_readAct 196 = .ok (.aload_n 0, 1) := by decide +kernel
theorem dX2_readAct_197 : decode cX2_readAct 197 = .ok (.iconst 0, 1) := by decide +kernel
theorem dX2_readAct_198 : decode cX2_readAct 198 = .ok (.bipush 7, 2) := by decide +kernel
theorem dX2_readAct_200 : decode cX2_readAct 200 = .ok (.invokevirtual 121, 3) := by decide +kernel
theorem dX2_readAct_203 : decode cX2_readAct 203 = .ok (.invokevirtual 85, 3) := by decide +kernel
theorem dX2_readAct_206 : decode cX2_readAct 206 = .ok (.aload_n 0, 1) := by decide +kernel
theorem dX2_readAct_207 : decode cX2_readAct 207 = .ok (.bipush 17, 2) := by decide +kernel
theorem dX2_readAct_209 : decode cX2_readAct 209 = .ok (.invokevirtual 99, 3) := by decide +kernel
theorem dX2_readAct_212 : decode cX2_readAct 212 = .ok (.aload_n 3, 1) := by decide +kernel
theorem dX2_readAct_213 : decode cX2_readAct 213 = .ok (.iload_n 2, 1) := by decide +kernel
theorem dX2_readAct_214 : decode cX2_readAct 214 = .ok (.iconst 2, 1) := by decide +kernel
theorem dX2_readAct_215 : decode cX2_readAct 215 = .ok (.aload_n 0, 1) := by decide +kernel
theorem dX2_readAct_216 : decode cX2_readAct 216 = .ok (.iconst 0, 1) := by decide +kernel
theorem dX2_readAct_217 : decode cX2_readAct 217 = .ok (.iconst 4, 1) := by decide +kernel
theorem dX2_readAct_218 : decode cX2_readAct 218 = .ok (.invokevirtual 121, 3) := by decide +kernel
theorem dX2_readAct_221 : decode cX2_readAct 221 = .ok (.invokevirtual 85, 3) := by decide +kernel
theorem dX2_readAct_224 : decode cX2_readAct 224 = .ok (.return_, 1) := by decide +kernel
theorem dX2_readForetell_0 : decode cX2_readForetell 0 = .ok (.aload_n 0, 1) := by decide +kernel
theorem dX2_readForetell_1 : decode cX2_readForetell 1 = .ok (.getfield 25, 3) := by decide +kernel
theorem dX2_readForetell_4 : decode cX2_readForetell 4 = .ok (.getfield 74, 3) := by decide +kernel
theorem dX2_readForetell_7 : decode cX2_readForetell 7 = .ok (.astore_n 2, 1) := by decide +kernel
theorem dX2_readForetell_8 : decode cX2_readForetell 8 = .ok (.aload_n 2, 1) := by decide +kernel
theorem dX2_readForetell_9 : decode cX2_readForetell 9 = .ok (.iload_n 1, 1) := by decide +kernel
theorem dX2_readForetell_10 : decode cX2_readForetell 10 = .ok (.iconst 1, 1) := by decide +kernel
theorem dX2_readForetell_11 : decode cX2_readForetell 11 = .ok (.aload_n 0, 1) := by decide +kernel
theorem dX2_readForetell_12 : decode cX2_readForetell 12 = .ok (.iconst 0, 1) := by decide +kernel
theorem dX2_readForetell_13 : decode cX2_readForetell 13 = .ok (.iconst 4, 1) := by decide +kernel
theorem dX2_readForetell_14 : decode cX2_readForetell 14 = .ok (.invokevirtual 121, 3) := by decide +kernel
theorem dX2_readForetell_17 : decode cX2_readForetell 17 = .ok (.invokevirtual 85, 3) := by decide +kernel
theorem dX2_readForetell_20 : decode cX2_readForetell 20 = .ok (.aload_n 2, 1) := by decide +kernel
theorem dX2_readForetell_21 : decode cX2_readForetell 21 = .ok (.iload_n 1, 1) := by decide +kernel
theorem dX2_readForetell_22 : decode cX2_readForetell 22 = .ok (.iconst 2, 1) := by decide +kernel
theorem dX2_readForetell_23 : decode cX2_readForetell 23 = .ok (.aload_n 0, 1) := by decide +kernel
theorem dX2_readForetell_24 : decode cX2_readForetell 24 = .ok (.getfield 43, 3) := by decide +kernel
theorem dX2_readForetell_27 : decode cX2_readForetell 27 = .ok (.bipush 14, 2) := by decide +kernel
theorem dX2_readForetell_29 : decode cX2_readForetell 29 = .ok (.if_icmp .ne 7, 3) := by decide +kernel
theorem dX2_readForetell_32 : decode cX2_readForetell 32 = .ok (.iconst 1, 1) := by decide +kernel
theorem dX2_readForetell_33 : decode cX2_readForetell 33 = .ok (.goto 4, 3) := by decide +kernel
theorem dX2_readForetell_36 : decode cX2_readForetell 36 = .ok (.iconst 0, 1) := by decide +kernel
theorem dX2_readForetell_37 : decode cX2_readForetell 37 = .ok (.invokevirtual 85, 3) := by decide +kernel
theorem dX2_readForetell_40 : decode cX2_readForetell 40 = .ok (.aload_n 0, 1) := by decide +kernel
theorem dX2_readForetell_41 : decode cX2_readForetell 41 = .ok (.aload_n 0, 1) := by decide +kernel
theorem dX2_readForetell_42 : decode cX2_readForetell 42 = .ok (.getfield 43, 3) := by decide +kernel
theorem dX2_readForetell_45 : decode cX2_readForetell 45 = .ok (.bipush 14, 2) := by decide +kernel
theorem dX2_readForetell_47 : decode cX2_readForetell 47 = .ok (.if_icmp .ne 8, 3) := by decide +kernel
theorem dX2_readForetell_50 : decode cX2_readForetell 50 = .ok (.bipush 14, 2) := by decide +kernel
theorem dX2_readForetell_52 : decode cX2_readForetell 52 = .ok (.goto 5, 3) := by decide +kernel
theorem dX2_readForetell_55 : decode cX2_readForetell 55 = .ok (.bipush 13, 2) := by decide +kernel
theorem dX2_readForetell_57 : decode cX2_readForetell 57 = .ok (.invokevirtual 99, 3) := by decide +kernel
theorem dX2_readForetell_60 : decode cX2_readForetell 60 = .ok (.aload_n 2, 1) := by decide +kernel
theorem dX2_readForetell_61 : decode cX2_readForetell 61 = .ok (.iload_n 1, 1) := by decide +kernel
theorem dX2_readForetell_62 : decode cX2_readForetell 62 = .ok (.iconst 3, 1) := by decide +kernel
theorem dX2_readForetell_63 : decode cX2_readForetell 63 = .ok (.aload_n 0, 1) := by decide +kernel
theorem dX2_readForetell_64 : decode cX2_readForetell 64 = .ok (.invokevirtual 125, 3) := by decide +kernel
theorem dX2_readForetell_67 : decode cX2_readForetell 67 = .ok (.invokevirtual 85, 3) := by decide +kernel
theorem dX2_readForetell_70 : decode cX2_readForetell 70 = .ok (.aload_n 0, 1) := by decide +kernel
theorem dX2_readForetell_71 : decode cX2_readForetell 71 = .ok (.bipush 15, 2) := by decide +kernel
theorem dX2_readForetell_73 : decode cX2_readForetell 73 = .ok (.invokevirtual 99, 3) := by decide +kernel
theorem dX2_readForetell_76 : decode cX2_readForetell 76 = .ok (.aload_n 2, 1) := by decide +kernel
theorem dX2_readForetell_77 : decode cX2_readForetell 77 = .ok (.iload_n 1, 1) := by decide +kernel
theorem dX2_readForetell_78 : decode cX2_readForetell 78 = .ok (.iconst 4, 1) := by decide +kernel
theorem dX2_readForetell_79 : decode cX2_readForetell 79 = .ok (.aload_n 0, 1) := by decide +kernel
theorem dX2_readForetell_80 : decode cX2_readForetell 80 = .ok (.iconst 1, 1) := by decide +kernel
theorem dX2_readForetell_81 : decode cX2_readForetell 81 = .ok (.bipush 99, 2) := by decide +kernel
theorem dX2_readForetell_83 : decode cX2_readForetell 83 = .ok (.invokevirtual 121, 3) := by decide +kernel
theorem dX2_readForetell_86 : decode cX2_readForetell 86 = .ok (.invokevirtual 85, 3) := by decide +kernel
theorem dX2_readForetell_89 : decode cX2_readForetell 89 = .ok (.aload_n 0, 1) := by decide +kernel
theorem dX2_readForetell_90 : decode cX2_readForetell 90 = .ok (.bipush 16, 2) := by decide +kernel
theorem dX2_readForetell_92 : decode cX2_readForetell 92 = .ok (.invokevirtual 99, 3) := by decide +kernel
theorem dX2_readForetell_95 : decode cX2_readForetell 95 = .ok (.aload_n 2, 1) := by decide +kernel
theorem dX2_readForetell_96 : decode cX2_readForetell 96 = .ok (.iload_n 1, 1) := by decide +kernel
theorem dX2_readForetell_97 : decode cX2_readForetell 97 = .ok (.iconst 5, 1) := by decide +kernel
theorem dX2_readForetell_98 : decode cX2_readForetell 98 = .ok (.aload_n 0, 1) := by decide +kernel
theorem dX2_readForetell_99 : decode cX2_readForetell 99 = .ok (.iconst 0, 1) := by decide +kernel
theorem dX2_readForetell_100 : decode cX2_readForetell 100 = .ok (.sipush 999, 3) := by decide +kernel
theorem dX2_readForetell_103 : decode cX2_readForetell 103 = .ok (.invokevirtual 121, 3) := by decide +kernel
theorem dX2_readForetell_106 : decode cX2_readForetell 106 = .ok (.invokevirtual 85, 3) := by decide +kernel
theorem dX2_readForetell_109 : decode cX2_readForetell 109 = .ok (.return_, 1) := by decide +kernel
theorem dX2_readFacts_0 : decode cX2_readFacts 0 = .ok (.aload_n 0, 1) := by decide +kernel
theorem dX2_readFacts_1 : decode cX2_readFacts 1 = .ok (.iconst 0, 1) := by decide +kernel
theorem dX2_readFacts_2 : decode cX2_readFacts 2 = .ok (.bipush 7, 2) := by decide +kernel
theorem dX2_readFacts_4 : decode cX2_readFacts 4 = .ok (.invokevirtual 121, 3) := by decide +kernel
theorem dX2_readFacts_7 : decode cX2_readFacts 7 = .ok (.invokestatic 128, 3) := by decide +kernel
theorem dX2_readFacts_10 : decode cX2_readFacts 10 = .ok (.istore_n 1, 1) := by decide +kernel
theorem dX2_readFacts_11 : decode cX2_readFacts 11 = .ok (.iconst 1, 1) := by decide +kernel
theorem dX2_readFacts_12 : decode cX2_readFacts 12 = .ok (.istore_n 2, 1) := by decide +kernel
theorem dX2_readFacts_13 : decode cX2_readFacts 13 = .ok (.aload_n 0, 1) := by decide +kernel
theorem dX2_readFacts_14 : decode cX2_readFacts 14 = .ok (.getfield 40, 3) := by decide +kernel
theorem dX2_readFacts_17 : decode cX2_readFacts 17 = .ok (.ifCond .ne 56, 3) := by decide +kernel
theorem dX2_readFacts_20 : decode cX2_readFacts 20 = .ok (.aload_n 0, 1) := by decide +kernel
theorem dX2_readFacts_21 : decode cX2_readFacts 21 = .ok (.getfield 43, 3) := by decide +kernel
theorem dX2_readFacts_24 : decode cX2_readFacts 24 = .ok (.bipush 50, 2) := by decide +kernel
theorem dX2_readFacts_26 : decode cX2_readFacts 26 = .ok (.if_icmp .ne 47, 3) := by decide +kernel
theorem dX2_readFacts_29 : decode cX2_readFacts 29 = .ok (.iload_n 2, 1) := by decide +kernel
theorem dX2_readFacts_30 : decode cX2_readFacts 30 = .ok (.bipush 8, 2) := by decide +kernel
theorem dX2_readFacts_32 : decode cX2_readFacts 32 = .ok (.if_icmp .gt 41, 3) := by decide +kernel
theorem dX2_readFacts_35 : decode cX2_readFacts 35 = .ok (.iload_n 2, 1) := by decide +kernel
theorem dX2_readFacts_36 : decode cX2_readFacts 36 = .ok (.bipush 8, 2) := by decide +kernel
theorem dX2_readFacts_38 : decode cX2_readFacts 38 = .ok (.if_icmp .ne 12, 3) := by decide +kernel
theorem dX2_readFacts_41 : decode cX2_readFacts 41 = .ok (.aload_n 0, 1) := by decide +kernel
theorem dX2_readFacts_42 : decode cX2_readFacts 42 = .ok (.bipush 7, 2) := by decide +kernel
theorem dX2_readFacts_44 : decode cX2_readFacts 44 = .ok (.invokevirtual 59, 3) := by decide +kernel
theorem dX2_readFacts_47 : decode cX2_readFacts 47 = .ok (.goto 20, 3) := by decide +kernel
theorem dX2_readFacts_50 : decode cX2_readFacts 50 = .ok (.aload_n 0, 1) := by decide +kernel
theorem dX2_readFacts_51 : decode cX2_readFacts 51 = .ok (.invokevirtual 37, 3) := by decide +kernel
theorem dX2_readFacts_54 : decode cX2_readFacts 54 = .ok (.iload_n 1, 1) := by decide +kernel
theorem dX2_readFacts_55 : decode cX2_readFacts 55 = .ok (.aload_n 0, 1) := by decide +kernel
theorem dX2_readFacts_56 : decode cX2_readFacts 56 = .ok (.iconst 0, 1) := by decide +kernel
theorem dX2_readFacts_57 : decode cX2_readFacts 57 = .ok (.bipush 7, 2) := by decide +kernel
theorem dX2_readFacts_59 : decode cX2_readFacts 59 = .ok (.invokevirtual 121, 3) := by decide +kernel
theorem dX2_readFacts_62 : decode cX2_readFacts 62 = .ok (.invokestatic 128, 3) := by decide +kernel
theorem dX2_readFacts_65 : decode cX2_readFacts 65 = .ok (.ior, 1) := by decide +kernel
theorem dX2_readFacts_66 : decode cX2_readFacts 66 = .ok (.istore_n 1, 1) := by decide +kernel
theorem dX2_readFacts_67 : decode cX2_readFacts 67 = .ok (.iinc 2 1, 3) := by decide +kernel
theorem dX2_readFacts_70 : decode cX2_readFacts 70 = .ok (.goto (-57), 3) := by decide +kernel
theorem dX2_readFacts_73 : decode cX2_readFacts 73 = .ok (.iload_n 1, 1) := by decide +kernel
theorem dX2_readFacts_74 : decode cX2_readFacts 74 = .ok (.ireturn, 1) := by decide +kernel
theorem dX2_emit_0 : decode cX2_emit 0 = .ok (.aload_n 0, 1) := by decide +kernel
theorem dX2_emit_1 : decode cX2_emit 1 = .ok (.getfield 40, 3) := by decide +kernel
theorem dX2_emit_4 : decode cX2_emit 4 = .ok (.ifCond .ne 42, 3) := by decide +kernel
theorem dX2_emit_7 : decode cX2_emit 7 = .ok (.aload_n 0, 1) := by decide +kernel
theorem dX2_emit_8 : decode cX2_emit 8 = .ok (.getfield 105, 3) := by decide +kernel
theorem dX2_emit_11 : decode cX2_emit 11 = .ok (.ifCond .lt 35, 3) := by decide +kernel
theorem dX2_emit_14 : decode cX2_emit 14 = .ok (.aload_n 0, 1) := by decide +kernel
theorem dX2_emit_15 : decode cX2_emit 15 = .ok (.getfield 105, 3) := by decide +kernel
theorem dX2_emit_18 : decode cX2_emit 18 = .ok (.aload_n 0, 1) := by decide +kernel
theorem dX2_emit_19 : decode cX2_emit 19 = .ok (.getfield 18, 3) := by decide +kernel
theorem dX2_emit_22 : decode cX2_emit 22 = .ok (.arraylength, 1) := by decide +kernel
theorem dX2_emit_23 : decode cX2_emit 23 = .ok (.if_icmp .ge 23, 3) := by decide +kernel
theorem dX2_emit_26 : decode cX2_emit 26 = .ok (.aload_n 0, 1) := by decide +kernel
theorem dX2_emit_27 : decode cX2_emit 27 = .ok (.getfield 18, 3) := by decide +kernel
theorem dX2_emit_30 : decode cX2_emit 30 = .ok (.aload_n 0, 1) := by decide +kernel
theorem dX2_emit_31 : decode cX2_emit 31 = .ok (.getfield 105, 3) := by decide +kernel
theorem dX2_emit_34 : decode cX2_emit 34 = .ok (.iload_n 1, 1) := by decide +kernel
theorem dX2_emit_35 : decode cX2_emit 35 = .ok (.iastore, 1) := by decide +kernel
theorem dX2_emit_36 : decode cX2_emit 36 = .ok (.aload_n 0, 1) := by decide +kernel
theorem dX2_emit_37 : decode cX2_emit 37 = .ok (.dup, 1) := by decide +kernel
theorem dX2_emit_38 : decode cX2_emit 38 = .ok (.getfield 105, 3) := by decide +kernel
theorem dX2_emit_41 : decode cX2_emit 41 = .ok (.iconst 1, 1) := by decide +kernel
theorem dX2_emit_42 : decode cX2_emit 42 = .ok (.iadd, 1) := by decide +kernel
theorem dX2_emit_43 : decode cX2_emit 43 = .ok (.putfield 105, 3) := by decide +kernel
theorem dX2_emit_46 : decode cX2_emit 46 = .ok (.return_, 1) := by decide +kernel
theorem dX2_readSum_0 : decode cX2_readSum 0 = .ok (.aload_n 0, 1) := by decide +kernel
theorem dX2_readSum_1 : decode cX2_readSum 1 = .ok (.iload_n 1, 1) := by decide +kernel
theorem dX2_readSum_2 : decode cX2_readSum 2 = .ok (.invokevirtual 131, 3) := by decide +kernel
theorem dX2_readSum_5 : decode cX2_readSum 5 = .ok (.iconst 0, 1) := by decide +kernel
theorem dX2_readSum_6 : decode cX2_readSum 6 = .ok (.istore_n 2, 1) := by decide +kernel
theorem dX2_readSum_7 : decode cX2_readSum 7 = .ok (.iload_n 2, 1) := by decide +kernel
theorem dX2_readSum_8 : decode cX2_readSum 8 = .ok (.sipush 300, 3) := by decide +kernel
theorem dX2_readSum_11 : decode cX2_readSum 11 = .ok (.if_icmp .ge 54, 3) := by decide +kernel
theorem dX2_readSum_14 : decode cX2_readSum 14 = .ok (.aload_n 0, 1) := by decide +kernel
theorem dX2_readSum_15 : decode cX2_readSum 15 = .ok (.getfield 40, 3) := by decide +kernel
theorem dX2_readSum_18 : decode cX2_readSum 18 = .ok (.ifCond .ne 47, 3) := by decide +kernel
theorem dX2_readSum_21 : decode cX2_readSum 21 = .ok (.aload_n 0, 1) := by decide +kernel
theorem dX2_readSum_22 : decode cX2_readSum 22 = .ok (.getfield 43, 3) := by decide +kernel
theorem dX2_readSum_25 : decode cX2_readSum 25 = .ok (.bipush 44, 2) := by decide +kernel
theorem dX2_readSum_27 : decode cX2_readSum 27 = .ok (.if_icmp .eq 12, 3) := by decide +kernel
theorem dX2_readSum_30 : decode cX2_readSum 30 = .ok (.aload_n 0, 1) := by decide +kernel
theorem dX2_readSum_31 : decode cX2_readSum 31 = .ok (.getfield 43, 3) := by decide +kernel
theorem dX2_readSum_34 : decode cX2_readSum 34 = .ok (.bipush 45, 2) := by decide +kernel
theorem dX2_readSum_36 : decode cX2_readSum 36 = .ok (.if_icmp .ne 29, 3) := by decide +kernel
theorem dX2_readSum_39 : decode cX2_readSum 39 = .ok (.aload_n 0, 1) := by decide +kernel
theorem dX2_readSum_40 : decode cX2_readSum 40 = .ok (.getfield 43, 3) := by decide +kernel
theorem dX2_readSum_43 : decode cX2_readSum 43 = .ok (.istore_n 3, 1) := by decide +kernel
theorem dX2_readSum_44 : decode cX2_readSum 44 = .ok (.aload_n 0, 1) := by decide +kernel
theorem dX2_readSum_45 : decode cX2_readSum 45 = .ok (.invokevirtual 37, 3) := by decide +kernel
theorem dX2_readSum_48 : decode cX2_readSum 48 = .ok (.aload_n 0, 1) := by decide +kernel
theorem dX2_readSum_49 : decode cX2_readSum 49 = .ok (.iload_n 1, 1) := by decide +kernel
theorem dX2_readSum_50 : decode cX2_readSum 50 = .ok (.invokevirtual 131, 3) := by decide +kernel
theorem dX2_readSum_53 : decode cX2_readSum 53 = .ok (.aload_n 0, 1) := by decide +kernel
theorem dX2_readSum_54 : decode cX2_readSum 54 = .ok (.iload_n 3, 1) := by decide +kernel
theorem dX2_readSum_55 : decode cX2_readSum 55 = .ok (.ineg, 1) := by decide +kernel
theorem dX2_readSum_56 : decode cX2_readSum 56 = .ok (.invokevirtual 134, 3) := by decide +kernel
theorem dX2_readSum_59 : decode cX2_readSum 59 = .ok (.iinc 2 1, 3) := by decide +kernel
theorem dX2_readSum_62 : decode cX2_readSum 62 = .ok (.goto (-55), 3) := by decide +kernel
theorem dX2_readSum_65 : decode cX2_readSum 65 = .ok (.return_, 1) := by decide +kernel
theorem dX2_readProduct_0 : decode cX2_readProduct 0 = .ok (.aload_n 0, 1) := by decide +kernel
theorem dX2_readProduct_1 : decode cX2_readProduct 1 = .ok (.iload_n 1, 1) := by decide +kernel
theorem dX2_readProduct_2 : decode cX2_readProduct 2 = .ok (.invokevirtual 137, 3) := by decide +kernel
theorem dX2_readProduct_5 : decode cX2_readProduct 5 = .ok (.iconst 0, 1) := by decide +kernel
theorem dX2_readProduct_6 : decode cX2_readProduct 6 = .ok (.istore_n 2, 1) := by decide +kernel
theorem dX2_readProduct_7 : decode cX2_readProduct 7 = .ok (.iload_n 2, 1) := by decide +kernel
theorem dX2_readProduct_8 : decode cX2_readProduct 8 = .ok (.sipush 300, 3) := by decide +kernel
theorem dX2_readProduct_11 : decode cX2_readProduct 11 = .ok (.if_icmp .ge 54, 3) := by decide +kernel
theorem dX2_readProduct_14 : decode cX2_readProduct 14 = .ok (.aload_n 0, 1) := by decide +kernel
theorem dX2_readProduct_15 : decode cX2_readProduct 15 = .ok (.getfield 40, 3) := by decide +kernel
theorem dX2_readProduct_18 : decode cX2_readProduct 18 = .ok (.ifCond .ne 47, 3) := by decide +kernel
theorem dX2_readProduct_21 : decode cX2_readProduct 21 = .ok (.aload_n 0, 1) := by decide +kernel
theorem dX2_readProduct_22 : decode cX2_readProduct 22 = .ok (.getfield 43, 3) := by decide +kernel
theorem dX2_readProduct_25 : decode cX2_readProduct 25 = .ok (.bipush 46, 2) := by decide +kernel
theorem dX2_readProduct_27 : decode cX2_readProduct 27 = .ok (.if_icmp .eq 12, 3) := by decide +kernel
theorem dX2_readProduct_30 : decode cX2_readProduct 30 = .ok (.aload_n 0, 1) := by decide +kernel
theorem dX2_readProduct_31 : decode cX2_readProduct 31 = .ok (.getfield 43, 3) := by decide +kernel
theorem dX2_readProduct_34 : decode cX2_readProduct 34 = .ok (.bipush 47, 2) := by decide +kernel
theorem dX2_readProduct_36 : decode cX2_readProduct 36 = .ok (.if_icmp .ne 29, 3) := by decide +kernel
theorem dX2_readProduct_39 : decode cX2_readProduct 39 = .ok (.aload_n 0, 1) := by decide +kernel
theorem dX2_readProduct_40 : decode cX2_readProduct 40 = .ok (.getfield 43, 3) := by decide +kernel
theorem dX2_readProduct_43 : decode cX2_readProduct 43 = .ok (.istore_n 3, 1) := by decide +kernel
theorem dX2_readProduct_44 : decode cX2_readProduct 44 = .ok (.aload_n 0, 1) := by decide +kernel
theorem dX2_readProduct_45 : decode cX2_readProduct 45 = .ok (.invokevirtual 37, 3) := by decide +kernel
theorem dX2_readProduct_48 : decode cX2_readProduct 48 = .ok (.aload_n 0, 1) := by decide +kernel
theorem dX2_readProduct_49 : decode cX2_readProduct 49 = .ok (.iload_n 1, 1) := by decide +kernel
theorem dX2_readProduct_50 : decode cX2_readProduct 50 = .ok (.invokevirtual 137, 3) := by decide +kernel
theorem dX2_readProduct_53 : decode cX2_readProduct 53 = .ok (.aload_n 0, 1) := by decide +kernel
theorem dX2_readProduct_54 : decode cX2_readProduct 54 = .ok (.iload_n 3, 1) := by decide +kernel
theorem dX2_readProduct_55 : decode cX2_readProduct 55 = .ok (.ineg, 1) := by decide +kernel
theorem dX2_readProduct_56 : decode cX2_readProduct 56 = .ok (.invokevirtual 134, 3) := by decide +kernel
theorem dX2_readProduct_59 : decode cX2_readProduct 59 = .ok (.iinc 2 1, 3) := by decide +kernel
theorem dX2_readProduct_62 : decode cX2_readProduct 62 = .ok (.goto (-55), 3) := by decide +kernel
theorem dX2_readProduct_65 : decode cX2_readProduct 65 = .ok (.return_, 1) := by decide +kernel
theorem dX2_readOne_0 : decode cX2_readOne 0 = .ok (.aload_n 0, 1) := by decide +kernel
theorem dX2_readOne_1 : decode cX2_readOne 1 = .ok (.getfield 40, 3) := by decide +kernel
theorem dX2_readOne_4 : decode cX2_readOne 4 = .ok (.ifCond .eq 4, 3) := by decide +kernel
theorem dX2_readOne_7 : decode cX2_readOne 7 = .ok (.return_, 1) := by decide +kernel
theorem dX2_readOne_8 : decode cX2_readOne 8 = .ok (.aload_n 0, 1) := by decide +kernel
theorem dX2_readOne_9 : decode cX2_readOne 9 = .ok (.getfield 43, 3) := by decide +kernel
theorem dX2_readOne_12 : decode cX2_readOne 12 = .ok (.istore_n 2, 1) := by decide +kernel
theorem dX2_readOne_13 : decode cX2_readOne 13 = .ok (.iload_n 2, 1) := by decide +kernel
theorem dX2_readOne_14 : decode cX2_readOne 14 = .ok (.bipush 52, 2) := by decide +kernel
theorem dX2_readOne_16 : decode cX2_readOne 16 = .ok (.if_icmp .ne 18, 3) := by decide +kernel
theorem dX2_readOne_19 : decode cX2_readOne 19 = .ok (.aload_n 0, 1) := by decide +kernel
theorem dX2_readOne_20 : decode cX2_readOne 20 = .ok (.aload_n 0, 1) := by decide +kernel
theorem dX2_readOne_21 : decode cX2_readOne 21 = .ok (.iconst 0, 1) := by decide +kernel
theorem dX2_readOne_22 : decode cX2_readOne 22 = .ok (.sipush 9999, 3) := by decide +kernel
theorem dX2_readOne_25 : decode cX2_readOne 25 = .ok (.invokevirtual 121, 3) := by decide +kernel
theorem dX2_readOne_28 : decode cX2_readOne 28 = .ok (.invokevirtual 134, 3) := by decide +kernel
theorem dX2_readOne_31 : decode cX2_readOne 31 = .ok (.goto 59, 3) := by decide +kernel
theorem dX2_readOne_34 : decode cX2_readOne 34 = .ok (.iload_n 2, 1) := by decide +kernel
theorem dX2_readOne_35 : decode cX2_readOne 35 = .ok (.invokestatic 140, 3) := by decide +kernel
theorem dX2_readOne_38 : decode cX2_readOne 38 = .ok (.ifCond .eq 11, 3) := by decide +kernel
theorem dX2_readOne_41 : decode cX2_readOne 41 = .ok (.aload_n 0, 1) := by decide +kernel
theorem dX2_readOne_42 : decode cX2_readOne 42 = .ok (.iload_n 2, 1) := by decide +kernel
theorem dX2_readOne_43 : decode cX2_readOne 43 = .ok (.invokevirtual 144, 3) := by decide +kernel
theorem dX2_readOne_46 : decode cX2_readOne 46 = .ok (.goto 44, 3) := by decide +kernel
theorem dX2_readOne_49 : decode cX2_readOne 49 = .ok (.iload_n 2, 1) := by decide +kernel
theorem dX2_readOne_50 : decode cX2_readOne 50 = .ok (.invokestatic 147, 3) := by decide +kernel
theorem dX2_readOne_53 : decode cX2_readOne 53 = .ok (.ifCond .ne 11, 3) := by decide +kernel
theorem dX2_readOne_56 : decode cX2_readOne 56 = .ok (.aload_n 0, 1) := by decide +kernel
theorem dX2_readOne_57 : decode cX2_readOne 57 = .ok (.iconst 1, 1) := by decide +kernel
theorem dX2_readOne_58 : decode cX2_readOne 58 = .ok (.invokevirtual 59, 3) := by decide +kernel
theorem dX2_readOne_61 : decode cX2_readOne 61 = .ok (.goto 29, 3) := by decide +kernel
theorem dX2_readOne_64 : decode cX2_readOne 64 = .ok (.iload_n 1, 1) := by decide +kernel
theorem dX2_readOne_65 : decode cX2_readOne 65 = .ok (.bipush 8, 2) := by decide +kernel
theorem dX2_readOne_67 : decode cX2_readOne 67 = .ok (.if_icmp .lt 11, 3) := by decide +kernel
theorem dX2_readOne_70 : decode cX2_readOne 70 = .ok (.aload_n 0, 1) := by decide +kernel
theorem dX2_readOne_71 : decode cX2_readOne 71 = .ok (.iconst 3, 1) := by decide +kernel
theorem dX2_readOne_72 : decode cX2_readOne 72 = .ok (.invokevirtual 59, 3) := by decide +kernel
theorem dX2_readOne_75 : decode cX2_readOne 75 = .ok (.goto 15, 3) := by decide +kernel
theorem dX2_readOne_78 : decode cX2_readOne 78 = .ok (.aload_n 0, 1) := by decide +kernel
theorem dX2_readOne_79 : decode cX2_readOne 79 = .ok (.invokevirtual 37, 3) := by decide +kernel
theorem dX2_readOne_82 : decode cX2_readOne 82 = .ok (.aload_n 0, 1) := by decide +kernel
theorem dX2_readOne_83 : decode cX2_readOne 83 = .ok (.iload_n 2, 1) := by decide +kernel
theorem dX2_readOne_84 : decode cX2_readOne 84 = .ok (.iload_n 1, 1) := by decide +kernel
theorem dX2_readOne_85 : decode cX2_readOne 85 = .ok (.iconst 1, 1) := by decide +kernel
theorem dX2_readOne_86 : decode cX2_readOne 86 = .ok (.iadd, 1) := by decide +kernel
theorem dX2_readOne_87 : decode cX2_readOne 87 = .ok (.invokevirtual 150, 3) := by decide +kernel
theorem dX2_readOne_90 : decode cX2_readOne 90 = .ok (.return_, 1) := by decide +kernel
theorem dX2_opensOne_0 : decode cX2_opensOne 0 = .ok (.iload_n 0, 1) := by decide +kernel
theorem dX2_opensOne_1 : decode cX2_opensOne 1 = .ok (.bipush 48, 2) := by decide +kernel
theorem dX2_opensOne_3 : decode cX2_opensOne 3 = .ok (.if_icmp .eq 27, 3) := by decide +kernel
theorem dX2_opensOne_6 : decode cX2_opensOne 6 = .ok (.iload_n 0, 1) := by decide +kernel
theorem dX2_opensOne_7 : decode cX2_opensOne 7 = .ok (.bipush 45, 2) := by decide +kernel
theorem dX2_opensOne_9 : decode cX2_opensOne 9 = .ok (.if_icmp .eq 21, 3) := by decide +kernel
theorem dX2_opensOne_12 : decode cX2_opensOne 12 = .ok (.iload_n 0, 1) := by decide +kernel
theorem dX2_opensOne_13 : decode cX2_opensOne 13 = .ok (.bipush 20, 2) := by decide +kernel
theorem dX2_opensOne_15 : decode cX2_opensOne 15 = .ok (.if_icmp .eq 15, 3) := by decide +kernel
theorem dX2_opensOne_18 : decode cX2_opensOne 18 = .ok (.iload_n 0, 1) := by decide +kernel
theorem dX2_opensOne_19 : decode cX2_opensOne 19 = .ok (.bipush 22, 2) := by decide +kernel
theorem dX2_opensOne_21 : decode cX2_opensOne 21 = .ok (.if_icmp .eq 9, 3) := by decide +kernel
theorem dX2_opensOne_24 : decode cX2_opensOne 24 = .ok (.iload_n 0, 1) := by decide +kernel
theorem dX2_opensOne_25 : decode cX2_opensOne 25 = .ok (.bipush 23, 2) := by decide +kernel
theorem dX2_opensOne_27 : decode cX2_opensOne 27 = .ok (.if_icmp .ne 7, 3) := by decide +kernel
theorem dX2_opensOne_30 : decode cX2_opensOne 30 = .ok (.iconst 1, 1) := by decide +kernel
theorem dX2_opensOne_31 : decode cX2_opensOne 31 = .ok (.goto 4, 3) := by decide +kernel
theorem dX2_opensOne_34 : decode cX2_opensOne 34 = .ok (.iconst 0, 1) := by decide +kernel
theorem dX2_opensOne_35 : decode cX2_opensOne 35 = .ok (.ireturn, 1) := by decide +kernel
theorem dX2_isName_0 : decode cX2_isName 0 = .ok (.iload_n 0, 1) := by decide +kernel
theorem dX2_isName_1 : decode cX2_isName 1 = .ok (.bipush 10, 2) := by decide +kernel
theorem dX2_isName_3 : decode cX2_isName 3 = .ok (.if_icmp .eq 37, 3) := by decide +kernel
theorem dX2_isName_6 : decode cX2_isName 6 = .ok (.iload_n 0, 1) := by decide +kernel
theorem dX2_isName_7 : decode cX2_isName 7 = .ok (.iconst 4, 1) := by decide +kernel
theorem dX2_isName_8 : decode cX2_isName 8 = .ok (.if_icmp .eq 32, 3) := by decide +kernel
theorem dX2_isName_11 : decode cX2_isName 11 = .ok (.iload_n 0, 1) := by decide +kernel
theorem dX2_isName_12 : decode cX2_isName 12 = .ok (.bipush 11, 2) := by decide +kernel
theorem dX2_isName_14 : decode cX2_isName 14 = .ok (.if_icmp .eq 26, 3) := by decide +kernel
theorem dX2_isName_17 : decode cX2_isName 17 = .ok (.iload_n 0, 1) := by decide +kernel
theorem dX2_isName_18 : decode cX2_isName 18 = .ok (.bipush 12, 2) := by decide +kernel
theorem dX2_isName_20 : decode cX2_isName 20 = .ok (.if_icmp .eq 20, 3) := by decide +kernel
theorem dX2_isName_23 : decode cX2_isName 23 = .ok (.iload_n 0, 1) := by decide +kernel
theorem dX2_isName_24 : decode cX2_isName 24 = .ok (.bipush 16, 2) := by decide +kernel
theorem dX2_isName_26 : decode cX2_isName 26 = .ok (.if_icmp .eq 14, 3) := by decide +kernel
theorem dX2_isName_29 : decode cX2_isName 29 = .ok (.iload_n 0, 1) := by decide +kernel
theorem dX2_isName_30 : decode cX2_isName 30 = .ok (.bipush 30, 2) := by decide +kernel
theorem dX2_isName_32 : decode cX2_isName 32 = .ok (.bipush 35, 2) := by decide +kernel
theorem dX2_isName_34 : decode cX2_isName 34 = .ok (.invokestatic 66, 3) := by decide +kernel
theorem dX2_isName_37 : decode cX2_isName 37 = .ok (.ifCond .eq 7, 3) := by decide +kernel
theorem dX2_isName_40 : decode cX2_isName 40 = .ok (.iconst 1, 1) := by decide +kernel
theorem dX2_isName_41 : decode cX2_isName 41 = .ok (.goto 4, 3) := by decide +kernel
theorem dX2_isName_44 : decode cX2_isName 44 = .ok (.iconst 0, 1) := by decide +kernel
theorem dX2_isName_45 : decode cX2_isName 45 = .ok (.ireturn, 1) := by decide +kernel
theorem dX2_readName_0 : decode cX2_readName 0 = .ok (.iload_n 1, 1) := by decide +kernel
theorem dX2_readName_1 : decode cX2_readName 1 = .ok (.iconst 4, 1) := by decide +kernel
theorem dX2_readName_2 : decode cX2_readName 2 = .ok (.if_icmp .eq 15, 3) := by decide +kernel
theorem dX2_readName_5 : decode cX2_readName 5 = .ok (.iload_n 1, 1) := by decide +kernel
theorem dX2_readName_6 : decode cX2_readName 6 = .ok (.bipush 31, 2) := by decide +kernel
theorem dX2_readName_8 : decode cX2_readName 8 = .ok (.if_icmp .eq 9, 3) := by decide +kernel
theorem dX2_readName_11 : decode cX2_readName 11 = .ok (.iload_n 1, 1) := by decide +kernel
theorem dX2_readName_12 : decode cX2_readName 12 = .ok (.bipush 11, 2) := by decide +kernel
theorem dX2_readName_14 : decode cX2_readName 14 = .ok (.if_icmp .ne 7, 3) := by decide +kernel
theorem dX2_readName_17 : decode cX2_readName 17 = .ok (.iconst 1, 1) := by decide +kernel
theorem dX2_readName_18 : decode cX2_readName 18 = .ok (.goto 4, 3) := by decide +kernel
theorem dX2_readName_21 : decode cX2_readName 21 = .ok (.iconst 0, 1) := by decide +kernel
theorem dX2_readName_22 : decode cX2_readName 22 = .ok (.istore_n 2, 1) := by decide +kernel
theorem dX2_readName_23 : decode cX2_readName 23 = .ok (.iload_n 1, 1) := by decide +kernel
theorem dX2_readName_24 : decode cX2_readName 24 = .ok (.bipush 10, 2) := by decide +kernel
theorem dX2_readName_26 : decode cX2_readName 26 = .ok (.if_icmp .eq 34, 3) := by decide +kernel
theorem dX2_readName_29 : decode cX2_readName 29 = .ok (.iload_n 1, 1) := by decide +kernel
theorem dX2_readName_30 : decode cX2_readName 30 = .ok (.bipush 30, 2) := by decide +kernel
theorem dX2_readName_32 : decode cX2_readName 32 = .ok (.if_icmp .eq 28, 3) := by decide +kernel
theorem dX2_readName_35 : decode cX2_readName 35 = .ok (.iload_n 2, 1) := by decide +kernel
theorem dX2_readName_36 : decode cX2_readName 36 = .ok (.aload_n 0, 1) := by decide +kernel
theorem dX2_readName_37 : decode cX2_readName 37 = .ok (.getfield 102, 3) := by decide +kernel
theorem dX2_readName_40 : decode cX2_readName 40 = .ok (.iconst 1, 1) := by decide +kernel
theorem dX2_readName_41 : decode cX2_readName 41 = .ok (.if_icmp .ne 7, 3) := by decide +kernel
theorem dX2_readName_44 : decode cX2_readName 44 = .ok (.iconst 1, 1) := by decide +kernel
theorem dX2_readName_45 : decode cX2_readName 45 = .ok (.goto 4, 3) := by decide +kernel
theorem dX2_readName_48 : decode cX2_readName 48 = .ok (.iconst 0, 1) := by decide +kernel
theorem dX2_readName_49 : decode cX2_readName 49 = .ok (.if_icmp .eq 11, 3) := by decide +kernel
theorem dX2_readName_52 : decode cX2_readName 52 = .ok (.aload_n 0, 1) := by decide +kernel
theorem dX2_readName_53 : decode cX2_readName 53 = .ok (.iconst 5, 1) := by decide +kernel
theorem dX2_readName_54 : decode cX2_readName 54 = .ok (.invokevirtual 59, 3) := by decide +kernel
theorem dX2_readName_57 : decode cX2_readName 57 = .ok (.goto 13, 3) := by decide +kernel
theorem dX2_readName_60 : decode cX2_readName 60 = .ok (.aload_n 0, 1) := by decide +kernel
theorem dX2_readName_61 : decode cX2_readName 61 = .ok (.iload_n 1, 1) := by decide +kernel
theorem dX2_readName_62 : decode cX2_readName 62 = .ok (.ineg, 1) := by decide +kernel
theorem dX2_readName_63 : decode cX2_readName 63 = .ok (.invokevirtual 134, 3) := by decide +kernel
theorem dX2_readName_66 : decode cX2_readName 66 = .ok (.aload_n 0, 1) := by decide +kernel
theorem dX2_readName_67 : decode cX2_readName 67 = .ok (.invokevirtual 37, 3) := by decide +kernel
theorem dX2_readName_70 : decode cX2_readName 70 = .ok (.return_, 1) := by decide +kernel
theorem dX2_readInside_0 : decode cX2_readInside 0 = .ok (.iload_n 1, 1) := by decide +kernel
theorem dX2_readInside_1 : decode cX2_readInside 1 = .ok (.lookupswitch 110 #[(20, 85), (22, 71), (45, 57), (48, 43)], 43) := by decide +kernel
theorem dX2_readInside_44 : decode cX2_readInside 44 = .ok (.aload_n 0, 1) := by decide +kernel
theorem dX2_readInside_45 : decode cX2_readInside 45 = .ok (.iload_n 2, 1) := by decide +kernel
theorem dX2_readInside_46 : decode cX2_readInside 46 = .ok (.invokevirtual 108, 3) := by decide +kernel
theorem dX2_readInside_49 : decode cX2_readInside 49 = .ok (.aload_n 0, 1) := by decide +kernel
theorem dX2_readInside_50 : decode cX2_readInside 50 = .ok (.bipush 49, 2) := by decide +kernel
theorem dX2_readInside_52 : decode cX2_readInside 52 = .ok (.invokevirtual 99, 3) := by decide +kernel
theorem dX2_readInside_55 : decode cX2_readInside 55 = .ok (.goto 61, 3) := by decide +kernel
theorem dX2_readInside_58 : decode cX2_readInside 58 = .ok (.aload_n 0, 1) := by decide +kernel
theorem dX2_readInside_59 : decode cX2_readInside 59 = .ok (.iload_n 2, 1) := by decide +kernel
theorem dX2_readInside_60 : decode cX2_readInside 60 = .ok (.invokevirtual 137, 3) := by decide +kernel
theorem dX2_readInside_63 : decode cX2_readInside 63 = .ok (.aload_n 0, 1) := by decide +kernel
theorem dX2_readInside_64 : decode cX2_readInside 64 = .ok (.bipush (-55), 2) := by decide +kernel
theorem dX2_readInside_66 : decode cX2_readInside 66 = .ok (.invokevirtual 134, 3) := by decide +kernel
theorem dX2_readInside_69 : decode cX2_readInside 69 = .ok (.goto 47, 3) := by decide +kernel
theorem dX2_readInside_72 : decode cX2_readInside 72 = .ok (.aload_n 0, 1) := by decide +kernel
theorem dX2_readInside_73 : decode cX2_readInside 73 = .ok (.iload_n 2, 1) := by decide +kernel
theorem dX2_readInside_74 : decode cX2_readInside 74 = .ok (.invokevirtual 137, 3) := by decide +kernel
theorem dX2_readInside_77 : decode cX2_readInside 77 = .ok (.aload_n 0, 1) := by decide +kernel
theorem dX2_readInside_78 : decode cX2_readInside 78 = .ok (.bipush (-22), 2) := by decide +kernel
theorem dX2_readInside_80 : decode cX2_readInside 80 = .ok (.invokevirtual 134, 3) := by decide +kernel
theorem dX2_readInside_83 : decode cX2_readInside 83 = .ok (.goto 33, 3) := by decide +kernel
theorem dX2_readInside_86 : decode cX2_readInside 86 = .ok (.aload_n 0, 1) := by decide +kernel
theorem dX2_readInside_87 : decode cX2_readInside 87 = .ok (.iload_n 2, 1) := by decide +kernel
theorem dX2_readInside_88 : decode cX2_readInside 88 = .ok (.invokevirtual 137, 3) := by decide +kernel
theorem dX2_readInside_91 : decode cX2_readInside 91 = .ok (.aload_n 0, 1) := by decide +kernel
theorem dX2_readInside_92 : decode cX2_readInside 92 = .ok (.bipush 21, 2) := by decide +kernel
theorem dX2_readInside_94 : decode cX2_readInside 94 = .ok (.invokevirtual 99, 3) := by decide +kernel
theorem dX2_readInside_97 : decode cX2_readInside 97 = .ok (.aload_n 0, 1) := by decide +kernel
theorem dX2_readInside_98 : decode cX2_readInside 98 = .ok (.iload_n 2, 1) := by decide +kernel
theorem dX2_readInside_99 : decode cX2_readInside 99 = .ok (.invokevirtual 137, 3) := by decide +kernel
theorem dX2_readInside_102 : decode cX2_readInside 102 = .ok (.aload_n 0, 1) := by decide +kernel
theorem dX2_readInside_103 : decode cX2_readInside 103 = .ok (.bipush (-20), 2) := by decide +kernel
theorem dX2_readInside_105 : decode cX2_readInside 105 = .ok (.invokevirtual 134, 3) := by decide +kernel
theorem dX2_readInside_108 : decode cX2_readInside 108 = .ok (.goto 8, 3) := by decide +kernel
theorem dX2_readInside_111 : decode cX2_readInside 111 = .ok (.aload_n 0, 1) := by decide +kernel
theorem dX2_readInside_112 : decode cX2_readInside 112 = .ok (.iload_n 2, 1) := by decide +kernel
theorem dX2_readInside_113 : decode cX2_readInside 113 = .ok (.invokevirtual 153, 3) := by decide +kernel
theorem dX2_readInside_116 : decode cX2_readInside 116 = .ok (.return_, 1) := by decide +kernel
theorem dX2_readIf_0 : decode cX2_readIf 0 = .ok (.aload_n 0, 1) := by decide +kernel
theorem dX2_readIf_1 : decode cX2_readIf 1 = .ok (.iload_n 1, 1) := by decide +kernel
theorem dX2_readIf_2 : decode cX2_readIf 2 = .ok (.invokevirtual 156, 3) := by decide +kernel
theorem dX2_readIf_5 : decode cX2_readIf 5 = .ok (.aload_n 0, 1) := by decide +kernel
theorem dX2_readIf_6 : decode cX2_readIf 6 = .ok (.bipush 24, 2) := by decide +kernel
theorem dX2_readIf_8 : decode cX2_readIf 8 = .ok (.invokevirtual 99, 3) := by decide +kernel
theorem dX2_readIf_11 : decode cX2_readIf 11 = .ok (.aload_n 0, 1) := by decide +kernel
theorem dX2_readIf_12 : decode cX2_readIf 12 = .ok (.iload_n 1, 1) := by decide +kernel
theorem dX2_readIf_13 : decode cX2_readIf 13 = .ok (.invokevirtual 108, 3) := by decide +kernel
theorem dX2_readIf_16 : decode cX2_readIf 16 = .ok (.aload_n 0, 1) := by decide +kernel
theorem dX2_readIf_17 : decode cX2_readIf 17 = .ok (.bipush 25, 2) := by decide +kernel
theorem dX2_readIf_19 : decode cX2_readIf 19 = .ok (.invokevirtual 99, 3) := by decide +kernel
theorem dX2_readIf_22 : decode cX2_readIf 22 = .ok (.aload_n 0, 1) := by decide +kernel
theorem dX2_readIf_23 : decode cX2_readIf 23 = .ok (.iload_n 1, 1) := by decide +kernel
theorem dX2_readIf_24 : decode cX2_readIf 24 = .ok (.invokevirtual 108, 3) := by decide +kernel
theorem dX2_readIf_27 : decode cX2_readIf 27 = .ok (.aload_n 0, 1) := by decide +kernel
theorem dX2_readIf_28 : decode cX2_readIf 28 = .ok (.bipush 26, 2) := by decide +kernel
theorem dX2_readIf_30 : decode cX2_readIf 30 = .ok (.invokevirtual 99, 3) := by decide +kernel
theorem dX2_readIf_33 : decode cX2_readIf 33 = .ok (.aload_n 0, 1) := by decide +kernel
theorem dX2_readIf_34 : decode cX2_readIf 34 = .ok (.bipush (-23), 2) := by decide +kernel
theorem dX2_readIf_36 : decode cX2_readIf 36 = .ok (.invokevirtual 134, 3) := by decide +kernel
theorem dX2_readIf_39 : decode cX2_readIf 39 = .ok (.return_, 1) := by decide +kernel
theorem dX2_readEither_0 : decode cX2_readEither 0 = .ok (.aload_n 0, 1) := by decide +kernel
theorem dX2_readEither_1 : decode cX2_readEither 1 = .ok (.iload_n 1, 1) := by decide +kernel
theorem dX2_readEither_2 : decode cX2_readEither 2 = .ok (.invokevirtual 159, 3) := by decide +kernel
theorem dX2_readEither_5 : decode cX2_readEither 5 = .ok (.iconst 0, 1) := by decide +kernel
theorem dX2_readEither_6 : decode cX2_readEither 6 = .ok (.istore_n 2, 1) := by decide +kernel
theorem dX2_readEither_7 : decode cX2_readEither 7 = .ok (.iload_n 2, 1) := by decide +kernel
theorem dX2_readEither_8 : decode cX2_readEither 8 = .ok (.sipush 300, 3) := by decide +kernel
theorem dX2_readEither_11 : decode cX2_readEither 11 = .ok (.if_icmp .ge 40, 3) := by decide +kernel
theorem dX2_readEither_14 : decode cX2_readEither 14 = .ok (.aload_n 0, 1) := by decide +kernel
theorem dX2_readEither_15 : decode cX2_readEither 15 = .ok (.getfield 40, 3) := by decide +kernel
theorem dX2_readEither_18 : decode cX2_readEither 18 = .ok (.ifCond .ne 33, 3) := by decide +kernel
theorem dX2_readEither_21 : decode cX2_readEither 21 = .ok (.aload_n 0, 1) := by decide +kernel
theorem dX2_readEither_22 : decode cX2_readEither 22 = .ok (.getfield 43, 3) := by decide +kernel
theorem dX2_readEither_25 : decode cX2_readEither 25 = .ok (.bipush 27, 2) := by decide +kernel
theorem dX2_readEither_27 : decode cX2_readEither 27 = .ok (.if_icmp .ne 24, 3) := by decide +kernel
theorem dX2_readEither_30 : decode cX2_readEither 30 = .ok (.aload_n 0, 1) := by decide +kernel
theorem dX2_readEither_31 : decode cX2_readEither 31 = .ok (.invokevirtual 37, 3) := by decide +kernel
theorem dX2_readEither_34 : decode cX2_readEither 34 = .ok (.aload_n 0, 1) := by decide +kernel
theorem dX2_readEither_35 : decode cX2_readEither 35 = .ok (.iload_n 1, 1) := by decide +kernel
theorem dX2_readEither_36 : decode cX2_readEither 36 = .ok (.invokevirtual 159, 3) := by decide +kernel
theorem dX2_readEither_39 : decode cX2_readEither 39 = .ok (.aload_n 0, 1) := by decide +kernel
theorem dX2_readEither_40 : decode cX2_readEither 40 = .ok (.bipush (-27), 2) := by decide +kernel
theorem dX2_readEither_42 : decode cX2_readEither 42 = .ok (.invokevirtual 134, 3) := by decide +kernel
theorem dX2_readEither_45 : decode cX2_readEither 45 = .ok (.iinc 2 1, 3) := by decide +kernel
theorem dX2_readEither_48 : decode cX2_readEither 48 = .ok (.goto (-41), 3) := by decide +kernel
theorem dX2_readEither_51 : decode cX2_readEither 51 = .ok (.return_, 1) := by decide +kernel
theorem dX2_readBoth_0 : decode cX2_readBoth 0 = .ok (.aload_n 0, 1) := by decide +kernel
theorem dX2_readBoth_1 : decode cX2_readBoth 1 = .ok (.iload_n 1, 1) := by decide +kernel
theorem dX2_readBoth_2 : decode cX2_readBoth 2 = .ok (.invokevirtual 162, 3) := by decide +kernel
theorem dX2_readBoth_5 : decode cX2_readBoth 5 = .ok (.iconst 0, 1) := by decide +kernel
theorem dX2_readBoth_6 : decode cX2_readBoth 6 = .ok (.istore_n 2, 1) := by decide +kernel
theorem dX2_readBoth_7 : decode cX2_readBoth 7 = .ok (.iload_n 2, 1) := by decide +kernel
theorem dX2_readBoth_8 : decode cX2_readBoth 8 = .ok (.sipush 300, 3) := by decide +kernel
theorem dX2_readBoth_11 : decode cX2_readBoth 11 = .ok (.if_icmp .ge 40, 3) := by decide +kernel
theorem dX2_readBoth_14 : decode cX2_readBoth 14 = .ok (.aload_n 0, 1) := by decide +kernel
theorem dX2_readBoth_15 : decode cX2_readBoth 15 = .ok (.getfield 40, 3) := by decide +kernel
theorem dX2_readBoth_18 : decode cX2_readBoth 18 = .ok (.ifCond .ne 33, 3) := by decide +kernel
theorem dX2_readBoth_21 : decode cX2_readBoth 21 = .ok (.aload_n 0, 1) := by decide +kernel
theorem dX2_readBoth_22 : decode cX2_readBoth 22 = .ok (.getfield 43, 3) := by decide +kernel
theorem dX2_readBoth_25 : decode cX2_readBoth 25 = .ok (.bipush 28, 2) := by decide +kernel
theorem dX2_readBoth_27 : decode cX2_readBoth 27 = .ok (.if_icmp .ne 24, 3) := by decide +kernel
theorem dX2_readBoth_30 : decode cX2_readBoth 30 = .ok (.aload_n 0, 1) := by decide +kernel
theorem dX2_readBoth_31 : decode cX2_readBoth 31 = .ok (.invokevirtual 37, 3) := by decide +kernel
theorem dX2_readBoth_34 : decode cX2_readBoth 34 = .ok (.aload_n 0, 1) := by decide +kernel
theorem dX2_readBoth_35 : decode cX2_readBoth 35 = .ok (.iload_n 1, 1) := by decide +kernel
theorem dX2_readBoth_36 : decode cX2_readBoth 36 = .ok (.invokevirtual 162, 3) := by decide +kernel
theorem dX2_readBoth_39 : decode cX2_readBoth 39 = .ok (.aload_n 0, 1) := by decide +kernel
theorem dX2_readBoth_40 : decode cX2_readBoth 40 = .ok (.bipush (-28), 2) := by decide +kernel
theorem dX2_readBoth_42 : decode cX2_readBoth 42 = .ok (.invokevirtual 134, 3) := by decide +kernel
theorem dX2_readBoth_45 : decode cX2_readBoth 45 = .ok (.iinc 2 1, 3) := by decide +kernel
theorem dX2_readBoth_48 : decode cX2_readBoth 48 = .ok (.goto (-41), 3) := by decide +kernel
theorem dX2_readBoth_51 : decode cX2_readBoth 51 = .ok (.return_, 1) := by decide +kernel
theorem dX2_readAsk_0 : decode cX2_readAsk 0 = .ok (.aload_n 0, 1) := by decide +kernel
theorem dX2_readAsk_1 : decode cX2_readAsk 1 = .ok (.getfield 40, 3) := by decide +kernel
theorem dX2_readAsk_4 : decode cX2_readAsk 4 = .ok (.ifCond .eq 4, 3) := by decide +kernel
theorem dX2_readAsk_7 : decode cX2_readAsk 7 = .ok (.return_, 1) := by decide +kernel
theorem dX2_readAsk_8 : decode cX2_readAsk 8 = .ok (.aload_n 0, 1) := by decide +kernel
theorem dX2_readAsk_9 : decode cX2_readAsk 9 = .ok (.getfield 43, 3) := by decide +kernel
theorem dX2_readAsk_12 : decode cX2_readAsk 12 = .ok (.bipush 29, 2) := by decide +kernel
theorem dX2_readAsk_14 : decode cX2_readAsk 14 = .ok (.if_icmp .eq 11, 3) := by decide +kernel
theorem dX2_readAsk_17 : decode cX2_readAsk 17 = .ok (.aload_n 0, 1) := by decide +kernel
theorem dX2_readAsk_18 : decode cX2_readAsk 18 = .ok (.iload_n 1, 1) := by decide +kernel
theorem dX2_readAsk_19 : decode cX2_readAsk 19 = .ok (.invokevirtual 165, 3) := by decide +kernel
theorem dX2_readAsk_22 : decode cX2_readAsk 22 = .ok (.goto 34, 3) := by decide +kernel
theorem dX2_readAsk_25 : decode cX2_readAsk 25 = .ok (.iload_n 1, 1) := by decide +kernel
theorem dX2_readAsk_26 : decode cX2_readAsk 26 = .ok (.bipush 8, 2) := by decide +kernel
theorem dX2_readAsk_28 : decode cX2_readAsk 28 = .ok (.if_icmp .lt 11, 3) := by decide +kernel
theorem dX2_readAsk_31 : decode cX2_readAsk 31 = .ok (.aload_n 0, 1) := by decide +kernel
theorem dX2_readAsk_32 : decode cX2_readAsk 32 = .ok (.iconst 3, 1) := by decide +kernel
theorem dX2_readAsk_33 : decode cX2_readAsk 33 = .ok (.invokevirtual 59, 3) := by decide +kernel
theorem dX2_readAsk_36 : decode cX2_readAsk 36 = .ok (.goto 20, 3) := by decide +kernel
theorem dX2_readAsk_39 : decode cX2_readAsk 39 = .ok (.aload_n 0, 1) := by decide +kernel
theorem dX2_readAsk_40 : decode cX2_readAsk 40 = .ok (.invokevirtual 37, 3) := by decide +kernel
theorem dX2_readAsk_43 : decode cX2_readAsk 43 = .ok (.aload_n 0, 1) := by decide +kernel
theorem dX2_readAsk_44 : decode cX2_readAsk 44 = .ok (.iload_n 1, 1) := by decide +kernel
theorem dX2_readAsk_45 : decode cX2_readAsk 45 = .ok (.iconst 1, 1) := by decide +kernel
theorem dX2_readAsk_46 : decode cX2_readAsk 46 = .ok (.iadd, 1) := by decide +kernel
theorem dX2_readAsk_47 : decode cX2_readAsk 47 = .ok (.invokevirtual 162, 3) := by decide +kernel
theorem dX2_readAsk_50 : decode cX2_readAsk 50 = .ok (.aload_n 0, 1) := by decide +kernel
theorem dX2_readAsk_51 : decode cX2_readAsk 51 = .ok (.bipush (-29), 2) := by decide +kernel
theorem dX2_readAsk_53 : decode cX2_readAsk 53 = .ok (.invokevirtual 134, 3) := by decide +kernel
theorem dX2_readAsk_56 : decode cX2_readAsk 56 = .ok (.return_, 1) := by decide +kernel
theorem dX2_readComparison_0 : decode cX2_readComparison 0 = .ok (.aload_n 0, 1) := by decide +kernel
theorem dX2_readComparison_1 : decode cX2_readComparison 1 = .ok (.iload_n 1, 1) := by decide +kernel
theorem dX2_readComparison_2 : decode cX2_readComparison 2 = .ok (.invokevirtual 108, 3) := by decide +kernel
theorem dX2_readComparison_5 : decode cX2_readComparison 5 = .ok (.aload_n 0, 1) := by decide +kernel
theorem dX2_readComparison_6 : decode cX2_readComparison 6 = .ok (.getfield 43, 3) := by decide +kernel
theorem dX2_readComparison_9 : decode cX2_readComparison 9 = .ok (.istore_n 2, 1) := by decide +kernel
theorem dX2_readComparison_10 : decode cX2_readComparison 10 = .ok (.iload_n 2, 1) := by decide +kernel
theorem dX2_readComparison_11 : decode cX2_readComparison 11 = .ok (.bipush 38, 2) := by decide +kernel
theorem dX2_readComparison_13 : decode cX2_readComparison 13 = .ok (.bipush 43, 2) := by decide +kernel
theorem dX2_readComparison_15 : decode cX2_readComparison 15 = .ok (.invokestatic 66, 3) := by decide +kernel
theorem dX2_readComparison_18 : decode cX2_readComparison 18 = .ok (.ifCond .ne 8, 3) := by decide +kernel
theorem dX2_readComparison_21 : decode cX2_readComparison 21 = .ok (.aload_n 0, 1) := by decide +kernel
theorem dX2_readComparison_22 : decode cX2_readComparison 22 = .ok (.iconst 1, 1) := by decide +kernel
theorem dX2_readComparison_23 : decode cX2_readComparison 23 = .ok (.invokevirtual 59, 3) := by decide +kernel
theorem dX2_readComparison_26 : decode cX2_readComparison 26 = .ok (.aload_n 0, 1) := by decide +kernel
theorem dX2_readComparison_27 : decode cX2_readComparison 27 = .ok (.getfield 40, 3) := by decide +kernel
theorem dX2_readComparison_30 : decode cX2_readComparison 30 = .ok (.ifCond .ne 18, 3) := by decide +kernel
theorem dX2_readComparison_33 : decode cX2_readComparison 33 = .ok (.aload_n 0, 1) := by decide +kernel
theorem dX2_readComparison_34 : decode cX2_readComparison 34 = .ok (.invokevirtual 37, 3) := by decide +kernel
theorem dX2_readComparison_37 : decode cX2_readComparison 37 = .ok (.aload_n 0, 1) := by decide +kernel
theorem dX2_readComparison_38 : decode cX2_readComparison 38 = .ok (.iload_n 1, 1) := by decide +kernel
theorem dX2_readComparison_39 : decode cX2_readComparison 39 = .ok (.invokevirtual 108, 3) := by decide +kernel
theorem dX2_readComparison_42 : decode cX2_readComparison 42 = .ok (.aload_n 0, 1) := by decide +kernel
theorem dX2_readComparison_43 : decode cX2_readComparison 43 = .ok (.iload_n 2, 1) := by decide +kernel
theorem dX2_readComparison_44 : decode cX2_readComparison 44 = .ok (.ineg, 1) := by decide +kernel
theorem dX2_readComparison_45 : decode cX2_readComparison 45 = .ok (.invokevirtual 134, 3) := by decide +kernel
theorem dX2_readComparison_48 : decode cX2_readComparison 48 = .ok (.return_, 1) := by decide +kernel
theorem dX6_init_0 : decode cX6_init 0 = .ok (.aload_n 0, 1) := by decide +kernel
theorem dX6_init_1 : decode cX6_init 1 = .ok (.invokespecial 3, 3) := by decide +kernel
theorem dX6_init_4 : decode cX6_init 4 = .ok (.aload_n 0, 1) := by decide +kernel
theorem dX6_init_5 : decode cX6_init 5 = .ok (.sipush 301, 3) := by decide +kernel
theorem dX6_init_8 : decode cX6_init 8 = .ok (.newarray .int, 2) := by decide +kernel
theorem dX6_init_10 : decode cX6_init 10 = .ok (.putfield 9, 3) := by decide +kernel
theorem dX6_init_13 : decode cX6_init 13 = .ok (.aload_n 0, 1) := by decide +kernel
theorem dX6_init_14 : decode cX6_init 14 = .ok (.sipush 301, 3) := by decide +kernel
theorem dX6_init_17 : decode cX6_init 17 = .ok (.newarray .int, 2) := by decide +kernel
theorem dX6_init_19 : decode cX6_init 19 = .ok (.putfield 15, 3) := by decide +kernel
theorem dX6_init_22 : decode cX6_init 22 = .ok (.aload_n 0, 1) := by decide +kernel
theorem dX6_init_23 : decode cX6_init 23 = .ok (.sipush 301, 3) := by decide +kernel
theorem dX6_init_26 : decode cX6_init 26 = .ok (.newarray .int, 2) := by decide +kernel
theorem dX6_init_28 : decode cX6_init 28 = .ok (.putfield 18, 3) := by decide +kernel
theorem dX6_init_31 : decode cX6_init 31 = .ok (.return_, 1) := by decide +kernel
theorem dX6_numberAt_0 : decode cX6_numberAt 0 = .ok (.iload_n 1, 1) := by decide +kernel
theorem dX6_numberAt_1 : decode cX6_numberAt 1 = .ok (.ifCond .lt 29, 3) := by decide +kernel
theorem dX6_numberAt_4 : decode cX6_numberAt 4 = .ok (.iload_n 1, 1) := by decide +kernel
theorem dX6_numberAt_5 : decode cX6_numberAt 5 = .ok (.aload_n 0, 1) := by decide +kernel
theorem dX6_numberAt_6 : decode cX6_numberAt 6 = .ok (.getfield 21, 3) := by decide +kernel
theorem dX6_numberAt_9 : decode cX6_numberAt 9 = .ok (.if_icmp .ge 21, 3) := by decide +kernel
theorem dX6_numberAt_12 : decode cX6_numberAt 12 = .ok (.iload_n 1, 1) := by decide +kernel
theorem dX6_numberAt_13 : decode cX6_numberAt 13 = .ok (.aload_n 0, 1) := by decide +kernel
theorem dX6_numberAt_14 : decode cX6_numberAt 14 = .ok (.getfield 15, 3) := by decide +kernel
theorem dX6_numberAt_17 : decode cX6_numberAt 17 = .ok (.arraylength, 1) := by decide +kernel
theorem dX6_numberAt_18 : decode cX6_numberAt 18 = .ok (.if_icmp .ge 12, 3) := by decide +kernel
theorem dX6_numberAt_21 : decode cX6_numberAt 21 = .ok (.aload_n 0, 1) := by decide +kernel
theorem dX6_numberAt_22 : decode cX6_numberAt 22 = .ok (.getfield 15, 3) := by decide +kernel
theorem dX6_numberAt_25 : decode cX6_numberAt 25 = .ok (.iload_n 1, 1) := by decide +kernel
theorem dX6_numberAt_26 : decode cX6_numberAt 26 = .ok (.iaload, 1) := by decide +kernel
theorem dX6_numberAt_27 : decode cX6_numberAt 27 = .ok (.goto 4, 3) := by decide +kernel
theorem dX6_numberAt_30 : decode cX6_numberAt 30 = .ok (.iconst 0, 1) := by decide +kernel
theorem dX6_numberAt_31 : decode cX6_numberAt 31 = .ok (.ireturn, 1) := by decide +kernel
theorem dX6_placeAt_0 : decode cX6_placeAt 0 = .ok (.iload_n 1, 1) := by decide +kernel
theorem dX6_placeAt_1 : decode cX6_placeAt 1 = .ok (.ifCond .lt 29, 3) := by decide +kernel
theorem dX6_placeAt_4 : decode cX6_placeAt 4 = .ok (.iload_n 1, 1) := by decide +kernel
theorem dX6_placeAt_5 : decode cX6_placeAt 5 = .ok (.aload_n 0, 1) := by decide +kernel
theorem dX6_placeAt_6 : decode cX6_placeAt 6 = .ok (.getfield 21, 3) := by decide +kernel
theorem dX6_placeAt_9 : decode cX6_placeAt 9 = .ok (.if_icmp .ge 21, 3) := by decide +kernel
theorem dX6_placeAt_12 : decode cX6_placeAt 12 = .ok (.iload_n 1, 1) := by decide +kernel
theorem dX6_placeAt_13 : decode cX6_placeAt 13 = .ok (.aload_n 0, 1) := by decide +kernel
theorem dX6_placeAt_14 : decode cX6_placeAt 14 = .ok (.getfield 18, 3) := by decide +kernel
theorem dX6_placeAt_17 : decode cX6_placeAt 17 = .ok (.arraylength, 1) := by decide +kernel
theorem dX6_placeAt_18 : decode cX6_placeAt 18 = .ok (.if_icmp .ge 12, 3) := by decide +kernel
theorem dX6_placeAt_21 : decode cX6_placeAt 21 = .ok (.aload_n 0, 1) := by decide +kernel
theorem dX6_placeAt_22 : decode cX6_placeAt 22 = .ok (.getfield 18, 3) := by decide +kernel
theorem dX6_placeAt_25 : decode cX6_placeAt 25 = .ok (.iload_n 1, 1) := by decide +kernel
theorem dX6_placeAt_26 : decode cX6_placeAt 26 = .ok (.iaload, 1) := by decide +kernel
theorem dX6_placeAt_27 : decode cX6_placeAt 27 = .ok (.goto 4, 3) := by decide +kernel
theorem dX6_placeAt_30 : decode cX6_placeAt 30 = .ok (.iconst 0, 1) := by decide +kernel
theorem dX6_placeAt_31 : decode cX6_placeAt 31 = .ok (.ireturn, 1) := by decide +kernel
theorem dX6_split_0 : decode cX6_split 0 = .ok (.iload_n 2, 1) := by decide +kernel
theorem dX6_split_1 : decode cX6_split 1 = .ok (.aload_n 1, 1) := by decide +kernel
theorem dX6_split_2 : decode cX6_split 2 = .ok (.arraylength, 1) := by decide +kernel
theorem dX6_split_3 : decode cX6_split 3 = .ok (.invokestatic 25, 3) := by decide +kernel
theorem dX6_split_6 : decode cX6_split 6 = .ok (.istore_n 3, 1) := by decide +kernel
theorem dX6_split_7 : decode cX6_split 7 = .ok (.aload_n 0, 1) := by decide +kernel
theorem dX6_split_8 : decode cX6_split 8 = .ok (.iconst 0, 1) := by decide +kernel
theorem dX6_split_9 : decode cX6_split 9 = .ok (.putfield 21, 3) := by decide +kernel
theorem dX6_split_12 : decode cX6_split 12 = .ok (.iconst 0, 1) := by decide +kernel
theorem dX6_split_13 : decode cX6_split 13 = .ok (.istore 4, 2) := by decide +kernel
theorem dX6_split_15 : decode cX6_split 15 = .ok (.iconst 0, 1) := by decide +kernel
theorem dX6_split_16 : decode cX6_split 16 = .ok (.istore 5, 2) := by decide +kernel
theorem dX6_split_18 : decode cX6_split 18 = .ok (.iload 5, 2) := by decide +kernel
theorem dX6_split_20 : decode cX6_split 20 = .ok (.sipush 300, 3) := by decide +kernel
theorem dX6_split_23 : decode cX6_split 23 = .ok (.if_icmp .ge 204, 3) := by decide +kernel
theorem dX6_split_26 : decode cX6_split 26 = .ok (.iload 4, 2) := by decide +kernel
theorem dX6_split_28 : decode cX6_split 28 = .ok (.iload_n 3, 1) := by decide +kernel
theorem dX6_split_29 : decode cX6_split 29 = .ok (.if_icmp .ge 198, 3) := by decide +kernel
theorem dX6_split_32 : decode cX6_split 32 = .ok (.aload_n 1, 1) := by decide +kernel
theorem dX6_split_33 : decode cX6_split 33 = .ok (.iload 4, 2) := by decide +kernel
theorem dX6_split_35 : decode cX6_split 35 = .ok (.iaload, 1) := by decide +kernel
theorem dX6_split_36 : decode cX6_split 36 = .ok (.istore 6, 2) := by decide +kernel
theorem dX6_split_38 : decode cX6_split 38 = .ok (.iload 4, 2) := by decide +kernel
theorem dX6_split_40 : decode cX6_split 40 = .ok (.iconst 1, 1) := by decide +kernel
theorem dX6_split_41 : decode cX6_split 41 = .ok (.iadd, 1) := by decide +kernel
theorem dX6_split_42 : decode cX6_split 42 = .ok (.istore 7, 2) := by decide +kernel
theorem dX6_split_44 : decode cX6_split 44 = .ok (.iload 6, 2) := by decide +kernel
theorem dX6_split_46 : decode cX6_split 46 = .ok (.invokestatic 31, 3) := by decide +kernel
theorem dX6_split_49 : decode cX6_split 49 = .ok (.ifCond .eq 30, 3) := by decide +kernel
theorem dX6_split_52 : decode cX6_split 52 = .ok (.aload_n 1, 1) := by decide +kernel
theorem dX6_split_53 : decode cX6_split 53 = .ok (.iload 4, 2) := by decide +kernel
theorem dX6_split_55 : decode cX6_split 55 = .ok (.iload_n 3, 1) := by decide +kernel
theorem dX6_split_56 : decode cX6_split 56 = .ok (.invokestatic 35, 3) := by decide +kernel
theorem dX6_split_59 : decode cX6_split 59 = .ok (.istore 7, 2) := by decide +kernel
theorem dX6_split_61 : decode cX6_split 61 = .ok (.aload_n 0, 1) := by decide +kernel
theorem dX6_split_62 : decode cX6_split 62 = .ok (.aload_n 1, 1) := by decide +kernel
theorem dX6_split_63 : decode cX6_split 63 = .ok (.iload 4, 2) := by decide +kernel
theorem dX6_split_65 : decode cX6_split 65 = .ok (.iload 7, 2) := by decide +kernel
theorem dX6_split_67 : decode cX6_split 67 = .ok (.invokestatic 39, 3) := by decide +kernel
theorem dX6_split_70 : decode cX6_split 70 = .ok (.iconst 0, 1) := by decide +kernel
theorem dX6_split_71 : decode cX6_split 71 = .ok (.iload 4, 2) := by decide +kernel
theorem dX6_split_73 : decode cX6_split 73 = .ok (.invokevirtual 42, 3) := by decide +kernel
theorem dX6_split_76 : decode cX6_split 76 = .ok (.goto 141, 3) := by decide +kernel
theorem dX6_split_79 : decode cX6_split 79 = .ok (.iload 6, 2) := by decide +kernel
theorem dX6_split_81 : decode cX6_split 81 = .ok (.invokestatic 46, 3) := by decide +kernel
theorem dX6_split_84 : decode cX6_split 84 = .ok (.ifCond .eq 31, 3) := by decide +kernel
theorem dX6_split_87 : decode cX6_split 87 = .ok (.aload_n 1, 1) := by decide +kernel
theorem dX6_split_88 : decode cX6_split 88 = .ok (.iload 4, 2) := by decide +kernel
theorem dX6_split_90 : decode cX6_split 90 = .ok (.iload_n 3, 1) := by decide +kernel
theorem dX6_split_91 : decode cX6_split 91 = .ok (.invokestatic 49, 3) := by decide +kernel
theorem dX6_split_94 : decode cX6_split 94 = .ok (.istore 7, 2) := by decide +kernel
theorem dX6_split_96 : decode cX6_split 96 = .ok (.aload_n 0, 1) := by decide +kernel
theorem dX6_split_97 : decode cX6_split 97 = .ok (.bipush 52, 2) := by decide +kernel
theorem dX6_split_99 : decode cX6_split 99 = .ok (.aload_n 1, 1) := by decide +kernel
theorem dX6_split_100 : decode cX6_split 100 = .ok (.iload 4, 2) := by decide +kernel
theorem dX6_split_102 : decode cX6_split 102 = .ok (.iload 7, 2) := by decide +kernel
theorem dX6_split_104 : decode cX6_split 104 = .ok (.invokestatic 52, 3) := by decide +kernel
theorem dX6_split_107 : decode cX6_split 107 = .ok (.iload 4, 2) := by decide +kernel
theorem dX6_split_109 : decode cX6_split 109 = .ok (.invokevirtual 42, 3) := by decide +kernel
theorem dX6_split_112 : decode cX6_split 112 = .ok (.goto 105, 3) := by decide +kernel
theorem dX6_split_115 : decode cX6_split 115 = .ok (.iload 7, 2) := by decide +kernel
theorem dX6_split_117 : decode cX6_split 117 = .ok (.iload_n 3, 1) := by decide +kernel
theorem dX6_split_118 : decode cX6_split 118 = .ok (.if_icmp .ge 53, 3) := by decide +kernel
theorem dX6_split_121 : decode cX6_split 121 = .ok (.aload_n 1, 1) := by decide +kernel
theorem dX6_split_122 : decode cX6_split 122 = .ok (.iload 7, 2) := by decide +kernel
theorem dX6_split_124 : decode cX6_split 124 = .ok (.iaload, 1) := by decide +kernel
theorem dX6_split_125 : decode cX6_split 125 = .ok (.bipush 61, 2) := by decide +kernel
theorem dX6_split_127 : decode cX6_split 127 = .ok (.if_icmp .ne 44, 3) := by decide +kernel
theorem dX6_split_130 : decode cX6_split 130 = .ok (.iload 6, 2) := by decide +kernel
theorem dX6_split_132 : decode cX6_split 132 = .ok (.bipush 60, 2) := by decide +kernel
theorem dX6_split_134 : decode cX6_split 134 = .ok (.if_icmp .eq 10, 3) := by decide +kernel
theorem dX6_split_137 : decode cX6_split 137 = .ok (.iload 6, 2) := by decide +kernel
theorem dX6_split_139 : decode cX6_split 139 = .ok (.bipush 62, 2) := by decide +kernel
theorem dX6_split_141 : decode cX6_split 141 = .ok (.if_icmp .ne 30, 3) := by decide +kernel
theorem dX6_split_144 : decode cX6_split 144 = .ok (.iinc 7 1, 3) := by decide +kernel
theorem dX6_split_147 : decode cX6_split 147 = .ok (.aload_n 0, 1) := by decide +kernel
theorem dX6_split_148 : decode cX6_split 148 = .ok (.iload 6, 2) := by decide +kernel
theorem dX6_split_150 : decode cX6_split 150 = .ok (.bipush 60, 2) := by decide +kernel
theorem dX6_split_152 : decode cX6_split 152 = .ok (.if_icmp .ne 8, 3) := by decide +kernel
theorem dX6_split_155 : decode cX6_split 155 = .ok (.bipush 38, 2) := by decide +kernel
theorem dX6_split_157 : decode cX6_split 157 = .ok (.goto 5, 3) := by decide +kernel
theorem dX6_split_160 : decode cX6_split 160 = .ok (.bipush 39, 2) := by decide +kernel
theorem dX6_split_162 : decode cX6_split 162 = .ok (.iconst 0, 1) := by decide +kernel
theorem dX6_split_163 : decode cX6_split 163 = .ok (.iload 4, 2) := by decide +kernel
theorem dX6_split_165 : decode cX6_split 165 = .ok (.invokevirtual 42, 3) := by decide +kernel
theorem dX6_split_168 : decode cX6_split 168 = .ok (.goto 49, 3) := by decide +kernel
theorem dX6_split_171 : decode cX6_split 171 = .ok (.iload 6, 2) := by decide +kernel
theorem dX6_split_173 : decode cX6_split 173 = .ok (.bipush 32, 2) := by decide +kernel
theorem dX6_split_175 : decode cX6_split 175 = .ok (.if_icmp .eq 42, 3) := by decide +kernel
theorem dX6_split_178 : decode cX6_split 178 = .ok (.iload 6, 2) := by decide +kernel
theorem dX6_split_180 : decode cX6_split 180 = .ok (.bipush 10, 2) := by decide +kernel
theorem dX6_split_182 : decode cX6_split 182 = .ok (.if_icmp .eq 35, 3) := by decide +kernel
theorem dX6_split_185 : decode cX6_split 185 = .ok (.ldc 55, 2) := by decide +kernel
theorem dX6_split_187 : decode cX6_split 187 = .ok (.iload 6, 2) := by decide +kernel
theorem dX6_split_189 : decode cX6_split 189 = .ok (.i2c, 1) := by decide +kernel
theorem dX6_split_190 : decode cX6_split 190 = .ok (.invokevirtual 57, 3) := by decide +kernel
theorem dX6_split_193 : decode cX6_split 193 = .ok (.istore 8, 2) := by decide +kernel
theorem dX6_split_195 : decode cX6_split 195 = .ok (.aload_n 0, 1) := by decide +kernel
theorem dX6_split_196 : decode cX6_split 196 = .ok (.iload 8, 2) := by decide +kernel
theorem dX6_split_198 : decode cX6_split 198 = .ok (.ifCond .ge 8, 3) := by decide +kernel
theorem dX6_split_201 : decode cX6_split 201 = .ok (.bipush 53, 2) := by decide +kernel
theorem dX6_split_203 : decode cX6_split 203 = .ok (.goto 8, 3) := by decide +kernel
theorem dX6_split_206 : decode cX6_split 206 = .ok (.bipush 40, 2) := by decide +kernel
theorem dX6_split_208 : decode cX6_split 208 = .ok (.iload 8, 2) := by decide +kernel
theorem dX6_split_210 : decode cX6_split 210 = .ok (.iadd, 1) := by decide +kernel
theorem dX6_split_211 : decode cX6_split 211 = .ok (.iconst 0, 1) := by decide +kernel
theorem dX6_split_212 : decode cX6_split 212 = .ok (.iload 4, 2) := by decide +kernel
theorem dX6_split_214 : decode cX6_split 214 = .ok (.invokevirtual 42, 3) := by decide +kernel
theorem dX6_split_217 : decode cX6_split 217 = .ok (.iload 7, 2) := by decide +kernel
theorem dX6_split_219 : decode cX6_split 219 = .ok (.istore 4, 2) := by decide +kernel
theorem dX6_split_221 : decode cX6_split 221 = .ok (.iinc 5 1, 3) := by decide +kernel
theorem dX6_split_224 : decode cX6_split 224 = .ok (.goto (-206), 3) := by decide +kernel
theorem dX6_split_227 : decode cX6_split 227 = .ok (.aload_n 0, 1) := by decide +kernel
theorem dX6_split_228 : decode cX6_split 228 = .ok (.bipush 54, 2) := by decide +kernel
theorem dX6_split_230 : decode cX6_split 230 = .ok (.iconst 0, 1) := by decide +kernel
theorem dX6_split_231 : decode cX6_split 231 = .ok (.iload_n 3, 1) := by decide +kernel
theorem dX6_split_232 : decode cX6_split 232 = .ok (.invokevirtual 42, 3) := by decide +kernel
theorem dX6_split_235 : decode cX6_split 235 = .ok (.return_, 1) := by decide +kernel
theorem dX6_add_0 : decode cX6_add 0 = .ok (.aload_n 0, 1) := by decide +kernel
theorem dX6_add_1 : decode cX6_add 1 = .ok (.getfield 21, 3) := by decide +kernel
theorem dX6_add_4 : decode cX6_add 4 = .ok (.ifCond .lt 79, 3) := by decide +kernel
theorem dX6_add_7 : decode cX6_add 7 = .ok (.aload_n 0, 1) := by decide +kernel
theorem dX6_add_8 : decode cX6_add 8 = .ok (.getfield 21, 3) := by decide +kernel
theorem dX6_add_11 : decode cX6_add 11 = .ok (.aload_n 0, 1) := by decide +kernel
theorem dX6_add_12 : decode cX6_add 12 = .ok (.getfield 9, 3) := by decide +kernel
theorem dX6_add_15 : decode cX6_add 15 = .ok (.arraylength, 1) := by decide +kernel
theorem dX6_add_16 : decode cX6_add 16 = .ok (.if_icmp .ge 67, 3) := by decide +kernel
theorem dX6_add_19 : decode cX6_add 19 = .ok (.aload_n 0, 1) := by decide +kernel
theorem dX6_add_20 : decode cX6_add 20 = .ok (.getfield 21, 3) := by decide +kernel
theorem dX6_add_23 : decode cX6_add 23 = .ok (.aload_n 0, 1) := by decide +kernel
theorem dX6_add_24 : decode cX6_add 24 = .ok (.getfield 15, 3) := by decide +kernel
theorem dX6_add_27 : decode cX6_add 27 = .ok (.arraylength, 1) := by decide +kernel
theorem dX6_add_28 : decode cX6_add 28 = .ok (.if_icmp .ge 55, 3) := by decide +kernel
theorem dX6_add_31 : decode cX6_add 31 = .ok (.aload_n 0, 1) := by decide +kernel
theorem dX6_add_32 : decode cX6_add 32 = .ok (.getfield 21, 3) := by decide +kernel
theorem dX6_add_35 : decode cX6_add 35 = .ok (.aload_n 0, 1) := by decide +kernel
theorem dX6_add_36 : decode cX6_add 36 = .ok (.getfield 18, 3) := by decide +kernel
theorem dX6_add_39 : decode cX6_add 39 = .ok (.arraylength, 1) := by decide +kernel
theorem dX6_add_40 : decode cX6_add 40 = .ok (.if_icmp .ge 43, 3) := by decide +kernel
theorem dX6_add_43 : decode cX6_add 43 = .ok (.aload_n 0, 1) := by decide +kernel
theorem dX6_add_44 : decode cX6_add 44 = .ok (.getfield 9, 3) := by decide +kernel
theorem dX6_add_47 : decode cX6_add 47 = .ok (.aload_n 0, 1) := by decide +kernel
theorem dX6_add_48 : decode cX6_add 48 = .ok (.getfield 21, 3) := by decide +kernel
theorem dX6_add_51 : decode cX6_add 51 = .ok (.iload_n 1, 1) := by decide +kernel
theorem dX6_add_52 : decode cX6_add 52 = .ok (.iastore, 1) := by decide +kernel
theorem dX6_add_53 : decode cX6_add 53 = .ok (.aload_n 0, 1) := by decide +kernel
theorem dX6_add_54 : decode cX6_add 54 = .ok (.getfield 15, 3) := by decide +kernel
theorem dX6_add_57 : decode cX6_add 57 = .ok (.aload_n 0, 1) := by decide +kernel
theorem dX6_add_58 : decode cX6_add 58 = .ok (.getfield 21, 3) := by decide +kernel
theorem dX6_add_61 : decode cX6_add 61 = .ok (.iload_n 2, 1) := by decide +kernel
theorem dX6_add_62 : decode cX6_add 62 = .ok (.iastore, 1) := by decide +kernel
theorem dX6_add_63 : decode cX6_add 63 = .ok (.aload_n 0, 1) := by decide +kernel
theorem dX6_add_64 : decode cX6_add 64 = .ok (.getfield 18, 3) := by decide +kernel
theorem dX6_add_67 : decode cX6_add 67 = .ok (.aload_n 0, 1) := by decide +kernel
theorem dX6_add_68 : decode cX6_add 68 = .ok (.getfield 21, 3) := by decide +kernel
theorem dX6_add_71 : decode cX6_add 71 = .ok (.iload_n 3, 1) := by decide +kernel
theorem dX6_add_72 : decode cX6_add 72 = .ok (.iastore, 1) := by decide +kernel
theorem dX6_add_73 : decode cX6_add 73 = .ok (.aload_n 0, 1) := by decide +kernel
theorem dX6_add_74 : decode cX6_add 74 = .ok (.dup, 1) := by decide +kernel
theorem dX6_add_75 : decode cX6_add 75 = .ok (.getfield 21, 3) := by decide +kernel
theorem dX6_add_78 : decode cX6_add 78 = .ok (.iconst 1, 1) := by decide +kernel
theorem dX6_add_79 : decode cX6_add 79 = .ok (.iadd, 1) := by decide +kernel
theorem dX6_add_80 : decode cX6_add 80 = .ok (.putfield 21, 3) := by decide +kernel
theorem dX6_add_83 : decode cX6_add 83 = .ok (.return_, 1) := by decide +kernel
theorem dX6_isLetter_0 : decode cX6_isLetter 0 = .ok (.iload_n 0, 1) := by decide +kernel
theorem dX6_isLetter_1 : decode cX6_isLetter 1 = .ok (.bipush 97, 2) := by decide +kernel
theorem dX6_isLetter_3 : decode cX6_isLetter 3 = .ok (.bipush 122, 2) := by decide +kernel
theorem dX6_isLetter_5 : decode cX6_isLetter 5 = .ok (.invokestatic 63, 3) := by decide +kernel
theorem dX6_isLetter_8 : decode cX6_isLetter 8 = .ok (.ifCond .ne 14, 3) := by decide +kernel
theorem dX6_isLetter_11 : decode cX6_isLetter 11 = .ok (.iload_n 0, 1) := by decide +kernel
theorem dX6_isLetter_12 : decode cX6_isLetter 12 = .ok (.bipush 65, 2) := by decide +kernel
theorem dX6_isLetter_14 : decode cX6_isLetter 14 = .ok (.bipush 90, 2) := by decide +kernel
theorem dX6_isLetter_16 : decode cX6_isLetter 16 = .ok (.invokestatic 63, 3) := by decide +kernel
theorem dX6_isLetter_19 : decode cX6_isLetter 19 = .ok (.ifCond .eq 7, 3) := by decide +kernel
theorem dX6_isLetter_22 : decode cX6_isLetter 22 = .ok (.iconst 1, 1) := by decide +kernel
theorem dX6_isLetter_23 : decode cX6_isLetter 23 = .ok (.goto 4, 3) := by decide +kernel
theorem dX6_isLetter_26 : decode cX6_isLetter 26 = .ok (.iconst 0, 1) := by decide +kernel
theorem dX6_isLetter_27 : decode cX6_isLetter 27 = .ok (.ireturn, 1) := by decide +kernel
theorem dX6_isDigit_0 : decode cX6_isDigit 0 = .ok (.iload_n 0, 1) := by decide +kernel
theorem dX6_isDigit_1 : decode cX6_isDigit 1 = .ok (.bipush 48, 2) := by decide +kernel
theorem dX6_isDigit_3 : decode cX6_isDigit 3 = .ok (.bipush 57, 2) := by decide +kernel
theorem dX6_isDigit_5 : decode cX6_isDigit 5 = .ok (.invokestatic 63, 3) := by decide +kernel
theorem dX6_isDigit_8 : decode cX6_isDigit 8 = .ok (.ireturn, 1) := by decide +kernel
theorem dX6_behindWord_0 : decode cX6_behindWord 0 = .ok (.iload_n 1, 1) := by decide +kernel
theorem dX6_behindWord_1 : decode cX6_behindWord 1 = .ok (.iconst 1, 1) := by decide +kernel
theorem dX6_behindWord_2 : decode cX6_behindWord 2 = .ok (.iadd, 1) := by decide +kernel
theorem dX6_behindWord_3 : decode cX6_behindWord 3 = .ok (.istore_n 3, 1) := by decide +kernel
theorem dX6_behindWord_4 : decode cX6_behindWord 4 = .ok (.iload_n 3, 1) := by decide +kernel
theorem dX6_behindWord_5 : decode cX6_behindWord 5 = .ok (.ifCond .lt 29, 3) := by decide +kernel
theorem dX6_behindWord_8 : decode cX6_behindWord 8 = .ok (.iload_n 3, 1) := by decide +kernel
theorem dX6_behindWord_9 : decode cX6_behindWord 9 = .ok (.iload_n 2, 1) := by decide +kernel
theorem dX6_behindWord_10 : decode cX6_behindWord 10 = .ok (.if_icmp .ge 24, 3) := by decide +kernel
theorem dX6_behindWord_13 : decode cX6_behindWord 13 = .ok (.iload_n 3, 1) := by decide +kernel
theorem dX6_behindWord_14 : decode cX6_behindWord 14 = .ok (.aload_n 0, 1) := by decide +kernel
theorem dX6_behindWord_15 : decode cX6_behindWord 15 = .ok (.arraylength, 1) := by decide +kernel
theorem dX6_behindWord_16 : decode cX6_behindWord 16 = .ok (.if_icmp .ge 18, 3) := by decide +kernel
theorem dX6_behindWord_19 : decode cX6_behindWord 19 = .ok (.aload_n 0, 1) := by decide +kernel
theorem dX6_behindWord_20 : decode cX6_behindWord 20 = .ok (.iload_n 3, 1) := by decide +kernel
theorem dX6_behindWord_21 : decode cX6_behindWord 21 = .ok (.iaload, 1) := by decide +kernel
theorem dX6_behindWord_22 : decode cX6_behindWord 22 = .ok (.invokestatic 31, 3) := by decide +kernel
theorem dX6_behindWord_25 : decode cX6_behindWord 25 = .ok (.ifCond .eq 9, 3) := by decide +kernel
theorem dX6_behindWord_28 : decode cX6_behindWord 28 = .ok (.iinc 3 1, 3) := by decide +kernel
theorem dX6_behindWord_31 : decode cX6_behindWord 31 = .ok (.goto (-27), 3) := by decide +kernel
theorem dX6_behindWord_34 : decode cX6_behindWord 34 = .ok (.iload_n 3, 1) := by decide +kernel
theorem dX6_behindWord_35 : decode cX6_behindWord 35 = .ok (.ireturn, 1) := by decide +kernel
theorem dX6_behindNumber_0 : decode cX6_behindNumber 0 = .ok (.iload_n 1, 1) := by decide +kernel
theorem dX6_behindNumber_1 : decode cX6_behindNumber 1 = .ok (.iconst 1, 1) := by decide +kernel
theorem dX6_behindNumber_2 : decode cX6_behindNumber 2 = .ok (.iadd, 1) := by decide +kernel
theorem dX6_behindNumber_3 : decode cX6_behindNumber 3 = .ok (.istore_n 3, 1) := by decide +kernel
theorem dX6_behindNumber_4 : decode cX6_behindNumber 4 = .ok (.iload_n 3, 1) := by decide +kernel
theorem dX6_behindNumber_5 : decode cX6_behindNumber 5 = .ok (.ifCond .lt 29, 3) := by decide +kernel
theorem dX6_behindNumber_8 : decode cX6_behindNumber 8 = .ok (.iload_n 3, 1) := by decide +kernel
theorem dX6_behindNumber_9 : decode cX6_behindNumber 9 = .ok (.iload_n 2, 1) := by decide +kernel
theorem dX6_behindNumber_10 : decode cX6_behindNumber 10 = .ok (.if_icmp .ge 24, 3) := by decide +kernel
theorem dX6_behindNumber_13 : decode cX6_behindNumber 13 = .ok (.iload_n 3, 1) := by decide +kernel
theorem dX6_behindNumber_14 : decode cX6_behindNumber 14 = .ok (.aload_n 0, 1) := by decide +kernel
theorem dX6_behindNumber_15 : decode cX6_behindNumber 15 = .ok (.arraylength, 1) := by decide +kernel
theorem dX6_behindNumber_16 : decode cX6_behindNumber 16 = .ok (.if_icmp .ge 18, 3) := by decide +kernel
theorem dX6_behindNumber_19 : decode cX6_behindNumber 19 = .ok (.aload_n 0, 1) := by decide +kernel
theorem dX6_behindNumber_20 : decode cX6_behindNumber 20 = .ok (.iload_n 3, 1) := by decide +kernel
theorem dX6_behindNumber_21 : decode cX6_behindNumber 21 = .ok (.iaload, 1) := by decide +kernel
theorem dX6_behindNumber_22 : decode cX6_behindNumber 22 = .ok (.invokestatic 46, 3) := by decide +kernel
theorem dX6_behindNumber_25 : decode cX6_behindNumber 25 = .ok (.ifCond .eq 9, 3) := by decide +kernel
theorem dX6_behindNumber_28 : decode cX6_behindNumber 28 = .ok (.iinc 3 1, 3) := by decide +kernel
theorem dX6_behindNumber_31 : decode cX6_behindNumber 31 = .ok (.goto (-27), 3) := by decide +kernel
theorem dX6_behindNumber_34 : decode cX6_behindNumber 34 = .ok (.iload_n 3, 1) := by decide +kernel
theorem dX6_behindNumber_35 : decode cX6_behindNumber 35 = .ok (.ireturn, 1) := by decide +kernel
theorem dX6_numberOf_0 : decode cX6_numberOf 0 = .ok (.iconst 0, 1) := by decide +kernel
theorem dX6_numberOf_1 : decode cX6_numberOf 1 = .ok (.istore_n 3, 1) := by decide +kernel
theorem dX6_numberOf_2 : decode cX6_numberOf 2 = .ok (.iconst 0, 1) := by decide +kernel
theorem dX6_numberOf_3 : decode cX6_numberOf 3 = .ok (.iload_n 1, 1) := by decide +kernel
theorem dX6_numberOf_4 : decode cX6_numberOf 4 = .ok (.invokestatic 67, 3) := by decide +kernel
theorem dX6_numberOf_7 : decode cX6_numberOf 7 = .ok (.istore 4, 2) := by decide +kernel
theorem dX6_numberOf_9 : decode cX6_numberOf 9 = .ok (.iload 4, 2) := by decide +kernel
theorem dX6_numberOf_11 : decode cX6_numberOf 11 = .ok (.iload_n 2, 1) := by decide +kernel
theorem dX6_numberOf_12 : decode cX6_numberOf 12 = .ok (.if_icmp .ge 35, 3) := by decide +kernel
theorem dX6_numberOf_15 : decode cX6_numberOf 15 = .ok (.iload 4, 2) := by decide +kernel
theorem dX6_numberOf_17 : decode cX6_numberOf 17 = .ok (.aload_n 0, 1) := by decide +kernel
theorem dX6_numberOf_18 : decode cX6_numberOf 18 = .ok (.arraylength, 1) := by decide +kernel
theorem dX6_numberOf_19 : decode cX6_numberOf 19 = .ok (.if_icmp .ge 28, 3) := by decide +kernel
theorem dX6_numberOf_22 : decode cX6_numberOf 22 = .ok (.sipush 10000, 3) := by decide +kernel
theorem dX6_numberOf_25 : decode cX6_numberOf 25 = .ok (.iload_n 3, 1) := by decide +kernel
theorem dX6_numberOf_26 : decode cX6_numberOf 26 = .ok (.bipush 10, 2) := by decide +kernel
theorem dX6_numberOf_28 : decode cX6_numberOf 28 = .ok (.imul, 1) := by decide +kernel
theorem dX6_numberOf_29 : decode cX6_numberOf 29 = .ok (.aload_n 0, 1) := by decide +kernel
theorem dX6_numberOf_30 : decode cX6_numberOf 30 = .ok (.iload 4, 2) := by decide +kernel
theorem dX6_numberOf_32 : decode cX6_numberOf 32 = .ok (.iaload, 1) := by decide +kernel
theorem dX6_numberOf_33 : decode cX6_numberOf 33 = .ok (.iadd, 1) := by decide +kernel
theorem dX6_numberOf_34 : decode cX6_numberOf 34 = .ok (.bipush 48, 2) := by decide +kernel
theorem dX6_numberOf_36 : decode cX6_numberOf 36 = .ok (.isub, 1) := by decide +kernel
theorem dX6_numberOf_37 : decode cX6_numberOf 37 = .ok (.invokestatic 25, 3) := by decide +kernel
theorem dX6_numberOf_40 : decode cX6_numberOf 40 = .ok (.istore_n 3, 1) := by decide +kernel
theorem dX6_numberOf_41 : decode cX6_numberOf 41 = .ok (.iinc 4 1, 3) := by decide +kernel
theorem dX6_numberOf_44 : decode cX6_numberOf 44 = .ok (.goto (-35), 3) := by decide +kernel
theorem dX6_numberOf_47 : decode cX6_numberOf 47 = .ok (.iload_n 3, 1) := by decide +kernel
theorem dX6_numberOf_48 : decode cX6_numberOf 48 = .ok (.ireturn, 1) := by decide +kernel
theorem dX6_wordOf_0 : decode cX6_wordOf 0 = .ok (.iconst 1, 1) := by decide +kernel
theorem dX6_wordOf_1 : decode cX6_wordOf 1 = .ok (.istore_n 3, 1) := by decide +kernel
theorem dX6_wordOf_2 : decode cX6_wordOf 2 = .ok (.iconst 0, 1) := by decide +kernel
theorem dX6_wordOf_3 : decode cX6_wordOf 3 = .ok (.istore 4, 2) := by decide +kernel
theorem dX6_wordOf_5 : decode cX6_wordOf 5 = .ok (.iconst 0, 1) := by decide +kernel
theorem dX6_wordOf_6 : decode cX6_wordOf 6 = .ok (.istore 5, 2) := by decide +kernel
theorem dX6_wordOf_8 : decode cX6_wordOf 8 = .ok (.iload 5, 2) := by decide +kernel
theorem dX6_wordOf_10 : decode cX6_wordOf 10 = .ok (.ldc 70, 2) := by decide +kernel
theorem dX6_wordOf_12 : decode cX6_wordOf 12 = .ok (.invokevirtual 72, 3) := by decide +kernel
theorem dX6_wordOf_15 : decode cX6_wordOf 15 = .ok (.if_icmp .ge 54, 3) := by decide +kernel
theorem dX6_wordOf_18 : decode cX6_wordOf 18 = .ok (.ldc 70, 2) := by decide +kernel
theorem dX6_wordOf_20 : decode cX6_wordOf 20 = .ok (.iload 5, 2) := by decide +kernel
theorem dX6_wordOf_22 : decode cX6_wordOf 22 = .ok (.invokevirtual 76, 3) := by decide +kernel
theorem dX6_wordOf_25 : decode cX6_wordOf 25 = .ok (.bipush 32, 2) := by decide +kernel
theorem dX6_wordOf_27 : decode cX6_wordOf 27 = .ok (.if_icmp .ne 36, 3) := by decide +kernel
theorem dX6_wordOf_30 : decode cX6_wordOf 30 = .ok (.iload 5, 2) := by decide +kernel
theorem dX6_wordOf_32 : decode cX6_wordOf 32 = .ok (.iload 4, 2) := by decide +kernel
theorem dX6_wordOf_34 : decode cX6_wordOf 34 = .ok (.isub, 1) := by decide +kernel
theorem dX6_wordOf_35 : decode cX6_wordOf 35 = .ok (.iload_n 2, 1) := by decide +kernel
theorem dX6_wordOf_36 : decode cX6_wordOf 36 = .ok (.iload_n 1, 1) := by decide +kernel
theorem dX6_wordOf_37 : decode cX6_wordOf 37 = .ok (.isub, 1) := by decide +kernel
theorem dX6_wordOf_38 : decode cX6_wordOf 38 = .ok (.if_icmp .ne 16, 3) := by decide +kernel
theorem dX6_wordOf_41 : decode cX6_wordOf 41 = .ok (.iload 4, 2) := by decide +kernel
theorem dX6_wordOf_43 : decode cX6_wordOf 43 = .ok (.aload_n 0, 1) := by decide +kernel
theorem dX6_wordOf_44 : decode cX6_wordOf 44 = .ok (.iload_n 1, 1) := by decide +kernel
theorem dX6_wordOf_45 : decode cX6_wordOf 45 = .ok (.iload_n 2, 1) := by decide +kernel
theorem dX6_wordOf_46 : decode cX6_wordOf 46 = .ok (.invokestatic 80, 3) := by decide +kernel
theorem dX6_wordOf_49 : decode cX6_wordOf 49 = .ok (.ifCond .eq 5, 3) := by decide +kernel
theorem dX6_wordOf_52 : decode cX6_wordOf 52 = .ok (.iload_n 3, 1) := by decide +kernel
theorem dX6_wordOf_53 : decode cX6_wordOf 53 = .ok (.ireturn, 1) := by decide +kernel
theorem dX6_wordOf_54 : decode cX6_wordOf 54 = .ok (.iinc 3 1, 3) := by decide +kernel
theorem dX6_wordOf_57 : decode cX6_wordOf 57 = .ok (.iload 5, 2) := by decide +kernel
theorem dX6_wordOf_59 : decode cX6_wordOf 59 = .ok (.iconst 1, 1) := by decide +kernel
theorem dX6_wordOf_60 : decode cX6_wordOf 60 = .ok (.iadd, 1) := by decide +kernel
theorem dX6_wordOf_61 : decode cX6_wordOf 61 = .ok (.istore 4, 2) := by decide +kernel
theorem dX6_wordOf_63 : decode cX6_wordOf 63 = .ok (.iinc 5 1, 3) := by decide +kernel
theorem dX6_wordOf_66 : decode cX6_wordOf 66 = .ok (.goto (-58), 3) := by decide +kernel
theorem dX6_wordOf_69 : decode cX6_wordOf 69 = .ok (.bipush 53, 2) := by decide +kernel
theorem dX6_wordOf_71 : decode cX6_wordOf 71 = .ok (.ireturn, 1) := by decide +kernel
theorem dX6_isLike_0 : decode cX6_isLike 0 = .ok (.iload_n 0, 1) := by decide +kernel
theorem dX6_isLike_1 : decode cX6_isLike 1 = .ok (.istore 4, 2) := by decide +kernel
theorem dX6_isLike_3 : decode cX6_isLike 3 = .ok (.iconst 0, 1) := by decide +kernel
theorem dX6_isLike_4 : decode cX6_isLike 4 = .ok (.iload_n 2, 1) := by decide +kernel
theorem dX6_isLike_5 : decode cX6_isLike 5 = .ok (.invokestatic 67, 3) := by decide +kernel
theorem dX6_isLike_8 : decode cX6_isLike 8 = .ok (.istore 5, 2) := by decide +kernel
theorem dX6_isLike_10 : decode cX6_isLike 10 = .ok (.iload 5, 2) := by decide +kernel
theorem dX6_isLike_12 : decode cX6_isLike 12 = .ok (.iload_n 3, 1) := by decide +kernel
theorem dX6_isLike_13 : decode cX6_isLike 13 = .ok (.if_icmp .ge 50, 3) := by decide +kernel
theorem dX6_isLike_16 : decode cX6_isLike 16 = .ok (.iload 5, 2) := by decide +kernel
theorem dX6_isLike_18 : decode cX6_isLike 18 = .ok (.aload_n 1, 1) := by decide +kernel
theorem dX6_isLike_19 : decode cX6_isLike 19 = .ok (.arraylength, 1) := by decide +kernel
theorem dX6_isLike_20 : decode cX6_isLike 20 = .ok (.if_icmp .ge 43, 3) := by decide +kernel
theorem dX6_isLike_23 : decode cX6_isLike 23 = .ok (.iload 4, 2) := by decide +kernel
theorem dX6_isLike_25 : decode cX6_isLike 25 = .ok (.ifCond .lt 27, 3) := by decide +kernel
theorem dX6_isLike_28 : decode cX6_isLike 28 = .ok (.iload 4, 2) := by decide +kernel
theorem dX6_isLike_30 : decode cX6_isLike 30 = .ok (.ldc 70, 2) := by decide +kernel
theorem dX6_isLike_32 : decode cX6_isLike 32 = .ok (.invokevirtual 72, 3) := by decide +kernel
theorem dX6_isLike_35 : decode cX6_isLike 35 = .ok (.if_icmp .ge 17, 3) := by decide +kernel
theorem dX6_isLike_38 : decode cX6_isLike 38 = .ok (.ldc 70, 2) := by decide +kernel
theorem dX6_isLike_40 : decode cX6_isLike 40 = .ok (.iload 4, 2) := by decide +kernel
theorem dX6_isLike_42 : decode cX6_isLike 42 = .ok (.invokevirtual 76, 3) := by decide +kernel
theorem dX6_isLike_45 : decode cX6_isLike 45 = .ok (.aload_n 1, 1) := by decide +kernel
theorem dX6_isLike_46 : decode cX6_isLike 46 = .ok (.iload 5, 2) := by decide +kernel
theorem dX6_isLike_48 : decode cX6_isLike 48 = .ok (.iaload, 1) := by decide +kernel
theorem dX6_isLike_49 : decode cX6_isLike 49 = .ok (.if_icmp .eq 5, 3) := by decide +kernel
theorem dX6_isLike_52 : decode cX6_isLike 52 = .ok (.iconst 0, 1) := by decide +kernel
theorem dX6_isLike_53 : decode cX6_isLike 53 = .ok (.ireturn, 1) := by decide +kernel
theorem dX6_isLike_54 : decode cX6_isLike 54 = .ok (.iinc 4 1, 3) := by decide +kernel
theorem dX6_isLike_57 : decode cX6_isLike 57 = .ok (.iinc 5 1, 3) := by decide +kernel
theorem dX6_isLike_60 : decode cX6_isLike 60 = .ok (.goto (-50), 3) := by decide +kernel
theorem dX6_isLike_63 : decode cX6_isLike 63 = .ok (.iconst 1, 1) := by decide +kernel
theorem dX6_isLike_64 : decode cX6_isLike 64 = .ok (.ireturn, 1) := by decide +kernel
