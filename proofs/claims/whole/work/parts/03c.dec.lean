theorem dX8_init_0 : decode cX8_init 0 = .ok (.aload_n 0, 1) := by decide +kernel
theorem dX8_init_1 : decode cX8_init 1 = .ok (.invokespecial 1, 3) := by decide +kernel
theorem dX8_init_4 : decode cX8_init 4 = .ok (.aload_n 0, 1) := by decide +kernel
theorem dX8_init_5 : decode cX8_init 5 = .ok (.new 7, 3) := by decide +kernel
theorem dX8_init_8 : decode cX8_init 8 = .ok (.dup, 1) := by decide +kernel
theorem dX8_init_9 : decode cX8_init 9 = .ok (.invokespecial 9, 3) := by decide +kernel
theorem dX8_init_12 : decode cX8_init 12 = .ok (.putfield 10, 3) := by decide +kernel
theorem dX8_init_15 : decode cX8_init 15 = .ok (.aload_n 0, 1) := by decide +kernel
theorem dX8_init_16 : decode cX8_init 16 = .ok (.new 7, 3) := by decide +kernel
theorem dX8_init_19 : decode cX8_init 19 = .ok (.dup, 1) := by decide +kernel
theorem dX8_init_20 : decode cX8_init 20 = .ok (.invokespecial 9, 3) := by decide +kernel
theorem dX8_init_23 : decode cX8_init 23 = .ok (.putfield 16, 3) := by decide +kernel
theorem dX8_init_26 : decode cX8_init 26 = .ok (.aload_n 0, 1) := by decide +kernel
theorem dX8_init_27 : decode cX8_init 27 = .ok (.new 19, 3) := by decide +kernel
theorem dX8_init_30 : decode cX8_init 30 = .ok (.dup, 1) := by decide +kernel
theorem dX8_init_31 : decode cX8_init 31 = .ok (.invokespecial 21, 3) := by decide +kernel
theorem dX8_init_34 : decode cX8_init 34 = .ok (.putfield 22, 3) := by decide +kernel
theorem dX8_init_37 : decode cX8_init 37 = .ok (.aload_n 0, 1) := by decide +kernel
theorem dX8_init_38 : decode cX8_init 38 = .ok (.new 26, 3) := by decide +kernel
theorem dX8_init_41 : decode cX8_init 41 = .ok (.dup, 1) := by decide +kernel
theorem dX8_init_42 : decode cX8_init 42 = .ok (.invokespecial 28, 3) := by decide +kernel
theorem dX8_init_45 : decode cX8_init 45 = .ok (.putfield 29, 3) := by decide +kernel
theorem dX8_init_48 : decode cX8_init 48 = .ok (.aload_n 0, 1) := by decide +kernel
theorem dX8_init_49 : decode cX8_init 49 = .ok (.new 33, 3) := by decide +kernel
theorem dX8_init_52 : decode cX8_init 52 = .ok (.dup, 1) := by decide +kernel
theorem dX8_init_53 : decode cX8_init 53 = .ok (.invokespecial 35, 3) := by decide +kernel
theorem dX8_init_56 : decode cX8_init 56 = .ok (.putfield 36, 3) := by decide +kernel
theorem dX8_init_59 : decode cX8_init 59 = .ok (.aload_n 0, 1) := by decide +kernel
theorem dX8_init_60 : decode cX8_init 60 = .ok (.new 40, 3) := by decide +kernel
theorem dX8_init_63 : decode cX8_init 63 = .ok (.dup, 1) := by decide +kernel
theorem dX8_init_64 : decode cX8_init 64 = .ok (.invokespecial 42, 3) := by decide +kernel
theorem dX8_init_67 : decode cX8_init 67 = .ok (.putfield 43, 3) := by decide +kernel
theorem dX8_init_70 : decode cX8_init 70 = .ok (.aload_n 0, 1) := by decide +kernel
theorem dX8_init_71 : decode cX8_init 71 = .ok (.sipush 300, 3) := by decide +kernel
theorem dX8_init_74 : decode cX8_init 74 = .ok (.newarray .int, 2) := by decide +kernel
theorem dX8_init_76 : decode cX8_init 76 = .ok (.putfield 47, 3) := by decide +kernel
theorem dX8_init_79 : decode cX8_init 79 = .ok (.aload_n 0, 1) := by decide +kernel
theorem dX8_init_80 : decode cX8_init 80 = .ok (.iconst 0, 1) := by decide +kernel
theorem dX8_init_81 : decode cX8_init 81 = .ok (.putfield 51, 3) := by decide +kernel
theorem dX8_init_84 : decode cX8_init 84 = .ok (.aload_n 0, 1) := by decide +kernel
theorem dX8_init_85 : decode cX8_init 85 = .ok (.iconst (-1), 1) := by decide +kernel
theorem dX8_init_86 : decode cX8_init 86 = .ok (.putfield 55, 3) := by decide +kernel
theorem dX8_init_89 : decode cX8_init 89 = .ok (.aload_n 0, 1) := by decide +kernel
theorem dX8_init_90 : decode cX8_init 90 = .ok (.iconst (-1), 1) := by decide +kernel
theorem dX8_init_91 : decode cX8_init 91 = .ok (.putfield 58, 3) := by decide +kernel
theorem dX8_init_94 : decode cX8_init 94 = .ok (.return_, 1) := by decide +kernel
theorem dX8_fact_0 : decode cX8_fact 0 = .ok (.iload_n 1, 1) := by decide +kernel
theorem dX8_fact_1 : decode cX8_fact 1 = .ok (.iconst 0, 1) := by decide +kernel
theorem dX8_fact_2 : decode cX8_fact 2 = .ok (.bipush 10, 2) := by decide +kernel
theorem dX8_fact_4 : decode cX8_fact 4 = .ok (.invokestatic 61, 3) := by decide +kernel
theorem dX8_fact_7 : decode cX8_fact 7 = .ok (.ifCond .eq 13, 3) := by decide +kernel
theorem dX8_fact_10 : decode cX8_fact 10 = .ok (.iload_n 2, 1) := by decide +kernel
theorem dX8_fact_11 : decode cX8_fact 11 = .ok (.iconst 0, 1) := by decide +kernel
theorem dX8_fact_12 : decode cX8_fact 12 = .ok (.bipush 99, 2) := by decide +kernel
theorem dX8_fact_14 : decode cX8_fact 14 = .ok (.invokestatic 61, 3) := by decide +kernel
theorem dX8_fact_17 : decode cX8_fact 17 = .ok (.ifCond .ne 5, 3) := by decide +kernel
theorem dX8_fact_20 : decode cX8_fact 20 = .ok (.iconst (-1), 1) := by decide +kernel
theorem dX8_fact_21 : decode cX8_fact 21 = .ok (.ireturn, 1) := by decide +kernel
theorem dX8_fact_22 : decode cX8_fact 22 = .ok (.aload_n 0, 1) := by decide +kernel
theorem dX8_fact_23 : decode cX8_fact 23 = .ok (.getfield 10, 3) := by decide +kernel
theorem dX8_fact_26 : decode cX8_fact 26 = .ok (.getfield 65, 3) := by decide +kernel
theorem dX8_fact_29 : decode cX8_fact 29 = .ok (.invokevirtual 69, 3) := by decide +kernel
theorem dX8_fact_32 : decode cX8_fact 32 = .ok (.istore_n 3, 1) := by decide +kernel
theorem dX8_fact_33 : decode cX8_fact 33 = .ok (.aload_n 0, 1) := by decide +kernel
theorem dX8_fact_34 : decode cX8_fact 34 = .ok (.getfield 10, 3) := by decide +kernel
theorem dX8_fact_37 : decode cX8_fact 37 = .ok (.getfield 65, 3) := by decide +kernel
theorem dX8_fact_40 : decode cX8_fact 40 = .ok (.iload_n 3, 1) := by decide +kernel
theorem dX8_fact_41 : decode cX8_fact 41 = .ok (.iconst 0, 1) := by decide +kernel
theorem dX8_fact_42 : decode cX8_fact 42 = .ok (.iload_n 1, 1) := by decide +kernel
theorem dX8_fact_43 : decode cX8_fact 43 = .ok (.invokevirtual 75, 3) := by decide +kernel
theorem dX8_fact_46 : decode cX8_fact 46 = .ok (.aload_n 0, 1) := by decide +kernel
theorem dX8_fact_47 : decode cX8_fact 47 = .ok (.getfield 10, 3) := by decide +kernel
theorem dX8_fact_50 : decode cX8_fact 50 = .ok (.getfield 65, 3) := by decide +kernel
theorem dX8_fact_53 : decode cX8_fact 53 = .ok (.iload_n 3, 1) := by decide +kernel
theorem dX8_fact_54 : decode cX8_fact 54 = .ok (.iconst 1, 1) := by decide +kernel
theorem dX8_fact_55 : decode cX8_fact 55 = .ok (.iload_n 2, 1) := by decide +kernel
theorem dX8_fact_56 : decode cX8_fact 56 = .ok (.invokevirtual 75, 3) := by decide +kernel
theorem dX8_fact_59 : decode cX8_fact 59 = .ok (.iload_n 3, 1) := by decide +kernel
theorem dX8_fact_60 : decode cX8_fact 60 = .ok (.ireturn, 1) := by decide +kernel
theorem dX8_prophet_0 : decode cX8_prophet 0 = .ok (.iload_n 1, 1) := by decide +kernel
theorem dX8_prophet_1 : decode cX8_prophet 1 = .ok (.iconst 0, 1) := by decide +kernel
theorem dX8_prophet_2 : decode cX8_prophet 2 = .ok (.sipush 9999, 3) := by decide +kernel
theorem dX8_prophet_5 : decode cX8_prophet 5 = .ok (.invokestatic 61, 3) := by decide +kernel
theorem dX8_prophet_8 : decode cX8_prophet 8 = .ok (.ifCond .eq 13, 3) := by decide +kernel
theorem dX8_prophet_11 : decode cX8_prophet 11 = .ok (.iload_n 2, 1) := by decide +kernel
theorem dX8_prophet_12 : decode cX8_prophet 12 = .ok (.iconst 0, 1) := by decide +kernel
theorem dX8_prophet_13 : decode cX8_prophet 13 = .ok (.bipush 99, 2) := by decide +kernel
theorem dX8_prophet_15 : decode cX8_prophet 15 = .ok (.invokestatic 61, 3) := by decide +kernel
theorem dX8_prophet_18 : decode cX8_prophet 18 = .ok (.ifCond .ne 5, 3) := by decide +kernel
theorem dX8_prophet_21 : decode cX8_prophet 21 = .ok (.iconst (-1), 1) := by decide +kernel
theorem dX8_prophet_22 : decode cX8_prophet 22 = .ok (.ireturn, 1) := by decide +kernel
theorem dX8_prophet_23 : decode cX8_prophet 23 = .ok (.aload_n 0, 1) := by decide +kernel
theorem dX8_prophet_24 : decode cX8_prophet 24 = .ok (.getfield 10, 3) := by decide +kernel
theorem dX8_prophet_27 : decode cX8_prophet 27 = .ok (.getfield 79, 3) := by decide +kernel
theorem dX8_prophet_30 : decode cX8_prophet 30 = .ok (.getfield 82, 3) := by decide +kernel
theorem dX8_prophet_33 : decode cX8_prophet 33 = .ok (.invokevirtual 69, 3) := by decide +kernel
theorem dX8_prophet_36 : decode cX8_prophet 36 = .ok (.istore_n 3, 1) := by decide +kernel
theorem dX8_prophet_37 : decode cX8_prophet 37 = .ok (.aload_n 0, 1) := by decide +kernel
theorem dX8_prophet_38 : decode cX8_prophet 38 = .ok (.getfield 10, 3) := by decide +kernel
theorem dX8_prophet_41 : decode cX8_prophet 41 = .ok (.getfield 79, 3) := by decide +kernel
theorem dX8_prophet_44 : decode cX8_prophet 44 = .ok (.getfield 82, 3) := by decide +kernel
theorem dX8_prophet_47 : decode cX8_prophet 47 = .ok (.iload_n 3, 1) := by decide +kernel
theorem dX8_prophet_48 : decode cX8_prophet 48 = .ok (.iconst 0, 1) := by decide +kernel
theorem dX8_prophet_49 : decode cX8_prophet 49 = .ok (.iload_n 1, 1) := by decide +kernel
theorem dX8_prophet_50 : decode cX8_prophet 50 = .ok (.invokevirtual 75, 3) := by decide +kernel
theorem dX8_prophet_53 : decode cX8_prophet 53 = .ok (.aload_n 0, 1) := by decide +kernel
theorem dX8_prophet_54 : decode cX8_prophet 54 = .ok (.getfield 10, 3) := by decide +kernel
theorem dX8_prophet_57 : decode cX8_prophet 57 = .ok (.getfield 79, 3) := by decide +kernel
theorem dX8_prophet_60 : decode cX8_prophet 60 = .ok (.getfield 82, 3) := by decide +kernel
theorem dX8_prophet_63 : decode cX8_prophet 63 = .ok (.iload_n 3, 1) := by decide +kernel
theorem dX8_prophet_64 : decode cX8_prophet 64 = .ok (.iconst 1, 1) := by decide +kernel
theorem dX8_prophet_65 : decode cX8_prophet 65 = .ok (.iload_n 2, 1) := by decide +kernel
theorem dX8_prophet_66 : decode cX8_prophet 66 = .ok (.invokevirtual 75, 3) := by decide +kernel
theorem dX8_prophet_69 : decode cX8_prophet 69 = .ok (.iload_n 3, 1) := by decide +kernel
theorem dX8_prophet_70 : decode cX8_prophet 70 = .ok (.ireturn, 1) := by decide +kernel
theorem dX8_feed_0 : decode cX8_feed 0 = .ok (.aload_n 0, 1) := by decide +kernel
theorem dX8_feed_1 : decode cX8_feed 1 = .ok (.getfield 51, 3) := by decide +kernel
theorem dX8_feed_4 : decode cX8_feed 4 = .ok (.bipush 20, 2) := by decide +kernel
theorem dX8_feed_6 : decode cX8_feed 6 = .ok (.iadd, 1) := by decide +kernel
theorem dX8_feed_7 : decode cX8_feed 7 = .ok (.sipush 300, 3) := by decide +kernel
theorem dX8_feed_10 : decode cX8_feed 10 = .ok (.if_icmp .le 5, 3) := by decide +kernel
theorem dX8_feed_13 : decode cX8_feed 13 = .ok (.iconst (-1), 1) := by decide +kernel
theorem dX8_feed_14 : decode cX8_feed 14 = .ok (.ireturn, 1) := by decide +kernel
theorem dX8_feed_15 : decode cX8_feed 15 = .ok (.aload_n 0, 1) := by decide +kernel
theorem dX8_feed_16 : decode cX8_feed 16 = .ok (.iload_n 1, 1) := by decide +kernel
theorem dX8_feed_17 : decode cX8_feed 17 = .ok (.invokevirtual 85, 3) := by decide +kernel
theorem dX8_feed_20 : decode cX8_feed 20 = .ok (.aload_n 0, 1) := by decide +kernel
theorem dX8_feed_21 : decode cX8_feed 21 = .ok (.iload_n 2, 1) := by decide +kernel
theorem dX8_feed_22 : decode cX8_feed 22 = .ok (.invokevirtual 85, 3) := by decide +kernel
theorem dX8_feed_25 : decode cX8_feed 25 = .ok (.aload_n 0, 1) := by decide +kernel
theorem dX8_feed_26 : decode cX8_feed 26 = .ok (.iload_n 3, 1) := by decide +kernel
theorem dX8_feed_27 : decode cX8_feed 27 = .ok (.invokevirtual 85, 3) := by decide +kernel
theorem dX8_feed_30 : decode cX8_feed 30 = .ok (.aload_n 0, 1) := by decide +kernel
theorem dX8_feed_31 : decode cX8_feed 31 = .ok (.iload 4, 2) := by decide +kernel
theorem dX8_feed_33 : decode cX8_feed 33 = .ok (.invokevirtual 85, 3) := by decide +kernel
theorem dX8_feed_36 : decode cX8_feed 36 = .ok (.aload_n 0, 1) := by decide +kernel
theorem dX8_feed_37 : decode cX8_feed 37 = .ok (.iload 5, 2) := by decide +kernel
theorem dX8_feed_39 : decode cX8_feed 39 = .ok (.invokevirtual 85, 3) := by decide +kernel
theorem dX8_feed_42 : decode cX8_feed 42 = .ok (.aload_n 0, 1) := by decide +kernel
theorem dX8_feed_43 : decode cX8_feed 43 = .ok (.getfield 51, 3) := by decide +kernel
theorem dX8_feed_46 : decode cX8_feed 46 = .ok (.ireturn, 1) := by decide +kernel
theorem dX8_putFour_0 : decode cX8_putFour 0 = .ok (.bipush 24, 2) := by decide +kernel
theorem dX8_putFour_2 : decode cX8_putFour 2 = .ok (.istore_n 2, 1) := by decide +kernel
theorem dX8_putFour_3 : decode cX8_putFour 3 = .ok (.iload_n 2, 1) := by decide +kernel
theorem dX8_putFour_4 : decode cX8_putFour 4 = .ok (.ifCond .lt 54, 3) := by decide +kernel
theorem dX8_putFour_7 : decode cX8_putFour 7 = .ok (.aload_n 0, 1) := by decide +kernel
theorem dX8_putFour_8 : decode cX8_putFour 8 = .ok (.getfield 51, 3) := by decide +kernel
theorem dX8_putFour_11 : decode cX8_putFour 11 = .ok (.ifCond .lt 41, 3) := by decide +kernel
theorem dX8_putFour_14 : decode cX8_putFour 14 = .ok (.aload_n 0, 1) := by decide +kernel
theorem dX8_putFour_15 : decode cX8_putFour 15 = .ok (.getfield 51, 3) := by decide +kernel
theorem dX8_putFour_18 : decode cX8_putFour 18 = .ok (.aload_n 0, 1) := by decide +kernel
theorem dX8_putFour_19 : decode cX8_putFour 19 = .ok (.getfield 47, 3) := by decide +kernel
theorem dX8_putFour_22 : decode cX8_putFour 22 = .ok (.arraylength, 1) := by decide +kernel
theorem dX8_putFour_23 : decode cX8_putFour 23 = .ok (.if_icmp .ge 29, 3) := by decide +kernel
theorem dX8_putFour_26 : decode cX8_putFour 26 = .ok (.aload_n 0, 1) := by decide +kernel
theorem dX8_putFour_27 : decode cX8_putFour 27 = .ok (.getfield 47, 3) := by decide +kernel
theorem dX8_putFour_30 : decode cX8_putFour 30 = .ok (.aload_n 0, 1) := by decide +kernel
theorem dX8_putFour_31 : decode cX8_putFour 31 = .ok (.getfield 51, 3) := by decide +kernel
theorem dX8_putFour_34 : decode cX8_putFour 34 = .ok (.iload_n 1, 1) := by decide +kernel
theorem dX8_putFour_35 : decode cX8_putFour 35 = .ok (.iload_n 2, 1) := by decide +kernel
theorem dX8_putFour_36 : decode cX8_putFour 36 = .ok (.ishr, 1) := by decide +kernel
theorem dX8_putFour_37 : decode cX8_putFour 37 = .ok (.sipush 255, 3) := by decide +kernel
theorem dX8_putFour_40 : decode cX8_putFour 40 = .ok (.iand, 1) := by decide +kernel
theorem dX8_putFour_41 : decode cX8_putFour 41 = .ok (.iastore, 1) := by decide +kernel
theorem dX8_putFour_42 : decode cX8_putFour 42 = .ok (.aload_n 0, 1) := by decide +kernel
theorem dX8_putFour_43 : decode cX8_putFour 43 = .ok (.dup, 1) := by decide +kernel
theorem dX8_putFour_44 : decode cX8_putFour 44 = .ok (.getfield 51, 3) := by decide +kernel
theorem dX8_putFour_47 : decode cX8_putFour 47 = .ok (.iconst 1, 1) := by decide +kernel
theorem dX8_putFour_48 : decode cX8_putFour 48 = .ok (.iadd, 1) := by decide +kernel
theorem dX8_putFour_49 : decode cX8_putFour 49 = .ok (.putfield 51, 3) := by decide +kernel
theorem dX8_putFour_52 : decode cX8_putFour 52 = .ok (.iinc 2 (-8), 3) := by decide +kernel
theorem dX8_putFour_55 : decode cX8_putFour 55 = .ok (.goto (-52), 3) := by decide +kernel
theorem dX8_putFour_58 : decode cX8_putFour 58 = .ok (.return_, 1) := by decide +kernel
theorem dX8_end_0 : decode cX8_end 0 = .ok (.iload_n 1, 1) := by decide +kernel
theorem dX8_end_1 : decode cX8_end 1 = .ok (.iconst 0, 1) := by decide +kernel
theorem dX8_end_2 : decode cX8_end 2 = .ok (.aload_n 0, 1) := by decide +kernel
theorem dX8_end_3 : decode cX8_end 3 = .ok (.getfield 51, 3) := by decide +kernel
theorem dX8_end_6 : decode cX8_end 6 = .ok (.invokestatic 61, 3) := by decide +kernel
theorem dX8_end_9 : decode cX8_end 9 = .ok (.ifCond .ne 5, 3) := by decide +kernel
theorem dX8_end_12 : decode cX8_end 12 = .ok (.iconst (-1), 1) := by decide +kernel
theorem dX8_end_13 : decode cX8_end 13 = .ok (.ireturn, 1) := by decide +kernel
theorem dX8_end_14 : decode cX8_end 14 = .ok (.aload_n 0, 1) := by decide +kernel
theorem dX8_end_15 : decode cX8_end 15 = .ok (.iload_n 1, 1) := by decide +kernel
theorem dX8_end_16 : decode cX8_end 16 = .ok (.putfield 51, 3) := by decide +kernel
theorem dX8_end_19 : decode cX8_end 19 = .ok (.iload_n 1, 1) := by decide +kernel
theorem dX8_end_20 : decode cX8_end 20 = .ok (.ireturn, 1) := by decide +kernel
theorem dX8_text_0 : decode cX8_text 0 = .ok (.aload_n 0, 1) := by decide +kernel
theorem dX8_text_1 : decode cX8_text 1 = .ok (.getfield 10, 3) := by decide +kernel
theorem dX8_text_4 : decode cX8_text 4 = .ok (.getfield 89, 3) := by decide +kernel
theorem dX8_text_7 : decode cX8_text 7 = .ok (.iconst 4, 1) := by decide +kernel
theorem dX8_text_8 : decode cX8_text 8 = .ok (.if_icmp .lt 5, 3) := by decide +kernel
theorem dX8_text_11 : decode cX8_text 11 = .ok (.iconst (-1), 1) := by decide +kernel
theorem dX8_text_12 : decode cX8_text 12 = .ok (.ireturn, 1) := by decide +kernel
theorem dX8_text_13 : decode cX8_text 13 = .ok (.aload_n 0, 1) := by decide +kernel
theorem dX8_text_14 : decode cX8_text 14 = .ok (.getfield 29, 3) := by decide +kernel
theorem dX8_text_17 : decode cX8_text 17 = .ok (.aload_n 0, 1) := by decide +kernel
theorem dX8_text_18 : decode cX8_text 18 = .ok (.getfield 47, 3) := by decide +kernel
theorem dX8_text_21 : decode cX8_text 21 = .ok (.aload_n 0, 1) := by decide +kernel
theorem dX8_text_22 : decode cX8_text 22 = .ok (.getfield 51, 3) := by decide +kernel
theorem dX8_text_25 : decode cX8_text 25 = .ok (.invokevirtual 92, 3) := by decide +kernel
theorem dX8_text_28 : decode cX8_text 28 = .ok (.astore_n 1, 1) := by decide +kernel
theorem dX8_text_29 : decode cX8_text 29 = .ok (.aload_n 0, 1) := by decide +kernel
theorem dX8_text_30 : decode cX8_text 30 = .ok (.iconst 0, 1) := by decide +kernel
theorem dX8_text_31 : decode cX8_text 31 = .ok (.putfield 51, 3) := by decide +kernel
theorem dX8_text_34 : decode cX8_text 34 = .ok (.aload_n 0, 1) := by decide +kernel
theorem dX8_text_35 : decode cX8_text 35 = .ok (.aload_n 0, 1) := by decide +kernel
theorem dX8_text_36 : decode cX8_text 36 = .ok (.getfield 29, 3) := by decide +kernel
theorem dX8_text_39 : decode cX8_text 39 = .ok (.getfield 96, 3) := by decide +kernel
theorem dX8_text_42 : decode cX8_text 42 = .ok (.putfield 55, 3) := by decide +kernel
theorem dX8_text_45 : decode cX8_text 45 = .ok (.aload_n 0, 1) := by decide +kernel
theorem dX8_text_46 : decode cX8_text 46 = .ok (.aload_n 0, 1) := by decide +kernel
theorem dX8_text_47 : decode cX8_text 47 = .ok (.getfield 29, 3) := by decide +kernel
theorem dX8_text_50 : decode cX8_text 50 = .ok (.getfield 96, 3) := by decide +kernel
theorem dX8_text_53 : decode cX8_text 53 = .ok (.ifCond .ne 7, 3) := by decide +kernel
theorem dX8_text_56 : decode cX8_text 56 = .ok (.iconst (-1), 1) := by decide +kernel
theorem dX8_text_57 : decode cX8_text 57 = .ok (.goto 10, 3) := by decide +kernel
theorem dX8_text_60 : decode cX8_text 60 = .ok (.aload_n 0, 1) := by decide +kernel
theorem dX8_text_61 : decode cX8_text 61 = .ok (.getfield 29, 3) := by decide +kernel
theorem dX8_text_64 : decode cX8_text 64 = .ok (.invokevirtual 99, 3) := by decide +kernel
theorem dX8_text_67 : decode cX8_text 67 = .ok (.putfield 58, 3) := by decide +kernel
theorem dX8_text_70 : decode cX8_text 70 = .ok (.aload_n 1, 1) := by decide +kernel
theorem dX8_text_71 : decode cX8_text 71 = .ok (.ifnonnull 7, 3) := by decide +kernel
theorem dX8_text_74 : decode cX8_text 74 = .ok (.iconst (-1), 1) := by decide +kernel
theorem dX8_text_75 : decode cX8_text 75 = .ok (.goto 11, 3) := by decide +kernel
theorem dX8_text_78 : decode cX8_text 78 = .ok (.aload_n 0, 1) := by decide +kernel
theorem dX8_text_79 : decode cX8_text 79 = .ok (.getfield 10, 3) := by decide +kernel
theorem dX8_text_82 : decode cX8_text 82 = .ok (.aload_n 1, 1) := by decide +kernel
theorem dX8_text_83 : decode cX8_text 83 = .ok (.invokevirtual 102, 3) := by decide +kernel
theorem dX8_text_86 : decode cX8_text 86 = .ok (.ireturn, 1) := by decide +kernel
theorem dX8_fault_0 : decode cX8_fault 0 = .ok (.iload_n 1, 1) := by decide +kernel
theorem dX8_fault_1 : decode cX8_fault 1 = .ok (.ifCond .ne 8, 3) := by decide +kernel
theorem dX8_fault_4 : decode cX8_fault 4 = .ok (.aload_n 0, 1) := by decide +kernel
theorem dX8_fault_5 : decode cX8_fault 5 = .ok (.getfield 55, 3) := by decide +kernel
theorem dX8_fault_8 : decode cX8_fault 8 = .ok (.ireturn, 1) := by decide +kernel
theorem dX8_fault_9 : decode cX8_fault 9 = .ok (.iload_n 1, 1) := by decide +kernel
theorem dX8_fault_10 : decode cX8_fault 10 = .ok (.iconst 1, 1) := by decide +kernel
theorem dX8_fault_11 : decode cX8_fault 11 = .ok (.if_icmp .ne 10, 3) := by decide +kernel
theorem dX8_fault_14 : decode cX8_fault 14 = .ok (.aload_n 0, 1) := by decide +kernel
theorem dX8_fault_15 : decode cX8_fault 15 = .ok (.getfield 58, 3) := by decide +kernel
theorem dX8_fault_18 : decode cX8_fault 18 = .ok (.goto 4, 3) := by decide +kernel
theorem dX8_fault_21 : decode cX8_fault 21 = .ok (.iconst (-1), 1) := by decide +kernel
theorem dX8_fault_22 : decode cX8_fault 22 = .ok (.ireturn, 1) := by decide +kernel
theorem dX8_by_0 : decode cX8_by 0 = .ok (.iload_n 1, 1) := by decide +kernel
theorem dX8_by_1 : decode cX8_by 1 = .ok (.iconst (-1), 1) := by decide +kernel
theorem dX8_by_2 : decode cX8_by 2 = .ok (.aload_n 0, 1) := by decide +kernel
theorem dX8_by_3 : decode cX8_by 3 = .ok (.getfield 10, 3) := by decide +kernel
theorem dX8_by_6 : decode cX8_by 6 = .ok (.getfield 89, 3) := by decide +kernel
theorem dX8_by_9 : decode cX8_by 9 = .ok (.iconst 1, 1) := by decide +kernel
theorem dX8_by_10 : decode cX8_by 10 = .ok (.isub, 1) := by decide +kernel
theorem dX8_by_11 : decode cX8_by 11 = .ok (.invokestatic 61, 3) := by decide +kernel
theorem dX8_by_14 : decode cX8_by 14 = .ok (.ifCond .ne 5, 3) := by decide +kernel
theorem dX8_by_17 : decode cX8_by 17 = .ok (.iconst 0, 1) := by decide +kernel
theorem dX8_by_18 : decode cX8_by 18 = .ok (.ireturn, 1) := by decide +kernel
theorem dX8_by_19 : decode cX8_by 19 = .ok (.aload_n 0, 1) := by decide +kernel
theorem dX8_by_20 : decode cX8_by 20 = .ok (.getfield 10, 3) := by decide +kernel
theorem dX8_by_23 : decode cX8_by 23 = .ok (.iload_n 1, 1) := by decide +kernel
theorem dX8_by_24 : decode cX8_by 24 = .ok (.putfield 106, 3) := by decide +kernel
theorem dX8_by_27 : decode cX8_by 27 = .ok (.iconst 1, 1) := by decide +kernel
theorem dX8_by_28 : decode cX8_by 28 = .ok (.ireturn, 1) := by decide +kernel
theorem dX8_foretell_0 : decode cX8_foretell 0 = .ok (.aload_n 0, 1) := by decide +kernel
theorem dX8_foretell_1 : decode cX8_foretell 1 = .ok (.iload_n 1, 1) := by decide +kernel
theorem dX8_foretell_2 : decode cX8_foretell 2 = .ok (.iload_n 3, 1) := by decide +kernel
theorem dX8_foretell_3 : decode cX8_foretell 3 = .ok (.iload 4, 2) := by decide +kernel
theorem dX8_foretell_5 : decode cX8_foretell 5 = .ok (.iload 5, 2) := by decide +kernel
theorem dX8_foretell_7 : decode cX8_foretell 7 = .ok (.invokevirtual 109, 3) := by decide +kernel
theorem dX8_foretell_10 : decode cX8_foretell 10 = .ok (.ifCond .ne 5, 3) := by decide +kernel
theorem dX8_foretell_13 : decode cX8_foretell 13 = .ok (.iconst (-1), 1) := by decide +kernel
theorem dX8_foretell_14 : decode cX8_foretell 14 = .ok (.ireturn, 1) := by decide +kernel
theorem dX8_foretell_15 : decode cX8_foretell 15 = .ok (.aload_n 0, 1) := by decide +kernel
theorem dX8_foretell_16 : decode cX8_foretell 16 = .ok (.getfield 10, 3) := by decide +kernel
theorem dX8_foretell_19 : decode cX8_foretell 19 = .ok (.invokevirtual 113, 3) := by decide +kernel
theorem dX8_foretell_22 : decode cX8_foretell 22 = .ok (.aload_n 0, 1) := by decide +kernel
theorem dX8_foretell_23 : decode cX8_foretell 23 = .ok (.iload_n 1, 1) := by decide +kernel
theorem dX8_foretell_24 : decode cX8_foretell 24 = .ok (.iload_n 2, 1) := by decide +kernel
theorem dX8_foretell_25 : decode cX8_foretell 25 = .ok (.iload_n 3, 1) := by decide +kernel
theorem dX8_foretell_26 : decode cX8_foretell 26 = .ok (.iload 4, 2) := by decide +kernel
theorem dX8_foretell_28 : decode cX8_foretell 28 = .ok (.iload 5, 2) := by decide +kernel
theorem dX8_foretell_30 : decode cX8_foretell 30 = .ok (.invokevirtual 116, 3) := by decide +kernel
theorem dX8_foretell_33 : decode cX8_foretell 33 = .ok (.ireturn, 1) := by decide +kernel
theorem dX8_mayForetell_0 : decode cX8_mayForetell 0 = .ok (.aload_n 0, 1) := by decide +kernel
theorem dX8_mayForetell_1 : decode cX8_mayForetell 1 = .ok (.iload_n 1, 1) := by decide +kernel
theorem dX8_mayForetell_2 : decode cX8_mayForetell 2 = .ok (.invokevirtual 120, 3) := by decide +kernel
theorem dX8_mayForetell_5 : decode cX8_mayForetell 5 = .ok (.ifCond .eq 55, 3) := by decide +kernel
theorem dX8_mayForetell_8 : decode cX8_mayForetell 8 = .ok (.aload_n 0, 1) := by decide +kernel
theorem dX8_mayForetell_9 : decode cX8_mayForetell 9 = .ok (.iload_n 2, 1) := by decide +kernel
theorem dX8_mayForetell_10 : decode cX8_mayForetell 10 = .ok (.invokevirtual 124, 3) := by decide +kernel
theorem dX8_mayForetell_13 : decode cX8_mayForetell 13 = .ok (.ifCond .eq 47, 3) := by decide +kernel
theorem dX8_mayForetell_16 : decode cX8_mayForetell 16 = .ok (.iload_n 3, 1) := by decide +kernel
theorem dX8_mayForetell_17 : decode cX8_mayForetell 17 = .ok (.iconst 1, 1) := by decide +kernel
theorem dX8_mayForetell_18 : decode cX8_mayForetell 18 = .ok (.bipush 99, 2) := by decide +kernel
theorem dX8_mayForetell_20 : decode cX8_mayForetell 20 = .ok (.invokestatic 61, 3) := by decide +kernel
theorem dX8_mayForetell_23 : decode cX8_mayForetell 23 = .ok (.ifCond .eq 37, 3) := by decide +kernel
theorem dX8_mayForetell_26 : decode cX8_mayForetell 26 = .ok (.iload 4, 2) := by decide +kernel
theorem dX8_mayForetell_28 : decode cX8_mayForetell 28 = .ok (.iconst 0, 1) := by decide +kernel
theorem dX8_mayForetell_29 : decode cX8_mayForetell 29 = .ok (.sipush 999, 3) := by decide +kernel
theorem dX8_mayForetell_32 : decode cX8_mayForetell 32 = .ok (.invokestatic 61, 3) := by decide +kernel
theorem dX8_mayForetell_35 : decode cX8_mayForetell 35 = .ok (.ifCond .eq 25, 3) := by decide +kernel
theorem dX8_mayForetell_38 : decode cX8_mayForetell 38 = .ok (.aload_n 0, 1) := by decide +kernel
theorem dX8_mayForetell_39 : decode cX8_mayForetell 39 = .ok (.getfield 10, 3) := by decide +kernel
theorem dX8_mayForetell_42 : decode cX8_mayForetell 42 = .ok (.getfield 79, 3) := by decide +kernel
theorem dX8_mayForetell_45 : decode cX8_mayForetell 45 = .ok (.getfield 127, 3) := by decide +kernel
theorem dX8_mayForetell_48 : decode cX8_mayForetell 48 = .ok (.getfield 130, 3) := by decide +kernel
theorem dX8_mayForetell_51 : decode cX8_mayForetell 51 = .ok (.bipush 12, 2) := by decide +kernel
theorem dX8_mayForetell_53 : decode cX8_mayForetell 53 = .ok (.if_icmp .ge 7, 3) := by decide +kernel
theorem dX8_mayForetell_56 : decode cX8_mayForetell 56 = .ok (.iconst 1, 1) := by decide +kernel
theorem dX8_mayForetell_57 : decode cX8_mayForetell 57 = .ok (.goto 4, 3) := by decide +kernel
theorem dX8_mayForetell_60 : decode cX8_mayForetell 60 = .ok (.iconst 0, 1) := by decide +kernel
theorem dX8_mayForetell_61 : decode cX8_mayForetell 61 = .ok (.ireturn, 1) := by decide +kernel
theorem dX8_doForetell_0 : decode cX8_doForetell 0 = .ok (.aload_n 0, 1) := by decide +kernel
theorem dX8_doForetell_1 : decode cX8_doForetell 1 = .ok (.getfield 10, 3) := by decide +kernel
theorem dX8_doForetell_4 : decode cX8_doForetell 4 = .ok (.getfield 79, 3) := by decide +kernel
theorem dX8_doForetell_7 : decode cX8_doForetell 7 = .ok (.astore 6, 2) := by decide +kernel
theorem dX8_doForetell_9 : decode cX8_doForetell 9 = .ok (.aload 6, 2) := by decide +kernel
theorem dX8_doForetell_11 : decode cX8_doForetell 11 = .ok (.getfield 127, 3) := by decide +kernel
theorem dX8_doForetell_14 : decode cX8_doForetell 14 = .ok (.astore 7, 2) := by decide +kernel
theorem dX8_doForetell_16 : decode cX8_doForetell 16 = .ok (.aload 7, 2) := by decide +kernel
theorem dX8_doForetell_18 : decode cX8_doForetell 18 = .ok (.invokevirtual 69, 3) := by decide +kernel
theorem dX8_doForetell_21 : decode cX8_doForetell 21 = .ok (.istore 8, 2) := by decide +kernel
theorem dX8_doForetell_23 : decode cX8_doForetell 23 = .ok (.aload 7, 2) := by decide +kernel
theorem dX8_doForetell_25 : decode cX8_doForetell 25 = .ok (.iload 8, 2) := by decide +kernel
theorem dX8_doForetell_27 : decode cX8_doForetell 27 = .ok (.iconst 0, 1) := by decide +kernel
theorem dX8_doForetell_28 : decode cX8_doForetell 28 = .ok (.iload_n 1, 1) := by decide +kernel
theorem dX8_doForetell_29 : decode cX8_doForetell 29 = .ok (.invokevirtual 75, 3) := by decide +kernel
theorem dX8_doForetell_32 : decode cX8_doForetell 32 = .ok (.aload 7, 2) := by decide +kernel
theorem dX8_doForetell_34 : decode cX8_doForetell 34 = .ok (.iload 8, 2) := by decide +kernel
theorem dX8_doForetell_36 : decode cX8_doForetell 36 = .ok (.iconst 1, 1) := by decide +kernel
theorem dX8_doForetell_37 : decode cX8_doForetell 37 = .ok (.iload_n 2, 1) := by decide +kernel
theorem dX8_doForetell_38 : decode cX8_doForetell 38 = .ok (.ifCond .eq 7, 3) := by decide +kernel
theorem dX8_doForetell_41 : decode cX8_doForetell 41 = .ok (.iconst 1, 1) := by decide +kernel
theorem dX8_doForetell_42 : decode cX8_doForetell 42 = .ok (.goto 4, 3) := by decide +kernel
theorem dX8_doForetell_45 : decode cX8_doForetell 45 = .ok (.iconst 0, 1) := by decide +kernel
theorem dX8_doForetell_46 : decode cX8_doForetell 46 = .ok (.invokevirtual 75, 3) := by decide +kernel
theorem dX8_doForetell_49 : decode cX8_doForetell 49 = .ok (.aload 7, 2) := by decide +kernel
theorem dX8_doForetell_51 : decode cX8_doForetell 51 = .ok (.iload 8, 2) := by decide +kernel
theorem dX8_doForetell_53 : decode cX8_doForetell 53 = .ok (.iconst 2, 1) := by decide +kernel
theorem dX8_doForetell_54 : decode cX8_doForetell 54 = .ok (.iload_n 3, 1) := by decide +kernel
theorem dX8_doForetell_55 : decode cX8_doForetell 55 = .ok (.invokevirtual 75, 3) := by decide +kernel
theorem dX8_doForetell_58 : decode cX8_doForetell 58 = .ok (.aload 7, 2) := by decide +kernel
theorem dX8_doForetell_60 : decode cX8_doForetell 60 = .ok (.iload 8, 2) := by decide +kernel
theorem dX8_doForetell_62 : decode cX8_doForetell 62 = .ok (.iconst 3, 1) := by decide +kernel
theorem dX8_doForetell_63 : decode cX8_doForetell 63 = .ok (.aload 6, 2) := by decide +kernel
theorem dX8_doForetell_65 : decode cX8_doForetell 65 = .ok (.getfield 133, 3) := by decide +kernel
theorem dX8_doForetell_68 : decode cX8_doForetell 68 = .ok (.iload 4, 2) := by decide +kernel
theorem dX8_doForetell_70 : decode cX8_doForetell 70 = .ok (.iadd, 1) := by decide +kernel
theorem dX8_doForetell_71 : decode cX8_doForetell 71 = .ok (.invokevirtual 75, 3) := by decide +kernel
theorem dX8_doForetell_74 : decode cX8_doForetell 74 = .ok (.aload 7, 2) := by decide +kernel
theorem dX8_doForetell_76 : decode cX8_doForetell 76 = .ok (.iload 8, 2) := by decide +kernel
theorem dX8_doForetell_78 : decode cX8_doForetell 78 = .ok (.iconst 4, 1) := by decide +kernel
theorem dX8_doForetell_79 : decode cX8_doForetell 79 = .ok (.iload 5, 2) := by decide +kernel
theorem dX8_doForetell_81 : decode cX8_doForetell 81 = .ok (.invokevirtual 75, 3) := by decide +kernel
theorem dX8_doForetell_84 : decode cX8_doForetell 84 = .ok (.aload 6, 2) := by decide +kernel
theorem dX8_doForetell_86 : decode cX8_doForetell 86 = .ok (.iload_n 1, 1) := by decide +kernel
theorem dX8_doForetell_87 : decode cX8_doForetell 87 = .ok (.iload 5, 2) := by decide +kernel
theorem dX8_doForetell_89 : decode cX8_doForetell 89 = .ok (.invokevirtual 136, 3) := by decide +kernel
theorem dX8_doForetell_92 : decode cX8_doForetell 92 = .ok (.iload 8, 2) := by decide +kernel
theorem dX8_doForetell_94 : decode cX8_doForetell 94 = .ok (.ireturn, 1) := by decide +kernel
theorem dX8_mayHold_0 : decode cX8_mayHold 0 = .ok (.aload_n 0, 1) := by decide +kernel
theorem dX8_mayHold_1 : decode cX8_mayHold 1 = .ok (.getfield 10, 3) := by decide +kernel
theorem dX8_mayHold_4 : decode cX8_mayHold 4 = .ok (.getfield 79, 3) := by decide +kernel
theorem dX8_mayHold_7 : decode cX8_mayHold 7 = .ok (.getfield 82, 3) := by decide +kernel
theorem dX8_mayHold_10 : decode cX8_mayHold 10 = .ok (.astore_n 2, 1) := by decide +kernel
theorem dX8_mayHold_11 : decode cX8_mayHold 11 = .ok (.aload_n 2, 1) := by decide +kernel
theorem dX8_mayHold_12 : decode cX8_mayHold 12 = .ok (.iload_n 1, 1) := by decide +kernel
theorem dX8_mayHold_13 : decode cX8_mayHold 13 = .ok (.invokevirtual 140, 3) := by decide +kernel
theorem dX8_mayHold_16 : decode cX8_mayHold 16 = .ok (.ifCond .eq 16, 3) := by decide +kernel
theorem dX8_mayHold_19 : decode cX8_mayHold 19 = .ok (.aload_n 2, 1) := by decide +kernel
theorem dX8_mayHold_20 : decode cX8_mayHold 20 = .ok (.iload_n 1, 1) := by decide +kernel
theorem dX8_mayHold_21 : decode cX8_mayHold 21 = .ok (.iconst 2, 1) := by decide +kernel
theorem dX8_mayHold_22 : decode cX8_mayHold 22 = .ok (.invokevirtual 143, 3) := by decide +kernel
theorem dX8_mayHold_25 : decode cX8_mayHold 25 = .ok (.ifCond .ne 7, 3) := by decide +kernel
theorem dX8_mayHold_28 : decode cX8_mayHold 28 = .ok (.iconst 1, 1) := by decide +kernel
theorem dX8_mayHold_29 : decode cX8_mayHold 29 = .ok (.goto 4, 3) := by decide +kernel
theorem dX8_mayHold_32 : decode cX8_mayHold 32 = .ok (.iconst 0, 1) := by decide +kernel
theorem dX8_mayHold_33 : decode cX8_mayHold 33 = .ok (.ireturn, 1) := by decide +kernel
theorem dX8_bring_0 : decode cX8_bring 0 = .ok (.aload_n 0, 1) := by decide +kernel
theorem dX8_bring_1 : decode cX8_bring 1 = .ok (.iload_n 1, 1) := by decide +kernel
theorem dX8_bring_2 : decode cX8_bring 2 = .ok (.iload_n 2, 1) := by decide +kernel
theorem dX8_bring_3 : decode cX8_bring 3 = .ok (.iconst 0, 1) := by decide +kernel
theorem dX8_bring_4 : decode cX8_bring 4 = .ok (.invokevirtual 147, 3) := by decide +kernel
theorem dX8_bring_7 : decode cX8_bring 7 = .ok (.ifCond .ne 5, 3) := by decide +kernel
theorem dX8_bring_10 : decode cX8_bring 10 = .ok (.iconst 0, 1) := by decide +kernel
theorem dX8_bring_11 : decode cX8_bring 11 = .ok (.ireturn, 1) := by decide +kernel
theorem dX8_bring_12 : decode cX8_bring 12 = .ok (.aload_n 0, 1) := by decide +kernel
theorem dX8_bring_13 : decode cX8_bring 13 = .ok (.getfield 10, 3) := by decide +kernel
theorem dX8_bring_16 : decode cX8_bring 16 = .ok (.invokevirtual 113, 3) := by decide +kernel
theorem dX8_bring_19 : decode cX8_bring 19 = .ok (.aload_n 0, 1) := by decide +kernel
theorem dX8_bring_20 : decode cX8_bring 20 = .ok (.iload_n 1, 1) := by decide +kernel
theorem dX8_bring_21 : decode cX8_bring 21 = .ok (.iload_n 2, 1) := by decide +kernel
theorem dX8_bring_22 : decode cX8_bring 22 = .ok (.invokevirtual 151, 3) := by decide +kernel
theorem dX8_bring_25 : decode cX8_bring 25 = .ok (.iconst 1, 1) := by decide +kernel
theorem dX8_bring_26 : decode cX8_bring 26 = .ok (.ireturn, 1) := by decide +kernel
theorem dX8_spoil_0 : decode cX8_spoil 0 = .ok (.aload_n 0, 1) := by decide +kernel
theorem dX8_spoil_1 : decode cX8_spoil 1 = .ok (.iload_n 1, 1) := by decide +kernel
theorem dX8_spoil_2 : decode cX8_spoil 2 = .ok (.iload_n 2, 1) := by decide +kernel
theorem dX8_spoil_3 : decode cX8_spoil 3 = .ok (.iconst 1, 1) := by decide +kernel
theorem dX8_spoil_4 : decode cX8_spoil 4 = .ok (.invokevirtual 147, 3) := by decide +kernel
theorem dX8_spoil_7 : decode cX8_spoil 7 = .ok (.ifCond .ne 5, 3) := by decide +kernel
theorem dX8_spoil_10 : decode cX8_spoil 10 = .ok (.iconst 0, 1) := by decide +kernel
theorem dX8_spoil_11 : decode cX8_spoil 11 = .ok (.ireturn, 1) := by decide +kernel
theorem dX8_spoil_12 : decode cX8_spoil 12 = .ok (.aload_n 0, 1) := by decide +kernel
theorem dX8_spoil_13 : decode cX8_spoil 13 = .ok (.getfield 10, 3) := by decide +kernel
theorem dX8_spoil_16 : decode cX8_spoil 16 = .ok (.invokevirtual 113, 3) := by decide +kernel
theorem dX8_spoil_19 : decode cX8_spoil 19 = .ok (.aload_n 0, 1) := by decide +kernel
theorem dX8_spoil_20 : decode cX8_spoil 20 = .ok (.iload_n 1, 1) := by decide +kernel
theorem dX8_spoil_21 : decode cX8_spoil 21 = .ok (.iload_n 2, 1) := by decide +kernel
theorem dX8_spoil_22 : decode cX8_spoil 22 = .ok (.invokevirtual 151, 3) := by decide +kernel
theorem dX8_spoil_25 : decode cX8_spoil 25 = .ok (.iconst 1, 1) := by decide +kernel
theorem dX8_spoil_26 : decode cX8_spoil 26 = .ok (.ireturn, 1) := by decide +kernel
theorem dX8_mayTurn_0 : decode cX8_mayTurn 0 = .ok (.aload_n 0, 1) := by decide +kernel
theorem dX8_mayTurn_1 : decode cX8_mayTurn 1 = .ok (.getfield 10, 3) := by decide +kernel
theorem dX8_mayTurn_4 : decode cX8_mayTurn 4 = .ok (.getfield 79, 3) := by decide +kernel
theorem dX8_mayTurn_7 : decode cX8_mayTurn 7 = .ok (.astore 4, 2) := by decide +kernel
theorem dX8_mayTurn_9 : decode cX8_mayTurn 9 = .ok (.aload 4, 2) := by decide +kernel
theorem dX8_mayTurn_11 : decode cX8_mayTurn 11 = .ok (.getfield 82, 3) := by decide +kernel
theorem dX8_mayTurn_14 : decode cX8_mayTurn 14 = .ok (.iload_n 1, 1) := by decide +kernel
theorem dX8_mayTurn_15 : decode cX8_mayTurn 15 = .ok (.invokevirtual 140, 3) := by decide +kernel
theorem dX8_mayTurn_18 : decode cX8_mayTurn 18 = .ok (.ifCond .eq 56, 3) := by decide +kernel
theorem dX8_mayTurn_21 : decode cX8_mayTurn 21 = .ok (.aload_n 0, 1) := by decide +kernel
theorem dX8_mayTurn_22 : decode cX8_mayTurn 22 = .ok (.getfield 10, 3) := by decide +kernel
theorem dX8_mayTurn_25 : decode cX8_mayTurn 25 = .ok (.getfield 65, 3) := by decide +kernel
theorem dX8_mayTurn_28 : decode cX8_mayTurn 28 = .ok (.iload_n 2, 1) := by decide +kernel
theorem dX8_mayTurn_29 : decode cX8_mayTurn 29 = .ok (.invokevirtual 140, 3) := by decide +kernel
theorem dX8_mayTurn_32 : decode cX8_mayTurn 32 = .ok (.ifCond .eq 42, 3) := by decide +kernel
theorem dX8_mayTurn_35 : decode cX8_mayTurn 35 = .ok (.aload 4, 2) := by decide +kernel
theorem dX8_mayTurn_37 : decode cX8_mayTurn 37 = .ok (.iload_n 2, 1) := by decide +kernel
theorem dX8_mayTurn_38 : decode cX8_mayTurn 38 = .ok (.invokevirtual 154, 3) := by decide +kernel
theorem dX8_mayTurn_41 : decode cX8_mayTurn 41 = .ok (.iload_n 3, 1) := by decide +kernel
theorem dX8_mayTurn_42 : decode cX8_mayTurn 42 = .ok (.if_icmp .ne 32, 3) := by decide +kernel
theorem dX8_mayTurn_45 : decode cX8_mayTurn 45 = .ok (.aload 4, 2) := by decide +kernel
theorem dX8_mayTurn_47 : decode cX8_mayTurn 47 = .ok (.getfield 82, 3) := by decide +kernel
theorem dX8_mayTurn_50 : decode cX8_mayTurn 50 = .ok (.iload_n 1, 1) := by decide +kernel
theorem dX8_mayTurn_51 : decode cX8_mayTurn 51 = .ok (.iconst 0, 1) := by decide +kernel
theorem dX8_mayTurn_52 : decode cX8_mayTurn 52 = .ok (.invokevirtual 143, 3) := by decide +kernel
theorem dX8_mayTurn_55 : decode cX8_mayTurn 55 = .ok (.aload_n 0, 1) := by decide +kernel
theorem dX8_mayTurn_56 : decode cX8_mayTurn 56 = .ok (.getfield 10, 3) := by decide +kernel
theorem dX8_mayTurn_59 : decode cX8_mayTurn 59 = .ok (.getfield 65, 3) := by decide +kernel
theorem dX8_mayTurn_62 : decode cX8_mayTurn 62 = .ok (.iload_n 2, 1) := by decide +kernel
theorem dX8_mayTurn_63 : decode cX8_mayTurn 63 = .ok (.iconst 1, 1) := by decide +kernel
theorem dX8_mayTurn_64 : decode cX8_mayTurn 64 = .ok (.invokevirtual 143, 3) := by decide +kernel
theorem dX8_mayTurn_67 : decode cX8_mayTurn 67 = .ok (.if_icmp .lt 7, 3) := by decide +kernel
theorem dX8_mayTurn_70 : decode cX8_mayTurn 70 = .ok (.iconst 1, 1) := by decide +kernel
theorem dX8_mayTurn_71 : decode cX8_mayTurn 71 = .ok (.goto 4, 3) := by decide +kernel
theorem dX8_mayTurn_74 : decode cX8_mayTurn 74 = .ok (.iconst 0, 1) := by decide +kernel
theorem dX8_mayTurn_75 : decode cX8_mayTurn 75 = .ok (.ireturn, 1) := by decide +kernel
theorem dX8_doTurn_0 : decode cX8_doTurn 0 = .ok (.aload_n 0, 1) := by decide +kernel
theorem dX8_doTurn_1 : decode cX8_doTurn 1 = .ok (.getfield 10, 3) := by decide +kernel
theorem dX8_doTurn_4 : decode cX8_doTurn 4 = .ok (.getfield 79, 3) := by decide +kernel
theorem dX8_doTurn_7 : decode cX8_doTurn 7 = .ok (.astore_n 3, 1) := by decide +kernel
theorem dX8_doTurn_8 : decode cX8_doTurn 8 = .ok (.aload_n 3, 1) := by decide +kernel
theorem dX8_doTurn_9 : decode cX8_doTurn 9 = .ok (.iload_n 1, 1) := by decide +kernel
theorem dX8_doTurn_10 : decode cX8_doTurn 10 = .ok (.aload_n 0, 1) := by decide +kernel
theorem dX8_doTurn_11 : decode cX8_doTurn 11 = .ok (.getfield 10, 3) := by decide +kernel
theorem dX8_doTurn_14 : decode cX8_doTurn 14 = .ok (.getfield 65, 3) := by decide +kernel
theorem dX8_doTurn_17 : decode cX8_doTurn 17 = .ok (.iload_n 2, 1) := by decide +kernel
theorem dX8_doTurn_18 : decode cX8_doTurn 18 = .ok (.iconst 1, 1) := by decide +kernel
theorem dX8_doTurn_19 : decode cX8_doTurn 19 = .ok (.invokevirtual 143, 3) := by decide +kernel
theorem dX8_doTurn_22 : decode cX8_doTurn 22 = .ok (.invokevirtual 157, 3) := by decide +kernel
theorem dX8_doTurn_25 : decode cX8_doTurn 25 = .ok (.aload_n 3, 1) := by decide +kernel
theorem dX8_doTurn_26 : decode cX8_doTurn 26 = .ok (.dup, 1) := by decide +kernel
theorem dX8_doTurn_27 : decode cX8_doTurn 27 = .ok (.getfield 160, 3) := by decide +kernel
theorem dX8_doTurn_30 : decode cX8_doTurn 30 = .ok (.iload_n 2, 1) := by decide +kernel
theorem dX8_doTurn_31 : decode cX8_doTurn 31 = .ok (.invokestatic 163, 3) := by decide +kernel
theorem dX8_doTurn_34 : decode cX8_doTurn 34 = .ok (.ixor, 1) := by decide +kernel
theorem dX8_doTurn_35 : decode cX8_doTurn 35 = .ok (.putfield 160, 3) := by decide +kernel
theorem dX8_doTurn_38 : decode cX8_doTurn 38 = .ok (.return_, 1) := by decide +kernel
theorem dX8_sell_0 : decode cX8_sell 0 = .ok (.aload_n 0, 1) := by decide +kernel
theorem dX8_sell_1 : decode cX8_sell 1 = .ok (.getfield 10, 3) := by decide +kernel
theorem dX8_sell_4 : decode cX8_sell 4 = .ok (.getfield 79, 3) := by decide +kernel
theorem dX8_sell_7 : decode cX8_sell 7 = .ok (.astore 4, 2) := by decide +kernel
theorem dX8_sell_9 : decode cX8_sell 9 = .ok (.aload 4, 2) := by decide +kernel
theorem dX8_sell_11 : decode cX8_sell 11 = .ok (.getfield 127, 3) := by decide +kernel
theorem dX8_sell_14 : decode cX8_sell 14 = .ok (.iload_n 1, 1) := by decide +kernel
theorem dX8_sell_15 : decode cX8_sell 15 = .ok (.iconst 0, 1) := by decide +kernel
theorem dX8_sell_16 : decode cX8_sell 16 = .ok (.invokevirtual 143, 3) := by decide +kernel
theorem dX8_sell_19 : decode cX8_sell 19 = .ok (.istore 5, 2) := by decide +kernel
theorem dX8_sell_21 : decode cX8_sell 21 = .ok (.aload 4, 2) := by decide +kernel
theorem dX8_sell_23 : decode cX8_sell 23 = .ok (.iload_n 1, 1) := by decide +kernel
theorem dX8_sell_24 : decode cX8_sell 24 = .ok (.invokevirtual 167, 3) := by decide +kernel
theorem dX8_sell_27 : decode cX8_sell 27 = .ok (.ifCond .eq 43, 3) := by decide +kernel
theorem dX8_sell_30 : decode cX8_sell 30 = .ok (.aload_n 0, 1) := by decide +kernel
theorem dX8_sell_31 : decode cX8_sell 31 = .ok (.iload_n 2, 1) := by decide +kernel
theorem dX8_sell_32 : decode cX8_sell 32 = .ok (.invokevirtual 120, 3) := by decide +kernel
theorem dX8_sell_35 : decode cX8_sell 35 = .ok (.ifCond .eq 35, 3) := by decide +kernel
theorem dX8_sell_38 : decode cX8_sell 38 = .ok (.iload 5, 2) := by decide +kernel
theorem dX8_sell_40 : decode cX8_sell 40 = .ok (.iload_n 2, 1) := by decide +kernel
theorem dX8_sell_41 : decode cX8_sell 41 = .ok (.if_icmp .eq 29, 3) := by decide +kernel
theorem dX8_sell_44 : decode cX8_sell 44 = .ok (.iload_n 3, 1) := by decide +kernel
theorem dX8_sell_45 : decode cX8_sell 45 = .ok (.iconst 0, 1) := by decide +kernel
theorem dX8_sell_46 : decode cX8_sell 46 = .ok (.sipush 999, 3) := by decide +kernel
theorem dX8_sell_49 : decode cX8_sell 49 = .ok (.invokestatic 61, 3) := by decide +kernel
theorem dX8_sell_52 : decode cX8_sell 52 = .ok (.ifCond .eq 18, 3) := by decide +kernel
theorem dX8_sell_55 : decode cX8_sell 55 = .ok (.aload 4, 2) := by decide +kernel
theorem dX8_sell_57 : decode cX8_sell 57 = .ok (.getfield 82, 3) := by decide +kernel
theorem dX8_sell_60 : decode cX8_sell 60 = .ok (.iload 5, 2) := by decide +kernel
theorem dX8_sell_62 : decode cX8_sell 62 = .ok (.iconst 0, 1) := by decide +kernel
theorem dX8_sell_63 : decode cX8_sell 63 = .ok (.invokevirtual 143, 3) := by decide +kernel
theorem dX8_sell_66 : decode cX8_sell 66 = .ok (.iload_n 3, 1) := by decide +kernel
theorem dX8_sell_67 : decode cX8_sell 67 = .ok (.if_icmp .ge 5, 3) := by decide +kernel
theorem dX8_sell_70 : decode cX8_sell 70 = .ok (.iconst 0, 1) := by decide +kernel
theorem dX8_sell_71 : decode cX8_sell 71 = .ok (.ireturn, 1) := by decide +kernel
theorem dX8_sell_72 : decode cX8_sell 72 = .ok (.aload_n 0, 1) := by decide +kernel
theorem dX8_sell_73 : decode cX8_sell 73 = .ok (.getfield 10, 3) := by decide +kernel
theorem dX8_sell_76 : decode cX8_sell 76 = .ok (.invokevirtual 113, 3) := by decide +kernel
theorem dX8_sell_79 : decode cX8_sell 79 = .ok (.aload 4, 2) := by decide +kernel
theorem dX8_sell_81 : decode cX8_sell 81 = .ok (.iload 5, 2) := by decide +kernel
theorem dX8_sell_83 : decode cX8_sell 83 = .ok (.iload_n 3, 1) := by decide +kernel
theorem dX8_sell_84 : decode cX8_sell 84 = .ok (.invokevirtual 157, 3) := by decide +kernel
theorem dX8_sell_87 : decode cX8_sell 87 = .ok (.aload 4, 2) := by decide +kernel
theorem dX8_sell_89 : decode cX8_sell 89 = .ok (.iload_n 2, 1) := by decide +kernel
theorem dX8_sell_90 : decode cX8_sell 90 = .ok (.iload_n 3, 1) := by decide +kernel
theorem dX8_sell_91 : decode cX8_sell 91 = .ok (.invokevirtual 136, 3) := by decide +kernel
theorem dX8_sell_94 : decode cX8_sell 94 = .ok (.aload 4, 2) := by decide +kernel
theorem dX8_sell_96 : decode cX8_sell 96 = .ok (.getfield 127, 3) := by decide +kernel
theorem dX8_sell_99 : decode cX8_sell 99 = .ok (.iload_n 1, 1) := by decide +kernel
theorem dX8_sell_100 : decode cX8_sell 100 = .ok (.iconst 0, 1) := by decide +kernel
theorem dX8_sell_101 : decode cX8_sell 101 = .ok (.iload_n 2, 1) := by decide +kernel
theorem dX8_sell_102 : decode cX8_sell 102 = .ok (.invokevirtual 75, 3) := by decide +kernel
theorem dX8_sell_105 : decode cX8_sell 105 = .ok (.aload 4, 2) := by decide +kernel
theorem dX8_sell_107 : decode cX8_sell 107 = .ok (.iconst 2, 1) := by decide +kernel
theorem dX8_sell_108 : decode cX8_sell 108 = .ok (.iload_n 1, 1) := by decide +kernel
theorem dX8_sell_109 : decode cX8_sell 109 = .ok (.iload_n 3, 1) := by decide +kernel
theorem dX8_sell_110 : decode cX8_sell 110 = .ok (.invokevirtual 170, 3) := by decide +kernel
theorem dX8_sell_113 : decode cX8_sell 113 = .ok (.iconst 1, 1) := by decide +kernel
theorem dX8_sell_114 : decode cX8_sell 114 = .ok (.ireturn, 1) := by decide +kernel
theorem dX8_day_0 : decode cX8_day 0 = .ok (.iload_n 1, 1) := by decide +kernel
theorem dX8_day_1 : decode cX8_day 1 = .ok (.iconst 1, 1) := by decide +kernel
theorem dX8_day_2 : decode cX8_day 2 = .ok (.bipush 60, 2) := by decide +kernel
theorem dX8_day_4 : decode cX8_day 4 = .ok (.invokestatic 61, 3) := by decide +kernel
theorem dX8_day_7 : decode cX8_day 7 = .ok (.ifCond .eq 21, 3) := by decide +kernel
theorem dX8_day_10 : decode cX8_day 10 = .ok (.aload_n 0, 1) := by decide +kernel
theorem dX8_day_11 : decode cX8_day 11 = .ok (.getfield 10, 3) := by decide +kernel
theorem dX8_day_14 : decode cX8_day 14 = .ok (.getfield 79, 3) := by decide +kernel
theorem dX8_day_17 : decode cX8_day 17 = .ok (.getfield 133, 3) := by decide +kernel
theorem dX8_day_20 : decode cX8_day 20 = .ok (.iload_n 1, 1) := by decide +kernel
theorem dX8_day_21 : decode cX8_day 21 = .ok (.iadd, 1) := by decide +kernel
theorem dX8_day_22 : decode cX8_day 22 = .ok (.sipush 9999, 3) := by decide +kernel
theorem dX8_day_25 : decode cX8_day 25 = .ok (.if_icmp .le 5, 3) := by decide +kernel
theorem dX8_day_28 : decode cX8_day 28 = .ok (.iconst (-1), 1) := by decide +kernel
theorem dX8_day_29 : decode cX8_day 29 = .ok (.ireturn, 1) := by decide +kernel
theorem dX8_day_30 : decode cX8_day 30 = .ok (.iconst 0, 1) := by decide +kernel
theorem dX8_day_31 : decode cX8_day 31 = .ok (.istore_n 2, 1) := by decide +kernel
theorem dX8_day_32 : decode cX8_day 32 = .ok (.iconst 0, 1) := by decide +kernel
theorem dX8_day_33 : decode cX8_day 33 = .ok (.istore_n 3, 1) := by decide +kernel
theorem dX8_day_34 : decode cX8_day 34 = .ok (.iload_n 3, 1) := by decide +kernel
theorem dX8_day_35 : decode cX8_day 35 = .ok (.iload_n 1, 1) := by decide +kernel
theorem dX8_day_36 : decode cX8_day 36 = .ok (.if_icmp .ge 30, 3) := by decide +kernel
theorem dX8_day_39 : decode cX8_day 39 = .ok (.aload_n 0, 1) := by decide +kernel
theorem dX8_day_40 : decode cX8_day 40 = .ok (.getfield 10, 3) := by decide +kernel
theorem dX8_day_43 : decode cX8_day 43 = .ok (.invokevirtual 113, 3) := by decide +kernel
theorem dX8_day_46 : decode cX8_day 46 = .ok (.iload_n 2, 1) := by decide +kernel
theorem dX8_day_47 : decode cX8_day 47 = .ok (.aload_n 0, 1) := by decide +kernel
theorem dX8_day_48 : decode cX8_day 48 = .ok (.aload_n 0, 1) := by decide +kernel
theorem dX8_day_49 : decode cX8_day 49 = .ok (.getfield 10, 3) := by decide +kernel
theorem dX8_day_52 : decode cX8_day 52 = .ok (.getfield 79, 3) := by decide +kernel
theorem dX8_day_55 : decode cX8_day 55 = .ok (.invokevirtual 173, 3) := by decide +kernel
theorem dX8_day_58 : decode cX8_day 58 = .ok (.iadd, 1) := by decide +kernel
theorem dX8_day_59 : decode cX8_day 59 = .ok (.istore_n 2, 1) := by decide +kernel
theorem dX8_day_60 : decode cX8_day 60 = .ok (.iinc 3 1, 3) := by decide +kernel
theorem dX8_day_63 : decode cX8_day 63 = .ok (.goto (-29), 3) := by decide +kernel
theorem dX8_day_66 : decode cX8_day 66 = .ok (.iload_n 2, 1) := by decide +kernel
theorem dX8_day_67 : decode cX8_day 67 = .ok (.ireturn, 1) := by decide +kernel
theorem dX8_passDay_0 : decode cX8_passDay 0 = .ok (.iconst 0, 1) := by decide +kernel
theorem dX8_passDay_1 : decode cX8_passDay 1 = .ok (.istore_n 2, 1) := by decide +kernel
theorem dX8_passDay_2 : decode cX8_passDay 2 = .ok (.iload_n 2, 1) := by decide +kernel
theorem dX8_passDay_3 : decode cX8_passDay 3 = .ok (.aload_n 0, 1) := by decide +kernel
theorem dX8_passDay_4 : decode cX8_passDay 4 = .ok (.getfield 10, 3) := by decide +kernel
theorem dX8_passDay_7 : decode cX8_passDay 7 = .ok (.getfield 65, 3) := by decide +kernel
theorem dX8_passDay_10 : decode cX8_passDay 10 = .ok (.getfield 130, 3) := by decide +kernel
theorem dX8_passDay_13 : decode cX8_passDay 13 = .ok (.if_icmp .ge 46, 3) := by decide +kernel
theorem dX8_passDay_16 : decode cX8_passDay 16 = .ok (.aload_n 1, 1) := by decide +kernel
theorem dX8_passDay_17 : decode cX8_passDay 17 = .ok (.iload_n 2, 1) := by decide +kernel
theorem dX8_passDay_18 : decode cX8_passDay 18 = .ok (.invokevirtual 154, 3) := by decide +kernel
theorem dX8_passDay_21 : decode cX8_passDay 21 = .ok (.ifCond .ne 32, 3) := by decide +kernel
theorem dX8_passDay_24 : decode cX8_passDay 24 = .ok (.aload_n 1, 1) := by decide +kernel
theorem dX8_passDay_25 : decode cX8_passDay 25 = .ok (.invokevirtual 177, 3) := by decide +kernel
theorem dX8_passDay_28 : decode cX8_passDay 28 = .ok (.bipush 10, 2) := by decide +kernel
theorem dX8_passDay_30 : decode cX8_passDay 30 = .ok (.irem, 1) := by decide +kernel
theorem dX8_passDay_31 : decode cX8_passDay 31 = .ok (.aload_n 0, 1) := by decide +kernel
theorem dX8_passDay_32 : decode cX8_passDay 32 = .ok (.aload_n 1, 1) := by decide +kernel
theorem dX8_passDay_33 : decode cX8_passDay 33 = .ok (.iload_n 2, 1) := by decide +kernel
theorem dX8_passDay_34 : decode cX8_passDay 34 = .ok (.invokevirtual 180, 3) := by decide +kernel
theorem dX8_passDay_37 : decode cX8_passDay 37 = .ok (.if_icmp .ge 16, 3) := by decide +kernel
theorem dX8_passDay_40 : decode cX8_passDay 40 = .ok (.aload_n 1, 1) := by decide +kernel
theorem dX8_passDay_41 : decode cX8_passDay 41 = .ok (.dup, 1) := by decide +kernel
theorem dX8_passDay_42 : decode cX8_passDay 42 = .ok (.getfield 160, 3) := by decide +kernel
theorem dX8_passDay_45 : decode cX8_passDay 45 = .ok (.iload_n 2, 1) := by decide +kernel
theorem dX8_passDay_46 : decode cX8_passDay 46 = .ok (.invokestatic 163, 3) := by decide +kernel
theorem dX8_passDay_49 : decode cX8_passDay 49 = .ok (.ior, 1) := by decide +kernel
theorem dX8_passDay_50 : decode cX8_passDay 50 = .ok (.putfield 160, 3) := by decide +kernel
theorem dX8_passDay_53 : decode cX8_passDay 53 = .ok (.iinc 2 1, 3) := by decide +kernel
theorem dX8_passDay_56 : decode cX8_passDay 56 = .ok (.goto (-54), 3) := by decide +kernel
theorem dX8_passDay_59 : decode cX8_passDay 59 = .ok (.iconst 0, 1) := by decide +kernel
theorem dX8_passDay_60 : decode cX8_passDay 60 = .ok (.istore_n 2, 1) := by decide +kernel
theorem dX8_passDay_61 : decode cX8_passDay 61 = .ok (.iconst 0, 1) := by decide +kernel
theorem dX8_passDay_62 : decode cX8_passDay 62 = .ok (.istore_n 3, 1) := by decide +kernel
theorem dX8_passDay_63 : decode cX8_passDay 63 = .ok (.iload_n 3, 1) := by decide +kernel
theorem dX8_passDay_64 : decode cX8_passDay 64 = .ok (.aload_n 1, 1) := by decide +kernel
theorem dX8_passDay_65 : decode cX8_passDay 65 = .ok (.getfield 127, 3) := by decide +kernel
theorem dX8_passDay_68 : decode cX8_passDay 68 = .ok (.getfield 130, 3) := by decide +kernel
theorem dX8_passDay_71 : decode cX8_passDay 71 = .ok (.if_icmp .ge 29, 3) := by decide +kernel
theorem dX8_passDay_74 : decode cX8_passDay 74 = .ok (.aload_n 1, 1) := by decide +kernel
theorem dX8_passDay_75 : decode cX8_passDay 75 = .ok (.iload_n 3, 1) := by decide +kernel
theorem dX8_passDay_76 : decode cX8_passDay 76 = .ok (.invokevirtual 167, 3) := by decide +kernel
theorem dX8_passDay_79 : decode cX8_passDay 79 = .ok (.ifCond .eq 15, 3) := by decide +kernel
theorem dX8_passDay_82 : decode cX8_passDay 82 = .ok (.aload_n 0, 1) := by decide +kernel
theorem dX8_passDay_83 : decode cX8_passDay 83 = .ok (.aload_n 1, 1) := by decide +kernel
theorem dX8_passDay_84 : decode cX8_passDay 84 = .ok (.iload_n 3, 1) := by decide +kernel
theorem dX8_passDay_85 : decode cX8_passDay 85 = .ok (.invokevirtual 184, 3) := by decide +kernel
theorem dX8_passDay_88 : decode cX8_passDay 88 = .ok (.ifCond .eq 6, 3) := by decide +kernel
theorem dX8_passDay_91 : decode cX8_passDay 91 = .ok (.iinc 2 1, 3) := by decide +kernel
theorem dX8_passDay_94 : decode cX8_passDay 94 = .ok (.iinc 3 1, 3) := by decide +kernel
theorem dX8_passDay_97 : decode cX8_passDay 97 = .ok (.goto (-34), 3) := by decide +kernel
theorem dX8_passDay_100 : decode cX8_passDay 100 = .ok (.aload_n 1, 1) := by decide +kernel
theorem dX8_passDay_101 : decode cX8_passDay 101 = .ok (.dup, 1) := by decide +kernel
theorem dX8_passDay_102 : decode cX8_passDay 102 = .ok (.getfield 133, 3) := by decide +kernel
theorem dX8_passDay_105 : decode cX8_passDay 105 = .ok (.iconst 1, 1) := by decide +kernel
theorem dX8_passDay_106 : decode cX8_passDay 106 = .ok (.iadd, 1) := by decide +kernel
theorem dX8_passDay_107 : decode cX8_passDay 107 = .ok (.putfield 133, 3) := by decide +kernel
theorem dX8_passDay_110 : decode cX8_passDay 110 = .ok (.iload_n 2, 1) := by decide +kernel
theorem dX8_passDay_111 : decode cX8_passDay 111 = .ok (.ireturn, 1) := by decide +kernel
theorem dX8_settle_0 : decode cX8_settle 0 = .ok (.aload_n 1, 1) := by decide +kernel
theorem dX8_settle_1 : decode cX8_settle 1 = .ok (.iload_n 2, 1) := by decide +kernel
theorem dX8_settle_2 : decode cX8_settle 2 = .ok (.invokevirtual 188, 3) := by decide +kernel
theorem dX8_settle_5 : decode cX8_settle 5 = .ok (.istore_n 3, 1) := by decide +kernel
theorem dX8_settle_6 : decode cX8_settle 6 = .ok (.iload_n 3, 1) := by decide +kernel
theorem dX8_settle_7 : decode cX8_settle 7 = .ok (.ifCond .ne 21, 3) := by decide +kernel
theorem dX8_settle_10 : decode cX8_settle 10 = .ok (.aload_n 1, 1) := by decide +kernel
theorem dX8_settle_11 : decode cX8_settle 11 = .ok (.getfield 133, 3) := by decide +kernel
theorem dX8_settle_14 : decode cX8_settle 14 = .ok (.aload_n 1, 1) := by decide +kernel
theorem dX8_settle_15 : decode cX8_settle 15 = .ok (.getfield 127, 3) := by decide +kernel
theorem dX8_settle_18 : decode cX8_settle 18 = .ok (.iload_n 2, 1) := by decide +kernel
theorem dX8_settle_19 : decode cX8_settle 19 = .ok (.iconst 3, 1) := by decide +kernel
theorem dX8_settle_20 : decode cX8_settle 20 = .ok (.invokevirtual 143, 3) := by decide +kernel
theorem dX8_settle_23 : decode cX8_settle 23 = .ok (.if_icmp .ge 5, 3) := by decide +kernel
theorem dX8_settle_26 : decode cX8_settle 26 = .ok (.iconst 0, 1) := by decide +kernel
theorem dX8_settle_27 : decode cX8_settle 27 = .ok (.ireturn, 1) := by decide +kernel
theorem dX8_settle_28 : decode cX8_settle 28 = .ok (.iload_n 3, 1) := by decide +kernel
theorem dX8_settle_29 : decode cX8_settle 29 = .ok (.ifCond .eq 17, 3) := by decide +kernel
theorem dX8_settle_32 : decode cX8_settle 32 = .ok (.aload_n 1, 1) := by decide +kernel
theorem dX8_settle_33 : decode cX8_settle 33 = .ok (.iload_n 2, 1) := by decide +kernel
theorem dX8_settle_34 : decode cX8_settle 34 = .ok (.aload_n 0, 1) := by decide +kernel
theorem dX8_settle_35 : decode cX8_settle 35 = .ok (.aload_n 1, 1) := by decide +kernel
theorem dX8_settle_36 : decode cX8_settle 36 = .ok (.iload_n 2, 1) := by decide +kernel
theorem dX8_settle_37 : decode cX8_settle 37 = .ok (.invokevirtual 191, 3) := by decide +kernel
theorem dX8_settle_40 : decode cX8_settle 40 = .ok (.invokevirtual 194, 3) := by decide +kernel
theorem dX8_settle_43 : decode cX8_settle 43 = .ok (.goto 21, 3) := by decide +kernel
theorem dX8_settle_46 : decode cX8_settle 46 = .ok (.aload_n 1, 1) := by decide +kernel
theorem dX8_settle_47 : decode cX8_settle 47 = .ok (.iload_n 2, 1) := by decide +kernel
theorem dX8_settle_48 : decode cX8_settle 48 = .ok (.aload_n 0, 1) := by decide +kernel
theorem dX8_settle_49 : decode cX8_settle 49 = .ok (.aload_n 0, 1) := by decide +kernel
theorem dX8_settle_50 : decode cX8_settle 50 = .ok (.getfield 10, 3) := by decide +kernel
theorem dX8_settle_53 : decode cX8_settle 53 = .ok (.invokevirtual 197, 3) := by decide +kernel
theorem dX8_settle_56 : decode cX8_settle 56 = .ok (.aload_n 1, 1) := by decide +kernel
theorem dX8_settle_57 : decode cX8_settle 57 = .ok (.iload_n 2, 1) := by decide +kernel
theorem dX8_settle_58 : decode cX8_settle 58 = .ok (.invokevirtual 201, 3) := by decide +kernel
theorem dX8_settle_61 : decode cX8_settle 61 = .ok (.invokevirtual 205, 3) := by decide +kernel
theorem dX8_settle_64 : decode cX8_settle 64 = .ok (.iconst 1, 1) := by decide +kernel
theorem dX8_settle_65 : decode cX8_settle 65 = .ok (.ireturn, 1) := by decide +kernel
theorem dX8_played_0 : decode cX8_played 0 = .ok (.aload_n 0, 1) := by decide +kernel
theorem dX8_played_1 : decode cX8_played 1 = .ok (.getfield 10, 3) := by decide +kernel
theorem dX8_played_4 : decode cX8_played 4 = .ok (.iload_n 1, 1) := by decide +kernel
theorem dX8_played_5 : decode cX8_played 5 = .ok (.invokevirtual 208, 3) := by decide +kernel
theorem dX8_played_8 : decode cX8_played 8 = .ok (.astore_n 2, 1) := by decide +kernel
theorem dX8_played_9 : decode cX8_played 9 = .ok (.aload_n 2, 1) := by decide +kernel
theorem dX8_played_10 : decode cX8_played 10 = .ok (.ifnonnull 6, 3) := by decide +kernel
theorem dX8_played_13 : decode cX8_played 13 = .ok (.bipush (-2), 2) := by decide +kernel
theorem dX8_played_15 : decode cX8_played 15 = .ok (.ireturn, 1) := by decide +kernel
theorem dX8_played_16 : decode cX8_played 16 = .ok (.aload_n 2, 1) := by decide +kernel
theorem dX8_played_17 : decode cX8_played 17 = .ok (.getfield 212, 3) := by decide +kernel
theorem dX8_played_20 : decode cX8_played 20 = .ok (.astore_n 3, 1) := by decide +kernel
theorem dX8_played_21 : decode cX8_played 21 = .ok (.iconst 0, 1) := by decide +kernel
theorem dX8_played_22 : decode cX8_played 22 = .ok (.istore 4, 2) := by decide +kernel
theorem dX8_played_24 : decode cX8_played 24 = .ok (.iload 4, 2) := by decide +kernel
theorem dX8_played_26 : decode cX8_played 26 = .ok (.aload_n 3, 1) := by decide +kernel
theorem dX8_played_27 : decode cX8_played 27 = .ok (.getfield 130, 3) := by decide +kernel
theorem dX8_played_30 : decode cX8_played 30 = .ok (.if_icmp .ge 52, 3) := by decide +kernel
theorem dX8_played_33 : decode cX8_played 33 = .ok (.aload_n 3, 1) := by decide +kernel
theorem dX8_played_34 : decode cX8_played 34 = .ok (.iload 4, 2) := by decide +kernel
theorem dX8_played_36 : decode cX8_played 36 = .ok (.iconst 0, 1) := by decide +kernel
theorem dX8_played_37 : decode cX8_played 37 = .ok (.invokevirtual 143, 3) := by decide +kernel
theorem dX8_played_40 : decode cX8_played 40 = .ok (.bipush 10, 2) := by decide +kernel
theorem dX8_played_42 : decode cX8_played 42 = .ok (.if_icmp .ne 17, 3) := by decide +kernel
theorem dX8_played_45 : decode cX8_played 45 = .ok (.aload_n 0, 1) := by decide +kernel
theorem dX8_played_46 : decode cX8_played 46 = .ok (.aload_n 3, 1) := by decide +kernel
theorem dX8_played_47 : decode cX8_played 47 = .ok (.iload 4, 2) := by decide +kernel
theorem dX8_played_49 : decode cX8_played 49 = .ok (.iconst 1, 1) := by decide +kernel
theorem dX8_played_50 : decode cX8_played 50 = .ok (.invokevirtual 143, 3) := by decide +kernel
theorem dX8_played_53 : decode cX8_played 53 = .ok (.invokevirtual 217, 3) := by decide +kernel
theorem dX8_played_56 : decode cX8_played 56 = .ok (.goto 10, 3) := by decide +kernel
theorem dX8_played_59 : decode cX8_played 59 = .ok (.aload_n 0, 1) := by decide +kernel
theorem dX8_played_60 : decode cX8_played 60 = .ok (.aload_n 3, 1) := by decide +kernel
theorem dX8_played_61 : decode cX8_played 61 = .ok (.iload 4, 2) := by decide +kernel
theorem dX8_played_63 : decode cX8_played 63 = .ok (.invokevirtual 220, 3) := by decide +kernel
theorem dX8_played_66 : decode cX8_played 66 = .ok (.istore 5, 2) := by decide +kernel
theorem dX8_played_68 : decode cX8_played 68 = .ok (.iload 5, 2) := by decide +kernel
theorem dX8_played_70 : decode cX8_played 70 = .ok (.ifCond .ne 6, 3) := by decide +kernel
theorem dX8_played_73 : decode cX8_played 73 = .ok (.iload 4, 2) := by decide +kernel
theorem dX8_played_75 : decode cX8_played 75 = .ok (.ireturn, 1) := by decide +kernel
theorem dX8_played_76 : decode cX8_played 76 = .ok (.iinc 4 1, 3) := by decide +kernel
theorem dX8_played_79 : decode cX8_played 79 = .ok (.goto (-55), 3) := by decide +kernel
theorem dX8_played_82 : decode cX8_played 82 = .ok (.iconst (-1), 1) := by decide +kernel
theorem dX8_played_83 : decode cX8_played 83 = .ok (.ireturn, 1) := by decide +kernel
theorem dX8_passDays_0 : decode cX8_passDays 0 = .ok (.iload_n 1, 1) := by decide +kernel
theorem dX8_passDays_1 : decode cX8_passDays 1 = .ok (.sipush 9999, 3) := by decide +kernel
theorem dX8_passDays_4 : decode cX8_passDays 4 = .ok (.aload_n 0, 1) := by decide +kernel
theorem dX8_passDays_5 : decode cX8_passDays 5 = .ok (.getfield 10, 3) := by decide +kernel
theorem dX8_passDays_8 : decode cX8_passDays 8 = .ok (.getfield 79, 3) := by decide +kernel
theorem dX8_passDays_11 : decode cX8_passDays 11 = .ok (.getfield 133, 3) := by decide +kernel
theorem dX8_passDays_14 : decode cX8_passDays 14 = .ok (.isub, 1) := by decide +kernel
theorem dX8_passDays_15 : decode cX8_passDays 15 = .ok (.invokestatic 224, 3) := by decide +kernel
theorem dX8_passDays_18 : decode cX8_passDays 18 = .ok (.istore_n 2, 1) := by decide +kernel
theorem dX8_passDays_19 : decode cX8_passDays 19 = .ok (.iconst 0, 1) := by decide +kernel
theorem dX8_passDays_20 : decode cX8_passDays 20 = .ok (.istore_n 3, 1) := by decide +kernel
theorem dX8_passDays_21 : decode cX8_passDays 21 = .ok (.iload_n 3, 1) := by decide +kernel
theorem dX8_passDays_22 : decode cX8_passDays 22 = .ok (.iload_n 2, 1) := by decide +kernel
theorem dX8_passDays_23 : decode cX8_passDays 23 = .ok (.if_icmp .ge 28, 3) := by decide +kernel
theorem dX8_passDays_26 : decode cX8_passDays 26 = .ok (.aload_n 0, 1) := by decide +kernel
theorem dX8_passDays_27 : decode cX8_passDays 27 = .ok (.getfield 10, 3) := by decide +kernel
theorem dX8_passDays_30 : decode cX8_passDays 30 = .ok (.invokevirtual 113, 3) := by decide +kernel
theorem dX8_passDays_33 : decode cX8_passDays 33 = .ok (.aload_n 0, 1) := by decide +kernel
theorem dX8_passDays_34 : decode cX8_passDays 34 = .ok (.aload_n 0, 1) := by decide +kernel
theorem dX8_passDays_35 : decode cX8_passDays 35 = .ok (.getfield 10, 3) := by decide +kernel
theorem dX8_passDays_38 : decode cX8_passDays 38 = .ok (.getfield 79, 3) := by decide +kernel
theorem dX8_passDays_41 : decode cX8_passDays 41 = .ok (.invokevirtual 173, 3) := by decide +kernel
theorem dX8_passDays_44 : decode cX8_passDays 44 = .ok (.pop, 1) := by decide +kernel
theorem dX8_passDays_45 : decode cX8_passDays 45 = .ok (.iinc 3 1, 3) := by decide +kernel
theorem dX8_passDays_48 : decode cX8_passDays 48 = .ok (.goto (-27), 3) := by decide +kernel
theorem dX8_passDays_51 : decode cX8_passDays 51 = .ok (.iload_n 2, 1) := by decide +kernel
theorem dX8_passDays_52 : decode cX8_passDays 52 = .ok (.iload_n 1, 1) := by decide +kernel
theorem dX8_passDays_53 : decode cX8_passDays 53 = .ok (.if_icmp .ne 7, 3) := by decide +kernel
theorem dX8_passDays_56 : decode cX8_passDays 56 = .ok (.iconst 1, 1) := by decide +kernel
theorem dX8_passDays_57 : decode cX8_passDays 57 = .ok (.goto 4, 3) := by decide +kernel
theorem dX8_passDays_60 : decode cX8_passDays 60 = .ok (.iconst 0, 1) := by decide +kernel
theorem dX8_passDays_61 : decode cX8_passDays 61 = .ok (.ireturn, 1) := by decide +kernel
theorem dX8_perform_0 : decode cX8_perform 0 = .ok (.aload_n 1, 1) := by decide +kernel
theorem dX8_perform_1 : decode cX8_perform 1 = .ok (.iload_n 2, 1) := by decide +kernel
theorem dX8_perform_2 : decode cX8_perform 2 = .ok (.iconst 1, 1) := by decide +kernel
theorem dX8_perform_3 : decode cX8_perform 3 = .ok (.invokevirtual 143, 3) := by decide +kernel
theorem dX8_perform_6 : decode cX8_perform 6 = .ok (.istore_n 3, 1) := by decide +kernel
theorem dX8_perform_7 : decode cX8_perform 7 = .ok (.aload_n 1, 1) := by decide +kernel
theorem dX8_perform_8 : decode cX8_perform 8 = .ok (.iload_n 2, 1) := by decide +kernel
theorem dX8_perform_9 : decode cX8_perform 9 = .ok (.iconst 2, 1) := by decide +kernel
theorem dX8_perform_10 : decode cX8_perform 10 = .ok (.invokevirtual 143, 3) := by decide +kernel
theorem dX8_perform_13 : decode cX8_perform 13 = .ok (.istore 4, 2) := by decide +kernel
theorem dX8_perform_15 : decode cX8_perform 15 = .ok (.aload_n 1, 1) := by decide +kernel
theorem dX8_perform_16 : decode cX8_perform 16 = .ok (.iload_n 2, 1) := by decide +kernel
theorem dX8_perform_17 : decode cX8_perform 17 = .ok (.iconst 3, 1) := by decide +kernel
theorem dX8_perform_18 : decode cX8_perform 18 = .ok (.invokevirtual 143, 3) := by decide +kernel
theorem dX8_perform_21 : decode cX8_perform 21 = .ok (.istore 5, 2) := by decide +kernel
theorem dX8_perform_23 : decode cX8_perform 23 = .ok (.aload_n 1, 1) := by decide +kernel
theorem dX8_perform_24 : decode cX8_perform 24 = .ok (.iload_n 2, 1) := by decide +kernel
theorem dX8_perform_25 : decode cX8_perform 25 = .ok (.iconst 0, 1) := by decide +kernel
theorem dX8_perform_26 : decode cX8_perform 26 = .ok (.invokevirtual 143, 3) := by decide +kernel
theorem dX8_perform_29 : decode cX8_perform 29 = .ok (.tableswitch 139 4 9 #[39, 56, 73, 113, 121, 129], 39) := by decide +kernel
theorem dX8_perform_68 : decode cX8_perform 68 = .ok (.aload_n 0, 1) := by decide +kernel
theorem dX8_perform_69 : decode cX8_perform 69 = .ok (.iload_n 3, 1) := by decide +kernel
theorem dX8_perform_70 : decode cX8_perform 70 = .ok (.iload 4, 2) := by decide +kernel
theorem dX8_perform_72 : decode cX8_perform 72 = .ok (.invokevirtual 229, 3) := by decide +kernel
theorem dX8_perform_75 : decode cX8_perform 75 = .ok (.iconst (-1), 1) := by decide +kernel
theorem dX8_perform_76 : decode cX8_perform 76 = .ok (.if_icmp .eq 7, 3) := by decide +kernel
theorem dX8_perform_79 : decode cX8_perform 79 = .ok (.iconst 1, 1) := by decide +kernel
theorem dX8_perform_80 : decode cX8_perform 80 = .ok (.goto 4, 3) := by decide +kernel
theorem dX8_perform_83 : decode cX8_perform 83 = .ok (.iconst 0, 1) := by decide +kernel
theorem dX8_perform_84 : decode cX8_perform 84 = .ok (.ireturn, 1) := by decide +kernel
theorem dX8_perform_85 : decode cX8_perform 85 = .ok (.aload_n 0, 1) := by decide +kernel
theorem dX8_perform_86 : decode cX8_perform 86 = .ok (.iload_n 3, 1) := by decide +kernel
theorem dX8_perform_87 : decode cX8_perform 87 = .ok (.iload 4, 2) := by decide +kernel
theorem dX8_perform_89 : decode cX8_perform 89 = .ok (.invokevirtual 232, 3) := by decide +kernel
theorem dX8_perform_92 : decode cX8_perform 92 = .ok (.iconst (-1), 1) := by decide +kernel
theorem dX8_perform_93 : decode cX8_perform 93 = .ok (.if_icmp .eq 7, 3) := by decide +kernel
theorem dX8_perform_96 : decode cX8_perform 96 = .ok (.iconst 1, 1) := by decide +kernel
theorem dX8_perform_97 : decode cX8_perform 97 = .ok (.goto 4, 3) := by decide +kernel
theorem dX8_perform_100 : decode cX8_perform 100 = .ok (.iconst 0, 1) := by decide +kernel
theorem dX8_perform_101 : decode cX8_perform 101 = .ok (.ireturn, 1) := by decide +kernel
theorem dX8_perform_102 : decode cX8_perform 102 = .ok (.aload_n 0, 1) := by decide +kernel
theorem dX8_perform_103 : decode cX8_perform 103 = .ok (.iload_n 3, 1) := by decide +kernel
theorem dX8_perform_104 : decode cX8_perform 104 = .ok (.iload 4, 2) := by decide +kernel
theorem dX8_perform_106 : decode cX8_perform 106 = .ok (.iconst 1, 1) := by decide +kernel
theorem dX8_perform_107 : decode cX8_perform 107 = .ok (.if_icmp .ne 7, 3) := by decide +kernel
theorem dX8_perform_110 : decode cX8_perform 110 = .ok (.iconst 1, 1) := by decide +kernel
theorem dX8_perform_111 : decode cX8_perform 111 = .ok (.goto 4, 3) := by decide +kernel
theorem dX8_perform_114 : decode cX8_perform 114 = .ok (.iconst 0, 1) := by decide +kernel
theorem dX8_perform_115 : decode cX8_perform 115 = .ok (.iload 5, 2) := by decide +kernel
theorem dX8_perform_117 : decode cX8_perform 117 = .ok (.aload_n 1, 1) := by decide +kernel
theorem dX8_perform_118 : decode cX8_perform 118 = .ok (.iload_n 2, 1) := by decide +kernel
theorem dX8_perform_119 : decode cX8_perform 119 = .ok (.iconst 4, 1) := by decide +kernel
theorem dX8_perform_120 : decode cX8_perform 120 = .ok (.invokevirtual 143, 3) := by decide +kernel
theorem dX8_perform_123 : decode cX8_perform 123 = .ok (.aload_n 1, 1) := by decide +kernel
theorem dX8_perform_124 : decode cX8_perform 124 = .ok (.iload_n 2, 1) := by decide +kernel
theorem dX8_perform_125 : decode cX8_perform 125 = .ok (.iconst 5, 1) := by decide +kernel
theorem dX8_perform_126 : decode cX8_perform 126 = .ok (.invokevirtual 143, 3) := by decide +kernel
theorem dX8_perform_129 : decode cX8_perform 129 = .ok (.invokevirtual 235, 3) := by decide +kernel
theorem dX8_perform_132 : decode cX8_perform 132 = .ok (.iconst (-1), 1) := by decide +kernel
theorem dX8_perform_133 : decode cX8_perform 133 = .ok (.if_icmp .eq 7, 3) := by decide +kernel
theorem dX8_perform_136 : decode cX8_perform 136 = .ok (.iconst 1, 1) := by decide +kernel
theorem dX8_perform_137 : decode cX8_perform 137 = .ok (.goto 4, 3) := by decide +kernel
theorem dX8_perform_140 : decode cX8_perform 140 = .ok (.iconst 0, 1) := by decide +kernel
theorem dX8_perform_141 : decode cX8_perform 141 = .ok (.ireturn, 1) := by decide +kernel
theorem dX8_perform_142 : decode cX8_perform 142 = .ok (.aload_n 0, 1) := by decide +kernel
theorem dX8_perform_143 : decode cX8_perform 143 = .ok (.iload 4, 2) := by decide +kernel
theorem dX8_perform_145 : decode cX8_perform 145 = .ok (.iload_n 3, 1) := by decide +kernel
theorem dX8_perform_146 : decode cX8_perform 146 = .ok (.invokevirtual 238, 3) := by decide +kernel
theorem dX8_perform_149 : decode cX8_perform 149 = .ok (.ireturn, 1) := by decide +kernel
theorem dX8_perform_150 : decode cX8_perform 150 = .ok (.aload_n 0, 1) := by decide +kernel
theorem dX8_perform_151 : decode cX8_perform 151 = .ok (.iload 4, 2) := by decide +kernel
theorem dX8_perform_153 : decode cX8_perform 153 = .ok (.iload_n 3, 1) := by decide +kernel
theorem dX8_perform_154 : decode cX8_perform 154 = .ok (.invokevirtual 242, 3) := by decide +kernel
theorem dX8_perform_157 : decode cX8_perform 157 = .ok (.ireturn, 1) := by decide +kernel
theorem dX8_perform_158 : decode cX8_perform 158 = .ok (.aload_n 0, 1) := by decide +kernel
theorem dX8_perform_159 : decode cX8_perform 159 = .ok (.iload_n 3, 1) := by decide +kernel
theorem dX8_perform_160 : decode cX8_perform 160 = .ok (.iload 4, 2) := by decide +kernel
theorem dX8_perform_162 : decode cX8_perform 162 = .ok (.iload 5, 2) := by decide +kernel
theorem dX8_perform_164 : decode cX8_perform 164 = .ok (.invokevirtual 245, 3) := by decide +kernel
theorem dX8_perform_167 : decode cX8_perform 167 = .ok (.ireturn, 1) := by decide +kernel
theorem dX8_perform_168 : decode cX8_perform 168 = .ok (.iconst 1, 1) := by decide +kernel
theorem dX8_perform_169 : decode cX8_perform 169 = .ok (.ireturn, 1) := by decide +kernel
theorem dX8_years_0 : decode cX8_years 0 = .ok (.iload_n 1, 1) := by decide +kernel
theorem dX8_years_1 : decode cX8_years 1 = .ok (.iconst 0, 1) := by decide +kernel
theorem dX8_years_2 : decode cX8_years 2 = .ok (.sipush 9999, 3) := by decide +kernel
theorem dX8_years_5 : decode cX8_years 5 = .ok (.invokestatic 61, 3) := by decide +kernel
theorem dX8_years_8 : decode cX8_years 8 = .ok (.ifCond .eq 13, 3) := by decide +kernel
theorem dX8_years_11 : decode cX8_years 11 = .ok (.iload_n 2, 1) := by decide +kernel
theorem dX8_years_12 : decode cX8_years 12 = .ok (.iconst 1, 1) := by decide +kernel
theorem dX8_years_13 : decode cX8_years 13 = .ok (.bipush 40, 2) := by decide +kernel
theorem dX8_years_15 : decode cX8_years 15 = .ok (.invokestatic 61, 3) := by decide +kernel
theorem dX8_years_18 : decode cX8_years 18 = .ok (.ifCond .ne 5, 3) := by decide +kernel
theorem dX8_years_21 : decode cX8_years 21 = .ok (.iconst (-1), 1) := by decide +kernel
theorem dX8_years_22 : decode cX8_years 22 = .ok (.ireturn, 1) := by decide +kernel
theorem dX8_years_23 : decode cX8_years 23 = .ok (.aload_n 0, 1) := by decide +kernel
theorem dX8_years_24 : decode cX8_years 24 = .ok (.getfield 10, 3) := by decide +kernel
theorem dX8_years_27 : decode cX8_years 27 = .ok (.invokevirtual 113, 3) := by decide +kernel
theorem dX8_years_30 : decode cX8_years 30 = .ok (.aload_n 0, 1) := by decide +kernel
theorem dX8_years_31 : decode cX8_years 31 = .ok (.getfield 10, 3) := by decide +kernel
theorem dX8_years_34 : decode cX8_years 34 = .ok (.getfield 79, 3) := by decide +kernel
theorem dX8_years_37 : decode cX8_years 37 = .ok (.iload_n 1, 1) := by decide +kernel
theorem dX8_years_38 : decode cX8_years 38 = .ok (.iconst 2, 1) := by decide +kernel
theorem dX8_years_39 : decode cX8_years 39 = .ok (.imul, 1) := by decide +kernel
theorem dX8_years_40 : decode cX8_years 40 = .ok (.sipush 191, 3) := by decide +kernel
theorem dX8_years_43 : decode cX8_years 43 = .ok (.iadd, 1) := by decide +kernel
theorem dX8_years_44 : decode cX8_years 44 = .ok (.putfield 248, 3) := by decide +kernel
theorem dX8_years_47 : decode cX8_years 47 = .ok (.iconst 0, 1) := by decide +kernel
theorem dX8_years_48 : decode cX8_years 48 = .ok (.istore_n 3, 1) := by decide +kernel
theorem dX8_years_49 : decode cX8_years 49 = .ok (.iload_n 3, 1) := by decide +kernel
theorem dX8_years_50 : decode cX8_years 50 = .ok (.iload_n 2, 1) := by decide +kernel
theorem dX8_years_51 : decode cX8_years 51 = .ok (.if_icmp .ge 23, 3) := by decide +kernel
theorem dX8_years_54 : decode cX8_years 54 = .ok (.aload_n 0, 1) := by decide +kernel
theorem dX8_years_55 : decode cX8_years 55 = .ok (.aload_n 0, 1) := by decide +kernel
theorem dX8_years_56 : decode cX8_years 56 = .ok (.getfield 10, 3) := by decide +kernel
theorem dX8_years_59 : decode cX8_years 59 = .ok (.getfield 79, 3) := by decide +kernel
theorem dX8_years_62 : decode cX8_years 62 = .ok (.invokevirtual 177, 3) := by decide +kernel
theorem dX8_years_65 : decode cX8_years 65 = .ok (.invokevirtual 251, 3) := by decide +kernel
theorem dX8_years_68 : decode cX8_years 68 = .ok (.iinc 3 1, 3) := by decide +kernel
theorem dX8_years_71 : decode cX8_years 71 = .ok (.goto (-22), 3) := by decide +kernel
theorem dX8_years_74 : decode cX8_years 74 = .ok (.aload_n 0, 1) := by decide +kernel
theorem dX8_years_75 : decode cX8_years 75 = .ok (.getfield 10, 3) := by decide +kernel
theorem dX8_years_78 : decode cX8_years 78 = .ok (.getfield 79, 3) := by decide +kernel
theorem dX8_years_81 : decode cX8_years 81 = .ok (.getfield 133, 3) := by decide +kernel
theorem dX8_years_84 : decode cX8_years 84 = .ok (.ireturn, 1) := by decide +kernel
theorem dX8_takeTurn_0 : decode cX8_takeTurn 0 = .ok (.iload_n 1, 1) := by decide +kernel
theorem dX8_takeTurn_1 : decode cX8_takeTurn 1 = .ok (.bipush 6, 2) := by decide +kernel
theorem dX8_takeTurn_3 : decode cX8_takeTurn 3 = .ok (.irem, 1) := by decide +kernel
theorem dX8_takeTurn_4 : decode cX8_takeTurn 4 = .ok (.istore_n 2, 1) := by decide +kernel
theorem dX8_takeTurn_5 : decode cX8_takeTurn 5 = .ok (.iload_n 2, 1) := by decide +kernel
theorem dX8_takeTurn_6 : decode cX8_takeTurn 6 = .ok (.iconst 2, 1) := by decide +kernel
theorem dX8_takeTurn_7 : decode cX8_takeTurn 7 = .ok (.if_icmp .le 14, 3) := by decide +kernel
theorem dX8_takeTurn_10 : decode cX8_takeTurn 10 = .ok (.iload_n 2, 1) := by decide +kernel
theorem dX8_takeTurn_11 : decode cX8_takeTurn 11 = .ok (.iconst 3, 1) := by decide +kernel
theorem dX8_takeTurn_12 : decode cX8_takeTurn 12 = .ok (.if_icmp .ne 15, 3) := by decide +kernel
theorem dX8_takeTurn_15 : decode cX8_takeTurn 15 = .ok (.iload_n 1, 1) := by decide +kernel
theorem dX8_takeTurn_16 : decode cX8_takeTurn 16 = .ok (.iconst 5, 1) := by decide +kernel
theorem dX8_takeTurn_17 : decode cX8_takeTurn 17 = .ok (.irem, 1) := by decide +kernel
theorem dX8_takeTurn_18 : decode cX8_takeTurn 18 = .ok (.ifCond .ne 9, 3) := by decide +kernel
theorem dX8_takeTurn_21 : decode cX8_takeTurn 21 = .ok (.aload_n 0, 1) := by decide +kernel
theorem dX8_takeTurn_22 : decode cX8_takeTurn 22 = .ok (.iload_n 1, 1) := by decide +kernel
theorem dX8_takeTurn_23 : decode cX8_takeTurn 23 = .ok (.iload_n 2, 1) := by decide +kernel
theorem dX8_takeTurn_24 : decode cX8_takeTurn 24 = .ok (.invokevirtual 254, 3) := by decide +kernel
theorem dX8_takeTurn_27 : decode cX8_takeTurn 27 = .ok (.iload_n 2, 1) := by decide +kernel
theorem dX8_takeTurn_28 : decode cX8_takeTurn 28 = .ok (.iconst 3, 1) := by decide +kernel
theorem dX8_takeTurn_29 : decode cX8_takeTurn 29 = .ok (.if_icmp .le 31, 3) := by decide +kernel
theorem dX8_takeTurn_32 : decode cX8_takeTurn 32 = .ok (.aload_n 0, 1) := by decide +kernel
theorem dX8_takeTurn_33 : decode cX8_takeTurn 33 = .ok (.getfield 10, 3) := by decide +kernel
theorem dX8_takeTurn_36 : decode cX8_takeTurn 36 = .ok (.getfield 79, 3) := by decide +kernel
theorem dX8_takeTurn_39 : decode cX8_takeTurn 39 = .ok (.getfield 133, 3) := by decide +kernel
theorem dX8_takeTurn_42 : decode cX8_takeTurn 42 = .ok (.sipush 9999, 3) := by decide +kernel
theorem dX8_takeTurn_45 : decode cX8_takeTurn 45 = .ok (.if_icmp .ge 15, 3) := by decide +kernel
theorem dX8_takeTurn_48 : decode cX8_takeTurn 48 = .ok (.aload_n 0, 1) := by decide +kernel
theorem dX8_takeTurn_49 : decode cX8_takeTurn 49 = .ok (.aload_n 0, 1) := by decide +kernel
theorem dX8_takeTurn_50 : decode cX8_takeTurn 50 = .ok (.getfield 10, 3) := by decide +kernel
theorem dX8_takeTurn_53 : decode cX8_takeTurn 53 = .ok (.getfield 79, 3) := by decide +kernel
theorem dX8_takeTurn_56 : decode cX8_takeTurn 56 = .ok (.invokevirtual 173, 3) := by decide +kernel
theorem dX8_takeTurn_59 : decode cX8_takeTurn 59 = .ok (.pop, 1) := by decide +kernel
theorem dX8_takeTurn_60 : decode cX8_takeTurn 60 = .ok (.return_, 1) := by decide +kernel
theorem dX8_act_0 : decode cX8_act 0 = .ok (.aload_n 0, 1) := by decide +kernel
theorem dX8_act_1 : decode cX8_act 1 = .ok (.getfield 10, 3) := by decide +kernel
theorem dX8_act_4 : decode cX8_act 4 = .ok (.getfield 79, 3) := by decide +kernel
theorem dX8_act_7 : decode cX8_act 7 = .ok (.getfield 82, 3) := by decide +kernel
theorem dX8_act_10 : decode cX8_act 10 = .ok (.getfield 130, 3) := by decide +kernel
theorem dX8_act_13 : decode cX8_act 13 = .ok (.istore_n 3, 1) := by decide +kernel
theorem dX8_act_14 : decode cX8_act 14 = .ok (.aload_n 0, 1) := by decide +kernel
theorem dX8_act_15 : decode cX8_act 15 = .ok (.getfield 10, 3) := by decide +kernel
theorem dX8_act_18 : decode cX8_act 18 = .ok (.getfield 65, 3) := by decide +kernel
theorem dX8_act_21 : decode cX8_act 21 = .ok (.getfield 130, 3) := by decide +kernel
theorem dX8_act_24 : decode cX8_act 24 = .ok (.istore 4, 2) := by decide +kernel
theorem dX8_act_26 : decode cX8_act 26 = .ok (.iload_n 3, 1) := by decide +kernel
theorem dX8_act_27 : decode cX8_act 27 = .ok (.ifCond .eq 8, 3) := by decide +kernel
theorem dX8_act_30 : decode cX8_act 30 = .ok (.iload 4, 2) := by decide +kernel
theorem dX8_act_32 : decode cX8_act 32 = .ok (.ifCond .ne 4, 3) := by decide +kernel
theorem dX8_act_35 : decode cX8_act 35 = .ok (.return_, 1) := by decide +kernel
theorem dX8_act_36 : decode cX8_act 36 = .ok (.iload_n 1, 1) := by decide +kernel
theorem dX8_act_37 : decode cX8_act 37 = .ok (.iload_n 3, 1) := by decide +kernel
theorem dX8_act_38 : decode cX8_act 38 = .ok (.irem, 1) := by decide +kernel
theorem dX8_act_39 : decode cX8_act 39 = .ok (.istore 5, 2) := by decide +kernel
theorem dX8_act_41 : decode cX8_act 41 = .ok (.iload_n 1, 1) := by decide +kernel
theorem dX8_act_42 : decode cX8_act 42 = .ok (.bipush 6, 2) := by decide +kernel
theorem dX8_act_44 : decode cX8_act 44 = .ok (.idiv, 1) := by decide +kernel
theorem dX8_act_45 : decode cX8_act 45 = .ok (.iload 4, 2) := by decide +kernel
theorem dX8_act_47 : decode cX8_act 47 = .ok (.irem, 1) := by decide +kernel
theorem dX8_act_48 : decode cX8_act 48 = .ok (.istore 6, 2) := by decide +kernel
theorem dX8_act_50 : decode cX8_act 50 = .ok (.iload_n 2, 1) := by decide +kernel
theorem dX8_act_51 : decode cX8_act 51 = .ok (.iconst 2, 1) := by decide +kernel
theorem dX8_act_52 : decode cX8_act 52 = .ok (.if_icmp .lt 33, 3) := by decide +kernel
theorem dX8_act_55 : decode cX8_act 55 = .ok (.aload_n 0, 1) := by decide +kernel
theorem dX8_act_56 : decode cX8_act 56 = .ok (.iload 5, 2) := by decide +kernel
theorem dX8_act_58 : decode cX8_act 58 = .ok (.iload 6, 2) := by decide +kernel
theorem dX8_act_60 : decode cX8_act 60 = .ok (.iload_n 2, 1) := by decide +kernel
theorem dX8_act_61 : decode cX8_act 61 = .ok (.iconst 3, 1) := by decide +kernel
theorem dX8_act_62 : decode cX8_act 62 = .ok (.if_icmp .ne 7, 3) := by decide +kernel
theorem dX8_act_65 : decode cX8_act 65 = .ok (.iconst 1, 1) := by decide +kernel
theorem dX8_act_66 : decode cX8_act 66 = .ok (.goto 4, 3) := by decide +kernel
theorem dX8_act_69 : decode cX8_act 69 = .ok (.iconst 0, 1) := by decide +kernel
theorem dX8_act_70 : decode cX8_act 70 = .ok (.invokevirtual 147, 3) := by decide +kernel
theorem dX8_act_73 : decode cX8_act 73 = .ok (.ifCond .eq 11, 3) := by decide +kernel
theorem dX8_act_76 : decode cX8_act 76 = .ok (.aload_n 0, 1) := by decide +kernel
theorem dX8_act_77 : decode cX8_act 77 = .ok (.iload 5, 2) := by decide +kernel
theorem dX8_act_79 : decode cX8_act 79 = .ok (.iload 6, 2) := by decide +kernel
theorem dX8_act_81 : decode cX8_act 81 = .ok (.invokevirtual 151, 3) := by decide +kernel
theorem dX8_act_84 : decode cX8_act 84 = .ok (.return_, 1) := by decide +kernel
theorem dX8_act_85 : decode cX8_act 85 = .ok (.iload_n 1, 1) := by decide +kernel
theorem dX8_act_86 : decode cX8_act 86 = .ok (.iload 4, 2) := by decide +kernel
theorem dX8_act_88 : decode cX8_act 88 = .ok (.irem, 1) := by decide +kernel
theorem dX8_act_89 : decode cX8_act 89 = .ok (.invokestatic 163, 3) := by decide +kernel
theorem dX8_act_92 : decode cX8_act 92 = .ok (.iload 6, 2) := by decide +kernel
theorem dX8_act_94 : decode cX8_act 94 = .ok (.invokestatic 163, 3) := by decide +kernel
theorem dX8_act_97 : decode cX8_act 97 = .ok (.ior, 1) := by decide +kernel
theorem dX8_act_98 : decode cX8_act 98 = .ok (.istore 7, 2) := by decide +kernel
theorem dX8_act_100 : decode cX8_act 100 = .ok (.iconst 1, 1) := by decide +kernel
theorem dX8_act_101 : decode cX8_act 101 = .ok (.iload_n 1, 1) := by decide +kernel
theorem dX8_act_102 : decode cX8_act 102 = .ok (.bipush 9, 2) := by decide +kernel
theorem dX8_act_104 : decode cX8_act 104 = .ok (.irem, 1) := by decide +kernel
theorem dX8_act_105 : decode cX8_act 105 = .ok (.iadd, 1) := by decide +kernel
theorem dX8_act_106 : decode cX8_act 106 = .ok (.istore 8, 2) := by decide +kernel
theorem dX8_act_108 : decode cX8_act 108 = .ok (.iload_n 1, 1) := by decide +kernel
theorem dX8_act_109 : decode cX8_act 109 = .ok (.bipush 50, 2) := by decide +kernel
theorem dX8_act_111 : decode cX8_act 111 = .ok (.irem, 1) := by decide +kernel
theorem dX8_act_112 : decode cX8_act 112 = .ok (.istore 9, 2) := by decide +kernel
theorem dX8_act_114 : decode cX8_act 114 = .ok (.aload_n 0, 1) := by decide +kernel
theorem dX8_act_115 : decode cX8_act 115 = .ok (.iload 5, 2) := by decide +kernel
theorem dX8_act_117 : decode cX8_act 117 = .ok (.iload 7, 2) := by decide +kernel
theorem dX8_act_119 : decode cX8_act 119 = .ok (.iload 8, 2) := by decide +kernel
theorem dX8_act_121 : decode cX8_act 121 = .ok (.iload 9, 2) := by decide +kernel
theorem dX8_act_123 : decode cX8_act 123 = .ok (.invokevirtual 109, 3) := by decide +kernel
theorem dX8_act_126 : decode cX8_act 126 = .ok (.ifCond .eq 27, 3) := by decide +kernel
theorem dX8_act_129 : decode cX8_act 129 = .ok (.aload_n 0, 1) := by decide +kernel
theorem dX8_act_130 : decode cX8_act 130 = .ok (.iload 5, 2) := by decide +kernel
theorem dX8_act_132 : decode cX8_act 132 = .ok (.iload_n 1, 1) := by decide +kernel
theorem dX8_act_133 : decode cX8_act 133 = .ok (.iconst 4, 1) := by decide +kernel
theorem dX8_act_134 : decode cX8_act 134 = .ok (.irem, 1) := by decide +kernel
theorem dX8_act_135 : decode cX8_act 135 = .ok (.ifCond .ne 7, 3) := by decide +kernel
theorem dX8_act_138 : decode cX8_act 138 = .ok (.iconst 1, 1) := by decide +kernel
theorem dX8_act_139 : decode cX8_act 139 = .ok (.goto 4, 3) := by decide +kernel
theorem dX8_act_142 : decode cX8_act 142 = .ok (.iconst 0, 1) := by decide +kernel
theorem dX8_act_143 : decode cX8_act 143 = .ok (.iload 7, 2) := by decide +kernel
theorem dX8_act_145 : decode cX8_act 145 = .ok (.iload 8, 2) := by decide +kernel
theorem dX8_act_147 : decode cX8_act 147 = .ok (.iload 9, 2) := by decide +kernel
theorem dX8_act_149 : decode cX8_act 149 = .ok (.invokevirtual 116, 3) := by decide +kernel
theorem dX8_act_152 : decode cX8_act 152 = .ok (.pop, 1) := by decide +kernel
theorem dX8_act_153 : decode cX8_act 153 = .ok (.return_, 1) := by decide +kernel
theorem dX8_undo_0 : decode cX8_undo 0 = .ok (.aload_n 0, 1) := by decide +kernel
theorem dX8_undo_1 : decode cX8_undo 1 = .ok (.getfield 10, 3) := by decide +kernel
theorem dX8_undo_4 : decode cX8_undo 4 = .ok (.invokevirtual 257, 3) := by decide +kernel
theorem dX8_undo_7 : decode cX8_undo 7 = .ok (.ireturn, 1) := by decide +kernel
theorem dX8_of_0 : decode cX8_of 0 = .ok (.aload_n 0, 1) := by decide +kernel
theorem dX8_of_1 : decode cX8_of 1 = .ok (.getfield 10, 3) := by decide +kernel
theorem dX8_of_4 : decode cX8_of 4 = .ok (.getfield 79, 3) := by decide +kernel
theorem dX8_of_7 : decode cX8_of 7 = .ok (.astore_n 3, 1) := by decide +kernel
theorem dX8_of_8 : decode cX8_of 8 = .ok (.aload_n 3, 1) := by decide +kernel
theorem dX8_of_9 : decode cX8_of 9 = .ok (.getfield 82, 3) := by decide +kernel
theorem dX8_of_12 : decode cX8_of 12 = .ok (.iload_n 1, 1) := by decide +kernel
theorem dX8_of_13 : decode cX8_of 13 = .ok (.invokevirtual 140, 3) := by decide +kernel
theorem dX8_of_16 : decode cX8_of 16 = .ok (.ifCond .eq 12, 3) := by decide +kernel
theorem dX8_of_19 : decode cX8_of 19 = .ok (.iload_n 2, 1) := by decide +kernel
theorem dX8_of_20 : decode cX8_of 20 = .ok (.iconst 0, 1) := by decide +kernel
theorem dX8_of_21 : decode cX8_of 21 = .ok (.iconst 4, 1) := by decide +kernel
theorem dX8_of_22 : decode cX8_of 22 = .ok (.invokestatic 61, 3) := by decide +kernel
theorem dX8_of_25 : decode cX8_of 25 = .ok (.ifCond .ne 6, 3) := by decide +kernel
theorem dX8_of_28 : decode cX8_of 28 = .ok (.bipush (-2), 2) := by decide +kernel
theorem dX8_of_30 : decode cX8_of 30 = .ok (.ireturn, 1) := by decide +kernel
theorem dX8_of_31 : decode cX8_of 31 = .ok (.iload_n 2, 1) := by decide +kernel
theorem dX8_of_32 : decode cX8_of 32 = .ok (.iconst 2, 1) := by decide +kernel
theorem dX8_of_33 : decode cX8_of 33 = .ok (.if_icmp .gt 13, 3) := by decide +kernel
theorem dX8_of_36 : decode cX8_of 36 = .ok (.aload_n 3, 1) := by decide +kernel
theorem dX8_of_37 : decode cX8_of 37 = .ok (.getfield 82, 3) := by decide +kernel
theorem dX8_of_40 : decode cX8_of 40 = .ok (.iload_n 1, 1) := by decide +kernel
theorem dX8_of_41 : decode cX8_of 41 = .ok (.iload_n 2, 1) := by decide +kernel
theorem dX8_of_42 : decode cX8_of 42 = .ok (.invokevirtual 143, 3) := by decide +kernel
theorem dX8_of_45 : decode cX8_of 45 = .ok (.ireturn, 1) := by decide +kernel
theorem dX8_of_46 : decode cX8_of 46 = .ok (.iload_n 2, 1) := by decide +kernel
theorem dX8_of_47 : decode cX8_of 47 = .ok (.iconst 3, 1) := by decide +kernel
theorem dX8_of_48 : decode cX8_of 48 = .ok (.if_icmp .ne 11, 3) := by decide +kernel
theorem dX8_of_51 : decode cX8_of 51 = .ok (.aload_n 3, 1) := by decide +kernel
theorem dX8_of_52 : decode cX8_of 52 = .ok (.iload_n 1, 1) := by decide +kernel
theorem dX8_of_53 : decode cX8_of 53 = .ok (.invokevirtual 260, 3) := by decide +kernel
theorem dX8_of_56 : decode cX8_of 56 = .ok (.goto 8, 3) := by decide +kernel
theorem dX8_of_59 : decode cX8_of 59 = .ok (.aload_n 0, 1) := by decide +kernel
theorem dX8_of_60 : decode cX8_of 60 = .ok (.iload_n 1, 1) := by decide +kernel
theorem dX8_of_61 : decode cX8_of 61 = .ok (.invokevirtual 263, 3) := by decide +kernel
theorem dX8_of_64 : decode cX8_of 64 = .ok (.ireturn, 1) := by decide +kernel
theorem dX8_owes_0 : decode cX8_owes 0 = .ok (.aload_n 0, 1) := by decide +kernel
theorem dX8_owes_1 : decode cX8_owes 1 = .ok (.getfield 10, 3) := by decide +kernel
theorem dX8_owes_4 : decode cX8_owes 4 = .ok (.getfield 79, 3) := by decide +kernel
theorem dX8_owes_7 : decode cX8_owes 7 = .ok (.astore_n 2, 1) := by decide +kernel
theorem dX8_owes_8 : decode cX8_owes 8 = .ok (.iconst 0, 1) := by decide +kernel
theorem dX8_owes_9 : decode cX8_owes 9 = .ok (.istore_n 3, 1) := by decide +kernel
theorem dX8_owes_10 : decode cX8_owes 10 = .ok (.iconst 0, 1) := by decide +kernel
theorem dX8_owes_11 : decode cX8_owes 11 = .ok (.istore 4, 2) := by decide +kernel
theorem dX8_owes_13 : decode cX8_owes 13 = .ok (.iload 4, 2) := by decide +kernel
theorem dX8_owes_15 : decode cX8_owes 15 = .ok (.aload_n 2, 1) := by decide +kernel
theorem dX8_owes_16 : decode cX8_owes 16 = .ok (.getfield 127, 3) := by decide +kernel
theorem dX8_owes_19 : decode cX8_owes 19 = .ok (.getfield 130, 3) := by decide +kernel
theorem dX8_owes_22 : decode cX8_owes 22 = .ok (.if_icmp .ge 49, 3) := by decide +kernel
theorem dX8_owes_25 : decode cX8_owes 25 = .ok (.aload_n 2, 1) := by decide +kernel
theorem dX8_owes_26 : decode cX8_owes 26 = .ok (.iload 4, 2) := by decide +kernel
theorem dX8_owes_28 : decode cX8_owes 28 = .ok (.invokevirtual 167, 3) := by decide +kernel
theorem dX8_owes_31 : decode cX8_owes 31 = .ok (.ifCond .eq 34, 3) := by decide +kernel
theorem dX8_owes_34 : decode cX8_owes 34 = .ok (.aload_n 2, 1) := by decide +kernel
theorem dX8_owes_35 : decode cX8_owes 35 = .ok (.getfield 127, 3) := by decide +kernel
theorem dX8_owes_38 : decode cX8_owes 38 = .ok (.iload 4, 2) := by decide +kernel
theorem dX8_owes_40 : decode cX8_owes 40 = .ok (.iconst 0, 1) := by decide +kernel
theorem dX8_owes_41 : decode cX8_owes 41 = .ok (.invokevirtual 143, 3) := by decide +kernel
theorem dX8_owes_44 : decode cX8_owes 44 = .ok (.iload_n 1, 1) := by decide +kernel
theorem dX8_owes_45 : decode cX8_owes 45 = .ok (.if_icmp .ne 20, 3) := by decide +kernel
theorem dX8_owes_48 : decode cX8_owes 48 = .ok (.iload_n 3, 1) := by decide +kernel
theorem dX8_owes_49 : decode cX8_owes 49 = .ok (.aload_n 0, 1) := by decide +kernel
theorem dX8_owes_50 : decode cX8_owes 50 = .ok (.aload_n 0, 1) := by decide +kernel
theorem dX8_owes_51 : decode cX8_owes 51 = .ok (.getfield 10, 3) := by decide +kernel
theorem dX8_owes_54 : decode cX8_owes 54 = .ok (.invokevirtual 197, 3) := by decide +kernel
theorem dX8_owes_57 : decode cX8_owes 57 = .ok (.aload_n 2, 1) := by decide +kernel
theorem dX8_owes_58 : decode cX8_owes 58 = .ok (.iload 4, 2) := by decide +kernel
theorem dX8_owes_60 : decode cX8_owes 60 = .ok (.invokevirtual 201, 3) := by decide +kernel
theorem dX8_owes_63 : decode cX8_owes 63 = .ok (.iadd, 1) := by decide +kernel
theorem dX8_owes_64 : decode cX8_owes 64 = .ok (.istore_n 3, 1) := by decide +kernel
theorem dX8_owes_65 : decode cX8_owes 65 = .ok (.iinc 4 1, 3) := by decide +kernel
theorem dX8_owes_68 : decode cX8_owes 68 = .ok (.goto (-55), 3) := by decide +kernel
theorem dX8_owes_71 : decode cX8_owes 71 = .ok (.iload_n 3, 1) := by decide +kernel
theorem dX8_owes_72 : decode cX8_owes 72 = .ok (.ireturn, 1) := by decide +kernel
theorem dX8_ofFact_0 : decode cX8_ofFact 0 = .ok (.aload_n 0, 1) := by decide +kernel
theorem dX8_ofFact_1 : decode cX8_ofFact 1 = .ok (.getfield 10, 3) := by decide +kernel
theorem dX8_ofFact_4 : decode cX8_ofFact 4 = .ok (.getfield 65, 3) := by decide +kernel
theorem dX8_ofFact_7 : decode cX8_ofFact 7 = .ok (.iload_n 1, 1) := by decide +kernel
theorem dX8_ofFact_8 : decode cX8_ofFact 8 = .ok (.invokevirtual 140, 3) := by decide +kernel
theorem dX8_ofFact_11 : decode cX8_ofFact 11 = .ok (.ifCond .eq 12, 3) := by decide +kernel
theorem dX8_ofFact_14 : decode cX8_ofFact 14 = .ok (.iload_n 2, 1) := by decide +kernel
theorem dX8_ofFact_15 : decode cX8_ofFact 15 = .ok (.iconst 0, 1) := by decide +kernel
theorem dX8_ofFact_16 : decode cX8_ofFact 16 = .ok (.iconst 3, 1) := by decide +kernel
theorem dX8_ofFact_17 : decode cX8_ofFact 17 = .ok (.invokestatic 61, 3) := by decide +kernel
theorem dX8_ofFact_20 : decode cX8_ofFact 20 = .ok (.ifCond .ne 6, 3) := by decide +kernel
theorem dX8_ofFact_23 : decode cX8_ofFact 23 = .ok (.bipush (-2), 2) := by decide +kernel
theorem dX8_ofFact_25 : decode cX8_ofFact 25 = .ok (.ireturn, 1) := by decide +kernel
theorem dX8_ofFact_26 : decode cX8_ofFact 26 = .ok (.iload_n 2, 1) := by decide +kernel
theorem dX8_ofFact_27 : decode cX8_ofFact 27 = .ok (.iconst 1, 1) := by decide +kernel
theorem dX8_ofFact_28 : decode cX8_ofFact 28 = .ok (.if_icmp .gt 16, 3) := by decide +kernel
theorem dX8_ofFact_31 : decode cX8_ofFact 31 = .ok (.aload_n 0, 1) := by decide +kernel
theorem dX8_ofFact_32 : decode cX8_ofFact 32 = .ok (.getfield 10, 3) := by decide +kernel
theorem dX8_ofFact_35 : decode cX8_ofFact 35 = .ok (.getfield 65, 3) := by decide +kernel
theorem dX8_ofFact_38 : decode cX8_ofFact 38 = .ok (.iload_n 1, 1) := by decide +kernel
theorem dX8_ofFact_39 : decode cX8_ofFact 39 = .ok (.iload_n 2, 1) := by decide +kernel
theorem dX8_ofFact_40 : decode cX8_ofFact 40 = .ok (.invokevirtual 143, 3) := by decide +kernel
theorem dX8_ofFact_43 : decode cX8_ofFact 43 = .ok (.ireturn, 1) := by decide +kernel
theorem dX8_ofFact_44 : decode cX8_ofFact 44 = .ok (.iload_n 2, 1) := by decide +kernel
theorem dX8_ofFact_45 : decode cX8_ofFact 45 = .ok (.iconst 2, 1) := by decide +kernel
theorem dX8_ofFact_46 : decode cX8_ofFact 46 = .ok (.if_icmp .ne 23, 3) := by decide +kernel
theorem dX8_ofFact_49 : decode cX8_ofFact 49 = .ok (.aload_n 0, 1) := by decide +kernel
theorem dX8_ofFact_50 : decode cX8_ofFact 50 = .ok (.getfield 10, 3) := by decide +kernel
theorem dX8_ofFact_53 : decode cX8_ofFact 53 = .ok (.getfield 79, 3) := by decide +kernel
theorem dX8_ofFact_56 : decode cX8_ofFact 56 = .ok (.iload_n 1, 1) := by decide +kernel
theorem dX8_ofFact_57 : decode cX8_ofFact 57 = .ok (.invokevirtual 154, 3) := by decide +kernel
theorem dX8_ofFact_60 : decode cX8_ofFact 60 = .ok (.ifCond .eq 7, 3) := by decide +kernel
theorem dX8_ofFact_63 : decode cX8_ofFact 63 = .ok (.iconst 1, 1) := by decide +kernel
theorem dX8_ofFact_64 : decode cX8_ofFact 64 = .ok (.goto 4, 3) := by decide +kernel
theorem dX8_ofFact_67 : decode cX8_ofFact 67 = .ok (.iconst 0, 1) := by decide +kernel
theorem dX8_ofFact_68 : decode cX8_ofFact 68 = .ok (.ireturn, 1) := by decide +kernel
theorem dX8_ofFact_69 : decode cX8_ofFact 69 = .ok (.aload_n 0, 1) := by decide +kernel
theorem dX8_ofFact_70 : decode cX8_ofFact 70 = .ok (.aload_n 0, 1) := by decide +kernel
theorem dX8_ofFact_71 : decode cX8_ofFact 71 = .ok (.getfield 10, 3) := by decide +kernel
theorem dX8_ofFact_74 : decode cX8_ofFact 74 = .ok (.getfield 79, 3) := by decide +kernel
theorem dX8_ofFact_77 : decode cX8_ofFact 77 = .ok (.iload_n 1, 1) := by decide +kernel
theorem dX8_ofFact_78 : decode cX8_ofFact 78 = .ok (.invokevirtual 180, 3) := by decide +kernel
theorem dX8_ofFact_81 : decode cX8_ofFact 81 = .ok (.ireturn, 1) := by decide +kernel
theorem dX8_word_0 : decode cX8_word 0 = .ok (.aload_n 0, 1) := by decide +kernel
theorem dX8_word_1 : decode cX8_word 1 = .ok (.getfield 10, 3) := by decide +kernel
theorem dX8_word_4 : decode cX8_word 4 = .ok (.getfield 79, 3) := by decide +kernel
theorem dX8_word_7 : decode cX8_word 7 = .ok (.astore_n 3, 1) := by decide +kernel
theorem dX8_word_8 : decode cX8_word 8 = .ok (.aload_n 3, 1) := by decide +kernel
theorem dX8_word_9 : decode cX8_word 9 = .ok (.getfield 127, 3) := by decide +kernel
theorem dX8_word_12 : decode cX8_word 12 = .ok (.iload_n 1, 1) := by decide +kernel
theorem dX8_word_13 : decode cX8_word 13 = .ok (.invokevirtual 140, 3) := by decide +kernel
theorem dX8_word_16 : decode cX8_word 16 = .ok (.ifCond .eq 13, 3) := by decide +kernel
theorem dX8_word_19 : decode cX8_word 19 = .ok (.iload_n 2, 1) := by decide +kernel
theorem dX8_word_20 : decode cX8_word 20 = .ok (.iconst 0, 1) := by decide +kernel
theorem dX8_word_21 : decode cX8_word 21 = .ok (.bipush 7, 2) := by decide +kernel
theorem dX8_word_23 : decode cX8_word 23 = .ok (.invokestatic 61, 3) := by decide +kernel
theorem dX8_word_26 : decode cX8_word 26 = .ok (.ifCond .ne 6, 3) := by decide +kernel
theorem dX8_word_29 : decode cX8_word 29 = .ok (.bipush (-2), 2) := by decide +kernel
theorem dX8_word_31 : decode cX8_word 31 = .ok (.ireturn, 1) := by decide +kernel
theorem dX8_word_32 : decode cX8_word 32 = .ok (.iload_n 2, 1) := by decide +kernel
theorem dX8_word_33 : decode cX8_word 33 = .ok (.iconst 5, 1) := by decide +kernel
theorem dX8_word_34 : decode cX8_word 34 = .ok (.if_icmp .gt 13, 3) := by decide +kernel
theorem dX8_word_37 : decode cX8_word 37 = .ok (.aload_n 3, 1) := by decide +kernel
theorem dX8_word_38 : decode cX8_word 38 = .ok (.getfield 127, 3) := by decide +kernel
theorem dX8_word_41 : decode cX8_word 41 = .ok (.iload_n 1, 1) := by decide +kernel
theorem dX8_word_42 : decode cX8_word 42 = .ok (.iload_n 2, 1) := by decide +kernel
theorem dX8_word_43 : decode cX8_word 43 = .ok (.invokevirtual 143, 3) := by decide +kernel
theorem dX8_word_46 : decode cX8_word 46 = .ok (.ireturn, 1) := by decide +kernel
theorem dX8_word_47 : decode cX8_word 47 = .ok (.iload_n 2, 1) := by decide +kernel
theorem dX8_word_48 : decode cX8_word 48 = .ok (.bipush 6, 2) := by decide +kernel
theorem dX8_word_50 : decode cX8_word 50 = .ok (.if_icmp .ne 17, 3) := by decide +kernel
theorem dX8_word_53 : decode cX8_word 53 = .ok (.aload_n 0, 1) := by decide +kernel
theorem dX8_word_54 : decode cX8_word 54 = .ok (.aload_n 0, 1) := by decide +kernel
theorem dX8_word_55 : decode cX8_word 55 = .ok (.getfield 10, 3) := by decide +kernel
theorem dX8_word_58 : decode cX8_word 58 = .ok (.invokevirtual 197, 3) := by decide +kernel
theorem dX8_word_61 : decode cX8_word 61 = .ok (.aload_n 3, 1) := by decide +kernel
theorem dX8_word_62 : decode cX8_word 62 = .ok (.iload_n 1, 1) := by decide +kernel
theorem dX8_word_63 : decode cX8_word 63 = .ok (.invokevirtual 201, 3) := by decide +kernel
theorem dX8_word_66 : decode cX8_word 66 = .ok (.ireturn, 1) := by decide +kernel
theorem dX8_word_67 : decode cX8_word 67 = .ok (.aload_n 3, 1) := by decide +kernel
theorem dX8_word_68 : decode cX8_word 68 = .ok (.iload_n 1, 1) := by decide +kernel
theorem dX8_word_69 : decode cX8_word 69 = .ok (.invokevirtual 188, 3) := by decide +kernel
theorem dX8_word_72 : decode cX8_word 72 = .ok (.ifCond .eq 7, 3) := by decide +kernel
theorem dX8_word_75 : decode cX8_word 75 = .ok (.iconst 1, 1) := by decide +kernel
theorem dX8_word_76 : decode cX8_word 76 = .ok (.goto 4, 3) := by decide +kernel
theorem dX8_word_79 : decode cX8_word 79 = .ok (.iconst 0, 1) := by decide +kernel
theorem dX8_word_80 : decode cX8_word 80 = .ok (.ireturn, 1) := by decide +kernel
theorem dX8_is_0 : decode cX8_is 0 = .ok (.iload_n 1, 1) := by decide +kernel
theorem dX8_is_1 : decode cX8_is 1 = .ok (.tableswitch 78 0 3 #[31, 42, 53, 64], 31) := by decide +kernel
theorem dX8_is_32 : decode cX8_is 32 = .ok (.aload_n 0, 1) := by decide +kernel
theorem dX8_is_33 : decode cX8_is 33 = .ok (.getfield 10, 3) := by decide +kernel
theorem dX8_is_36 : decode cX8_is 36 = .ok (.getfield 79, 3) := by decide +kernel
theorem dX8_is_39 : decode cX8_is 39 = .ok (.getfield 133, 3) := by decide +kernel
theorem dX8_is_42 : decode cX8_is 42 = .ok (.ireturn, 1) := by decide +kernel
theorem dX8_is_43 : decode cX8_is 43 = .ok (.aload_n 0, 1) := by decide +kernel
theorem dX8_is_44 : decode cX8_is 44 = .ok (.getfield 10, 3) := by decide +kernel
theorem dX8_is_47 : decode cX8_is 47 = .ok (.getfield 79, 3) := by decide +kernel
theorem dX8_is_50 : decode cX8_is 50 = .ok (.getfield 248, 3) := by decide +kernel
theorem dX8_is_53 : decode cX8_is 53 = .ok (.ireturn, 1) := by decide +kernel
theorem dX8_is_54 : decode cX8_is 54 = .ok (.aload_n 0, 1) := by decide +kernel
theorem dX8_is_55 : decode cX8_is 55 = .ok (.getfield 10, 3) := by decide +kernel
theorem dX8_is_58 : decode cX8_is 58 = .ok (.getfield 79, 3) := by decide +kernel
theorem dX8_is_61 : decode cX8_is 61 = .ok (.getfield 160, 3) := by decide +kernel
theorem dX8_is_64 : decode cX8_is 64 = .ok (.ireturn, 1) := by decide +kernel
theorem dX8_is_65 : decode cX8_is 65 = .ok (.aload_n 0, 1) := by decide +kernel
theorem dX8_is_66 : decode cX8_is 66 = .ok (.getfield 10, 3) := by decide +kernel
theorem dX8_is_69 : decode cX8_is 69 = .ok (.getfield 79, 3) := by decide +kernel
theorem dX8_is_72 : decode cX8_is 72 = .ok (.getfield 127, 3) := by decide +kernel
theorem dX8_is_75 : decode cX8_is 75 = .ok (.getfield 130, 3) := by decide +kernel
theorem dX8_is_78 : decode cX8_is 78 = .ok (.ireturn, 1) := by decide +kernel
theorem dX8_is_79 : decode cX8_is 79 = .ok (.bipush (-2), 2) := by decide +kernel
theorem dX8_is_81 : decode cX8_is 81 = .ok (.ireturn, 1) := by decide +kernel
theorem dX8_book_0 : decode cX8_book 0 = .ok (.aload_n 0, 1) := by decide +kernel
theorem dX8_book_1 : decode cX8_book 1 = .ok (.getfield 10, 3) := by decide +kernel
theorem dX8_book_4 : decode cX8_book 4 = .ok (.getfield 79, 3) := by decide +kernel
theorem dX8_book_7 : decode cX8_book 7 = .ok (.astore_n 3, 1) := by decide +kernel
theorem dX8_book_8 : decode cX8_book 8 = .ok (.iload_n 1, 1) := by decide +kernel
theorem dX8_book_9 : decode cX8_book 9 = .ok (.iconst (-1), 1) := by decide +kernel
theorem dX8_book_10 : decode cX8_book 10 = .ok (.if_icmp .ne 11, 3) := by decide +kernel
theorem dX8_book_13 : decode cX8_book 13 = .ok (.aload_n 3, 1) := by decide +kernel
theorem dX8_book_14 : decode cX8_book 14 = .ok (.getfield 266, 3) := by decide +kernel
theorem dX8_book_17 : decode cX8_book 17 = .ok (.getfield 130, 3) := by decide +kernel
theorem dX8_book_20 : decode cX8_book 20 = .ok (.ireturn, 1) := by decide +kernel
theorem dX8_book_21 : decode cX8_book 21 = .ok (.aload_n 3, 1) := by decide +kernel
theorem dX8_book_22 : decode cX8_book 22 = .ok (.getfield 266, 3) := by decide +kernel
theorem dX8_book_25 : decode cX8_book 25 = .ok (.iload_n 1, 1) := by decide +kernel
theorem dX8_book_26 : decode cX8_book 26 = .ok (.invokevirtual 140, 3) := by decide +kernel
theorem dX8_book_29 : decode cX8_book 29 = .ok (.ifCond .eq 21, 3) := by decide +kernel
theorem dX8_book_32 : decode cX8_book 32 = .ok (.iload_n 2, 1) := by decide +kernel
theorem dX8_book_33 : decode cX8_book 33 = .ok (.iconst 0, 1) := by decide +kernel
theorem dX8_book_34 : decode cX8_book 34 = .ok (.iconst 3, 1) := by decide +kernel
theorem dX8_book_35 : decode cX8_book 35 = .ok (.invokestatic 61, 3) := by decide +kernel
theorem dX8_book_38 : decode cX8_book 38 = .ok (.ifCond .eq 12, 3) := by decide +kernel
theorem dX8_book_41 : decode cX8_book 41 = .ok (.aload_n 3, 1) := by decide +kernel
theorem dX8_book_42 : decode cX8_book 42 = .ok (.iload_n 1, 1) := by decide +kernel
theorem dX8_book_43 : decode cX8_book 43 = .ok (.iload_n 2, 1) := by decide +kernel
theorem dX8_book_44 : decode cX8_book 44 = .ok (.invokevirtual 269, 3) := by decide +kernel
theorem dX8_book_47 : decode cX8_book 47 = .ok (.goto 5, 3) := by decide +kernel
theorem dX8_book_50 : decode cX8_book 50 = .ok (.bipush (-2), 2) := by decide +kernel
theorem dX8_book_52 : decode cX8_book 52 = .ok (.ireturn, 1) := by decide +kernel
theorem dX8_comesNow_0 : decode cX8_comesNow 0 = .ok (.aload_n 0, 1) := by decide +kernel
theorem dX8_comesNow_1 : decode cX8_comesNow 1 = .ok (.getfield 10, 3) := by decide +kernel
theorem dX8_comesNow_4 : decode cX8_comesNow 4 = .ok (.invokevirtual 197, 3) := by decide +kernel
theorem dX8_comesNow_7 : decode cX8_comesNow 7 = .ok (.iconst 1, 1) := by decide +kernel
theorem dX8_comesNow_8 : decode cX8_comesNow 8 = .ok (.invokestatic 272, 3) := by decide +kernel
theorem dX8_comesNow_11 : decode cX8_comesNow 11 = .ok (.astore_n 3, 1) := by decide +kernel
theorem dX8_comesNow_12 : decode cX8_comesNow 12 = .ok (.aload_n 0, 1) := by decide +kernel
theorem dX8_comesNow_13 : decode cX8_comesNow 13 = .ok (.getfield 10, 3) := by decide +kernel
theorem dX8_comesNow_16 : decode cX8_comesNow 16 = .ok (.getfield 65, 3) := by decide +kernel
theorem dX8_comesNow_19 : decode cX8_comesNow 19 = .ok (.iload_n 2, 1) := by decide +kernel
theorem dX8_comesNow_20 : decode cX8_comesNow 20 = .ok (.iconst 0, 1) := by decide +kernel
theorem dX8_comesNow_21 : decode cX8_comesNow 21 = .ok (.invokevirtual 143, 3) := by decide +kernel
theorem dX8_comesNow_24 : decode cX8_comesNow 24 = .ok (.istore 4, 2) := by decide +kernel
theorem dX8_comesNow_26 : decode cX8_comesNow 26 = .ok (.aload_n 3, 1) := by decide +kernel
theorem dX8_comesNow_27 : decode cX8_comesNow 27 = .ok (.arraylength, 1) := by decide +kernel
theorem dX8_comesNow_28 : decode cX8_comesNow 28 = .ok (.ifCond .ne 6, 3) := by decide +kernel
theorem dX8_comesNow_31 : decode cX8_comesNow 31 = .ok (.iload 4, 2) := by decide +kernel
theorem dX8_comesNow_33 : decode cX8_comesNow 33 = .ok (.ireturn, 1) := by decide +kernel
theorem dX8_comesNow_34 : decode cX8_comesNow 34 = .ok (.aload_n 0, 1) := by decide +kernel
theorem dX8_comesNow_35 : decode cX8_comesNow 35 = .ok (.getfield 36, 3) := by decide +kernel
theorem dX8_comesNow_38 : decode cX8_comesNow 38 = .ok (.bipush 10, 2) := by decide +kernel
theorem dX8_comesNow_40 : decode cX8_comesNow 40 = .ok (.aload_n 1, 1) := by decide +kernel
theorem dX8_comesNow_41 : decode cX8_comesNow 41 = .ok (.getfield 133, 3) := by decide +kernel
theorem dX8_comesNow_44 : decode cX8_comesNow 44 = .ok (.invokevirtual 276, 3) := by decide +kernel
theorem dX8_comesNow_47 : decode cX8_comesNow 47 = .ok (.aload_n 0, 1) := by decide +kernel
theorem dX8_comesNow_48 : decode cX8_comesNow 48 = .ok (.getfield 36, 3) := by decide +kernel
theorem dX8_comesNow_51 : decode cX8_comesNow 51 = .ok (.bipush 30, 2) := by decide +kernel
theorem dX8_comesNow_53 : decode cX8_comesNow 53 = .ok (.aload_n 1, 1) := by decide +kernel
theorem dX8_comesNow_54 : decode cX8_comesNow 54 = .ok (.getfield 160, 3) := by decide +kernel
theorem dX8_comesNow_57 : decode cX8_comesNow 57 = .ok (.invokestatic 279, 3) := by decide +kernel
theorem dX8_comesNow_60 : decode cX8_comesNow 60 = .ok (.invokevirtual 276, 3) := by decide +kernel
theorem dX8_comesNow_63 : decode cX8_comesNow 63 = .ok (.aload_n 0, 1) := by decide +kernel
theorem dX8_comesNow_64 : decode cX8_comesNow 64 = .ok (.getfield 36, 3) := by decide +kernel
theorem dX8_comesNow_67 : decode cX8_comesNow 67 = .ok (.iconst 4, 1) := by decide +kernel
theorem dX8_comesNow_68 : decode cX8_comesNow 68 = .ok (.iload_n 2, 1) := by decide +kernel
theorem dX8_comesNow_69 : decode cX8_comesNow 69 = .ok (.invokevirtual 276, 3) := by decide +kernel
theorem dX8_comesNow_72 : decode cX8_comesNow 72 = .ok (.aload_n 0, 1) := by decide +kernel
theorem dX8_comesNow_73 : decode cX8_comesNow 73 = .ok (.getfield 36, 3) := by decide +kernel
theorem dX8_comesNow_76 : decode cX8_comesNow 76 = .ok (.bipush 31, 2) := by decide +kernel
theorem dX8_comesNow_78 : decode cX8_comesNow 78 = .ok (.iload 4, 2) := by decide +kernel
theorem dX8_comesNow_80 : decode cX8_comesNow 80 = .ok (.invokevirtual 276, 3) := by decide +kernel
theorem dX8_comesNow_83 : decode cX8_comesNow 83 = .ok (.aload_n 0, 1) := by decide +kernel
theorem dX8_comesNow_84 : decode cX8_comesNow 84 = .ok (.getfield 36, 3) := by decide +kernel
theorem dX8_comesNow_87 : decode cX8_comesNow 87 = .ok (.bipush 11, 2) := by decide +kernel
theorem dX8_comesNow_89 : decode cX8_comesNow 89 = .ok (.aload_n 0, 1) := by decide +kernel
theorem dX8_comesNow_90 : decode cX8_comesNow 90 = .ok (.getfield 10, 3) := by decide +kernel
theorem dX8_comesNow_93 : decode cX8_comesNow 93 = .ok (.getfield 65, 3) := by decide +kernel
theorem dX8_comesNow_96 : decode cX8_comesNow 96 = .ok (.iload_n 2, 1) := by decide +kernel
theorem dX8_comesNow_97 : decode cX8_comesNow 97 = .ok (.iconst 1, 1) := by decide +kernel
theorem dX8_comesNow_98 : decode cX8_comesNow 98 = .ok (.invokevirtual 143, 3) := by decide +kernel
theorem dX8_comesNow_101 : decode cX8_comesNow 101 = .ok (.invokevirtual 276, 3) := by decide +kernel
theorem dX8_comesNow_104 : decode cX8_comesNow 104 = .ok (.aload_n 0, 1) := by decide +kernel
theorem dX8_comesNow_105 : decode cX8_comesNow 105 = .ok (.getfield 36, 3) := by decide +kernel
theorem dX8_comesNow_108 : decode cX8_comesNow 108 = .ok (.aload_n 3, 1) := by decide +kernel
theorem dX8_comesNow_109 : decode cX8_comesNow 109 = .ok (.aload_n 1, 1) := by decide +kernel
theorem dX8_comesNow_110 : decode cX8_comesNow 110 = .ok (.getfield 160, 3) := by decide +kernel
theorem dX8_comesNow_113 : decode cX8_comesNow 113 = .ok (.invokevirtual 284, 3) := by decide +kernel
theorem dX8_comesNow_116 : decode cX8_comesNow 116 = .ok (.iconst 0, 1) := by decide +kernel
theorem dX8_comesNow_117 : decode cX8_comesNow 117 = .ok (.bipush 10, 2) := by decide +kernel
theorem dX8_comesNow_119 : decode cX8_comesNow 119 = .ok (.invokestatic 288, 3) := by decide +kernel
theorem dX8_comesNow_122 : decode cX8_comesNow 122 = .ok (.ireturn, 1) := by decide +kernel
theorem dX8_duesBy_0 : decode cX8_duesBy 0 = .ok (.aload_n 1, 1) := by decide +kernel
theorem dX8_duesBy_1 : decode cX8_duesBy 1 = .ok (.iconst 2, 1) := by decide +kernel
theorem dX8_duesBy_2 : decode cX8_duesBy 2 = .ok (.invokestatic 272, 3) := by decide +kernel
theorem dX8_duesBy_5 : decode cX8_duesBy 5 = .ok (.astore 4, 2) := by decide +kernel
theorem dX8_duesBy_7 : decode cX8_duesBy 7 = .ok (.aload 4, 2) := by decide +kernel
theorem dX8_duesBy_9 : decode cX8_duesBy 9 = .ok (.arraylength, 1) := by decide +kernel
theorem dX8_duesBy_10 : decode cX8_duesBy 10 = .ok (.ifCond .ne 16, 3) := by decide +kernel
theorem dX8_duesBy_13 : decode cX8_duesBy 13 = .ok (.bipush 10, 2) := by decide +kernel
theorem dX8_duesBy_15 : decode cX8_duesBy 15 = .ok (.aload_n 2, 1) := by decide +kernel
theorem dX8_duesBy_16 : decode cX8_duesBy 16 = .ok (.getfield 127, 3) := by decide +kernel
theorem dX8_duesBy_19 : decode cX8_duesBy 19 = .ok (.iload_n 3, 1) := by decide +kernel
theorem dX8_duesBy_20 : decode cX8_duesBy 20 = .ok (.iconst 4, 1) := by decide +kernel
theorem dX8_duesBy_21 : decode cX8_duesBy 21 = .ok (.invokevirtual 143, 3) := by decide +kernel
theorem dX8_duesBy_24 : decode cX8_duesBy 24 = .ok (.imul, 1) := by decide +kernel
theorem dX8_duesBy_25 : decode cX8_duesBy 25 = .ok (.ireturn, 1) := by decide +kernel
theorem dX8_duesBy_26 : decode cX8_duesBy 26 = .ok (.aload_n 0, 1) := by decide +kernel
theorem dX8_duesBy_27 : decode cX8_duesBy 27 = .ok (.aload_n 2, 1) := by decide +kernel
theorem dX8_duesBy_28 : decode cX8_duesBy 28 = .ok (.iload_n 3, 1) := by decide +kernel
theorem dX8_duesBy_29 : decode cX8_duesBy 29 = .ok (.invokevirtual 292, 3) := by decide +kernel
theorem dX8_duesBy_32 : decode cX8_duesBy 32 = .ok (.aload_n 0, 1) := by decide +kernel
theorem dX8_duesBy_33 : decode cX8_duesBy 33 = .ok (.getfield 36, 3) := by decide +kernel
theorem dX8_duesBy_36 : decode cX8_duesBy 36 = .ok (.aload 4, 2) := by decide +kernel
theorem dX8_duesBy_38 : decode cX8_duesBy 38 = .ok (.aload_n 2, 1) := by decide +kernel
theorem dX8_duesBy_39 : decode cX8_duesBy 39 = .ok (.getfield 160, 3) := by decide +kernel
theorem dX8_duesBy_42 : decode cX8_duesBy 42 = .ok (.invokevirtual 284, 3) := by decide +kernel
theorem dX8_duesBy_45 : decode cX8_duesBy 45 = .ok (.iconst 0, 1) := by decide +kernel
theorem dX8_duesBy_46 : decode cX8_duesBy 46 = .ok (.sipush 9999, 3) := by decide +kernel
theorem dX8_duesBy_49 : decode cX8_duesBy 49 = .ok (.invokestatic 288, 3) := by decide +kernel
theorem dX8_duesBy_52 : decode cX8_duesBy 52 = .ok (.ireturn, 1) := by decide +kernel
theorem dX8_renownNow_0 : decode cX8_renownNow 0 = .ok (.aload_n 0, 1) := by decide +kernel
theorem dX8_renownNow_1 : decode cX8_renownNow 1 = .ok (.getfield 10, 3) := by decide +kernel
theorem dX8_renownNow_4 : decode cX8_renownNow 4 = .ok (.invokevirtual 197, 3) := by decide +kernel
theorem dX8_renownNow_7 : decode cX8_renownNow 7 = .ok (.iconst 3, 1) := by decide +kernel
theorem dX8_renownNow_8 : decode cX8_renownNow 8 = .ok (.invokestatic 272, 3) := by decide +kernel
theorem dX8_renownNow_11 : decode cX8_renownNow 11 = .ok (.astore_n 3, 1) := by decide +kernel
theorem dX8_renownNow_12 : decode cX8_renownNow 12 = .ok (.aload_n 3, 1) := by decide +kernel
theorem dX8_renownNow_13 : decode cX8_renownNow 13 = .ok (.arraylength, 1) := by decide +kernel
theorem dX8_renownNow_14 : decode cX8_renownNow 14 = .ok (.ifCond .ne 16, 3) := by decide +kernel
theorem dX8_renownNow_17 : decode cX8_renownNow 17 = .ok (.aload_n 1, 1) := by decide +kernel
theorem dX8_renownNow_18 : decode cX8_renownNow 18 = .ok (.getfield 127, 3) := by decide +kernel
theorem dX8_renownNow_21 : decode cX8_renownNow 21 = .ok (.iload_n 2, 1) := by decide +kernel
theorem dX8_renownNow_22 : decode cX8_renownNow 22 = .ok (.iconst 2, 1) := by decide +kernel
theorem dX8_renownNow_23 : decode cX8_renownNow 23 = .ok (.invokevirtual 143, 3) := by decide +kernel
theorem dX8_renownNow_26 : decode cX8_renownNow 26 = .ok (.invokestatic 279, 3) := by decide +kernel
theorem dX8_renownNow_29 : decode cX8_renownNow 29 = .ok (.ireturn, 1) := by decide +kernel
theorem dX8_renownNow_30 : decode cX8_renownNow 30 = .ok (.aload_n 0, 1) := by decide +kernel
theorem dX8_renownNow_31 : decode cX8_renownNow 31 = .ok (.aload_n 1, 1) := by decide +kernel
theorem dX8_renownNow_32 : decode cX8_renownNow 32 = .ok (.iload_n 2, 1) := by decide +kernel
theorem dX8_renownNow_33 : decode cX8_renownNow 33 = .ok (.invokevirtual 292, 3) := by decide +kernel
theorem dX8_renownNow_36 : decode cX8_renownNow 36 = .ok (.aload_n 0, 1) := by decide +kernel
theorem dX8_renownNow_37 : decode cX8_renownNow 37 = .ok (.getfield 36, 3) := by decide +kernel
theorem dX8_renownNow_40 : decode cX8_renownNow 40 = .ok (.aload_n 3, 1) := by decide +kernel
theorem dX8_renownNow_41 : decode cX8_renownNow 41 = .ok (.aload_n 1, 1) := by decide +kernel
theorem dX8_renownNow_42 : decode cX8_renownNow 42 = .ok (.getfield 160, 3) := by decide +kernel
theorem dX8_renownNow_45 : decode cX8_renownNow 45 = .ok (.invokevirtual 284, 3) := by decide +kernel
theorem dX8_renownNow_48 : decode cX8_renownNow 48 = .ok (.iconst 0, 1) := by decide +kernel
theorem dX8_renownNow_49 : decode cX8_renownNow 49 = .ok (.bipush 99, 2) := by decide +kernel
theorem dX8_renownNow_51 : decode cX8_renownNow 51 = .ok (.invokestatic 288, 3) := by decide +kernel
theorem dX8_renownNow_54 : decode cX8_renownNow 54 = .ok (.ireturn, 1) := by decide +kernel
theorem dX8_tellProphecy_0 : decode cX8_tellProphecy 0 = .ok (.aload_n 1, 1) := by decide +kernel
theorem dX8_tellProphecy_1 : decode cX8_tellProphecy 1 = .ok (.getfield 127, 3) := by decide +kernel
theorem dX8_tellProphecy_4 : decode cX8_tellProphecy 4 = .ok (.astore_n 3, 1) := by decide +kernel
theorem dX8_tellProphecy_5 : decode cX8_tellProphecy 5 = .ok (.aload_n 3, 1) := by decide +kernel
theorem dX8_tellProphecy_6 : decode cX8_tellProphecy 6 = .ok (.iload_n 2, 1) := by decide +kernel
theorem dX8_tellProphecy_7 : decode cX8_tellProphecy 7 = .ok (.iconst 0, 1) := by decide +kernel
theorem dX8_tellProphecy_8 : decode cX8_tellProphecy 8 = .ok (.invokevirtual 143, 3) := by decide +kernel
theorem dX8_tellProphecy_11 : decode cX8_tellProphecy 11 = .ok (.istore 4, 2) := by decide +kernel
theorem dX8_tellProphecy_13 : decode cX8_tellProphecy 13 = .ok (.aload_n 0, 1) := by decide +kernel
theorem dX8_tellProphecy_14 : decode cX8_tellProphecy 14 = .ok (.getfield 36, 3) := by decide +kernel
theorem dX8_tellProphecy_17 : decode cX8_tellProphecy 17 = .ok (.bipush 10, 2) := by decide +kernel
theorem dX8_tellProphecy_19 : decode cX8_tellProphecy 19 = .ok (.aload_n 1, 1) := by decide +kernel
theorem dX8_tellProphecy_20 : decode cX8_tellProphecy 20 = .ok (.getfield 133, 3) := by decide +kernel
theorem dX8_tellProphecy_23 : decode cX8_tellProphecy 23 = .ok (.invokevirtual 276, 3) := by decide +kernel
theorem dX8_tellProphecy_26 : decode cX8_tellProphecy 26 = .ok (.aload_n 0, 1) := by decide +kernel
theorem dX8_tellProphecy_27 : decode cX8_tellProphecy 27 = .ok (.getfield 36, 3) := by decide +kernel
theorem dX8_tellProphecy_30 : decode cX8_tellProphecy 30 = .ok (.bipush 30, 2) := by decide +kernel
theorem dX8_tellProphecy_32 : decode cX8_tellProphecy 32 = .ok (.aload_n 1, 1) := by decide +kernel
theorem dX8_tellProphecy_33 : decode cX8_tellProphecy 33 = .ok (.getfield 160, 3) := by decide +kernel
theorem dX8_tellProphecy_36 : decode cX8_tellProphecy 36 = .ok (.invokestatic 279, 3) := by decide +kernel
theorem dX8_tellProphecy_39 : decode cX8_tellProphecy 39 = .ok (.invokevirtual 276, 3) := by decide +kernel
theorem dX8_tellProphecy_42 : decode cX8_tellProphecy 42 = .ok (.aload_n 0, 1) := by decide +kernel
theorem dX8_tellProphecy_43 : decode cX8_tellProphecy 43 = .ok (.getfield 36, 3) := by decide +kernel
theorem dX8_tellProphecy_46 : decode cX8_tellProphecy 46 = .ok (.bipush 32, 2) := by decide +kernel
theorem dX8_tellProphecy_48 : decode cX8_tellProphecy 48 = .ok (.iload 4, 2) := by decide +kernel
theorem dX8_tellProphecy_50 : decode cX8_tellProphecy 50 = .ok (.invokevirtual 276, 3) := by decide +kernel
theorem dX8_tellProphecy_53 : decode cX8_tellProphecy 53 = .ok (.aload_n 0, 1) := by decide +kernel
theorem dX8_tellProphecy_54 : decode cX8_tellProphecy 54 = .ok (.getfield 36, 3) := by decide +kernel
theorem dX8_tellProphecy_57 : decode cX8_tellProphecy 57 = .ok (.bipush 12, 2) := by decide +kernel
theorem dX8_tellProphecy_59 : decode cX8_tellProphecy 59 = .ok (.aload_n 1, 1) := by decide +kernel
theorem dX8_tellProphecy_60 : decode cX8_tellProphecy 60 = .ok (.getfield 82, 3) := by decide +kernel
theorem dX8_tellProphecy_63 : decode cX8_tellProphecy 63 = .ok (.iload 4, 2) := by decide +kernel
theorem dX8_tellProphecy_65 : decode cX8_tellProphecy 65 = .ok (.iconst 1, 1) := by decide +kernel
theorem dX8_tellProphecy_66 : decode cX8_tellProphecy 66 = .ok (.invokevirtual 143, 3) := by decide +kernel
theorem dX8_tellProphecy_69 : decode cX8_tellProphecy 69 = .ok (.invokevirtual 276, 3) := by decide +kernel
theorem dX8_tellProphecy_72 : decode cX8_tellProphecy 72 = .ok (.aload_n 0, 1) := by decide +kernel
theorem dX8_tellProphecy_73 : decode cX8_tellProphecy 73 = .ok (.getfield 36, 3) := by decide +kernel
theorem dX8_tellProphecy_76 : decode cX8_tellProphecy 76 = .ok (.bipush 33, 2) := by decide +kernel
theorem dX8_tellProphecy_78 : decode cX8_tellProphecy 78 = .ok (.aload_n 1, 1) := by decide +kernel
theorem dX8_tellProphecy_79 : decode cX8_tellProphecy 79 = .ok (.getfield 82, 3) := by decide +kernel
theorem dX8_tellProphecy_82 : decode cX8_tellProphecy 82 = .ok (.iload 4, 2) := by decide +kernel
theorem dX8_tellProphecy_84 : decode cX8_tellProphecy 84 = .ok (.iconst 0, 1) := by decide +kernel
theorem dX8_tellProphecy_85 : decode cX8_tellProphecy 85 = .ok (.invokevirtual 143, 3) := by decide +kernel
theorem dX8_tellProphecy_88 : decode cX8_tellProphecy 88 = .ok (.invokevirtual 276, 3) := by decide +kernel
theorem dX8_tellProphecy_91 : decode cX8_tellProphecy 91 = .ok (.aload_n 0, 1) := by decide +kernel
theorem dX8_tellProphecy_92 : decode cX8_tellProphecy 92 = .ok (.getfield 36, 3) := by decide +kernel
theorem dX8_tellProphecy_95 : decode cX8_tellProphecy 95 = .ok (.bipush 16, 2) := by decide +kernel
theorem dX8_tellProphecy_97 : decode cX8_tellProphecy 97 = .ok (.aload_n 3, 1) := by decide +kernel
theorem dX8_tellProphecy_98 : decode cX8_tellProphecy 98 = .ok (.iload_n 2, 1) := by decide +kernel
theorem dX8_tellProphecy_99 : decode cX8_tellProphecy 99 = .ok (.iconst 4, 1) := by decide +kernel
theorem dX8_tellProphecy_100 : decode cX8_tellProphecy 100 = .ok (.invokevirtual 143, 3) := by decide +kernel
theorem dX8_tellProphecy_103 : decode cX8_tellProphecy 103 = .ok (.invokevirtual 276, 3) := by decide +kernel
theorem dX8_tellProphecy_106 : decode cX8_tellProphecy 106 = .ok (.aload_n 0, 1) := by decide +kernel
theorem dX8_tellProphecy_107 : decode cX8_tellProphecy 107 = .ok (.getfield 36, 3) := by decide +kernel
theorem dX8_tellProphecy_110 : decode cX8_tellProphecy 110 = .ok (.bipush 34, 2) := by decide +kernel
theorem dX8_tellProphecy_112 : decode cX8_tellProphecy 112 = .ok (.aload_n 3, 1) := by decide +kernel
theorem dX8_tellProphecy_113 : decode cX8_tellProphecy 113 = .ok (.iload_n 2, 1) := by decide +kernel
theorem dX8_tellProphecy_114 : decode cX8_tellProphecy 114 = .ok (.iconst 2, 1) := by decide +kernel
theorem dX8_tellProphecy_115 : decode cX8_tellProphecy 115 = .ok (.invokevirtual 143, 3) := by decide +kernel
theorem dX8_tellProphecy_118 : decode cX8_tellProphecy 118 = .ok (.invokestatic 279, 3) := by decide +kernel
theorem dX8_tellProphecy_121 : decode cX8_tellProphecy 121 = .ok (.invokevirtual 276, 3) := by decide +kernel
theorem dX8_tellProphecy_124 : decode cX8_tellProphecy 124 = .ok (.aload_n 0, 1) := by decide +kernel
theorem dX8_tellProphecy_125 : decode cX8_tellProphecy 125 = .ok (.getfield 36, 3) := by decide +kernel
theorem dX8_tellProphecy_128 : decode cX8_tellProphecy 128 = .ok (.bipush 35, 2) := by decide +kernel
theorem dX8_tellProphecy_130 : decode cX8_tellProphecy 130 = .ok (.aload_n 3, 1) := by decide +kernel
theorem dX8_tellProphecy_131 : decode cX8_tellProphecy 131 = .ok (.iload_n 2, 1) := by decide +kernel
theorem dX8_tellProphecy_132 : decode cX8_tellProphecy 132 = .ok (.iconst 3, 1) := by decide +kernel
theorem dX8_tellProphecy_133 : decode cX8_tellProphecy 133 = .ok (.invokevirtual 143, 3) := by decide +kernel
theorem dX8_tellProphecy_136 : decode cX8_tellProphecy 136 = .ok (.aload_n 1, 1) := by decide +kernel
theorem dX8_tellProphecy_137 : decode cX8_tellProphecy 137 = .ok (.getfield 133, 3) := by decide +kernel
theorem dX8_tellProphecy_140 : decode cX8_tellProphecy 140 = .ok (.isub, 1) := by decide +kernel
theorem dX8_tellProphecy_141 : decode cX8_tellProphecy 141 = .ok (.invokevirtual 276, 3) := by decide +kernel
theorem dX8_tellProphecy_144 : decode cX8_tellProphecy 144 = .ok (.return_, 1) := by decide +kernel
theorem dX8_lawOf_0 : decode cX8_lawOf 0 = .ok (.aload_n 0, 1) := by decide +kernel
theorem dX8_lawOf_1 : decode cX8_lawOf 1 = .ok (.ifnonnull 9, 3) := by decide +kernel
theorem dX8_lawOf_4 : decode cX8_lawOf 4 = .ok (.getstatic 296, 3) := by decide +kernel
theorem dX8_lawOf_7 : decode cX8_lawOf 7 = .ok (.goto 8, 3) := by decide +kernel
theorem dX8_lawOf_10 : decode cX8_lawOf 10 = .ok (.aload_n 0, 1) := by decide +kernel
theorem dX8_lawOf_11 : decode cX8_lawOf 11 = .ok (.iload_n 1, 1) := by decide +kernel
theorem dX8_lawOf_12 : decode cX8_lawOf 12 = .ok (.invokevirtual 299, 3) := by decide +kernel
theorem dX8_lawOf_15 : decode cX8_lawOf 15 = .ok (.areturn, 1) := by decide +kernel
theorem dX8_ahead_0 : decode cX8_ahead 0 = .ok (.iload_n 1, 1) := by decide +kernel
theorem dX8_ahead_1 : decode cX8_ahead 1 = .ok (.iconst 1, 1) := by decide +kernel
theorem dX8_ahead_2 : decode cX8_ahead 2 = .ok (.bipush 60, 2) := by decide +kernel
theorem dX8_ahead_4 : decode cX8_ahead 4 = .ok (.invokestatic 61, 3) := by decide +kernel
theorem dX8_ahead_7 : decode cX8_ahead 7 = .ok (.ifCond .eq 12, 3) := by decide +kernel
theorem dX8_ahead_10 : decode cX8_ahead 10 = .ok (.aload_n 0, 1) := by decide +kernel
theorem dX8_ahead_11 : decode cX8_ahead 11 = .ok (.iload_n 2, 1) := by decide +kernel
theorem dX8_ahead_12 : decode cX8_ahead 12 = .ok (.iload_n 3, 1) := by decide +kernel
theorem dX8_ahead_13 : decode cX8_ahead 13 = .ok (.invokevirtual 303, 3) := by decide +kernel
theorem dX8_ahead_16 : decode cX8_ahead 16 = .ok (.ifCond .ne 5, 3) := by decide +kernel
theorem dX8_ahead_19 : decode cX8_ahead 19 = .ok (.iconst (-1), 1) := by decide +kernel
theorem dX8_ahead_20 : decode cX8_ahead 20 = .ok (.ireturn, 1) := by decide +kernel
theorem dX8_ahead_21 : decode cX8_ahead 21 = .ok (.aload_n 0, 1) := by decide +kernel
theorem dX8_ahead_22 : decode cX8_ahead 22 = .ok (.getfield 22, 3) := by decide +kernel
theorem dX8_ahead_25 : decode cX8_ahead 25 = .ok (.aload_n 0, 1) := by decide +kernel
theorem dX8_ahead_26 : decode cX8_ahead 26 = .ok (.getfield 10, 3) := by decide +kernel
theorem dX8_ahead_29 : decode cX8_ahead 29 = .ok (.getfield 79, 3) := by decide +kernel
theorem dX8_ahead_32 : decode cX8_ahead 32 = .ok (.iconst 0, 1) := by decide +kernel
theorem dX8_ahead_33 : decode cX8_ahead 33 = .ok (.invokevirtual 306, 3) := by decide +kernel
theorem dX8_ahead_36 : decode cX8_ahead 36 = .ok (.iconst 0, 1) := by decide +kernel
theorem dX8_ahead_37 : decode cX8_ahead 37 = .ok (.istore 4, 2) := by decide +kernel
theorem dX8_ahead_39 : decode cX8_ahead 39 = .ok (.iload 4, 2) := by decide +kernel
theorem dX8_ahead_41 : decode cX8_ahead 41 = .ok (.iload_n 1, 1) := by decide +kernel
theorem dX8_ahead_42 : decode cX8_ahead 42 = .ok (.if_icmp .ge 31, 3) := by decide +kernel
theorem dX8_ahead_45 : decode cX8_ahead 45 = .ok (.aload_n 0, 1) := by decide +kernel
theorem dX8_ahead_46 : decode cX8_ahead 46 = .ok (.getfield 22, 3) := by decide +kernel
theorem dX8_ahead_49 : decode cX8_ahead 49 = .ok (.getfield 133, 3) := by decide +kernel
theorem dX8_ahead_52 : decode cX8_ahead 52 = .ok (.sipush 9999, 3) := by decide +kernel
theorem dX8_ahead_55 : decode cX8_ahead 55 = .ok (.if_icmp .ge 18, 3) := by decide +kernel
theorem dX8_ahead_58 : decode cX8_ahead 58 = .ok (.aload_n 0, 1) := by decide +kernel
theorem dX8_ahead_59 : decode cX8_ahead 59 = .ok (.aload_n 0, 1) := by decide +kernel
theorem dX8_ahead_60 : decode cX8_ahead 60 = .ok (.getfield 22, 3) := by decide +kernel
theorem dX8_ahead_63 : decode cX8_ahead 63 = .ok (.invokevirtual 173, 3) := by decide +kernel
theorem dX8_ahead_66 : decode cX8_ahead 66 = .ok (.pop, 1) := by decide +kernel
theorem dX8_ahead_67 : decode cX8_ahead 67 = .ok (.iinc 4 1, 3) := by decide +kernel
theorem dX8_ahead_70 : decode cX8_ahead 70 = .ok (.goto (-31), 3) := by decide +kernel
theorem dX8_ahead_73 : decode cX8_ahead 73 = .ok (.iload_n 2, 1) := by decide +kernel
theorem dX8_ahead_74 : decode cX8_ahead 74 = .ok (.ifCond .ne 11, 3) := by decide +kernel
theorem dX8_ahead_77 : decode cX8_ahead 77 = .ok (.aload_n 0, 1) := by decide +kernel
theorem dX8_ahead_78 : decode cX8_ahead 78 = .ok (.getfield 22, 3) := by decide +kernel
theorem dX8_ahead_81 : decode cX8_ahead 81 = .ok (.getfield 160, 3) := by decide +kernel
theorem dX8_ahead_84 : decode cX8_ahead 84 = .ok (.ireturn, 1) := by decide +kernel
theorem dX8_ahead_85 : decode cX8_ahead 85 = .ok (.iload_n 2, 1) := by decide +kernel
theorem dX8_ahead_86 : decode cX8_ahead 86 = .ok (.iconst 1, 1) := by decide +kernel
theorem dX8_ahead_87 : decode cX8_ahead 87 = .ok (.if_icmp .ne 18, 3) := by decide +kernel
theorem dX8_ahead_90 : decode cX8_ahead 90 = .ok (.aload_n 0, 1) := by decide +kernel
theorem dX8_ahead_91 : decode cX8_ahead 91 = .ok (.getfield 22, 3) := by decide +kernel
theorem dX8_ahead_94 : decode cX8_ahead 94 = .ok (.getfield 82, 3) := by decide +kernel
theorem dX8_ahead_97 : decode cX8_ahead 97 = .ok (.iload_n 3, 1) := by decide +kernel
theorem dX8_ahead_98 : decode cX8_ahead 98 = .ok (.iconst 0, 1) := by decide +kernel
theorem dX8_ahead_99 : decode cX8_ahead 99 = .ok (.invokevirtual 143, 3) := by decide +kernel
theorem dX8_ahead_102 : decode cX8_ahead 102 = .ok (.goto 15, 3) := by decide +kernel
theorem dX8_ahead_105 : decode cX8_ahead 105 = .ok (.aload_n 0, 1) := by decide +kernel
theorem dX8_ahead_106 : decode cX8_ahead 106 = .ok (.getfield 22, 3) := by decide +kernel
theorem dX8_ahead_109 : decode cX8_ahead 109 = .ok (.getfield 127, 3) := by decide +kernel
theorem dX8_ahead_112 : decode cX8_ahead 112 = .ok (.iload_n 3, 1) := by decide +kernel
theorem dX8_ahead_113 : decode cX8_ahead 113 = .ok (.iconst 5, 1) := by decide +kernel
theorem dX8_ahead_114 : decode cX8_ahead 114 = .ok (.invokevirtual 143, 3) := by decide +kernel
theorem dX8_ahead_117 : decode cX8_ahead 117 = .ok (.ireturn, 1) := by decide +kernel
theorem dX8_mayLookAhead_0 : decode cX8_mayLookAhead 0 = .ok (.iload_n 1, 1) := by decide +kernel
theorem dX8_mayLookAhead_1 : decode cX8_mayLookAhead 1 = .ok (.ifCond .eq 47, 3) := by decide +kernel
theorem dX8_mayLookAhead_4 : decode cX8_mayLookAhead 4 = .ok (.iload_n 1, 1) := by decide +kernel
theorem dX8_mayLookAhead_5 : decode cX8_mayLookAhead 5 = .ok (.iconst 1, 1) := by decide +kernel
theorem dX8_mayLookAhead_6 : decode cX8_mayLookAhead 6 = .ok (.if_icmp .ne 20, 3) := by decide +kernel
theorem dX8_mayLookAhead_9 : decode cX8_mayLookAhead 9 = .ok (.aload_n 0, 1) := by decide +kernel
theorem dX8_mayLookAhead_10 : decode cX8_mayLookAhead 10 = .ok (.getfield 10, 3) := by decide +kernel
theorem dX8_mayLookAhead_13 : decode cX8_mayLookAhead 13 = .ok (.getfield 79, 3) := by decide +kernel
theorem dX8_mayLookAhead_16 : decode cX8_mayLookAhead 16 = .ok (.getfield 82, 3) := by decide +kernel
theorem dX8_mayLookAhead_19 : decode cX8_mayLookAhead 19 = .ok (.iload_n 2, 1) := by decide +kernel
theorem dX8_mayLookAhead_20 : decode cX8_mayLookAhead 20 = .ok (.invokevirtual 140, 3) := by decide +kernel
theorem dX8_mayLookAhead_23 : decode cX8_mayLookAhead 23 = .ok (.ifCond .ne 25, 3) := by decide +kernel
theorem dX8_mayLookAhead_26 : decode cX8_mayLookAhead 26 = .ok (.iload_n 1, 1) := by decide +kernel
theorem dX8_mayLookAhead_27 : decode cX8_mayLookAhead 27 = .ok (.iconst 2, 1) := by decide +kernel
theorem dX8_mayLookAhead_28 : decode cX8_mayLookAhead 28 = .ok (.if_icmp .ne 24, 3) := by decide +kernel
theorem dX8_mayLookAhead_31 : decode cX8_mayLookAhead 31 = .ok (.aload_n 0, 1) := by decide +kernel
theorem dX8_mayLookAhead_32 : decode cX8_mayLookAhead 32 = .ok (.getfield 10, 3) := by decide +kernel
theorem dX8_mayLookAhead_35 : decode cX8_mayLookAhead 35 = .ok (.getfield 79, 3) := by decide +kernel
theorem dX8_mayLookAhead_38 : decode cX8_mayLookAhead 38 = .ok (.getfield 127, 3) := by decide +kernel
theorem dX8_mayLookAhead_41 : decode cX8_mayLookAhead 41 = .ok (.iload_n 2, 1) := by decide +kernel
theorem dX8_mayLookAhead_42 : decode cX8_mayLookAhead 42 = .ok (.invokevirtual 140, 3) := by decide +kernel
theorem dX8_mayLookAhead_45 : decode cX8_mayLookAhead 45 = .ok (.ifCond .eq 7, 3) := by decide +kernel
theorem dX8_mayLookAhead_48 : decode cX8_mayLookAhead 48 = .ok (.iconst 1, 1) := by decide +kernel
theorem dX8_mayLookAhead_49 : decode cX8_mayLookAhead 49 = .ok (.goto 4, 3) := by decide +kernel
theorem dX8_mayLookAhead_52 : decode cX8_mayLookAhead 52 = .ok (.iconst 0, 1) := by decide +kernel
theorem dX8_mayLookAhead_53 : decode cX8_mayLookAhead 53 = .ok (.ireturn, 1) := by decide +kernel
theorem dX8_until_0 : decode cX8_until 0 = .ok (.aload_n 0, 1) := by decide +kernel
theorem dX8_until_1 : decode cX8_until 1 = .ok (.getfield 10, 3) := by decide +kernel
theorem dX8_until_4 : decode cX8_until 4 = .ok (.getfield 79, 3) := by decide +kernel
theorem dX8_until_7 : decode cX8_until 7 = .ok (.iload_n 1, 1) := by decide +kernel
theorem dX8_until_8 : decode cX8_until 8 = .ok (.invokevirtual 167, 3) := by decide +kernel
theorem dX8_until_11 : decode cX8_until 11 = .ok (.ifCond .ne 5, 3) := by decide +kernel
theorem dX8_until_14 : decode cX8_until 14 = .ok (.iconst (-1), 1) := by decide +kernel
theorem dX8_until_15 : decode cX8_until 15 = .ok (.ireturn, 1) := by decide +kernel
theorem dX8_until_16 : decode cX8_until 16 = .ok (.aload_n 0, 1) := by decide +kernel
theorem dX8_until_17 : decode cX8_until 17 = .ok (.getfield 22, 3) := by decide +kernel
theorem dX8_until_20 : decode cX8_until 20 = .ok (.aload_n 0, 1) := by decide +kernel
theorem dX8_until_21 : decode cX8_until 21 = .ok (.getfield 10, 3) := by decide +kernel
theorem dX8_until_24 : decode cX8_until 24 = .ok (.getfield 79, 3) := by decide +kernel
theorem dX8_until_27 : decode cX8_until 27 = .ok (.iconst 0, 1) := by decide +kernel
theorem dX8_until_28 : decode cX8_until 28 = .ok (.invokevirtual 306, 3) := by decide +kernel
theorem dX8_until_31 : decode cX8_until 31 = .ok (.iconst 1, 1) := by decide +kernel
theorem dX8_until_32 : decode cX8_until 32 = .ok (.istore_n 2, 1) := by decide +kernel
theorem dX8_until_33 : decode cX8_until 33 = .ok (.iload_n 2, 1) := by decide +kernel
theorem dX8_until_34 : decode cX8_until 34 = .ok (.bipush 60, 2) := by decide +kernel
