theorem dX7_sums_15 : decode cX7_sums 15 = .ok (.ireturn, 1) := by decide +kernel
theorem dX7_sums_16 : decode cX7_sums 16 = .ok (.aload_n 3, 1) := by decide +kernel
theorem dX7_sums_17 : decode cX7_sums 17 = .ok (.getfield 68, 3) := by decide +kernel
theorem dX7_sums_20 : decode cX7_sums 20 = .ok (.ifCond .ne 8, 3) := by decide +kernel
theorem dX7_sums_23 : decode cX7_sums 23 = .ok (.bipush (-9), 2) := by decide +kernel
theorem dX7_sums_25 : decode cX7_sums 25 = .ok (.goto 7, 3) := by decide +kernel
theorem dX7_sums_28 : decode cX7_sums 28 = .ok (.aload_n 3, 1) := by decide +kernel
theorem dX7_sums_29 : decode cX7_sums 29 = .ok (.invokevirtual 116, 3) := by decide +kernel
theorem dX7_sums_32 : decode cX7_sums 32 = .ok (.ireturn, 1) := by decide +kernel
theorem dX7_sum_0 : decode cX7_sum 0 = .ok (.aload_n 0, 1) := by decide +kernel
theorem dX7_sum_1 : decode cX7_sum 1 = .ok (.getfield 10, 3) := by decide +kernel
theorem dX7_sum_4 : decode cX7_sum 4 = .ok (.iload_n 1, 1) := by decide +kernel
theorem dX7_sum_5 : decode cX7_sum 5 = .ok (.iload_n 2, 1) := by decide +kernel
theorem dX7_sum_6 : decode cX7_sum 6 = .ok (.invokevirtual 93, 3) := by decide +kernel
theorem dX7_sum_9 : decode cX7_sum 9 = .ok (.astore 5, 2) := by decide +kernel
theorem dX7_sum_11 : decode cX7_sum 11 = .ok (.aload 5, 2) := by decide +kernel
theorem dX7_sum_13 : decode cX7_sum 13 = .ok (.ifnull 31, 3) := by decide +kernel
theorem dX7_sum_16 : decode cX7_sum 16 = .ok (.iload_n 3, 1) := by decide +kernel
theorem dX7_sum_17 : decode cX7_sum 17 = .ok (.ifCond .lt 27, 3) := by decide +kernel
theorem dX7_sum_20 : decode cX7_sum 20 = .ok (.iload_n 3, 1) := by decide +kernel
theorem dX7_sum_21 : decode cX7_sum 21 = .ok (.aload 5, 2) := by decide +kernel
theorem dX7_sum_23 : decode cX7_sum 23 = .ok (.invokevirtual 116, 3) := by decide +kernel
theorem dX7_sum_26 : decode cX7_sum 26 = .ok (.if_icmp .ge 18, 3) := by decide +kernel
theorem dX7_sum_29 : decode cX7_sum 29 = .ok (.iload 4, 2) := by decide +kernel
theorem dX7_sum_31 : decode cX7_sum 31 = .ok (.ifCond .lt 13, 3) := by decide +kernel
theorem dX7_sum_34 : decode cX7_sum 34 = .ok (.iload 4, 2) := by decide +kernel
theorem dX7_sum_36 : decode cX7_sum 36 = .ok (.aload 5, 2) := by decide +kernel
theorem dX7_sum_38 : decode cX7_sum 38 = .ok (.getfield 120, 3) := by decide +kernel
theorem dX7_sum_41 : decode cX7_sum 41 = .ok (.if_icmp .le 7, 3) := by decide +kernel
theorem dX7_sum_44 : decode cX7_sum 44 = .ok (.ldc2_w 121, 3) := by decide +kernel
theorem dX7_sum_47 : decode cX7_sum 47 = .ok (.lreturn, 1) := by decide +kernel
theorem dX7_sum_48 : decode cX7_sum 48 = .ok (.aload 5, 2) := by decide +kernel
theorem dX7_sum_50 : decode cX7_sum 50 = .ok (.getfield 123, 3) := by decide +kernel
theorem dX7_sum_53 : decode cX7_sum 53 = .ok (.iload_n 3, 1) := by decide +kernel
theorem dX7_sum_54 : decode cX7_sum 54 = .ok (.invokevirtual 127, 3) := by decide +kernel
theorem dX7_sum_57 : decode cX7_sum 57 = .ok (.iload 4, 2) := by decide +kernel
theorem dX7_sum_59 : decode cX7_sum 59 = .ok (.laload, 1) := by decide +kernel
theorem dX7_sum_60 : decode cX7_sum 60 = .ok (.lreturn, 1) := by decide +kernel
theorem dX7_start_0 : decode cX7_start 0 = .ok (.aload_n 0, 1) := by decide +kernel
theorem dX7_start_1 : decode cX7_start 1 = .ok (.getfield 10, 3) := by decide +kernel
theorem dX7_start_4 : decode cX7_start 4 = .ok (.iload_n 1, 1) := by decide +kernel
theorem dX7_start_5 : decode cX7_start 5 = .ok (.invokevirtual 46, 3) := by decide +kernel
theorem dX7_start_8 : decode cX7_start 8 = .ok (.astore 6, 2) := by decide +kernel
theorem dX7_start_10 : decode cX7_start 10 = .ok (.aload 6, 2) := by decide +kernel
theorem dX7_start_12 : decode cX7_start 12 = .ok (.ifnonnull 5, 3) := by decide +kernel
theorem dX7_start_15 : decode cX7_start 15 = .ok (.iconst (-1), 1) := by decide +kernel
theorem dX7_start_16 : decode cX7_start 16 = .ok (.ireturn, 1) := by decide +kernel
theorem dX7_start_17 : decode cX7_start 17 = .ok (.aload_n 0, 1) := by decide +kernel
theorem dX7_start_18 : decode cX7_start 18 = .ok (.getfield 25, 3) := by decide +kernel
theorem dX7_start_21 : decode cX7_start 21 = .ok (.iload_n 2, 1) := by decide +kernel
theorem dX7_start_22 : decode cX7_start 22 = .ok (.iload_n 3, 1) := by decide +kernel
theorem dX7_start_23 : decode cX7_start 23 = .ok (.iload 4, 2) := by decide +kernel
theorem dX7_start_25 : decode cX7_start 25 = .ok (.iload 5, 2) := by decide +kernel
theorem dX7_start_27 : decode cX7_start 27 = .ok (.invokestatic 73, 3) := by decide +kernel
theorem dX7_start_30 : decode cX7_start 30 = .ok (.aload_n 0, 1) := by decide +kernel
theorem dX7_start_31 : decode cX7_start 31 = .ok (.getfield 25, 3) := by decide +kernel
theorem dX7_start_34 : decode cX7_start 34 = .ok (.aload 6, 2) := by decide +kernel
theorem dX7_start_36 : decode cX7_start 36 = .ok (.getfield 77, 3) := by decide +kernel
theorem dX7_start_39 : decode cX7_start 39 = .ok (.bipush 30, 2) := by decide +kernel
theorem dX7_start_41 : decode cX7_start 41 = .ok (.invokestatic 80, 3) := by decide +kernel
theorem dX7_start_44 : decode cX7_start 44 = .ok (.ifCond .ne 6, 3) := by decide +kernel
theorem dX7_start_47 : decode cX7_start 47 = .ok (.bipush (-2), 2) := by decide +kernel
theorem dX7_start_49 : decode cX7_start 49 = .ok (.ireturn, 1) := by decide +kernel
theorem dX7_start_50 : decode cX7_start 50 = .ok (.aload_n 0, 1) := by decide +kernel
theorem dX7_start_51 : decode cX7_start 51 = .ok (.getfield 10, 3) := by decide +kernel
theorem dX7_start_54 : decode cX7_start 54 = .ok (.iload_n 1, 1) := by decide +kernel
theorem dX7_start_55 : decode cX7_start 55 = .ok (.aload_n 0, 1) := by decide +kernel
theorem dX7_start_56 : decode cX7_start 56 = .ok (.getfield 25, 3) := by decide +kernel
theorem dX7_start_59 : decode cX7_start 59 = .ok (.invokevirtual 133, 3) := by decide +kernel
theorem dX7_start_62 : decode cX7_start 62 = .ok (.iconst 1, 1) := by decide +kernel
theorem dX7_start_63 : decode cX7_start 63 = .ok (.ireturn, 1) := by decide +kernel
theorem dX7_act_0 : decode cX7_act 0 = .ok (.aload_n 0, 1) := by decide +kernel
theorem dX7_act_1 : decode cX7_act 1 = .ok (.getfield 10, 3) := by decide +kernel
theorem dX7_act_4 : decode cX7_act 4 = .ok (.iload_n 1, 1) := by decide +kernel
theorem dX7_act_5 : decode cX7_act 5 = .ok (.invokevirtual 46, 3) := by decide +kernel
theorem dX7_act_8 : decode cX7_act 8 = .ok (.astore_n 3, 1) := by decide +kernel
theorem dX7_act_9 : decode cX7_act 9 = .ok (.aload_n 0, 1) := by decide +kernel
theorem dX7_act_10 : decode cX7_act 10 = .ok (.getfield 10, 3) := by decide +kernel
theorem dX7_act_13 : decode cX7_act 13 = .ok (.iload_n 2, 1) := by decide +kernel
theorem dX7_act_14 : decode cX7_act 14 = .ok (.invokevirtual 46, 3) := by decide +kernel
theorem dX7_act_17 : decode cX7_act 17 = .ok (.astore 4, 2) := by decide +kernel
theorem dX7_act_19 : decode cX7_act 19 = .ok (.aload_n 3, 1) := by decide +kernel
theorem dX7_act_20 : decode cX7_act 20 = .ok (.ifnull 8, 3) := by decide +kernel
theorem dX7_act_23 : decode cX7_act 23 = .ok (.aload 4, 2) := by decide +kernel
theorem dX7_act_25 : decode cX7_act 25 = .ok (.ifnonnull 5, 3) := by decide +kernel
theorem dX7_act_28 : decode cX7_act 28 = .ok (.iconst (-1), 1) := by decide +kernel
theorem dX7_act_29 : decode cX7_act 29 = .ok (.ireturn, 1) := by decide +kernel
theorem dX7_act_30 : decode cX7_act 30 = .ok (.aload_n 0, 1) := by decide +kernel
theorem dX7_act_31 : decode cX7_act 31 = .ok (.getfield 10, 3) := by decide +kernel
theorem dX7_act_34 : decode cX7_act 34 = .ok (.iload_n 1, 1) := by decide +kernel
theorem dX7_act_35 : decode cX7_act 35 = .ok (.iload_n 2, 1) := by decide +kernel
theorem dX7_act_36 : decode cX7_act 36 = .ok (.aload_n 3, 1) := by decide +kernel
theorem dX7_act_37 : decode cX7_act 37 = .ok (.getfield 77, 3) := by decide +kernel
theorem dX7_act_40 : decode cX7_act 40 = .ok (.aload 4, 2) := by decide +kernel
theorem dX7_act_42 : decode cX7_act 42 = .ok (.getfield 77, 3) := by decide +kernel
theorem dX7_act_45 : decode cX7_act 45 = .ok (.invokevirtual 137, 3) := by decide +kernel
theorem dX7_act_48 : decode cX7_act 48 = .ok (.ireturn, 1) := by decide +kernel
theorem dX7_makes_0 : decode cX7_makes 0 = .ok (.aload_n 0, 1) := by decide +kernel
theorem dX7_makes_1 : decode cX7_makes 1 = .ok (.getfield 10, 3) := by decide +kernel
theorem dX7_makes_4 : decode cX7_makes 4 = .ok (.iload_n 1, 1) := by decide +kernel
theorem dX7_makes_5 : decode cX7_makes 5 = .ok (.invokevirtual 141, 3) := by decide +kernel
theorem dX7_makes_8 : decode cX7_makes 8 = .ok (.astore 8, 2) := by decide +kernel
theorem dX7_makes_10 : decode cX7_makes 10 = .ok (.aload 8, 2) := by decide +kernel
theorem dX7_makes_12 : decode cX7_makes 12 = .ok (.ifnull 12, 3) := by decide +kernel
theorem dX7_makes_15 : decode cX7_makes 15 = .ok (.aload 8, 2) := by decide +kernel
theorem dX7_makes_17 : decode cX7_makes 17 = .ok (.iload_n 2, 1) := by decide +kernel
theorem dX7_makes_18 : decode cX7_makes 18 = .ok (.invokevirtual 145, 3) := by decide +kernel
theorem dX7_makes_21 : decode cX7_makes 21 = .ok (.ifCond .ne 5, 3) := by decide +kernel
theorem dX7_makes_24 : decode cX7_makes 24 = .ok (.iconst (-1), 1) := by decide +kernel
theorem dX7_makes_25 : decode cX7_makes 25 = .ok (.ireturn, 1) := by decide +kernel
theorem dX7_makes_26 : decode cX7_makes 26 = .ok (.aload_n 0, 1) := by decide +kernel
theorem dX7_makes_27 : decode cX7_makes 27 = .ok (.getfield 25, 3) := by decide +kernel
theorem dX7_makes_30 : decode cX7_makes 30 = .ok (.iload_n 3, 1) := by decide +kernel
theorem dX7_makes_31 : decode cX7_makes 31 = .ok (.iload 4, 2) := by decide +kernel
theorem dX7_makes_33 : decode cX7_makes 33 = .ok (.iload 5, 2) := by decide +kernel
theorem dX7_makes_35 : decode cX7_makes 35 = .ok (.iload 6, 2) := by decide +kernel
theorem dX7_makes_37 : decode cX7_makes 37 = .ok (.invokestatic 73, 3) := by decide +kernel
theorem dX7_makes_40 : decode cX7_makes 40 = .ok (.aload_n 0, 1) := by decide +kernel
theorem dX7_makes_41 : decode cX7_makes 41 = .ok (.getfield 25, 3) := by decide +kernel
theorem dX7_makes_44 : decode cX7_makes 44 = .ok (.aload 8, 2) := by decide +kernel
theorem dX7_makes_46 : decode cX7_makes 46 = .ok (.getfield 148, 3) := by decide +kernel
theorem dX7_makes_49 : decode cX7_makes 49 = .ok (.bipush 9, 2) := by decide +kernel
theorem dX7_makes_51 : decode cX7_makes 51 = .ok (.invokestatic 80, 3) := by decide +kernel
theorem dX7_makes_54 : decode cX7_makes 54 = .ok (.ifCond .eq 13, 3) := by decide +kernel
theorem dX7_makes_57 : decode cX7_makes 57 = .ok (.iload 7, 2) := by decide +kernel
theorem dX7_makes_59 : decode cX7_makes 59 = .ok (.bipush 99, 2) := by decide +kernel
theorem dX7_makes_61 : decode cX7_makes 61 = .ok (.invokestatic 56, 3) := by decide +kernel
theorem dX7_makes_64 : decode cX7_makes 64 = .ok (.ifCond .ne 6, 3) := by decide +kernel
theorem dX7_makes_67 : decode cX7_makes 67 = .ok (.bipush (-2), 2) := by decide +kernel
theorem dX7_makes_69 : decode cX7_makes 69 = .ok (.ireturn, 1) := by decide +kernel
theorem dX7_makes_70 : decode cX7_makes 70 = .ok (.aload 8, 2) := by decide +kernel
theorem dX7_makes_72 : decode cX7_makes 72 = .ok (.iload_n 2, 1) := by decide +kernel
theorem dX7_makes_73 : decode cX7_makes 73 = .ok (.aload_n 0, 1) := by decide +kernel
theorem dX7_makes_74 : decode cX7_makes 74 = .ok (.getfield 25, 3) := by decide +kernel
theorem dX7_makes_77 : decode cX7_makes 77 = .ok (.iload 7, 2) := by decide +kernel
theorem dX7_makes_79 : decode cX7_makes 79 = .ok (.invokevirtual 151, 3) := by decide +kernel
theorem dX7_makes_82 : decode cX7_makes 82 = .ok (.iconst 1, 1) := by decide +kernel
theorem dX7_makes_83 : decode cX7_makes 83 = .ok (.ireturn, 1) := by decide +kernel
theorem dX7_made_0 : decode cX7_made 0 = .ok (.aload_n 0, 1) := by decide +kernel
theorem dX7_made_1 : decode cX7_made 1 = .ok (.getfield 10, 3) := by decide +kernel
theorem dX7_made_4 : decode cX7_made 4 = .ok (.iload_n 1, 1) := by decide +kernel
theorem dX7_made_5 : decode cX7_made 5 = .ok (.invokevirtual 141, 3) := by decide +kernel
theorem dX7_made_8 : decode cX7_made 8 = .ok (.astore 4, 2) := by decide +kernel
theorem dX7_made_10 : decode cX7_made 10 = .ok (.aload 4, 2) := by decide +kernel
theorem dX7_made_12 : decode cX7_made 12 = .ok (.ifnull 12, 3) := by decide +kernel
theorem dX7_made_15 : decode cX7_made 15 = .ok (.aload 4, 2) := by decide +kernel
theorem dX7_made_17 : decode cX7_made 17 = .ok (.iload_n 2, 1) := by decide +kernel
theorem dX7_made_18 : decode cX7_made 18 = .ok (.invokevirtual 145, 3) := by decide +kernel
theorem dX7_made_21 : decode cX7_made 21 = .ok (.ifCond .ne 5, 3) := by decide +kernel
theorem dX7_made_24 : decode cX7_made 24 = .ok (.iconst (-1), 1) := by decide +kernel
theorem dX7_made_25 : decode cX7_made 25 = .ok (.ireturn, 1) := by decide +kernel
theorem dX7_made_26 : decode cX7_made 26 = .ok (.iload_n 3, 1) := by decide +kernel
theorem dX7_made_27 : decode cX7_made 27 = .ok (.ifCond .lt 20, 3) := by decide +kernel
theorem dX7_made_30 : decode cX7_made 30 = .ok (.iload_n 3, 1) := by decide +kernel
theorem dX7_made_31 : decode cX7_made 31 = .ok (.iconst 4, 1) := by decide +kernel
theorem dX7_made_32 : decode cX7_made 32 = .ok (.if_icmp .gt 15, 3) := by decide +kernel
theorem dX7_made_35 : decode cX7_made 35 = .ok (.aload 4, 2) := by decide +kernel
theorem dX7_made_37 : decode cX7_made 37 = .ok (.getfield 155, 3) := by decide +kernel
theorem dX7_made_40 : decode cX7_made 40 = .ok (.iload_n 2, 1) := by decide +kernel
theorem dX7_made_41 : decode cX7_made 41 = .ok (.aaload, 1) := by decide +kernel
theorem dX7_made_42 : decode cX7_made 42 = .ok (.iload_n 3, 1) := by decide +kernel
theorem dX7_made_43 : decode cX7_made 43 = .ok (.iaload, 1) := by decide +kernel
theorem dX7_made_44 : decode cX7_made 44 = .ok (.goto 5, 3) := by decide +kernel
theorem dX7_made_47 : decode cX7_made 47 = .ok (.bipush (-2), 2) := by decide +kernel
theorem dX7_made_49 : decode cX7_made 49 = .ok (.ireturn, 1) := by decide +kernel
theorem dX7_kept_0 : decode cX7_kept 0 = .ok (.aload_n 0, 1) := by decide +kernel
theorem dX7_kept_1 : decode cX7_kept 1 = .ok (.getfield 10, 3) := by decide +kernel
theorem dX7_kept_4 : decode cX7_kept 4 = .ok (.invokevirtual 158, 3) := by decide +kernel
theorem dX7_kept_7 : decode cX7_kept 7 = .ok (.ifCond .ne 6, 3) := by decide +kernel
theorem dX7_kept_10 : decode cX7_kept 10 = .ok (.bipush (-3), 2) := by decide +kernel
theorem dX7_kept_12 : decode cX7_kept 12 = .ok (.ireturn, 1) := by decide +kernel
theorem dX7_kept_13 : decode cX7_kept 13 = .ok (.aload_n 0, 1) := by decide +kernel
theorem dX7_kept_14 : decode cX7_kept 14 = .ok (.getfield 10, 3) := by decide +kernel
theorem dX7_kept_17 : decode cX7_kept 17 = .ok (.invokevirtual 162, 3) := by decide +kernel
theorem dX7_kept_20 : decode cX7_kept 20 = .ok (.istore_n 1, 1) := by decide +kernel
theorem dX7_kept_21 : decode cX7_kept 21 = .ok (.iload_n 1, 1) := by decide +kernel
theorem dX7_kept_22 : decode cX7_kept 22 = .ok (.ifCond .lt 8, 3) := by decide +kernel
theorem dX7_kept_25 : decode cX7_kept 25 = .ok (.bipush (-20), 2) := by decide +kernel
theorem dX7_kept_27 : decode cX7_kept 27 = .ok (.iload_n 1, 1) := by decide +kernel
theorem dX7_kept_28 : decode cX7_kept 28 = .ok (.isub, 1) := by decide +kernel
theorem dX7_kept_29 : decode cX7_kept 29 = .ok (.ireturn, 1) := by decide +kernel
theorem dX7_kept_30 : decode cX7_kept 30 = .ok (.iconst 0, 1) := by decide +kernel
theorem dX7_kept_31 : decode cX7_kept 31 = .ok (.istore_n 2, 1) := by decide +kernel
theorem dX7_kept_32 : decode cX7_kept 32 = .ok (.iload_n 2, 1) := by decide +kernel
theorem dX7_kept_33 : decode cX7_kept 33 = .ok (.aload_n 0, 1) := by decide +kernel
theorem dX7_kept_34 : decode cX7_kept 34 = .ok (.getfield 10, 3) := by decide +kernel
theorem dX7_kept_37 : decode cX7_kept 37 = .ok (.getfield 165, 3) := by decide +kernel
theorem dX7_kept_40 : decode cX7_kept 40 = .ok (.if_icmp .ge 42, 3) := by decide +kernel
theorem dX7_kept_43 : decode cX7_kept 43 = .ok (.aload_n 0, 1) := by decide +kernel
theorem dX7_kept_44 : decode cX7_kept 44 = .ok (.getfield 10, 3) := by decide +kernel
theorem dX7_kept_47 : decode cX7_kept 47 = .ok (.aload_n 0, 1) := by decide +kernel
theorem dX7_kept_48 : decode cX7_kept 48 = .ok (.getfield 10, 3) := by decide +kernel
theorem dX7_kept_51 : decode cX7_kept 51 = .ok (.getfield 168, 3) := by decide +kernel
theorem dX7_kept_54 : decode cX7_kept 54 = .ok (.iload_n 2, 1) := by decide +kernel
theorem dX7_kept_55 : decode cX7_kept 55 = .ok (.aaload, 1) := by decide +kernel
theorem dX7_kept_56 : decode cX7_kept 56 = .ok (.invokevirtual 172, 3) := by decide +kernel
theorem dX7_kept_59 : decode cX7_kept 59 = .ok (.istore_n 1, 1) := by decide +kernel
theorem dX7_kept_60 : decode cX7_kept 60 = .ok (.iload_n 1, 1) := by decide +kernel
theorem dX7_kept_61 : decode cX7_kept 61 = .ok (.ifCond .lt 15, 3) := by decide +kernel
theorem dX7_kept_64 : decode cX7_kept 64 = .ok (.bipush (-20), 2) := by decide +kernel
theorem dX7_kept_66 : decode cX7_kept 66 = .ok (.bipush 100, 2) := by decide +kernel
theorem dX7_kept_68 : decode cX7_kept 68 = .ok (.iload_n 2, 1) := by decide +kernel
theorem dX7_kept_69 : decode cX7_kept 69 = .ok (.iconst 1, 1) := by decide +kernel
theorem dX7_kept_70 : decode cX7_kept 70 = .ok (.iadd, 1) := by decide +kernel
theorem dX7_kept_71 : decode cX7_kept 71 = .ok (.imul, 1) := by decide +kernel
theorem dX7_kept_72 : decode cX7_kept 72 = .ok (.isub, 1) := by decide +kernel
theorem dX7_kept_73 : decode cX7_kept 73 = .ok (.iload_n 1, 1) := by decide +kernel
theorem dX7_kept_74 : decode cX7_kept 74 = .ok (.isub, 1) := by decide +kernel
theorem dX7_kept_75 : decode cX7_kept 75 = .ok (.ireturn, 1) := by decide +kernel
theorem dX7_kept_76 : decode cX7_kept 76 = .ok (.iinc 2 1, 3) := by decide +kernel
theorem dX7_kept_79 : decode cX7_kept 79 = .ok (.goto (-47), 3) := by decide +kernel
theorem dX7_kept_82 : decode cX7_kept 82 = .ok (.iconst 1, 1) := by decide +kernel
theorem dX7_kept_83 : decode cX7_kept 83 = .ok (.ireturn, 1) := by decide +kernel
theorem dX7_search_0 : decode cX7_search 0 = .ok (.iload_n 1, 1) := by decide +kernel
theorem dX7_search_1 : decode cX7_search 1 = .ok (.ifCond .lt 8, 3) := by decide +kernel
theorem dX7_search_4 : decode cX7_search 4 = .ok (.iload_n 1, 1) := by decide +kernel
theorem dX7_search_5 : decode cX7_search 5 = .ok (.iconst 5, 1) := by decide +kernel
theorem dX7_search_6 : decode cX7_search 6 = .ok (.if_icmp .le 6, 3) := by decide +kernel
theorem dX7_search_9 : decode cX7_search 9 = .ok (.bipush (-2), 2) := by decide +kernel
theorem dX7_search_11 : decode cX7_search 11 = .ok (.ireturn, 1) := by decide +kernel
theorem dX7_search_12 : decode cX7_search 12 = .ok (.aload_n 0, 1) := by decide +kernel
theorem dX7_search_13 : decode cX7_search 13 = .ok (.getfield 10, 3) := by decide +kernel
theorem dX7_search_16 : decode cX7_search 16 = .ok (.invokevirtual 158, 3) := by decide +kernel
theorem dX7_search_19 : decode cX7_search 19 = .ok (.ifCond .eq 14, 3) := by decide +kernel
theorem dX7_search_22 : decode cX7_search 22 = .ok (.aload_n 0, 1) := by decide +kernel
theorem dX7_search_23 : decode cX7_search 23 = .ok (.getfield 21, 3) := by decide +kernel
theorem dX7_search_26 : decode cX7_search 26 = .ok (.iload_n 1, 1) := by decide +kernel
theorem dX7_search_27 : decode cX7_search 27 = .ok (.invokevirtual 176, 3) := by decide +kernel
theorem dX7_search_30 : decode cX7_search 30 = .ok (.goto 5, 3) := by decide +kernel
theorem dX7_search_33 : decode cX7_search 33 = .ok (.bipush (-3), 2) := by decide +kernel
theorem dX7_search_35 : decode cX7_search 35 = .ok (.ireturn, 1) := by decide +kernel
theorem dX7_broke_0 : decode cX7_broke 0 = .ok (.aload_n 0, 1) := by decide +kernel
theorem dX7_broke_1 : decode cX7_broke 1 = .ok (.getfield 21, 3) := by decide +kernel
theorem dX7_broke_4 : decode cX7_broke 4 = .ok (.iload_n 1, 1) := by decide +kernel
theorem dX7_broke_5 : decode cX7_broke 5 = .ok (.invokevirtual 179, 3) := by decide +kernel
theorem dX7_broke_8 : decode cX7_broke 8 = .ok (.ireturn, 1) := by decide +kernel
theorem dX7_run_0 : decode cX7_run 0 = .ok (.iload_n 2, 1) := by decide +kernel
theorem dX7_run_1 : decode cX7_run 1 = .ok (.ifCond .lt 13, 3) := by decide +kernel
theorem dX7_run_4 : decode cX7_run 4 = .ok (.iload_n 2, 1) := by decide +kernel
theorem dX7_run_5 : decode cX7_run 5 = .ok (.bipush 9, 2) := by decide +kernel
theorem dX7_run_7 : decode cX7_run 7 = .ok (.if_icmp .gt 7, 3) := by decide +kernel
theorem dX7_run_10 : decode cX7_run 10 = .ok (.iload_n 1, 1) := by decide +kernel
theorem dX7_run_11 : decode cX7_run 11 = .ok (.ifCond .ge 6, 3) := by decide +kernel
theorem dX7_run_14 : decode cX7_run 14 = .ok (.bipush (-2), 2) := by decide +kernel
theorem dX7_run_16 : decode cX7_run 16 = .ok (.ireturn, 1) := by decide +kernel
theorem dX7_run_17 : decode cX7_run 17 = .ok (.aload_n 0, 1) := by decide +kernel
theorem dX7_run_18 : decode cX7_run 18 = .ok (.getfield 10, 3) := by decide +kernel
theorem dX7_run_21 : decode cX7_run 21 = .ok (.invokevirtual 158, 3) := by decide +kernel
theorem dX7_run_24 : decode cX7_run 24 = .ok (.ifCond .ne 6, 3) := by decide +kernel
theorem dX7_run_27 : decode cX7_run 27 = .ok (.bipush (-3), 2) := by decide +kernel
theorem dX7_run_29 : decode cX7_run 29 = .ok (.ireturn, 1) := by decide +kernel
theorem dX7_run_30 : decode cX7_run 30 = .ok (.aload_n 0, 1) := by decide +kernel
theorem dX7_run_31 : decode cX7_run 31 = .ok (.getfield 10, 3) := by decide +kernel
theorem dX7_run_34 : decode cX7_run 34 = .ok (.getfield 182, 3) := by decide +kernel
theorem dX7_run_37 : decode cX7_run 37 = .ok (.istore_n 3, 1) := by decide +kernel
theorem dX7_run_38 : decode cX7_run 38 = .ok (.aload_n 0, 1) := by decide +kernel
theorem dX7_run_39 : decode cX7_run 39 = .ok (.getfield 10, 3) := by decide +kernel
theorem dX7_run_42 : decode cX7_run 42 = .ok (.getfield 185, 3) := by decide +kernel
theorem dX7_run_45 : decode cX7_run 45 = .ok (.aload_n 0, 1) := by decide +kernel
theorem dX7_run_46 : decode cX7_run 46 = .ok (.getfield 25, 3) := by decide +kernel
theorem dX7_run_49 : decode cX7_run 49 = .ok (.invokestatic 188, 3) := by decide +kernel
theorem dX7_run_52 : decode cX7_run 52 = .ok (.iload_n 1, 1) := by decide +kernel
theorem dX7_run_53 : decode cX7_run 53 = .ok (.istore 4, 2) := by decide +kernel
theorem dX7_run_55 : decode cX7_run 55 = .ok (.iconst 0, 1) := by decide +kernel
theorem dX7_run_56 : decode cX7_run 56 = .ok (.istore 5, 2) := by decide +kernel
theorem dX7_run_58 : decode cX7_run 58 = .ok (.iload 5, 2) := by decide +kernel
theorem dX7_run_60 : decode cX7_run 60 = .ok (.iload_n 2, 1) := by decide +kernel
theorem dX7_run_61 : decode cX7_run 61 = .ok (.if_icmp .ge 82, 3) := by decide +kernel
theorem dX7_run_64 : decode cX7_run 64 = .ok (.aload_n 0, 1) := by decide +kernel
theorem dX7_run_65 : decode cX7_run 65 = .ok (.getfield 10, 3) := by decide +kernel
theorem dX7_run_68 : decode cX7_run 68 = .ok (.iload 4, 2) := by decide +kernel
theorem dX7_run_70 : decode cX7_run 70 = .ok (.bipush 10, 2) := by decide +kernel
theorem dX7_run_72 : decode cX7_run 72 = .ok (.irem, 1) := by decide +kernel
theorem dX7_run_73 : decode cX7_run 73 = .ok (.invokevirtual 141, 3) := by decide +kernel
theorem dX7_run_76 : decode cX7_run 76 = .ok (.astore 6, 2) := by decide +kernel
theorem dX7_run_78 : decode cX7_run 78 = .ok (.iload 4, 2) := by decide +kernel
theorem dX7_run_80 : decode cX7_run 80 = .ok (.bipush 10, 2) := by decide +kernel
theorem dX7_run_82 : decode cX7_run 82 = .ok (.idiv, 1) := by decide +kernel
theorem dX7_run_83 : decode cX7_run 83 = .ok (.istore 4, 2) := by decide +kernel
theorem dX7_run_85 : decode cX7_run 85 = .ok (.aload 6, 2) := by decide +kernel
theorem dX7_run_87 : decode cX7_run 87 = .ok (.ifnull 12, 3) := by decide +kernel
theorem dX7_run_90 : decode cX7_run 90 = .ok (.aload 6, 2) := by decide +kernel
theorem dX7_run_92 : decode cX7_run 92 = .ok (.getfield 192, 3) := by decide +kernel
theorem dX7_run_95 : decode cX7_run 95 = .ok (.iload_n 3, 1) := by decide +kernel
theorem dX7_run_96 : decode cX7_run 96 = .ok (.if_icmp .eq 5, 3) := by decide +kernel
theorem dX7_run_99 : decode cX7_run 99 = .ok (.iconst (-1), 1) := by decide +kernel
theorem dX7_run_100 : decode cX7_run 100 = .ok (.ireturn, 1) := by decide +kernel
theorem dX7_run_101 : decode cX7_run 101 = .ok (.aload 6, 2) := by decide +kernel
theorem dX7_run_103 : decode cX7_run 103 = .ok (.aload_n 0, 1) := by decide +kernel
theorem dX7_run_104 : decode cX7_run 104 = .ok (.getfield 25, 3) := by decide +kernel
theorem dX7_run_107 : decode cX7_run 107 = .ok (.aload_n 0, 1) := by decide +kernel
theorem dX7_run_108 : decode cX7_run 108 = .ok (.getfield 29, 3) := by decide +kernel
theorem dX7_run_111 : decode cX7_run 111 = .ok (.invokevirtual 195, 3) := by decide +kernel
theorem dX7_run_114 : decode cX7_run 114 = .ok (.ifCond .ne 6, 3) := by decide +kernel
theorem dX7_run_117 : decode cX7_run 117 = .ok (.bipush (-9), 2) := by decide +kernel
theorem dX7_run_119 : decode cX7_run 119 = .ok (.ireturn, 1) := by decide +kernel
theorem dX7_run_120 : decode cX7_run 120 = .ok (.aload 6, 2) := by decide +kernel
theorem dX7_run_122 : decode cX7_run 122 = .ok (.getfield 199, 3) := by decide +kernel
theorem dX7_run_125 : decode cX7_run 125 = .ok (.istore_n 3, 1) := by decide +kernel
theorem dX7_run_126 : decode cX7_run 126 = .ok (.aload_n 0, 1) := by decide +kernel
theorem dX7_run_127 : decode cX7_run 127 = .ok (.getfield 29, 3) := by decide +kernel
theorem dX7_run_130 : decode cX7_run 130 = .ok (.aload_n 0, 1) := by decide +kernel
theorem dX7_run_131 : decode cX7_run 131 = .ok (.getfield 25, 3) := by decide +kernel
theorem dX7_run_134 : decode cX7_run 134 = .ok (.invokestatic 188, 3) := by decide +kernel
theorem dX7_run_137 : decode cX7_run 137 = .ok (.iinc 5 1, 3) := by decide +kernel
theorem dX7_run_140 : decode cX7_run 140 = .ok (.goto (-82), 3) := by decide +kernel
theorem dX7_run_143 : decode cX7_run 143 = .ok (.aload_n 0, 1) := by decide +kernel
theorem dX7_run_144 : decode cX7_run 144 = .ok (.getfield 10, 3) := by decide +kernel
theorem dX7_run_147 : decode cX7_run 147 = .ok (.iload_n 3, 1) := by decide +kernel
theorem dX7_run_148 : decode cX7_run 148 = .ok (.invokevirtual 46, 3) := by decide +kernel
theorem dX7_run_151 : decode cX7_run 151 = .ok (.astore 5, 2) := by decide +kernel
theorem dX7_run_153 : decode cX7_run 153 = .ok (.aload 5, 2) := by decide +kernel
theorem dX7_run_155 : decode cX7_run 155 = .ok (.ifnonnull 7, 3) := by decide +kernel
theorem dX7_run_158 : decode cX7_run 158 = .ok (.iconst (-1), 1) := by decide +kernel
theorem dX7_run_159 : decode cX7_run 159 = .ok (.goto 13, 3) := by decide +kernel
theorem dX7_run_162 : decode cX7_run 162 = .ok (.aload_n 0, 1) := by decide +kernel
theorem dX7_run_163 : decode cX7_run 163 = .ok (.aload 5, 2) := by decide +kernel
theorem dX7_run_165 : decode cX7_run 165 = .ok (.aload_n 0, 1) := by decide +kernel
theorem dX7_run_166 : decode cX7_run 166 = .ok (.getfield 25, 3) := by decide +kernel
theorem dX7_run_169 : decode cX7_run 169 = .ok (.invokevirtual 84, 3) := by decide +kernel
theorem dX7_run_172 : decode cX7_run 172 = .ok (.ireturn, 1) := by decide +kernel
theorem dX7_told_0 : decode cX7_told 0 = .ok (.iload_n 1, 1) := by decide +kernel
theorem dX7_told_1 : decode cX7_told 1 = .ok (.tableswitch 68 0 3 #[31, 39, 47, 63], 31) := by decide +kernel
theorem dX7_told_32 : decode cX7_told 32 = .ok (.aload_n 0, 1) := by decide +kernel
theorem dX7_told_33 : decode cX7_told 33 = .ok (.getfield 10, 3) := by decide +kernel
theorem dX7_told_36 : decode cX7_told 36 = .ok (.getfield 202, 3) := by decide +kernel
theorem dX7_told_39 : decode cX7_told 39 = .ok (.ireturn, 1) := by decide +kernel
theorem dX7_told_40 : decode cX7_told 40 = .ok (.aload_n 0, 1) := by decide +kernel
theorem dX7_told_41 : decode cX7_told 41 = .ok (.getfield 10, 3) := by decide +kernel
theorem dX7_told_44 : decode cX7_told 44 = .ok (.getfield 165, 3) := by decide +kernel
theorem dX7_told_47 : decode cX7_told 47 = .ok (.ireturn, 1) := by decide +kernel
theorem dX7_told_48 : decode cX7_told 48 = .ok (.aload_n 0, 1) := by decide +kernel
theorem dX7_told_49 : decode cX7_told 49 = .ok (.getfield 10, 3) := by decide +kernel
theorem dX7_told_52 : decode cX7_told 52 = .ok (.invokevirtual 158, 3) := by decide +kernel
theorem dX7_told_55 : decode cX7_told 55 = .ok (.ifCond .eq 7, 3) := by decide +kernel
theorem dX7_told_58 : decode cX7_told 58 = .ok (.iconst 1, 1) := by decide +kernel
theorem dX7_told_59 : decode cX7_told 59 = .ok (.goto 4, 3) := by decide +kernel
theorem dX7_told_62 : decode cX7_told 62 = .ok (.iconst 0, 1) := by decide +kernel
theorem dX7_told_63 : decode cX7_told 63 = .ok (.ireturn, 1) := by decide +kernel
theorem dX7_told_64 : decode cX7_told 64 = .ok (.aload_n 0, 1) := by decide +kernel
theorem dX7_told_65 : decode cX7_told 65 = .ok (.getfield 38, 3) := by decide +kernel
theorem dX7_told_68 : decode cX7_told 68 = .ok (.ireturn, 1) := by decide +kernel
theorem dX7_told_69 : decode cX7_told 69 = .ok (.bipush (-2), 2) := by decide +kernel
theorem dX7_told_71 : decode cX7_told 71 = .ok (.ireturn, 1) := by decide +kernel
theorem dX7_variables_0 : decode cX7_variables 0 = .ok (.aload_n 0, 1) := by decide +kernel
theorem dX7_variables_1 : decode cX7_variables 1 = .ok (.getfield 10, 3) := by decide +kernel
theorem dX7_variables_4 : decode cX7_variables 4 = .ok (.iload_n 1, 1) := by decide +kernel
theorem dX7_variables_5 : decode cX7_variables 5 = .ok (.invokevirtual 46, 3) := by decide +kernel
theorem dX7_variables_8 : decode cX7_variables 8 = .ok (.astore_n 2, 1) := by decide +kernel
theorem dX7_variables_9 : decode cX7_variables 9 = .ok (.aload_n 2, 1) := by decide +kernel
theorem dX7_variables_10 : decode cX7_variables 10 = .ok (.ifnonnull 7, 3) := by decide +kernel
theorem dX7_variables_13 : decode cX7_variables 13 = .ok (.iconst (-1), 1) := by decide +kernel
theorem dX7_variables_14 : decode cX7_variables 14 = .ok (.goto 7, 3) := by decide +kernel
theorem dX7_variables_17 : decode cX7_variables 17 = .ok (.aload_n 2, 1) := by decide +kernel
theorem dX7_variables_18 : decode cX7_variables 18 = .ok (.getfield 77, 3) := by decide +kernel
theorem dX7_variables_21 : decode cX7_variables 21 = .ok (.ireturn, 1) := by decide +kernel
theorem dX7_takeReading_0 : decode cX7_takeReading 0 = .ok (.aload_n 1, 1) := by decide +kernel
theorem dX7_takeReading_1 : decode cX7_takeReading 1 = .ok (.getfield 88, 3) := by decide +kernel
theorem dX7_takeReading_4 : decode cX7_takeReading 4 = .ok (.bipush 40, 2) := by decide +kernel
theorem dX7_takeReading_6 : decode cX7_takeReading 6 = .ok (.if_icmp .lt 6, 3) := by decide +kernel
theorem dX7_takeReading_9 : decode cX7_takeReading 9 = .ok (.bipush (-4), 2) := by decide +kernel
theorem dX7_takeReading_11 : decode cX7_takeReading 11 = .ok (.ireturn, 1) := by decide +kernel
theorem dX7_takeReading_12 : decode cX7_takeReading 12 = .ok (.aload_n 0, 1) := by decide +kernel
theorem dX7_takeReading_13 : decode cX7_takeReading 13 = .ok (.iconst 0, 1) := by decide +kernel
theorem dX7_takeReading_14 : decode cX7_takeReading 14 = .ok (.putfield 38, 3) := by decide +kernel
theorem dX7_takeReading_17 : decode cX7_takeReading 17 = .ok (.aload_n 1, 1) := by decide +kernel
theorem dX7_takeReading_18 : decode cX7_takeReading 18 = .ok (.aload_n 2, 1) := by decide +kernel
theorem dX7_takeReading_19 : decode cX7_takeReading 19 = .ok (.invokevirtual 205, 3) := by decide +kernel
theorem dX7_takeReading_22 : decode cX7_takeReading 22 = .ok (.istore_n 3, 1) := by decide +kernel
theorem dX7_takeReading_23 : decode cX7_takeReading 23 = .ok (.iconst 0, 1) := by decide +kernel
theorem dX7_takeReading_24 : decode cX7_takeReading 24 = .ok (.istore 4, 2) := by decide +kernel
theorem dX7_takeReading_26 : decode cX7_takeReading 26 = .ok (.iload 4, 2) := by decide +kernel
theorem dX7_takeReading_28 : decode cX7_takeReading 28 = .ok (.iconst 3, 1) := by decide +kernel
theorem dX7_takeReading_29 : decode cX7_takeReading 29 = .ok (.if_icmp .ge 57, 3) := by decide +kernel
theorem dX7_takeReading_32 : decode cX7_takeReading 32 = .ok (.iload 4, 2) := by decide +kernel
theorem dX7_takeReading_34 : decode cX7_takeReading 34 = .ok (.ifCond .eq 9, 3) := by decide +kernel
theorem dX7_takeReading_37 : decode cX7_takeReading 37 = .ok (.iload 4, 2) := by decide +kernel
theorem dX7_takeReading_39 : decode cX7_takeReading 39 = .ok (.iload_n 3, 1) := by decide +kernel
theorem dX7_takeReading_40 : decode cX7_takeReading 40 = .ok (.if_icmp .ne 40, 3) := by decide +kernel
theorem dX7_takeReading_43 : decode cX7_takeReading 43 = .ok (.aload_n 1, 1) := by decide +kernel
theorem dX7_takeReading_44 : decode cX7_takeReading 44 = .ok (.getfield 64, 3) := by decide +kernel
theorem dX7_takeReading_47 : decode cX7_takeReading 47 = .ok (.iload 4, 2) := by decide +kernel
theorem dX7_takeReading_49 : decode cX7_takeReading 49 = .ok (.aaload, 1) := by decide +kernel
theorem dX7_takeReading_50 : decode cX7_takeReading 50 = .ok (.astore 5, 2) := by decide +kernel
theorem dX7_takeReading_52 : decode cX7_takeReading 52 = .ok (.aload 5, 2) := by decide +kernel
theorem dX7_takeReading_54 : decode cX7_takeReading 54 = .ok (.iconst 0, 1) := by decide +kernel
theorem dX7_takeReading_55 : decode cX7_takeReading 55 = .ok (.aload_n 0, 1) := by decide +kernel
theorem dX7_takeReading_56 : decode cX7_takeReading 56 = .ok (.getfield 32, 3) := by decide +kernel
theorem dX7_takeReading_59 : decode cX7_takeReading 59 = .ok (.invokevirtual 112, 3) := by decide +kernel
theorem dX7_takeReading_62 : decode cX7_takeReading 62 = .ok (.istore 6, 2) := by decide +kernel
theorem dX7_takeReading_64 : decode cX7_takeReading 64 = .ok (.aload 5, 2) := by decide +kernel
theorem dX7_takeReading_66 : decode cX7_takeReading 66 = .ok (.aload_n 2, 1) := by decide +kernel
theorem dX7_takeReading_67 : decode cX7_takeReading 67 = .ok (.invokevirtual 209, 3) := by decide +kernel
theorem dX7_takeReading_70 : decode cX7_takeReading 70 = .ok (.aload_n 0, 1) := by decide +kernel
theorem dX7_takeReading_71 : decode cX7_takeReading 71 = .ok (.iload 4, 2) := by decide +kernel
theorem dX7_takeReading_73 : decode cX7_takeReading 73 = .ok (.aload 5, 2) := by decide +kernel
theorem dX7_takeReading_75 : decode cX7_takeReading 75 = .ok (.iload 6, 2) := by decide +kernel
theorem dX7_takeReading_77 : decode cX7_takeReading 77 = .ok (.invokevirtual 213, 3) := by decide +kernel
theorem dX7_takeReading_80 : decode cX7_takeReading 80 = .ok (.iinc 4 1, 3) := by decide +kernel
theorem dX7_takeReading_83 : decode cX7_takeReading 83 = .ok (.goto (-57), 3) := by decide +kernel
theorem dX7_takeReading_86 : decode cX7_takeReading 86 = .ok (.aload_n 1, 1) := by decide +kernel
theorem dX7_takeReading_87 : decode cX7_takeReading 87 = .ok (.aload_n 2, 1) := by decide +kernel
theorem dX7_takeReading_88 : decode cX7_takeReading 88 = .ok (.invokevirtual 217, 3) := by decide +kernel
theorem dX7_takeReading_91 : decode cX7_takeReading 91 = .ok (.aload_n 0, 1) := by decide +kernel
theorem dX7_takeReading_92 : decode cX7_takeReading 92 = .ok (.getfield 38, 3) := by decide +kernel
theorem dX7_takeReading_95 : decode cX7_takeReading 95 = .ok (.ireturn, 1) := by decide +kernel
theorem dX7_noteDead_0 : decode cX7_noteDead 0 = .ok (.iconst 0, 1) := by decide +kernel
theorem dX7_noteDead_1 : decode cX7_noteDead 1 = .ok (.istore 4, 2) := by decide +kernel
theorem dX7_noteDead_3 : decode cX7_noteDead 3 = .ok (.iload 4, 2) := by decide +kernel
theorem dX7_noteDead_5 : decode cX7_noteDead 5 = .ok (.iload_n 3, 1) := by decide +kernel
theorem dX7_noteDead_6 : decode cX7_noteDead 6 = .ok (.if_icmp .ge 79, 3) := by decide +kernel
theorem dX7_noteDead_9 : decode cX7_noteDead 9 = .ok (.aload_n 0, 1) := by decide +kernel
theorem dX7_noteDead_10 : decode cX7_noteDead 10 = .ok (.getfield 32, 3) := by decide +kernel
theorem dX7_noteDead_13 : decode cX7_noteDead 13 = .ok (.iload 4, 2) := by decide +kernel
theorem dX7_noteDead_15 : decode cX7_noteDead 15 = .ok (.iaload, 1) := by decide +kernel
theorem dX7_noteDead_16 : decode cX7_noteDead 16 = .ok (.istore 5, 2) := by decide +kernel
theorem dX7_noteDead_18 : decode cX7_noteDead 18 = .ok (.aload_n 0, 1) := by decide +kernel
theorem dX7_noteDead_19 : decode cX7_noteDead 19 = .ok (.getfield 38, 3) := by decide +kernel
theorem dX7_noteDead_22 : decode cX7_noteDead 22 = .ok (.aload_n 0, 1) := by decide +kernel
theorem dX7_noteDead_23 : decode cX7_noteDead 23 = .ok (.getfield 35, 3) := by decide +kernel
theorem dX7_noteDead_26 : decode cX7_noteDead 26 = .ok (.arraylength, 1) := by decide +kernel
theorem dX7_noteDead_27 : decode cX7_noteDead 27 = .ok (.if_icmp .ge 52, 3) := by decide +kernel
theorem dX7_noteDead_30 : decode cX7_noteDead 30 = .ok (.aload_n 2, 1) := by decide +kernel
theorem dX7_noteDead_31 : decode cX7_noteDead 31 = .ok (.iload 5, 2) := by decide +kernel
theorem dX7_noteDead_33 : decode cX7_noteDead 33 = .ok (.invokestatic 220, 3) := by decide +kernel
theorem dX7_noteDead_36 : decode cX7_noteDead 36 = .ok (.iload 5, 2) := by decide +kernel
theorem dX7_noteDead_38 : decode cX7_noteDead 38 = .ok (.invokestatic 223, 3) := by decide +kernel
theorem dX7_noteDead_41 : decode cX7_noteDead 41 = .ok (.iload 5, 2) := by decide +kernel
theorem dX7_noteDead_43 : decode cX7_noteDead 43 = .ok (.invokestatic 226, 3) := by decide +kernel
theorem dX7_noteDead_46 : decode cX7_noteDead 46 = .ok (.invokevirtual 105, 3) := by decide +kernel
theorem dX7_noteDead_49 : decode cX7_noteDead 49 = .ok (.ifCond .ne 30, 3) := by decide +kernel
theorem dX7_noteDead_52 : decode cX7_noteDead 52 = .ok (.aload_n 0, 1) := by decide +kernel
theorem dX7_noteDead_53 : decode cX7_noteDead 53 = .ok (.getfield 35, 3) := by decide +kernel
theorem dX7_noteDead_56 : decode cX7_noteDead 56 = .ok (.aload_n 0, 1) := by decide +kernel
theorem dX7_noteDead_57 : decode cX7_noteDead 57 = .ok (.getfield 38, 3) := by decide +kernel
theorem dX7_noteDead_60 : decode cX7_noteDead 60 = .ok (.sipush 1000, 3) := by decide +kernel
theorem dX7_noteDead_63 : decode cX7_noteDead 63 = .ok (.iload_n 1, 1) := by decide +kernel
theorem dX7_noteDead_64 : decode cX7_noteDead 64 = .ok (.imul, 1) := by decide +kernel
theorem dX7_noteDead_65 : decode cX7_noteDead 65 = .ok (.iload 5, 2) := by decide +kernel
theorem dX7_noteDead_67 : decode cX7_noteDead 67 = .ok (.iadd, 1) := by decide +kernel
theorem dX7_noteDead_68 : decode cX7_noteDead 68 = .ok (.iastore, 1) := by decide +kernel
theorem dX7_noteDead_69 : decode cX7_noteDead 69 = .ok (.aload_n 0, 1) := by decide +kernel
theorem dX7_noteDead_70 : decode cX7_noteDead 70 = .ok (.dup, 1) := by decide +kernel
theorem dX7_noteDead_71 : decode cX7_noteDead 71 = .ok (.getfield 38, 3) := by decide +kernel
theorem dX7_noteDead_74 : decode cX7_noteDead 74 = .ok (.iconst 1, 1) := by decide +kernel
theorem dX7_noteDead_75 : decode cX7_noteDead 75 = .ok (.iadd, 1) := by decide +kernel
theorem dX7_noteDead_76 : decode cX7_noteDead 76 = .ok (.putfield 38, 3) := by decide +kernel
theorem dX7_noteDead_79 : decode cX7_noteDead 79 = .ok (.iinc 4 1, 3) := by decide +kernel
theorem dX7_noteDead_82 : decode cX7_noteDead 82 = .ok (.goto (-79), 3) := by decide +kernel
theorem dX7_noteDead_85 : decode cX7_noteDead 85 = .ok (.return_, 1) := by decide +kernel
theorem dX7_isWithin_0 : decode cX7_isWithin 0 = .ok (.iload_n 0, 1) := by decide +kernel
theorem dX7_isWithin_1 : decode cX7_isWithin 1 = .ok (.iload_n 1, 1) := by decide +kernel
theorem dX7_isWithin_2 : decode cX7_isWithin 2 = .ok (.ineg, 1) := by decide +kernel
theorem dX7_isWithin_3 : decode cX7_isWithin 3 = .ok (.if_icmp .lt 12, 3) := by decide +kernel
theorem dX7_isWithin_6 : decode cX7_isWithin 6 = .ok (.iload_n 0, 1) := by decide +kernel
theorem dX7_isWithin_7 : decode cX7_isWithin 7 = .ok (.iload_n 1, 1) := by decide +kernel
theorem dX7_isWithin_8 : decode cX7_isWithin 8 = .ok (.if_icmp .gt 7, 3) := by decide +kernel
theorem dX7_isWithin_11 : decode cX7_isWithin 11 = .ok (.iconst 1, 1) := by decide +kernel
theorem dX7_isWithin_12 : decode cX7_isWithin 12 = .ok (.goto 4, 3) := by decide +kernel
theorem dX7_isWithin_15 : decode cX7_isWithin 15 = .ok (.iconst 0, 1) := by decide +kernel
theorem dX7_isWithin_16 : decode cX7_isWithin 16 = .ok (.ireturn, 1) := by decide +kernel
theorem dX7_areWithin_0 : decode cX7_areWithin 0 = .ok (.iconst 0, 1) := by decide +kernel
theorem dX7_areWithin_1 : decode cX7_areWithin 1 = .ok (.istore_n 3, 1) := by decide +kernel
theorem dX7_areWithin_2 : decode cX7_areWithin 2 = .ok (.iload_n 3, 1) := by decide +kernel
theorem dX7_areWithin_3 : decode cX7_areWithin 3 = .ok (.iload_n 1, 1) := by decide +kernel
theorem dX7_areWithin_4 : decode cX7_areWithin 4 = .ok (.if_icmp .ge 21, 3) := by decide +kernel
theorem dX7_areWithin_7 : decode cX7_areWithin 7 = .ok (.aload_n 0, 1) := by decide +kernel
theorem dX7_areWithin_8 : decode cX7_areWithin 8 = .ok (.iload_n 3, 1) := by decide +kernel
theorem dX7_areWithin_9 : decode cX7_areWithin 9 = .ok (.iaload, 1) := by decide +kernel
theorem dX7_areWithin_10 : decode cX7_areWithin 10 = .ok (.iload_n 2, 1) := by decide +kernel
theorem dX7_areWithin_11 : decode cX7_areWithin 11 = .ok (.invokestatic 56, 3) := by decide +kernel
theorem dX7_areWithin_14 : decode cX7_areWithin 14 = .ok (.ifCond .ne 5, 3) := by decide +kernel
theorem dX7_areWithin_17 : decode cX7_areWithin 17 = .ok (.iconst 0, 1) := by decide +kernel
theorem dX7_areWithin_18 : decode cX7_areWithin 18 = .ok (.ireturn, 1) := by decide +kernel
theorem dX7_areWithin_19 : decode cX7_areWithin 19 = .ok (.iinc 3 1, 3) := by decide +kernel
theorem dX7_areWithin_22 : decode cX7_areWithin 22 = .ok (.goto (-20), 3) := by decide +kernel
theorem dX7_areWithin_25 : decode cX7_areWithin 25 = .ok (.iconst 1, 1) := by decide +kernel
theorem dX7_areWithin_26 : decode cX7_areWithin 26 = .ok (.ireturn, 1) := by decide +kernel
theorem dX7_fill_0 : decode cX7_fill 0 = .ok (.aload_n 0, 1) := by decide +kernel
theorem dX7_fill_1 : decode cX7_fill 1 = .ok (.iconst 0, 1) := by decide +kernel
theorem dX7_fill_2 : decode cX7_fill 2 = .ok (.iload_n 1, 1) := by decide +kernel
theorem dX7_fill_3 : decode cX7_fill 3 = .ok (.iastore, 1) := by decide +kernel
theorem dX7_fill_4 : decode cX7_fill 4 = .ok (.aload_n 0, 1) := by decide +kernel
theorem dX7_fill_5 : decode cX7_fill 5 = .ok (.iconst 1, 1) := by decide +kernel
theorem dX7_fill_6 : decode cX7_fill 6 = .ok (.iload_n 2, 1) := by decide +kernel
theorem dX7_fill_7 : decode cX7_fill 7 = .ok (.iastore, 1) := by decide +kernel
theorem dX7_fill_8 : decode cX7_fill 8 = .ok (.aload_n 0, 1) := by decide +kernel
theorem dX7_fill_9 : decode cX7_fill 9 = .ok (.iconst 2, 1) := by decide +kernel
theorem dX7_fill_10 : decode cX7_fill 10 = .ok (.iload_n 3, 1) := by decide +kernel
theorem dX7_fill_11 : decode cX7_fill 11 = .ok (.iastore, 1) := by decide +kernel
theorem dX7_fill_12 : decode cX7_fill 12 = .ok (.aload_n 0, 1) := by decide +kernel
theorem dX7_fill_13 : decode cX7_fill 13 = .ok (.iconst 3, 1) := by decide +kernel
theorem dX7_fill_14 : decode cX7_fill 14 = .ok (.iload 4, 2) := by decide +kernel
theorem dX7_fill_16 : decode cX7_fill 16 = .ok (.iastore, 1) := by decide +kernel
theorem dX7_fill_17 : decode cX7_fill 17 = .ok (.return_, 1) := by decide +kernel
theorem dX7_copy_0 : decode cX7_copy 0 = .ok (.iconst 0, 1) := by decide +kernel
theorem dX7_copy_1 : decode cX7_copy 1 = .ok (.istore_n 2, 1) := by decide +kernel
theorem dX7_copy_2 : decode cX7_copy 2 = .ok (.iload_n 2, 1) := by decide +kernel
theorem dX7_copy_3 : decode cX7_copy 3 = .ok (.aload_n 0, 1) := by decide +kernel
theorem dX7_copy_4 : decode cX7_copy 4 = .ok (.arraylength, 1) := by decide +kernel
theorem dX7_copy_5 : decode cX7_copy 5 = .ok (.if_icmp .ge 21, 3) := by decide +kernel
theorem dX7_copy_8 : decode cX7_copy 8 = .ok (.iload_n 2, 1) := by decide +kernel
theorem dX7_copy_9 : decode cX7_copy 9 = .ok (.aload_n 1, 1) := by decide +kernel
theorem dX7_copy_10 : decode cX7_copy 10 = .ok (.arraylength, 1) := by decide +kernel
theorem dX7_copy_11 : decode cX7_copy 11 = .ok (.if_icmp .ge 15, 3) := by decide +kernel
theorem dX7_copy_14 : decode cX7_copy 14 = .ok (.aload_n 1, 1) := by decide +kernel
theorem dX7_copy_15 : decode cX7_copy 15 = .ok (.iload_n 2, 1) := by decide +kernel
theorem dX7_copy_16 : decode cX7_copy 16 = .ok (.aload_n 0, 1) := by decide +kernel
theorem dX7_copy_17 : decode cX7_copy 17 = .ok (.iload_n 2, 1) := by decide +kernel
theorem dX7_copy_18 : decode cX7_copy 18 = .ok (.iaload, 1) := by decide +kernel
theorem dX7_copy_19 : decode cX7_copy 19 = .ok (.iastore, 1) := by decide +kernel
theorem dX7_copy_20 : decode cX7_copy 20 = .ok (.iinc 2 1, 3) := by decide +kernel
theorem dX7_copy_23 : decode cX7_copy 23 = .ok (.goto (-21), 3) := by decide +kernel
theorem dX7_copy_26 : decode cX7_copy 26 = .ok (.return_, 1) := by decide +kernel
theorem dX7_codeOf_0 : decode cX7_codeOf 0 = .ok (.bipush 100, 2) := by decide +kernel
theorem dX7_codeOf_2 : decode cX7_codeOf 2 = .ok (.iload_n 0, 1) := by decide +kernel
theorem dX7_codeOf_3 : decode cX7_codeOf 3 = .ok (.imul, 1) := by decide +kernel
theorem dX7_codeOf_4 : decode cX7_codeOf 4 = .ok (.bipush 10, 2) := by decide +kernel
theorem dX7_codeOf_6 : decode cX7_codeOf 6 = .ok (.iload_n 1, 1) := by decide +kernel
theorem dX7_codeOf_7 : decode cX7_codeOf 7 = .ok (.imul, 1) := by decide +kernel
theorem dX7_codeOf_8 : decode cX7_codeOf 8 = .ok (.iadd, 1) := by decide +kernel
theorem dX7_codeOf_9 : decode cX7_codeOf 9 = .ok (.iload_n 2, 1) := by decide +kernel
theorem dX7_codeOf_10 : decode cX7_codeOf 10 = .ok (.iadd, 1) := by decide +kernel
theorem dX7_codeOf_11 : decode cX7_codeOf 11 = .ok (.ireturn, 1) := by decide +kernel
theorem dX7_shapeOf_0 : decode cX7_shapeOf 0 = .ok (.iload_n 0, 1) := by decide +kernel
theorem dX7_shapeOf_1 : decode cX7_shapeOf 1 = .ok (.bipush 100, 2) := by decide +kernel
theorem dX7_shapeOf_3 : decode cX7_shapeOf 3 = .ok (.idiv, 1) := by decide +kernel
theorem dX7_shapeOf_4 : decode cX7_shapeOf 4 = .ok (.ireturn, 1) := by decide +kernel
theorem dX7_firstOf_0 : decode cX7_firstOf 0 = .ok (.iload_n 0, 1) := by decide +kernel
theorem dX7_firstOf_1 : decode cX7_firstOf 1 = .ok (.bipush 10, 2) := by decide +kernel
theorem dX7_firstOf_3 : decode cX7_firstOf 3 = .ok (.idiv, 1) := by decide +kernel
theorem dX7_firstOf_4 : decode cX7_firstOf 4 = .ok (.bipush 10, 2) := by decide +kernel
theorem dX7_firstOf_6 : decode cX7_firstOf 6 = .ok (.irem, 1) := by decide +kernel
theorem dX7_firstOf_7 : decode cX7_firstOf 7 = .ok (.ireturn, 1) := by decide +kernel
theorem dX7_secondOf_0 : decode cX7_secondOf 0 = .ok (.iload_n 0, 1) := by decide +kernel
theorem dX7_secondOf_1 : decode cX7_secondOf 1 = .ok (.bipush 10, 2) := by decide +kernel
theorem dX7_secondOf_3 : decode cX7_secondOf 3 = .ok (.irem, 1) := by decide +kernel
theorem dX7_secondOf_4 : decode cX7_secondOf 4 = .ok (.ireturn, 1) := by decide +kernel
theorem dX7_isOfTwo_0 : decode cX7_isOfTwo 0 = .ok (.iload_n 0, 1) := by decide +kernel
theorem dX7_isOfTwo_1 : decode cX7_isOfTwo 1 = .ok (.iconst 5, 1) := by decide +kernel
theorem dX7_isOfTwo_2 : decode cX7_isOfTwo 2 = .ok (.if_icmp .lt 13, 3) := by decide +kernel
theorem dX7_isOfTwo_5 : decode cX7_isOfTwo 5 = .ok (.iload_n 0, 1) := by decide +kernel
theorem dX7_isOfTwo_6 : decode cX7_isOfTwo 6 = .ok (.bipush 8, 2) := by decide +kernel
theorem dX7_isOfTwo_8 : decode cX7_isOfTwo 8 = .ok (.if_icmp .gt 7, 3) := by decide +kernel
theorem dX7_isOfTwo_11 : decode cX7_isOfTwo 11 = .ok (.iconst 1, 1) := by decide +kernel
theorem dX7_isOfTwo_12 : decode cX7_isOfTwo 12 = .ok (.goto 4, 3) := by decide +kernel
theorem dX7_isOfTwo_15 : decode cX7_isOfTwo 15 = .ok (.iconst 0, 1) := by decide +kernel
theorem dX7_isOfTwo_16 : decode cX7_isOfTwo 16 = .ok (.ireturn, 1) := by decide +kernel
theorem dX7_isGuess_0 : decode cX7_isGuess 0 = .ok (.iload_n 0, 1) := by decide +kernel
theorem dX7_isGuess_1 : decode cX7_isGuess 1 = .ok (.tableswitch 53 5 8 #[31, 42, 42, 31], 31) := by decide +kernel
theorem dX7_isGuess_32 : decode cX7_isGuess 32 = .ok (.iload_n 1, 1) := by decide +kernel
theorem dX7_isGuess_33 : decode cX7_isGuess 33 = .ok (.iload_n 2, 1) := by decide +kernel
theorem dX7_isGuess_34 : decode cX7_isGuess 34 = .ok (.if_icmp .ge 7, 3) := by decide +kernel
theorem dX7_isGuess_37 : decode cX7_isGuess 37 = .ok (.iconst 1, 1) := by decide +kernel
theorem dX7_isGuess_38 : decode cX7_isGuess 38 = .ok (.goto 4, 3) := by decide +kernel
theorem dX7_isGuess_41 : decode cX7_isGuess 41 = .ok (.iconst 0, 1) := by decide +kernel
theorem dX7_isGuess_42 : decode cX7_isGuess 42 = .ok (.ireturn, 1) := by decide +kernel
theorem dX7_isGuess_43 : decode cX7_isGuess 43 = .ok (.iload_n 1, 1) := by decide +kernel
theorem dX7_isGuess_44 : decode cX7_isGuess 44 = .ok (.iload_n 2, 1) := by decide +kernel
theorem dX7_isGuess_45 : decode cX7_isGuess 45 = .ok (.if_icmp .eq 7, 3) := by decide +kernel
theorem dX7_isGuess_48 : decode cX7_isGuess 48 = .ok (.iconst 1, 1) := by decide +kernel
theorem dX7_isGuess_49 : decode cX7_isGuess 49 = .ok (.goto 4, 3) := by decide +kernel
theorem dX7_isGuess_52 : decode cX7_isGuess 52 = .ok (.iconst 0, 1) := by decide +kernel
theorem dX7_isGuess_53 : decode cX7_isGuess 53 = .ok (.ireturn, 1) := by decide +kernel
theorem dX7_isGuess_54 : decode cX7_isGuess 54 = .ok (.iload_n 0, 1) := by decide +kernel
theorem dX7_isGuess_55 : decode cX7_isGuess 55 = .ok (.ifCond .lt 17, 3) := by decide +kernel
theorem dX7_isGuess_58 : decode cX7_isGuess 58 = .ok (.iload_n 0, 1) := by decide +kernel
theorem dX7_isGuess_59 : decode cX7_isGuess 59 = .ok (.bipush 9, 2) := by decide +kernel
theorem dX7_isGuess_61 : decode cX7_isGuess 61 = .ok (.if_icmp .gt 11, 3) := by decide +kernel
theorem dX7_isGuess_64 : decode cX7_isGuess 64 = .ok (.iload_n 2, 1) := by decide +kernel
theorem dX7_isGuess_65 : decode cX7_isGuess 65 = .ok (.ifCond .ne 7, 3) := by decide +kernel
theorem dX7_isGuess_68 : decode cX7_isGuess 68 = .ok (.iconst 1, 1) := by decide +kernel
theorem dX7_isGuess_69 : decode cX7_isGuess 69 = .ok (.goto 4, 3) := by decide +kernel
theorem dX7_isGuess_72 : decode cX7_isGuess 72 = .ok (.iconst 0, 1) := by decide +kernel
theorem dX7_isGuess_73 : decode cX7_isGuess 73 = .ok (.ireturn, 1) := by decide +kernel
theorem dX7_orderOf_0 : decode cX7_orderOf 0 = .ok (.iload_n 0, 1) := by decide +kernel
theorem dX7_orderOf_1 : decode cX7_orderOf 1 = .ok (.iload_n 1, 1) := by decide +kernel
theorem dX7_orderOf_2 : decode cX7_orderOf 2 = .ok (.if_icmp .ne 5, 3) := by decide +kernel
theorem dX7_orderOf_5 : decode cX7_orderOf 5 = .ok (.iconst 2, 1) := by decide +kernel
theorem dX7_orderOf_6 : decode cX7_orderOf 6 = .ok (.ireturn, 1) := by decide +kernel
theorem dX7_orderOf_7 : decode cX7_orderOf 7 = .ok (.iload_n 0, 1) := by decide +kernel
theorem dX7_orderOf_8 : decode cX7_orderOf 8 = .ok (.iload_n 1, 1) := by decide +kernel
theorem dX7_orderOf_9 : decode cX7_orderOf 9 = .ok (.if_icmp .ge 7, 3) := by decide +kernel
theorem dX7_orderOf_12 : decode cX7_orderOf 12 = .ok (.iconst 1, 1) := by decide +kernel
theorem dX7_orderOf_13 : decode cX7_orderOf 13 = .ok (.goto 4, 3) := by decide +kernel
theorem dX7_orderOf_16 : decode cX7_orderOf 16 = .ok (.iconst 4, 1) := by decide +kernel
theorem dX7_orderOf_17 : decode cX7_orderOf 17 = .ok (.ireturn, 1) := by decide +kernel
theorem dX7_fitsOrders_0 : decode cX7_fitsOrders 0 = .ok (.iload_n 0, 1) := by decide +kernel
theorem dX7_fitsOrders_1 : decode cX7_fitsOrders 1 = .ok (.tableswitch 77 5 8 #[31, 42, 53, 65], 31) := by decide +kernel
theorem dX7_fitsOrders_32 : decode cX7_fitsOrders 32 = .ok (.iload_n 1, 1) := by decide +kernel
theorem dX7_fitsOrders_33 : decode cX7_fitsOrders 33 = .ok (.iconst 2, 1) := by decide +kernel
theorem dX7_fitsOrders_34 : decode cX7_fitsOrders 34 = .ok (.if_icmp .ne 7, 3) := by decide +kernel
theorem dX7_fitsOrders_37 : decode cX7_fitsOrders 37 = .ok (.iconst 1, 1) := by decide +kernel
theorem dX7_fitsOrders_38 : decode cX7_fitsOrders 38 = .ok (.goto 4, 3) := by decide +kernel
theorem dX7_fitsOrders_41 : decode cX7_fitsOrders 41 = .ok (.iconst 0, 1) := by decide +kernel
theorem dX7_fitsOrders_42 : decode cX7_fitsOrders 42 = .ok (.ireturn, 1) := by decide +kernel
theorem dX7_fitsOrders_43 : decode cX7_fitsOrders 43 = .ok (.iload_n 1, 1) := by decide +kernel
theorem dX7_fitsOrders_44 : decode cX7_fitsOrders 44 = .ok (.iconst 1, 1) := by decide +kernel
theorem dX7_fitsOrders_45 : decode cX7_fitsOrders 45 = .ok (.if_icmp .ne 7, 3) := by decide +kernel
theorem dX7_fitsOrders_48 : decode cX7_fitsOrders 48 = .ok (.iconst 1, 1) := by decide +kernel
theorem dX7_fitsOrders_49 : decode cX7_fitsOrders 49 = .ok (.goto 4, 3) := by decide +kernel
theorem dX7_fitsOrders_52 : decode cX7_fitsOrders 52 = .ok (.iconst 0, 1) := by decide +kernel
theorem dX7_fitsOrders_53 : decode cX7_fitsOrders 53 = .ok (.ireturn, 1) := by decide +kernel
theorem dX7_fitsOrders_54 : decode cX7_fitsOrders 54 = .ok (.iload_n 1, 1) := by decide +kernel
theorem dX7_fitsOrders_55 : decode cX7_fitsOrders 55 = .ok (.iconst 4, 1) := by decide +kernel
theorem dX7_fitsOrders_56 : decode cX7_fitsOrders 56 = .ok (.iand, 1) := by decide +kernel
theorem dX7_fitsOrders_57 : decode cX7_fitsOrders 57 = .ok (.ifCond .ne 7, 3) := by decide +kernel
theorem dX7_fitsOrders_60 : decode cX7_fitsOrders 60 = .ok (.iconst 1, 1) := by decide +kernel
theorem dX7_fitsOrders_61 : decode cX7_fitsOrders 61 = .ok (.goto 4, 3) := by decide +kernel
theorem dX7_fitsOrders_64 : decode cX7_fitsOrders 64 = .ok (.iconst 0, 1) := by decide +kernel
theorem dX7_fitsOrders_65 : decode cX7_fitsOrders 65 = .ok (.ireturn, 1) := by decide +kernel
theorem dX7_fitsOrders_66 : decode cX7_fitsOrders 66 = .ok (.iload_n 1, 1) := by decide +kernel
theorem dX7_fitsOrders_67 : decode cX7_fitsOrders 67 = .ok (.iconst 2, 1) := by decide +kernel
theorem dX7_fitsOrders_68 : decode cX7_fitsOrders 68 = .ok (.iand, 1) := by decide +kernel
theorem dX7_fitsOrders_69 : decode cX7_fitsOrders 69 = .ok (.ifCond .ne 7, 3) := by decide +kernel
theorem dX7_fitsOrders_72 : decode cX7_fitsOrders 72 = .ok (.iconst 1, 1) := by decide +kernel
theorem dX7_fitsOrders_73 : decode cX7_fitsOrders 73 = .ok (.goto 4, 3) := by decide +kernel
theorem dX7_fitsOrders_76 : decode cX7_fitsOrders 76 = .ok (.iconst 0, 1) := by decide +kernel
theorem dX7_fitsOrders_77 : decode cX7_fitsOrders 77 = .ok (.ireturn, 1) := by decide +kernel
theorem dX7_fitsOrders_78 : decode cX7_fitsOrders 78 = .ok (.iconst 0, 1) := by decide +kernel
theorem dX7_fitsOrders_79 : decode cX7_fitsOrders 79 = .ok (.ireturn, 1) := by decide +kernel
theorem dX7_divisorOf_0 : decode cX7_divisorOf 0 = .ok (.lload_n 0, 1) := by decide +kernel
theorem dX7_divisorOf_1 : decode cX7_divisorOf 1 = .ok (.lconst 0, 1) := by decide +kernel
theorem dX7_divisorOf_2 : decode cX7_divisorOf 2 = .ok (.lcmp, 1) := by decide +kernel
theorem dX7_divisorOf_3 : decode cX7_divisorOf 3 = .ok (.ifCond .ge 8, 3) := by decide +kernel
theorem dX7_divisorOf_6 : decode cX7_divisorOf 6 = .ok (.lload_n 0, 1) := by decide +kernel
theorem dX7_divisorOf_7 : decode cX7_divisorOf 7 = .ok (.lneg, 1) := by decide +kernel
theorem dX7_divisorOf_8 : decode cX7_divisorOf 8 = .ok (.goto 4, 3) := by decide +kernel
theorem dX7_divisorOf_11 : decode cX7_divisorOf 11 = .ok (.lload_n 0, 1) := by decide +kernel
theorem dX7_divisorOf_12 : decode cX7_divisorOf 12 = .ok (.lstore 4, 2) := by decide +kernel
theorem dX7_divisorOf_14 : decode cX7_divisorOf 14 = .ok (.lload_n 2, 1) := by decide +kernel
theorem dX7_divisorOf_15 : decode cX7_divisorOf 15 = .ok (.lconst 0, 1) := by decide +kernel
theorem dX7_divisorOf_16 : decode cX7_divisorOf 16 = .ok (.lcmp, 1) := by decide +kernel
theorem dX7_divisorOf_17 : decode cX7_divisorOf 17 = .ok (.ifCond .ge 8, 3) := by decide +kernel
theorem dX7_divisorOf_20 : decode cX7_divisorOf 20 = .ok (.lload_n 2, 1) := by decide +kernel
theorem dX7_divisorOf_21 : decode cX7_divisorOf 21 = .ok (.lneg, 1) := by decide +kernel
theorem dX7_divisorOf_22 : decode cX7_divisorOf 22 = .ok (.goto 4, 3) := by decide +kernel
theorem dX7_divisorOf_25 : decode cX7_divisorOf 25 = .ok (.lload_n 2, 1) := by decide +kernel
theorem dX7_divisorOf_26 : decode cX7_divisorOf 26 = .ok (.lstore 6, 2) := by decide +kernel
theorem dX7_divisorOf_28 : decode cX7_divisorOf 28 = .ok (.iconst 0, 1) := by decide +kernel
theorem dX7_divisorOf_29 : decode cX7_divisorOf 29 = .ok (.istore 8, 2) := by decide +kernel
theorem dX7_divisorOf_31 : decode cX7_divisorOf 31 = .ok (.iload 8, 2) := by decide +kernel
theorem dX7_divisorOf_33 : decode cX7_divisorOf 33 = .ok (.bipush 100, 2) := by decide +kernel
theorem dX7_divisorOf_35 : decode cX7_divisorOf 35 = .ok (.if_icmp .ge 31, 3) := by decide +kernel
theorem dX7_divisorOf_38 : decode cX7_divisorOf 38 = .ok (.lload 6, 2) := by decide +kernel
theorem dX7_divisorOf_40 : decode cX7_divisorOf 40 = .ok (.lconst 0, 1) := by decide +kernel
theorem dX7_divisorOf_41 : decode cX7_divisorOf 41 = .ok (.lcmp, 1) := by decide +kernel
theorem dX7_divisorOf_42 : decode cX7_divisorOf 42 = .ok (.ifCond .eq 24, 3) := by decide +kernel
theorem dX7_divisorOf_45 : decode cX7_divisorOf 45 = .ok (.lload 4, 2) := by decide +kernel
theorem dX7_divisorOf_47 : decode cX7_divisorOf 47 = .ok (.lload 6, 2) := by decide +kernel
theorem dX7_divisorOf_49 : decode cX7_divisorOf 49 = .ok (.lrem, 1) := by decide +kernel
theorem dX7_divisorOf_50 : decode cX7_divisorOf 50 = .ok (.lstore 9, 2) := by decide +kernel
theorem dX7_divisorOf_52 : decode cX7_divisorOf 52 = .ok (.lload 6, 2) := by decide +kernel
theorem dX7_divisorOf_54 : decode cX7_divisorOf 54 = .ok (.lstore 4, 2) := by decide +kernel
theorem dX7_divisorOf_56 : decode cX7_divisorOf 56 = .ok (.lload 9, 2) := by decide +kernel
theorem dX7_divisorOf_58 : decode cX7_divisorOf 58 = .ok (.lstore 6, 2) := by decide +kernel
theorem dX7_divisorOf_60 : decode cX7_divisorOf 60 = .ok (.iinc 8 1, 3) := by decide +kernel
theorem dX7_divisorOf_63 : decode cX7_divisorOf 63 = .ok (.goto (-32), 3) := by decide +kernel
theorem dX7_divisorOf_66 : decode cX7_divisorOf 66 = .ok (.lload 4, 2) := by decide +kernel
theorem dX7_divisorOf_68 : decode cX7_divisorOf 68 = .ok (.lreturn, 1) := by decide +kernel
theorem dX8_init_0 : decode cX8_init 0 = .ok (.aload_n 0, 1) := by decide +kernel
theorem dX8_init_1 : decode cX8_init 1 = .ok (.invokespecial 1, 3) := by decide +kernel
theorem dX8_init_4 : decode cX8_init 4 = .ok (.aload_n 0, 1) := by decide +kernel
theorem dX8_init_5 : decode cX8_init 5 = .ok (.bipush 6, 2) := by decide +kernel
theorem dX8_init_7 : decode cX8_init 7 = .ok (.newarray .int, 2) := by decide +kernel
theorem dX8_init_9 : decode cX8_init 9 = .ok (.putfield 7, 3) := by decide +kernel
theorem dX8_init_12 : decode cX8_init 12 = .ok (.aload_n 0, 1) := by decide +kernel
theorem dX8_init_13 : decode cX8_init 13 = .ok (.bipush 6, 2) := by decide +kernel
theorem dX8_init_15 : decode cX8_init 15 = .ok (.newarray .int, 2) := by decide +kernel
theorem dX8_init_17 : decode cX8_init 17 = .ok (.putfield 13, 3) := by decide +kernel
theorem dX8_init_20 : decode cX8_init 20 = .ok (.aload_n 0, 1) := by decide +kernel
theorem dX8_init_21 : decode cX8_init 21 = .ok (.bipush 6, 2) := by decide +kernel
theorem dX8_init_23 : decode cX8_init 23 = .ok (.newarray .boolean, 2) := by decide +kernel
theorem dX8_init_25 : decode cX8_init 25 = .ok (.putfield 16, 3) := by decide +kernel
theorem dX8_init_28 : decode cX8_init 28 = .ok (.aload_n 0, 1) := by decide +kernel
theorem dX8_init_29 : decode cX8_init 29 = .ok (.bipush 6, 2) := by decide +kernel
theorem dX8_init_31 : decode cX8_init 31 = .ok (.newarray .int, 2) := by decide +kernel
theorem dX8_init_33 : decode cX8_init 33 = .ok (.putfield 20, 3) := by decide +kernel
theorem dX8_init_36 : decode cX8_init 36 = .ok (.aload_n 0, 1) := by decide +kernel
theorem dX8_init_37 : decode cX8_init 37 = .ok (.bipush 6, 2) := by decide +kernel
theorem dX8_init_39 : decode cX8_init 39 = .ok (.newarray .int, 2) := by decide +kernel
theorem dX8_init_41 : decode cX8_init 41 = .ok (.putfield 23, 3) := by decide +kernel
theorem dX8_init_44 : decode cX8_init 44 = .ok (.aload_n 0, 1) := by decide +kernel
theorem dX8_init_45 : decode cX8_init 45 = .ok (.sipush 960, 3) := by decide +kernel
theorem dX8_init_48 : decode cX8_init 48 = .ok (.newarray .int, 2) := by decide +kernel
theorem dX8_init_50 : decode cX8_init 50 = .ok (.putfield 26, 3) := by decide +kernel
theorem dX8_init_53 : decode cX8_init 53 = .ok (.aload_n 0, 1) := by decide +kernel
theorem dX8_init_54 : decode cX8_init 54 = .ok (.iconst 4, 1) := by decide +kernel
theorem dX8_init_55 : decode cX8_init 55 = .ok (.newarray .int, 2) := by decide +kernel
theorem dX8_init_57 : decode cX8_init 57 = .ok (.putfield 29, 3) := by decide +kernel
theorem dX8_init_60 : decode cX8_init 60 = .ok (.aload_n 0, 1) := by decide +kernel
theorem dX8_init_61 : decode cX8_init 61 = .ok (.bipush 100, 2) := by decide +kernel
theorem dX8_init_63 : decode cX8_init 63 = .ok (.newarray .int, 2) := by decide +kernel
theorem dX8_init_65 : decode cX8_init 65 = .ok (.putfield 32, 3) := by decide +kernel
theorem dX8_init_68 : decode cX8_init 68 = .ok (.aload_n 0, 1) := by decide +kernel
theorem dX8_init_69 : decode cX8_init 69 = .ok (.sipush 300, 3) := by decide +kernel
theorem dX8_init_72 : decode cX8_init 72 = .ok (.newarray .int, 2) := by decide +kernel
theorem dX8_init_74 : decode cX8_init 74 = .ok (.putfield 35, 3) := by decide +kernel
theorem dX8_init_77 : decode cX8_init 77 = .ok (.aload_n 0, 1) := by decide +kernel
theorem dX8_init_78 : decode cX8_init 78 = .ok (.sipush 300, 3) := by decide +kernel
theorem dX8_init_81 : decode cX8_init 81 = .ok (.newarray .int, 2) := by decide +kernel
theorem dX8_init_83 : decode cX8_init 83 = .ok (.putfield 38, 3) := by decide +kernel
theorem dX8_init_86 : decode cX8_init 86 = .ok (.aload_n 0, 1) := by decide +kernel
theorem dX8_init_87 : decode cX8_init 87 = .ok (.sipush 300, 3) := by decide +kernel
theorem dX8_init_90 : decode cX8_init 90 = .ok (.newarray .int, 2) := by decide +kernel
theorem dX8_init_92 : decode cX8_init 92 = .ok (.putfield 41, 3) := by decide +kernel
theorem dX8_init_95 : decode cX8_init 95 = .ok (.aload_n 0, 1) := by decide +kernel
theorem dX8_init_96 : decode cX8_init 96 = .ok (.sipush 200, 3) := by decide +kernel
theorem dX8_init_99 : decode cX8_init 99 = .ok (.newarray .long, 2) := by decide +kernel
theorem dX8_init_101 : decode cX8_init 101 = .ok (.putfield 44, 3) := by decide +kernel
theorem dX8_init_104 : decode cX8_init 104 = .ok (.aload_n 0, 1) := by decide +kernel
theorem dX8_init_105 : decode cX8_init 105 = .ok (.iconst 5, 1) := by decide +kernel
theorem dX8_init_106 : decode cX8_init 106 = .ok (.newarray .int, 2) := by decide +kernel
theorem dX8_init_108 : decode cX8_init 108 = .ok (.putfield 48, 3) := by decide +kernel
theorem dX8_init_111 : decode cX8_init 111 = .ok (.aload_n 0, 1) := by decide +kernel
theorem dX8_init_112 : decode cX8_init 112 = .ok (.iconst 5, 1) := by decide +kernel
theorem dX8_init_113 : decode cX8_init 113 = .ok (.newarray .boolean, 2) := by decide +kernel
theorem dX8_init_115 : decode cX8_init 115 = .ok (.putfield 51, 3) := by decide +kernel
theorem dX8_init_118 : decode cX8_init 118 = .ok (.aload_n 0, 1) := by decide +kernel
theorem dX8_init_119 : decode cX8_init 119 = .ok (.bipush 25, 2) := by decide +kernel
theorem dX8_init_121 : decode cX8_init 121 = .ok (.newarray .long, 2) := by decide +kernel
theorem dX8_init_123 : decode cX8_init 123 = .ok (.putfield 54, 3) := by decide +kernel
theorem dX8_init_126 : decode cX8_init 126 = .ok (.aload_n 0, 1) := by decide +kernel
theorem dX8_init_127 : decode cX8_init 127 = .ok (.iconst 4, 1) := by decide +kernel
theorem dX8_init_128 : decode cX8_init 128 = .ok (.newarray .int, 2) := by decide +kernel
theorem dX8_init_130 : decode cX8_init 130 = .ok (.putfield 57, 3) := by decide +kernel
theorem dX8_init_133 : decode cX8_init 133 = .ok (.aload_n 0, 1) := by decide +kernel
theorem dX8_init_134 : decode cX8_init 134 = .ok (.bipush 10, 2) := by decide +kernel
theorem dX8_init_136 : decode cX8_init 136 = .ok (.newarray .int, 2) := by decide +kernel
theorem dX8_init_138 : decode cX8_init 138 = .ok (.putfield 60, 3) := by decide +kernel
theorem dX8_init_141 : decode cX8_init 141 = .ok (.aload_n 0, 1) := by decide +kernel
theorem dX8_init_142 : decode cX8_init 142 = .ok (.bipush 10, 2) := by decide +kernel
theorem dX8_init_144 : decode cX8_init 144 = .ok (.newarray .int, 2) := by decide +kernel
theorem dX8_init_146 : decode cX8_init 146 = .ok (.putfield 63, 3) := by decide +kernel
theorem dX8_init_149 : decode cX8_init 149 = .ok (.aload_n 0, 1) := by decide +kernel
theorem dX8_init_150 : decode cX8_init 150 = .ok (.sipush 200, 3) := by decide +kernel
theorem dX8_init_153 : decode cX8_init 153 = .ok (.newarray .int, 2) := by decide +kernel
theorem dX8_init_155 : decode cX8_init 155 = .ok (.putfield 66, 3) := by decide +kernel
theorem dX8_init_158 : decode cX8_init 158 = .ok (.aload_n 0, 1) := by decide +kernel
theorem dX8_init_159 : decode cX8_init 159 = .ok (.iconst 5, 1) := by decide +kernel
theorem dX8_init_160 : decode cX8_init 160 = .ok (.newarray .long, 2) := by decide +kernel
theorem dX8_init_162 : decode cX8_init 162 = .ok (.putfield 69, 3) := by decide +kernel
theorem dX8_init_165 : decode cX8_init 165 = .ok (.aload_n 0, 1) := by decide +kernel
theorem dX8_init_166 : decode cX8_init 166 = .ok (.bipush 25, 2) := by decide +kernel
theorem dX8_init_168 : decode cX8_init 168 = .ok (.newarray .long, 2) := by decide +kernel
theorem dX8_init_170 : decode cX8_init 170 = .ok (.putfield 72, 3) := by decide +kernel
theorem dX8_init_173 : decode cX8_init 173 = .ok (.aload_n 0, 1) := by decide +kernel
theorem dX8_init_174 : decode cX8_init 174 = .ok (.bipush 16, 2) := by decide +kernel
theorem dX8_init_176 : decode cX8_init 176 = .ok (.newarray .int, 2) := by decide +kernel
theorem dX8_init_178 : decode cX8_init 178 = .ok (.putfield 75, 3) := by decide +kernel
theorem dX8_init_181 : decode cX8_init 181 = .ok (.aload_n 0, 1) := by decide +kernel
theorem dX8_init_182 : decode cX8_init 182 = .ok (.bipush 64, 2) := by decide +kernel
theorem dX8_init_184 : decode cX8_init 184 = .ok (.newarray .int, 2) := by decide +kernel
theorem dX8_init_186 : decode cX8_init 186 = .ok (.putfield 78, 3) := by decide +kernel
theorem dX8_init_189 : decode cX8_init 189 = .ok (.aload_n 0, 1) := by decide +kernel
theorem dX8_init_190 : decode cX8_init 190 = .ok (.bipush 16, 2) := by decide +kernel
theorem dX8_init_192 : decode cX8_init 192 = .ok (.newarray .int, 2) := by decide +kernel
theorem dX8_init_194 : decode cX8_init 194 = .ok (.putfield 81, 3) := by decide +kernel
theorem dX8_init_197 : decode cX8_init 197 = .ok (.aload_n 0, 1) := by decide +kernel
theorem dX8_init_198 : decode cX8_init 198 = .ok (.bipush 6, 2) := by decide +kernel
theorem dX8_init_200 : decode cX8_init 200 = .ok (.newarray .int, 2) := by decide +kernel
theorem dX8_init_202 : decode cX8_init 202 = .ok (.putfield 84, 3) := by decide +kernel
theorem dX8_init_205 : decode cX8_init 205 = .ok (.aload_n 0, 1) := by decide +kernel
theorem dX8_init_206 : decode cX8_init 206 = .ok (.sipush 600, 3) := by decide +kernel
theorem dX8_init_209 : decode cX8_init 209 = .ok (.newarray .int, 2) := by decide +kernel
theorem dX8_init_211 : decode cX8_init 211 = .ok (.putfield 87, 3) := by decide +kernel
theorem dX8_init_214 : decode cX8_init 214 = .ok (.aload_n 0, 1) := by decide +kernel
theorem dX8_init_215 : decode cX8_init 215 = .ok (.sipush 600, 3) := by decide +kernel
theorem dX8_init_218 : decode cX8_init 218 = .ok (.newarray .int, 2) := by decide +kernel
theorem dX8_init_220 : decode cX8_init 220 = .ok (.putfield 90, 3) := by decide +kernel
theorem dX8_init_223 : decode cX8_init 223 = .ok (.aload_n 0, 1) := by decide +kernel
theorem dX8_init_224 : decode cX8_init 224 = .ok (.sipush 600, 3) := by decide +kernel
theorem dX8_init_227 : decode cX8_init 227 = .ok (.newarray .int, 2) := by decide +kernel
theorem dX8_init_229 : decode cX8_init 229 = .ok (.putfield 93, 3) := by decide +kernel
theorem dX8_init_232 : decode cX8_init 232 = .ok (.aload_n 0, 1) := by decide +kernel
theorem dX8_init_233 : decode cX8_init 233 = .ok (.sipush 600, 3) := by decide +kernel
theorem dX8_init_236 : decode cX8_init 236 = .ok (.newarray .int, 2) := by decide +kernel
theorem dX8_init_238 : decode cX8_init 238 = .ok (.putfield 96, 3) := by decide +kernel
theorem dX8_init_241 : decode cX8_init 241 = .ok (.aload_n 0, 1) := by decide +kernel
theorem dX8_init_242 : decode cX8_init 242 = .ok (.iconst 4, 1) := by decide +kernel
theorem dX8_init_243 : decode cX8_init 243 = .ok (.newarray .int, 2) := by decide +kernel
theorem dX8_init_245 : decode cX8_init 245 = .ok (.putfield 99, 3) := by decide +kernel
theorem dX8_init_248 : decode cX8_init 248 = .ok (.aload_n 0, 1) := by decide +kernel
theorem dX8_init_249 : decode cX8_init 249 = .ok (.bipush 8, 2) := by decide +kernel
theorem dX8_init_251 : decode cX8_init 251 = .ok (.newarray .int, 2) := by decide +kernel
theorem dX8_init_253 : decode cX8_init 253 = .ok (.putfield 102, 3) := by decide +kernel
theorem dX8_init_256 : decode cX8_init 256 = .ok (.aload_n 0, 1) := by decide +kernel
theorem dX8_init_257 : decode cX8_init 257 = .ok (.iconst 0, 1) := by decide +kernel
theorem dX8_init_258 : decode cX8_init 258 = .ok (.putfield 105, 3) := by decide +kernel
theorem dX8_init_261 : decode cX8_init 261 = .ok (.aload_n 0, 1) := by decide +kernel
theorem dX8_init_262 : decode cX8_init 262 = .ok (.iconst (-1), 1) := by decide +kernel
theorem dX8_init_263 : decode cX8_init 263 = .ok (.putfield 109, 3) := by decide +kernel
theorem dX8_init_266 : decode cX8_init 266 = .ok (.aload_n 0, 1) := by decide +kernel
theorem dX8_init_267 : decode cX8_init 267 = .ok (.iconst (-1), 1) := by decide +kernel
theorem dX8_init_268 : decode cX8_init 268 = .ok (.putfield 112, 3) := by decide +kernel
theorem dX8_init_271 : decode cX8_init 271 = .ok (.return_, 1) := by decide +kernel
theorem dX8_in_0 : decode cX8_in 0 = .ok (.iload_n 0, 1) := by decide +kernel
theorem dX8_in_1 : decode cX8_in 1 = .ok (.iload_n 1, 1) := by decide +kernel
theorem dX8_in_2 : decode cX8_in 2 = .ok (.if_icmp .lt 12, 3) := by decide +kernel
theorem dX8_in_5 : decode cX8_in 5 = .ok (.iload_n 0, 1) := by decide +kernel
theorem dX8_in_6 : decode cX8_in 6 = .ok (.iload_n 2, 1) := by decide +kernel
theorem dX8_in_7 : decode cX8_in 7 = .ok (.if_icmp .gt 7, 3) := by decide +kernel
theorem dX8_in_10 : decode cX8_in 10 = .ok (.iconst 1, 1) := by decide +kernel
theorem dX8_in_11 : decode cX8_in 11 = .ok (.goto 4, 3) := by decide +kernel
theorem dX8_in_14 : decode cX8_in 14 = .ok (.iconst 0, 1) := by decide +kernel
theorem dX8_in_15 : decode cX8_in 15 = .ok (.ireturn, 1) := by decide +kernel
theorem dX8_noPoint_0 : decode cX8_noPoint 0 = .ok (.iload_n 1, 1) := by decide +kernel
theorem dX8_noPoint_1 : decode cX8_noPoint 1 = .ok (.iconst 0, 1) := by decide +kernel
theorem dX8_noPoint_2 : decode cX8_noPoint 2 = .ok (.aload_n 0, 1) := by decide +kernel
theorem dX8_noPoint_3 : decode cX8_noPoint 3 = .ok (.getfield 105, 3) := by decide +kernel
theorem dX8_noPoint_6 : decode cX8_noPoint 6 = .ok (.iconst 1, 1) := by decide +kernel
theorem dX8_noPoint_7 : decode cX8_noPoint 7 = .ok (.isub, 1) := by decide +kernel
theorem dX8_noPoint_8 : decode cX8_noPoint 8 = .ok (.invokestatic 115, 3) := by decide +kernel
theorem dX8_noPoint_11 : decode cX8_noPoint 11 = .ok (.ifCond .ne 7, 3) := by decide +kernel
theorem dX8_noPoint_14 : decode cX8_noPoint 14 = .ok (.iconst 1, 1) := by decide +kernel
theorem dX8_noPoint_15 : decode cX8_noPoint 15 = .ok (.goto 4, 3) := by decide +kernel
theorem dX8_noPoint_18 : decode cX8_noPoint 18 = .ok (.iconst 0, 1) := by decide +kernel
theorem dX8_noPoint_19 : decode cX8_noPoint 19 = .ok (.ireturn, 1) := by decide +kernel
theorem dX8_noVariable_0 : decode cX8_noVariable 0 = .ok (.aload_n 0, 1) := by decide +kernel
theorem dX8_noVariable_1 : decode cX8_noVariable 1 = .ok (.iload_n 1, 1) := by decide +kernel
theorem dX8_noVariable_2 : decode cX8_noVariable 2 = .ok (.invokevirtual 119, 3) := by decide +kernel
theorem dX8_noVariable_5 : decode cX8_noVariable 5 = .ok (.ifCond .ne 19, 3) := by decide +kernel
theorem dX8_noVariable_8 : decode cX8_noVariable 8 = .ok (.iload_n 2, 1) := by decide +kernel
theorem dX8_noVariable_9 : decode cX8_noVariable 9 = .ok (.iconst 0, 1) := by decide +kernel
theorem dX8_noVariable_10 : decode cX8_noVariable 10 = .ok (.aload_n 0, 1) := by decide +kernel
theorem dX8_noVariable_11 : decode cX8_noVariable 11 = .ok (.getfield 7, 3) := by decide +kernel
theorem dX8_noVariable_14 : decode cX8_noVariable 14 = .ok (.iload_n 1, 1) := by decide +kernel
theorem dX8_noVariable_15 : decode cX8_noVariable 15 = .ok (.iaload, 1) := by decide +kernel
theorem dX8_noVariable_16 : decode cX8_noVariable 16 = .ok (.iconst 1, 1) := by decide +kernel
theorem dX8_noVariable_17 : decode cX8_noVariable 17 = .ok (.isub, 1) := by decide +kernel
theorem dX8_noVariable_18 : decode cX8_noVariable 18 = .ok (.invokestatic 115, 3) := by decide +kernel
theorem dX8_noVariable_21 : decode cX8_noVariable 21 = .ok (.ifCond .ne 7, 3) := by decide +kernel
theorem dX8_noVariable_24 : decode cX8_noVariable 24 = .ok (.iconst 1, 1) := by decide +kernel
theorem dX8_noVariable_25 : decode cX8_noVariable 25 = .ok (.goto 4, 3) := by decide +kernel
theorem dX8_noVariable_28 : decode cX8_noVariable 28 = .ok (.iconst 0, 1) := by decide +kernel
theorem dX8_noVariable_29 : decode cX8_noVariable 29 = .ok (.ireturn, 1) := by decide +kernel
theorem dX8_point_0 : decode cX8_point 0 = .ok (.iload_n 1, 1) := by decide +kernel
theorem dX8_point_1 : decode cX8_point 1 = .ok (.iconst 1, 1) := by decide +kernel
theorem dX8_point_2 : decode cX8_point 2 = .ok (.iconst 4, 1) := by decide +kernel
theorem dX8_point_3 : decode cX8_point 3 = .ok (.invokestatic 115, 3) := by decide +kernel
theorem dX8_point_6 : decode cX8_point 6 = .ok (.ifCond .ne 6, 3) := by decide +kernel
theorem dX8_point_9 : decode cX8_point 9 = .ok (.bipush (-2), 2) := by decide +kernel
theorem dX8_point_11 : decode cX8_point 11 = .ok (.ireturn, 1) := by decide +kernel
theorem dX8_point_12 : decode cX8_point 12 = .ok (.aload_n 0, 1) := by decide +kernel
theorem dX8_point_13 : decode cX8_point 13 = .ok (.getfield 105, 3) := by decide +kernel
theorem dX8_point_16 : decode cX8_point 16 = .ok (.bipush 6, 2) := by decide +kernel
theorem dX8_point_18 : decode cX8_point 18 = .ok (.if_icmp .ne 6, 3) := by decide +kernel
theorem dX8_point_21 : decode cX8_point 21 = .ok (.bipush (-4), 2) := by decide +kernel
theorem dX8_point_23 : decode cX8_point 23 = .ok (.ireturn, 1) := by decide +kernel
theorem dX8_point_24 : decode cX8_point 24 = .ok (.aload_n 0, 1) := by decide +kernel
theorem dX8_point_25 : decode cX8_point 25 = .ok (.getfield 7, 3) := by decide +kernel
theorem dX8_point_28 : decode cX8_point 28 = .ok (.aload_n 0, 1) := by decide +kernel
theorem dX8_point_29 : decode cX8_point 29 = .ok (.getfield 105, 3) := by decide +kernel
theorem dX8_point_32 : decode cX8_point 32 = .ok (.iload_n 1, 1) := by decide +kernel
theorem dX8_point_33 : decode cX8_point 33 = .ok (.iastore, 1) := by decide +kernel
theorem dX8_point_34 : decode cX8_point 34 = .ok (.aload_n 0, 1) := by decide +kernel
theorem dX8_point_35 : decode cX8_point 35 = .ok (.getfield 13, 3) := by decide +kernel
theorem dX8_point_38 : decode cX8_point 38 = .ok (.aload_n 0, 1) := by decide +kernel
theorem dX8_point_39 : decode cX8_point 39 = .ok (.getfield 105, 3) := by decide +kernel
theorem dX8_point_42 : decode cX8_point 42 = .ok (.iconst 0, 1) := by decide +kernel
theorem dX8_point_43 : decode cX8_point 43 = .ok (.iastore, 1) := by decide +kernel
theorem dX8_point_44 : decode cX8_point 44 = .ok (.aload_n 0, 1) := by decide +kernel
theorem dX8_point_45 : decode cX8_point 45 = .ok (.dup, 1) := by decide +kernel
theorem dX8_point_46 : decode cX8_point 46 = .ok (.getfield 105, 3) := by decide +kernel
theorem dX8_point_49 : decode cX8_point 49 = .ok (.iconst 1, 1) := by decide +kernel
theorem dX8_point_50 : decode cX8_point 50 = .ok (.iadd, 1) := by decide +kernel
theorem dX8_point_51 : decode cX8_point 51 = .ok (.putfield 105, 3) := by decide +kernel
theorem dX8_point_54 : decode cX8_point 54 = .ok (.aload_n 0, 1) := by decide +kernel
theorem dX8_point_55 : decode cX8_point 55 = .ok (.getfield 105, 3) := by decide +kernel
theorem dX8_point_58 : decode cX8_point 58 = .ok (.iconst 1, 1) := by decide +kernel
theorem dX8_point_59 : decode cX8_point 59 = .ok (.isub, 1) := by decide +kernel
theorem dX8_point_60 : decode cX8_point 60 = .ok (.ireturn, 1) := by decide +kernel
theorem dX8_at_0 : decode cX8_at 0 = .ok (.aload_n 0, 1) := by decide +kernel
theorem dX8_at_1 : decode cX8_at 1 = .ok (.getfield 26, 3) := by decide +kernel
theorem dX8_at_4 : decode cX8_at 4 = .ok (.sipush 160, 3) := by decide +kernel
theorem dX8_at_7 : decode cX8_at 7 = .ok (.iload_n 1, 1) := by decide +kernel
theorem dX8_at_8 : decode cX8_at 8 = .ok (.imul, 1) := by decide +kernel
theorem dX8_at_9 : decode cX8_at 9 = .ok (.iconst 4, 1) := by decide +kernel
theorem dX8_at_10 : decode cX8_at 10 = .ok (.iload_n 2, 1) := by decide +kernel
theorem dX8_at_11 : decode cX8_at 11 = .ok (.imul, 1) := by decide +kernel
theorem dX8_at_12 : decode cX8_at 12 = .ok (.iadd, 1) := by decide +kernel
theorem dX8_at_13 : decode cX8_at 13 = .ok (.iload_n 3, 1) := by decide +kernel
theorem dX8_at_14 : decode cX8_at 14 = .ok (.iadd, 1) := by decide +kernel
theorem dX8_at_15 : decode cX8_at 15 = .ok (.iaload, 1) := by decide +kernel
theorem dX8_at_16 : decode cX8_at 16 = .ok (.ireturn, 1) := by decide +kernel
theorem dX8_isOf_0 : decode cX8_isOf 0 = .ok (.iload_n 2, 1) := by decide +kernel
theorem dX8_isOf_1 : decode cX8_isOf 1 = .ok (.ifCond .eq 51, 3) := by decide +kernel
theorem dX8_isOf_4 : decode cX8_isOf 4 = .ok (.aload_n 0, 1) := by decide +kernel
theorem dX8_isOf_5 : decode cX8_isOf 5 = .ok (.getfield 16, 3) := by decide +kernel
theorem dX8_isOf_8 : decode cX8_isOf 8 = .ok (.iload_n 1, 1) := by decide +kernel
theorem dX8_isOf_9 : decode cX8_isOf 9 = .ok (.baload, 1) := by decide +kernel
theorem dX8_isOf_10 : decode cX8_isOf 10 = .ok (.ifCond .eq 46, 3) := by decide +kernel
theorem dX8_isOf_13 : decode cX8_isOf 13 = .ok (.aload_n 0, 1) := by decide +kernel
theorem dX8_isOf_14 : decode cX8_isOf 14 = .ok (.iload_n 1, 1) := by decide +kernel
theorem dX8_isOf_15 : decode cX8_isOf 15 = .ok (.iload_n 3, 1) := by decide +kernel
theorem dX8_isOf_16 : decode cX8_isOf 16 = .ok (.aload_n 0, 1) := by decide +kernel
theorem dX8_isOf_17 : decode cX8_isOf 17 = .ok (.getfield 20, 3) := by decide +kernel
theorem dX8_isOf_20 : decode cX8_isOf 20 = .ok (.iload_n 1, 1) := by decide +kernel
theorem dX8_isOf_21 : decode cX8_isOf 21 = .ok (.iaload, 1) := by decide +kernel
theorem dX8_isOf_22 : decode cX8_isOf 22 = .ok (.invokevirtual 123, 3) := by decide +kernel
theorem dX8_isOf_25 : decode cX8_isOf 25 = .ok (.aload_n 0, 1) := by decide +kernel
theorem dX8_isOf_26 : decode cX8_isOf 26 = .ok (.getfield 23, 3) := by decide +kernel
theorem dX8_isOf_29 : decode cX8_isOf 29 = .ok (.iload_n 1, 1) := by decide +kernel
theorem dX8_isOf_30 : decode cX8_isOf 30 = .ok (.iaload, 1) := by decide +kernel
theorem dX8_isOf_31 : decode cX8_isOf 31 = .ok (.if_icmp .lt 7, 3) := by decide +kernel
theorem dX8_isOf_34 : decode cX8_isOf 34 = .ok (.iconst 1, 1) := by decide +kernel
theorem dX8_isOf_35 : decode cX8_isOf 35 = .ok (.goto 4, 3) := by decide +kernel
theorem dX8_isOf_38 : decode cX8_isOf 38 = .ok (.iconst 0, 1) := by decide +kernel
theorem dX8_isOf_39 : decode cX8_isOf 39 = .ok (.iload_n 2, 1) := by decide +kernel
theorem dX8_isOf_40 : decode cX8_isOf 40 = .ok (.iconst 1, 1) := by decide +kernel
theorem dX8_isOf_41 : decode cX8_isOf 41 = .ok (.if_icmp .ne 7, 3) := by decide +kernel
theorem dX8_isOf_44 : decode cX8_isOf 44 = .ok (.iconst 1, 1) := by decide +kernel
theorem dX8_isOf_45 : decode cX8_isOf 45 = .ok (.goto 4, 3) := by decide +kernel
theorem dX8_isOf_48 : decode cX8_isOf 48 = .ok (.iconst 0, 1) := by decide +kernel
theorem dX8_isOf_49 : decode cX8_isOf 49 = .ok (.if_icmp .ne 7, 3) := by decide +kernel
theorem dX8_isOf_52 : decode cX8_isOf 52 = .ok (.iconst 1, 1) := by decide +kernel
theorem dX8_isOf_53 : decode cX8_isOf 53 = .ok (.goto 4, 3) := by decide +kernel
theorem dX8_isOf_56 : decode cX8_isOf 56 = .ok (.iconst 0, 1) := by decide +kernel
theorem dX8_isOf_57 : decode cX8_isOf 57 = .ok (.ireturn, 1) := by decide +kernel
theorem dX8_triedOf_0 : decode cX8_triedOf 0 = .ok (.iconst 0, 1) := by decide +kernel
theorem dX8_triedOf_1 : decode cX8_triedOf 1 = .ok (.istore_n 3, 1) := by decide +kernel
theorem dX8_triedOf_2 : decode cX8_triedOf 2 = .ok (.iconst 0, 1) := by decide +kernel
theorem dX8_triedOf_3 : decode cX8_triedOf 3 = .ok (.istore 4, 2) := by decide +kernel
theorem dX8_triedOf_5 : decode cX8_triedOf 5 = .ok (.iload 4, 2) := by decide +kernel
theorem dX8_triedOf_7 : decode cX8_triedOf 7 = .ok (.aload_n 0, 1) := by decide +kernel
theorem dX8_triedOf_8 : decode cX8_triedOf 8 = .ok (.getfield 13, 3) := by decide +kernel
theorem dX8_triedOf_11 : decode cX8_triedOf 11 = .ok (.iload_n 1, 1) := by decide +kernel
theorem dX8_triedOf_12 : decode cX8_triedOf 12 = .ok (.iaload, 1) := by decide +kernel
theorem dX8_triedOf_13 : decode cX8_triedOf 13 = .ok (.if_icmp .ge 28, 3) := by decide +kernel
theorem dX8_triedOf_16 : decode cX8_triedOf 16 = .ok (.iload_n 3, 1) := by decide +kernel
theorem dX8_triedOf_17 : decode cX8_triedOf 17 = .ok (.aload_n 0, 1) := by decide +kernel
theorem dX8_triedOf_18 : decode cX8_triedOf 18 = .ok (.iload_n 1, 1) := by decide +kernel
theorem dX8_triedOf_19 : decode cX8_triedOf 19 = .ok (.iload_n 2, 1) := by decide +kernel
theorem dX8_triedOf_20 : decode cX8_triedOf 20 = .ok (.iload 4, 2) := by decide +kernel
theorem dX8_triedOf_22 : decode cX8_triedOf 22 = .ok (.invokevirtual 127, 3) := by decide +kernel
theorem dX8_triedOf_25 : decode cX8_triedOf 25 = .ok (.ifCond .eq 7, 3) := by decide +kernel
theorem dX8_triedOf_28 : decode cX8_triedOf 28 = .ok (.iconst 1, 1) := by decide +kernel
theorem dX8_triedOf_29 : decode cX8_triedOf 29 = .ok (.goto 4, 3) := by decide +kernel
theorem dX8_triedOf_32 : decode cX8_triedOf 32 = .ok (.iconst 0, 1) := by decide +kernel
theorem dX8_triedOf_33 : decode cX8_triedOf 33 = .ok (.iadd, 1) := by decide +kernel
theorem dX8_triedOf_34 : decode cX8_triedOf 34 = .ok (.istore_n 3, 1) := by decide +kernel
theorem dX8_triedOf_35 : decode cX8_triedOf 35 = .ok (.iinc 4 1, 3) := by decide +kernel
theorem dX8_triedOf_38 : decode cX8_triedOf 38 = .ok (.goto (-33), 3) := by decide +kernel
theorem dX8_triedOf_41 : decode cX8_triedOf 41 = .ok (.iload_n 3, 1) := by decide +kernel
theorem dX8_triedOf_42 : decode cX8_triedOf 42 = .ok (.ireturn, 1) := by decide +kernel
theorem dX8_split_0 : decode cX8_split 0 = .ok (.aload_n 0, 1) := by decide +kernel
theorem dX8_split_1 : decode cX8_split 1 = .ok (.iload_n 1, 1) := by decide +kernel
theorem dX8_split_2 : decode cX8_split 2 = .ok (.iload_n 2, 1) := by decide +kernel
theorem dX8_split_3 : decode cX8_split 3 = .ok (.invokevirtual 130, 3) := by decide +kernel
theorem dX8_split_6 : decode cX8_split 6 = .ok (.ifCond .eq 5, 3) := by decide +kernel
theorem dX8_split_9 : decode cX8_split 9 = .ok (.iconst (-1), 1) := by decide +kernel
theorem dX8_split_10 : decode cX8_split 10 = .ok (.ireturn, 1) := by decide +kernel
theorem dX8_split_11 : decode cX8_split 11 = .ok (.iload_n 3, 1) := by decide +kernel
theorem dX8_split_12 : decode cX8_split 12 = .ok (.bipush (-30), 2) := by decide +kernel
theorem dX8_split_14 : decode cX8_split 14 = .ok (.bipush 30, 2) := by decide +kernel
theorem dX8_split_16 : decode cX8_split 16 = .ok (.invokestatic 115, 3) := by decide +kernel
theorem dX8_split_19 : decode cX8_split 19 = .ok (.ifCond .ne 6, 3) := by decide +kernel
theorem dX8_split_22 : decode cX8_split 22 = .ok (.bipush (-2), 2) := by decide +kernel
theorem dX8_split_24 : decode cX8_split 24 = .ok (.ireturn, 1) := by decide +kernel
theorem dX8_split_25 : decode cX8_split 25 = .ok (.aload_n 0, 1) := by decide +kernel
theorem dX8_split_26 : decode cX8_split 26 = .ok (.getfield 16, 3) := by decide +kernel
theorem dX8_split_29 : decode cX8_split 29 = .ok (.iload_n 1, 1) := by decide +kernel
theorem dX8_split_30 : decode cX8_split 30 = .ok (.iconst 1, 1) := by decide +kernel
theorem dX8_split_31 : decode cX8_split 31 = .ok (.bastore, 1) := by decide +kernel
theorem dX8_split_32 : decode cX8_split 32 = .ok (.aload_n 0, 1) := by decide +kernel
theorem dX8_split_33 : decode cX8_split 33 = .ok (.getfield 20, 3) := by decide +kernel
theorem dX8_split_36 : decode cX8_split 36 = .ok (.iload_n 1, 1) := by decide +kernel
theorem dX8_split_37 : decode cX8_split 37 = .ok (.iload_n 2, 1) := by decide +kernel
theorem dX8_split_38 : decode cX8_split 38 = .ok (.iastore, 1) := by decide +kernel
theorem dX8_split_39 : decode cX8_split 39 = .ok (.aload_n 0, 1) := by decide +kernel
theorem dX8_split_40 : decode cX8_split 40 = .ok (.getfield 23, 3) := by decide +kernel
theorem dX8_split_43 : decode cX8_split 43 = .ok (.iload_n 1, 1) := by decide +kernel
theorem dX8_split_44 : decode cX8_split 44 = .ok (.iload_n 3, 1) := by decide +kernel
theorem dX8_split_45 : decode cX8_split 45 = .ok (.iastore, 1) := by decide +kernel
theorem dX8_split_46 : decode cX8_split 46 = .ok (.aload_n 0, 1) := by decide +kernel
theorem dX8_split_47 : decode cX8_split 47 = .ok (.iload_n 1, 1) := by decide +kernel
theorem dX8_split_48 : decode cX8_split 48 = .ok (.iconst 1, 1) := by decide +kernel
theorem dX8_split_49 : decode cX8_split 49 = .ok (.invokevirtual 134, 3) := by decide +kernel
theorem dX8_split_52 : decode cX8_split 52 = .ok (.ireturn, 1) := by decide +kernel
theorem dX8_reading_0 : decode cX8_reading 0 = .ok (.aload_n 0, 1) := by decide +kernel
theorem dX8_reading_1 : decode cX8_reading 1 = .ok (.iload_n 1, 1) := by decide +kernel
theorem dX8_reading_2 : decode cX8_reading 2 = .ok (.iload_n 3, 1) := by decide +kernel
theorem dX8_reading_3 : decode cX8_reading 3 = .ok (.invokevirtual 130, 3) := by decide +kernel
theorem dX8_reading_6 : decode cX8_reading 6 = .ok (.ifCond .ne 19, 3) := by decide +kernel
theorem dX8_reading_9 : decode cX8_reading 9 = .ok (.iload_n 2, 1) := by decide +kernel
theorem dX8_reading_10 : decode cX8_reading 10 = .ok (.iconst 0, 1) := by decide +kernel
theorem dX8_reading_11 : decode cX8_reading 11 = .ok (.aload_n 0, 1) := by decide +kernel
theorem dX8_reading_12 : decode cX8_reading 12 = .ok (.getfield 13, 3) := by decide +kernel
theorem dX8_reading_15 : decode cX8_reading 15 = .ok (.iload_n 1, 1) := by decide +kernel
theorem dX8_reading_16 : decode cX8_reading 16 = .ok (.iaload, 1) := by decide +kernel
theorem dX8_reading_17 : decode cX8_reading 17 = .ok (.iconst 1, 1) := by decide +kernel
theorem dX8_reading_18 : decode cX8_reading 18 = .ok (.isub, 1) := by decide +kernel
theorem dX8_reading_19 : decode cX8_reading 19 = .ok (.invokestatic 115, 3) := by decide +kernel
theorem dX8_reading_22 : decode cX8_reading 22 = .ok (.ifCond .ne 8, 3) := by decide +kernel
theorem dX8_reading_25 : decode cX8_reading 25 = .ok (.bipush (-9), 2) := by decide +kernel
theorem dX8_reading_27 : decode cX8_reading 27 = .ok (.goto 10, 3) := by decide +kernel
theorem dX8_reading_30 : decode cX8_reading 30 = .ok (.aload_n 0, 1) := by decide +kernel
theorem dX8_reading_31 : decode cX8_reading 31 = .ok (.iload_n 1, 1) := by decide +kernel
theorem dX8_reading_32 : decode cX8_reading 32 = .ok (.iload_n 2, 1) := by decide +kernel
theorem dX8_reading_33 : decode cX8_reading 33 = .ok (.iload_n 3, 1) := by decide +kernel
theorem dX8_reading_34 : decode cX8_reading 34 = .ok (.invokevirtual 123, 3) := by decide +kernel
theorem dX8_reading_37 : decode cX8_reading 37 = .ok (.ireturn, 1) := by decide +kernel
theorem dX8_noSide_0 : decode cX8_noSide 0 = .ok (.aload_n 0, 1) := by decide +kernel
theorem dX8_noSide_1 : decode cX8_noSide 1 = .ok (.iload_n 1, 1) := by decide +kernel
theorem dX8_noSide_2 : decode cX8_noSide 2 = .ok (.invokevirtual 119, 3) := by decide +kernel
theorem dX8_noSide_5 : decode cX8_noSide 5 = .ok (.ifCond .ne 12, 3) := by decide +kernel
theorem dX8_noSide_8 : decode cX8_noSide 8 = .ok (.iload_n 2, 1) := by decide +kernel
theorem dX8_noSide_9 : decode cX8_noSide 9 = .ok (.iconst 0, 1) := by decide +kernel
theorem dX8_noSide_10 : decode cX8_noSide 10 = .ok (.iconst 2, 1) := by decide +kernel
theorem dX8_noSide_11 : decode cX8_noSide 11 = .ok (.invokestatic 115, 3) := by decide +kernel
theorem dX8_noSide_14 : decode cX8_noSide 14 = .ok (.ifCond .ne 7, 3) := by decide +kernel
theorem dX8_noSide_17 : decode cX8_noSide 17 = .ok (.iconst 1, 1) := by decide +kernel
theorem dX8_noSide_18 : decode cX8_noSide 18 = .ok (.goto 4, 3) := by decide +kernel
theorem dX8_noSide_21 : decode cX8_noSide 21 = .ok (.iconst 0, 1) := by decide +kernel
theorem dX8_noSide_22 : decode cX8_noSide 22 = .ok (.ireturn, 1) := by decide +kernel
theorem dX8_tried_0 : decode cX8_tried 0 = .ok (.aload_n 0, 1) := by decide +kernel
theorem dX8_tried_1 : decode cX8_tried 1 = .ok (.iload_n 1, 1) := by decide +kernel
theorem dX8_tried_2 : decode cX8_tried 2 = .ok (.iload_n 2, 1) := by decide +kernel
theorem dX8_tried_3 : decode cX8_tried 3 = .ok (.invokevirtual 138, 3) := by decide +kernel
theorem dX8_tried_6 : decode cX8_tried 6 = .ok (.ifCond .eq 7, 3) := by decide +kernel
theorem dX8_tried_9 : decode cX8_tried 9 = .ok (.iconst (-1), 1) := by decide +kernel
theorem dX8_tried_10 : decode cX8_tried 10 = .ok (.goto 9, 3) := by decide +kernel
theorem dX8_tried_13 : decode cX8_tried 13 = .ok (.aload_n 0, 1) := by decide +kernel
theorem dX8_tried_14 : decode cX8_tried 14 = .ok (.iload_n 1, 1) := by decide +kernel
theorem dX8_tried_15 : decode cX8_tried 15 = .ok (.iload_n 2, 1) := by decide +kernel
theorem dX8_tried_16 : decode cX8_tried 16 = .ok (.invokevirtual 134, 3) := by decide +kernel
theorem dX8_tried_19 : decode cX8_tried 19 = .ok (.ireturn, 1) := by decide +kernel
theorem dX8_variables_0 : decode cX8_variables 0 = .ok (.aload_n 0, 1) := by decide +kernel
theorem dX8_variables_1 : decode cX8_variables 1 = .ok (.iload_n 1, 1) := by decide +kernel
theorem dX8_variables_2 : decode cX8_variables 2 = .ok (.invokevirtual 119, 3) := by decide +kernel
theorem dX8_variables_5 : decode cX8_variables 5 = .ok (.ifCond .eq 7, 3) := by decide +kernel
theorem dX8_variables_8 : decode cX8_variables 8 = .ok (.iconst (-1), 1) := by decide +kernel
theorem dX8_variables_9 : decode cX8_variables 9 = .ok (.goto 9, 3) := by decide +kernel
theorem dX8_variables_12 : decode cX8_variables 12 = .ok (.aload_n 0, 1) := by decide +kernel
theorem dX8_variables_13 : decode cX8_variables 13 = .ok (.getfield 7, 3) := by decide +kernel
theorem dX8_variables_16 : decode cX8_variables 16 = .ok (.iload_n 1, 1) := by decide +kernel
theorem dX8_variables_17 : decode cX8_variables 17 = .ok (.iaload, 1) := by decide +kernel
theorem dX8_variables_18 : decode cX8_variables 18 = .ok (.ireturn, 1) := by decide +kernel
theorem dX8_gather_0 : decode cX8_gather 0 = .ok (.aload_n 0, 1) := by decide +kernel
theorem dX8_gather_1 : decode cX8_gather 1 = .ok (.iconst 0, 1) := by decide +kernel
theorem dX8_gather_2 : decode cX8_gather 2 = .ok (.putfield 141, 3) := by decide +kernel
theorem dX8_gather_5 : decode cX8_gather 5 = .ok (.iconst 0, 1) := by decide +kernel
theorem dX8_gather_6 : decode cX8_gather 6 = .ok (.istore 4, 2) := by decide +kernel
theorem dX8_gather_8 : decode cX8_gather 8 = .ok (.iload 4, 2) := by decide +kernel
theorem dX8_gather_10 : decode cX8_gather 10 = .ok (.aload_n 0, 1) := by decide +kernel
theorem dX8_gather_11 : decode cX8_gather 11 = .ok (.getfield 13, 3) := by decide +kernel
theorem dX8_gather_14 : decode cX8_gather 14 = .ok (.iload_n 1, 1) := by decide +kernel
theorem dX8_gather_15 : decode cX8_gather 15 = .ok (.iaload, 1) := by decide +kernel
theorem dX8_gather_16 : decode cX8_gather 16 = .ok (.if_icmp .ge 40, 3) := by decide +kernel
theorem dX8_gather_19 : decode cX8_gather 19 = .ok (.aload_n 0, 1) := by decide +kernel
theorem dX8_gather_20 : decode cX8_gather 20 = .ok (.getfield 141, 3) := by decide +kernel
theorem dX8_gather_23 : decode cX8_gather 23 = .ok (.iconst 4, 1) := by decide +kernel
theorem dX8_gather_24 : decode cX8_gather 24 = .ok (.if_icmp .ge 32, 3) := by decide +kernel
theorem dX8_gather_27 : decode cX8_gather 27 = .ok (.aload_n 0, 1) := by decide +kernel
theorem dX8_gather_28 : decode cX8_gather 28 = .ok (.iload_n 1, 1) := by decide +kernel
theorem dX8_gather_29 : decode cX8_gather 29 = .ok (.iload_n 2, 1) := by decide +kernel
theorem dX8_gather_30 : decode cX8_gather 30 = .ok (.iload 4, 2) := by decide +kernel
theorem dX8_gather_32 : decode cX8_gather 32 = .ok (.invokevirtual 127, 3) := by decide +kernel
theorem dX8_gather_35 : decode cX8_gather 35 = .ok (.ifCond .eq 15, 3) := by decide +kernel
theorem dX8_gather_38 : decode cX8_gather 38 = .ok (.aload_n 0, 1) := by decide +kernel
theorem dX8_gather_39 : decode cX8_gather 39 = .ok (.aload_n 0, 1) := by decide +kernel
theorem dX8_gather_40 : decode cX8_gather 40 = .ok (.iload_n 1, 1) := by decide +kernel
theorem dX8_gather_41 : decode cX8_gather 41 = .ok (.iload 4, 2) := by decide +kernel
theorem dX8_gather_43 : decode cX8_gather 43 = .ok (.iload_n 3, 1) := by decide +kernel
theorem dX8_gather_44 : decode cX8_gather 44 = .ok (.invokevirtual 123, 3) := by decide +kernel
theorem dX8_gather_47 : decode cX8_gather 47 = .ok (.invokevirtual 144, 3) := by decide +kernel
theorem dX8_gather_50 : decode cX8_gather 50 = .ok (.iinc 4 1, 3) := by decide +kernel
theorem dX8_gather_53 : decode cX8_gather 53 = .ok (.goto (-45), 3) := by decide +kernel
theorem dX8_gather_56 : decode cX8_gather 56 = .ok (.return_, 1) := by decide +kernel
theorem dX8_addFew_0 : decode cX8_addFew 0 = .ok (.iconst 0, 1) := by decide +kernel
theorem dX8_addFew_1 : decode cX8_addFew 1 = .ok (.istore_n 2, 1) := by decide +kernel
theorem dX8_addFew_2 : decode cX8_addFew 2 = .ok (.iload_n 2, 1) := by decide +kernel
theorem dX8_addFew_3 : decode cX8_addFew 3 = .ok (.aload_n 0, 1) := by decide +kernel
theorem dX8_addFew_4 : decode cX8_addFew 4 = .ok (.getfield 141, 3) := by decide +kernel
theorem dX8_addFew_7 : decode cX8_addFew 7 = .ok (.if_icmp .ge 19, 3) := by decide +kernel
theorem dX8_addFew_10 : decode cX8_addFew 10 = .ok (.aload_n 0, 1) := by decide +kernel
theorem dX8_addFew_11 : decode cX8_addFew 11 = .ok (.getfield 29, 3) := by decide +kernel
theorem dX8_addFew_14 : decode cX8_addFew 14 = .ok (.iload_n 2, 1) := by decide +kernel
theorem dX8_addFew_15 : decode cX8_addFew 15 = .ok (.iaload, 1) := by decide +kernel
theorem dX8_addFew_16 : decode cX8_addFew 16 = .ok (.iload_n 1, 1) := by decide +kernel
theorem dX8_addFew_17 : decode cX8_addFew 17 = .ok (.if_icmp .ge 9, 3) := by decide +kernel
theorem dX8_addFew_20 : decode cX8_addFew 20 = .ok (.iinc 2 1, 3) := by decide +kernel
theorem dX8_addFew_23 : decode cX8_addFew 23 = .ok (.goto (-21), 3) := by decide +kernel
theorem dX8_addFew_26 : decode cX8_addFew 26 = .ok (.iload_n 2, 1) := by decide +kernel
theorem dX8_addFew_27 : decode cX8_addFew 27 = .ok (.aload_n 0, 1) := by decide +kernel
theorem dX8_addFew_28 : decode cX8_addFew 28 = .ok (.getfield 141, 3) := by decide +kernel
theorem dX8_addFew_31 : decode cX8_addFew 31 = .ok (.if_icmp .ge 14, 3) := by decide +kernel
theorem dX8_addFew_34 : decode cX8_addFew 34 = .ok (.aload_n 0, 1) := by decide +kernel
theorem dX8_addFew_35 : decode cX8_addFew 35 = .ok (.getfield 29, 3) := by decide +kernel
theorem dX8_addFew_38 : decode cX8_addFew 38 = .ok (.iload_n 2, 1) := by decide +kernel
theorem dX8_addFew_39 : decode cX8_addFew 39 = .ok (.iaload, 1) := by decide +kernel
theorem dX8_addFew_40 : decode cX8_addFew 40 = .ok (.iload_n 1, 1) := by decide +kernel
theorem dX8_addFew_41 : decode cX8_addFew 41 = .ok (.if_icmp .ne 4, 3) := by decide +kernel
theorem dX8_addFew_44 : decode cX8_addFew 44 = .ok (.return_, 1) := by decide +kernel
theorem dX8_addFew_45 : decode cX8_addFew 45 = .ok (.aload_n 0, 1) := by decide +kernel
theorem dX8_addFew_46 : decode cX8_addFew 46 = .ok (.getfield 141, 3) := by decide +kernel
theorem dX8_addFew_49 : decode cX8_addFew 49 = .ok (.istore_n 3, 1) := by decide +kernel
theorem dX8_addFew_50 : decode cX8_addFew 50 = .ok (.iload_n 3, 1) := by decide +kernel
theorem dX8_addFew_51 : decode cX8_addFew 51 = .ok (.iload_n 2, 1) := by decide +kernel
theorem dX8_addFew_52 : decode cX8_addFew 52 = .ok (.if_icmp .le 23, 3) := by decide +kernel
theorem dX8_addFew_55 : decode cX8_addFew 55 = .ok (.aload_n 0, 1) := by decide +kernel
theorem dX8_addFew_56 : decode cX8_addFew 56 = .ok (.getfield 29, 3) := by decide +kernel
theorem dX8_addFew_59 : decode cX8_addFew 59 = .ok (.iload_n 3, 1) := by decide +kernel
theorem dX8_addFew_60 : decode cX8_addFew 60 = .ok (.aload_n 0, 1) := by decide +kernel
theorem dX8_addFew_61 : decode cX8_addFew 61 = .ok (.getfield 29, 3) := by decide +kernel
theorem dX8_addFew_64 : decode cX8_addFew 64 = .ok (.iload_n 3, 1) := by decide +kernel
theorem dX8_addFew_65 : decode cX8_addFew 65 = .ok (.iconst 1, 1) := by decide +kernel
theorem dX8_addFew_66 : decode cX8_addFew 66 = .ok (.isub, 1) := by decide +kernel
theorem dX8_addFew_67 : decode cX8_addFew 67 = .ok (.iaload, 1) := by decide +kernel
theorem dX8_addFew_68 : decode cX8_addFew 68 = .ok (.iastore, 1) := by decide +kernel
theorem dX8_addFew_69 : decode cX8_addFew 69 = .ok (.iinc 3 (-1), 3) := by decide +kernel
theorem dX8_addFew_72 : decode cX8_addFew 72 = .ok (.goto (-22), 3) := by decide +kernel
theorem dX8_addFew_75 : decode cX8_addFew 75 = .ok (.aload_n 0, 1) := by decide +kernel
theorem dX8_addFew_76 : decode cX8_addFew 76 = .ok (.getfield 29, 3) := by decide +kernel
theorem dX8_addFew_79 : decode cX8_addFew 79 = .ok (.iload_n 2, 1) := by decide +kernel
theorem dX8_addFew_80 : decode cX8_addFew 80 = .ok (.iload_n 1, 1) := by decide +kernel
theorem dX8_addFew_81 : decode cX8_addFew 81 = .ok (.iastore, 1) := by decide +kernel
theorem dX8_addFew_82 : decode cX8_addFew 82 = .ok (.aload_n 0, 1) := by decide +kernel
theorem dX8_addFew_83 : decode cX8_addFew 83 = .ok (.dup, 1) := by decide +kernel
theorem dX8_addFew_84 : decode cX8_addFew 84 = .ok (.getfield 141, 3) := by decide +kernel
theorem dX8_addFew_87 : decode cX8_addFew 87 = .ok (.iconst 1, 1) := by decide +kernel
theorem dX8_addFew_88 : decode cX8_addFew 88 = .ok (.iadd, 1) := by decide +kernel
theorem dX8_addFew_89 : decode cX8_addFew 89 = .ok (.putfield 141, 3) := by decide +kernel
theorem dX8_addFew_92 : decode cX8_addFew 92 = .ok (.return_, 1) := by decide +kernel
theorem dX8_extreme_0 : decode cX8_extreme 0 = .ok (.iconst 0, 1) := by decide +kernel
theorem dX8_extreme_1 : decode cX8_extreme 1 = .ok (.istore 5, 2) := by decide +kernel
theorem dX8_extreme_3 : decode cX8_extreme 3 = .ok (.iconst 0, 1) := by decide +kernel
theorem dX8_extreme_4 : decode cX8_extreme 4 = .ok (.istore 6, 2) := by decide +kernel
theorem dX8_extreme_6 : decode cX8_extreme 6 = .ok (.iconst 0, 1) := by decide +kernel
theorem dX8_extreme_7 : decode cX8_extreme 7 = .ok (.istore 7, 2) := by decide +kernel
theorem dX8_extreme_9 : decode cX8_extreme 9 = .ok (.iload 7, 2) := by decide +kernel
theorem dX8_extreme_11 : decode cX8_extreme 11 = .ok (.aload_n 0, 1) := by decide +kernel
theorem dX8_extreme_12 : decode cX8_extreme 12 = .ok (.getfield 13, 3) := by decide +kernel
theorem dX8_extreme_15 : decode cX8_extreme 15 = .ok (.iload_n 1, 1) := by decide +kernel
theorem dX8_extreme_16 : decode cX8_extreme 16 = .ok (.iaload, 1) := by decide +kernel
theorem dX8_extreme_17 : decode cX8_extreme 17 = .ok (.if_icmp .ge 69, 3) := by decide +kernel
theorem dX8_extreme_20 : decode cX8_extreme 20 = .ok (.aload_n 0, 1) := by decide +kernel
theorem dX8_extreme_21 : decode cX8_extreme 21 = .ok (.iload_n 1, 1) := by decide +kernel
theorem dX8_extreme_22 : decode cX8_extreme 22 = .ok (.iload_n 2, 1) := by decide +kernel
theorem dX8_extreme_23 : decode cX8_extreme 23 = .ok (.iload 7, 2) := by decide +kernel
theorem dX8_extreme_25 : decode cX8_extreme 25 = .ok (.invokevirtual 127, 3) := by decide +kernel
theorem dX8_extreme_28 : decode cX8_extreme 28 = .ok (.ifCond .eq 52, 3) := by decide +kernel
theorem dX8_extreme_31 : decode cX8_extreme 31 = .ok (.aload_n 0, 1) := by decide +kernel
theorem dX8_extreme_32 : decode cX8_extreme 32 = .ok (.iload_n 1, 1) := by decide +kernel
theorem dX8_extreme_33 : decode cX8_extreme 33 = .ok (.iload 7, 2) := by decide +kernel
theorem dX8_extreme_35 : decode cX8_extreme 35 = .ok (.iload_n 3, 1) := by decide +kernel
theorem dX8_extreme_36 : decode cX8_extreme 36 = .ok (.invokevirtual 123, 3) := by decide +kernel
theorem dX8_extreme_39 : decode cX8_extreme 39 = .ok (.istore 8, 2) := by decide +kernel
theorem dX8_extreme_41 : decode cX8_extreme 41 = .ok (.iload 6, 2) := by decide +kernel
theorem dX8_extreme_43 : decode cX8_extreme 43 = .ok (.ifCond .eq 25, 3) := by decide +kernel
theorem dX8_extreme_46 : decode cX8_extreme 46 = .ok (.iload 4, 2) := by decide +kernel
theorem dX8_extreme_48 : decode cX8_extreme 48 = .ok (.ifCond .eq 13, 3) := by decide +kernel
theorem dX8_extreme_51 : decode cX8_extreme 51 = .ok (.iload 8, 2) := by decide +kernel
theorem dX8_extreme_53 : decode cX8_extreme 53 = .ok (.iload 5, 2) := by decide +kernel
theorem dX8_extreme_55 : decode cX8_extreme 55 = .ok (.if_icmp .le 18, 3) := by decide +kernel
theorem dX8_extreme_58 : decode cX8_extreme 58 = .ok (.goto 10, 3) := by decide +kernel
theorem dX8_extreme_61 : decode cX8_extreme 61 = .ok (.iload 8, 2) := by decide +kernel
theorem dX8_extreme_63 : decode cX8_extreme 63 = .ok (.iload 5, 2) := by decide +kernel
theorem dX8_extreme_65 : decode cX8_extreme 65 = .ok (.if_icmp .ge 8, 3) := by decide +kernel
theorem dX8_extreme_68 : decode cX8_extreme 68 = .ok (.iload 8, 2) := by decide +kernel
theorem dX8_extreme_70 : decode cX8_extreme 70 = .ok (.goto 5, 3) := by decide +kernel
theorem dX8_extreme_73 : decode cX8_extreme 73 = .ok (.iload 5, 2) := by decide +kernel
theorem dX8_extreme_75 : decode cX8_extreme 75 = .ok (.istore 5, 2) := by decide +kernel
theorem dX8_extreme_77 : decode cX8_extreme 77 = .ok (.iconst 1, 1) := by decide +kernel
theorem dX8_extreme_78 : decode cX8_extreme 78 = .ok (.istore 6, 2) := by decide +kernel
theorem dX8_extreme_80 : decode cX8_extreme 80 = .ok (.iinc 7 1, 3) := by decide +kernel
theorem dX8_extreme_83 : decode cX8_extreme 83 = .ok (.goto (-74), 3) := by decide +kernel
theorem dX8_extreme_86 : decode cX8_extreme 86 = .ok (.iload 5, 2) := by decide +kernel
theorem dX8_extreme_88 : decode cX8_extreme 88 = .ok (.ireturn, 1) := by decide +kernel
theorem dX8_restOf_0 : decode cX8_restOf 0 = .ok (.iload_n 0, 1) := by decide +kernel
theorem dX8_restOf_1 : decode cX8_restOf 1 = .ok (.iload_n 1, 1) := by decide +kernel
theorem dX8_restOf_2 : decode cX8_restOf 2 = .ok (.irem, 1) := by decide +kernel
theorem dX8_restOf_3 : decode cX8_restOf 3 = .ok (.istore_n 2, 1) := by decide +kernel
theorem dX8_restOf_4 : decode cX8_restOf 4 = .ok (.iload_n 2, 1) := by decide +kernel
theorem dX8_restOf_5 : decode cX8_restOf 5 = .ok (.ifCond .ge 9, 3) := by decide +kernel
theorem dX8_restOf_8 : decode cX8_restOf 8 = .ok (.iload_n 2, 1) := by decide +kernel
theorem dX8_restOf_9 : decode cX8_restOf 9 = .ok (.iload_n 1, 1) := by decide +kernel
theorem dX8_restOf_10 : decode cX8_restOf 10 = .ok (.iadd, 1) := by decide +kernel
theorem dX8_restOf_11 : decode cX8_restOf 11 = .ok (.goto 4, 3) := by decide +kernel
theorem dX8_restOf_14 : decode cX8_restOf 14 = .ok (.iload_n 2, 1) := by decide +kernel
theorem dX8_restOf_15 : decode cX8_restOf 15 = .ok (.ireturn, 1) := by decide +kernel
theorem dX8_modulus_0 : decode cX8_modulus 0 = .ok (.bipush 12, 2) := by decide +kernel
theorem dX8_modulus_2 : decode cX8_modulus 2 = .ok (.istore 4, 2) := by decide +kernel
theorem dX8_modulus_4 : decode cX8_modulus 4 = .ok (.iload 4, 2) := by decide +kernel
theorem dX8_modulus_6 : decode cX8_modulus 6 = .ok (.iconst 1, 1) := by decide +kernel
theorem dX8_modulus_7 : decode cX8_modulus 7 = .ok (.if_icmp .le 97, 3) := by decide +kernel
theorem dX8_modulus_10 : decode cX8_modulus 10 = .ok (.iconst (-1), 1) := by decide +kernel
theorem dX8_modulus_11 : decode cX8_modulus 11 = .ok (.istore 5, 2) := by decide +kernel
theorem dX8_modulus_13 : decode cX8_modulus 13 = .ok (.iconst 1, 1) := by decide +kernel
theorem dX8_modulus_14 : decode cX8_modulus 14 = .ok (.istore 6, 2) := by decide +kernel
theorem dX8_modulus_16 : decode cX8_modulus 16 = .ok (.iconst 0, 1) := by decide +kernel
theorem dX8_modulus_17 : decode cX8_modulus 17 = .ok (.istore 7, 2) := by decide +kernel
theorem dX8_modulus_19 : decode cX8_modulus 19 = .ok (.iload 7, 2) := by decide +kernel
theorem dX8_modulus_21 : decode cX8_modulus 21 = .ok (.aload_n 0, 1) := by decide +kernel
theorem dX8_modulus_22 : decode cX8_modulus 22 = .ok (.getfield 13, 3) := by decide +kernel
theorem dX8_modulus_25 : decode cX8_modulus 25 = .ok (.iload_n 1, 1) := by decide +kernel
theorem dX8_modulus_26 : decode cX8_modulus 26 = .ok (.iaload, 1) := by decide +kernel
theorem dX8_modulus_27 : decode cX8_modulus 27 = .ok (.if_icmp .ge 63, 3) := by decide +kernel
theorem dX8_modulus_30 : decode cX8_modulus 30 = .ok (.iload 6, 2) := by decide +kernel
theorem dX8_modulus_32 : decode cX8_modulus 32 = .ok (.ifCond .eq 58, 3) := by decide +kernel
theorem dX8_modulus_35 : decode cX8_modulus 35 = .ok (.aload_n 0, 1) := by decide +kernel
theorem dX8_modulus_36 : decode cX8_modulus 36 = .ok (.iload_n 1, 1) := by decide +kernel
theorem dX8_modulus_37 : decode cX8_modulus 37 = .ok (.iload_n 2, 1) := by decide +kernel
theorem dX8_modulus_38 : decode cX8_modulus 38 = .ok (.iload 7, 2) := by decide +kernel
theorem dX8_modulus_40 : decode cX8_modulus 40 = .ok (.invokevirtual 127, 3) := by decide +kernel
theorem dX8_modulus_43 : decode cX8_modulus 43 = .ok (.ifCond .eq 41, 3) := by decide +kernel
theorem dX8_modulus_46 : decode cX8_modulus 46 = .ok (.aload_n 0, 1) := by decide +kernel
theorem dX8_modulus_47 : decode cX8_modulus 47 = .ok (.iload_n 1, 1) := by decide +kernel
theorem dX8_modulus_48 : decode cX8_modulus 48 = .ok (.iload 7, 2) := by decide +kernel
theorem dX8_modulus_50 : decode cX8_modulus 50 = .ok (.iload_n 3, 1) := by decide +kernel
theorem dX8_modulus_51 : decode cX8_modulus 51 = .ok (.invokevirtual 123, 3) := by decide +kernel
theorem dX8_modulus_54 : decode cX8_modulus 54 = .ok (.iload 4, 2) := by decide +kernel
theorem dX8_modulus_56 : decode cX8_modulus 56 = .ok (.invokestatic 148, 3) := by decide +kernel
theorem dX8_modulus_59 : decode cX8_modulus 59 = .ok (.istore 8, 2) := by decide +kernel
theorem dX8_modulus_61 : decode cX8_modulus 61 = .ok (.iload 5, 2) := by decide +kernel
theorem dX8_modulus_63 : decode cX8_modulus 63 = .ok (.ifCond .lt 10, 3) := by decide +kernel
theorem dX8_modulus_66 : decode cX8_modulus 66 = .ok (.iload 5, 2) := by decide +kernel
theorem dX8_modulus_68 : decode cX8_modulus 68 = .ok (.iload 8, 2) := by decide +kernel
theorem dX8_modulus_70 : decode cX8_modulus 70 = .ok (.if_icmp .ne 7, 3) := by decide +kernel
theorem dX8_modulus_73 : decode cX8_modulus 73 = .ok (.iconst 1, 1) := by decide +kernel
theorem dX8_modulus_74 : decode cX8_modulus 74 = .ok (.goto 4, 3) := by decide +kernel
theorem dX8_modulus_77 : decode cX8_modulus 77 = .ok (.iconst 0, 1) := by decide +kernel
theorem dX8_modulus_78 : decode cX8_modulus 78 = .ok (.istore 6, 2) := by decide +kernel
theorem dX8_modulus_80 : decode cX8_modulus 80 = .ok (.iload 8, 2) := by decide +kernel
theorem dX8_modulus_82 : decode cX8_modulus 82 = .ok (.istore 5, 2) := by decide +kernel
theorem dX8_modulus_84 : decode cX8_modulus 84 = .ok (.iinc 7 1, 3) := by decide +kernel
theorem dX8_modulus_87 : decode cX8_modulus 87 = .ok (.goto (-68), 3) := by decide +kernel
theorem dX8_modulus_90 : decode cX8_modulus 90 = .ok (.iload 6, 2) := by decide +kernel
theorem dX8_modulus_92 : decode cX8_modulus 92 = .ok (.ifCond .eq 6, 3) := by decide +kernel
theorem dX8_modulus_95 : decode cX8_modulus 95 = .ok (.iload 4, 2) := by decide +kernel
theorem dX8_modulus_97 : decode cX8_modulus 97 = .ok (.ireturn, 1) := by decide +kernel
theorem dX8_modulus_98 : decode cX8_modulus 98 = .ok (.iinc 4 (-1), 3) := by decide +kernel
theorem dX8_modulus_101 : decode cX8_modulus 101 = .ok (.goto (-97), 3) := by decide +kernel
theorem dX8_modulus_104 : decode cX8_modulus 104 = .ok (.iconst 0, 1) := by decide +kernel
theorem dX8_modulus_105 : decode cX8_modulus 105 = .ok (.ireturn, 1) := by decide +kernel
theorem dX8_goes_0 : decode cX8_goes 0 = .ok (.iload_n 0, 1) := by decide +kernel
theorem dX8_goes_1 : decode cX8_goes 1 = .ok (.iconst 5, 1) := by decide +kernel
theorem dX8_goes_2 : decode cX8_goes 2 = .ok (.if_icmp .ne 16, 3) := by decide +kernel
theorem dX8_goes_5 : decode cX8_goes 5 = .ok (.iload_n 1, 1) := by decide +kernel
theorem dX8_goes_6 : decode cX8_goes 6 = .ok (.iload_n 2, 1) := by decide +kernel
theorem dX8_goes_7 : decode cX8_goes 7 = .ok (.if_icmp .ne 7, 3) := by decide +kernel
theorem dX8_goes_10 : decode cX8_goes 10 = .ok (.iconst 1, 1) := by decide +kernel
theorem dX8_goes_11 : decode cX8_goes 11 = .ok (.goto 55, 3) := by decide +kernel
theorem dX8_goes_14 : decode cX8_goes 14 = .ok (.iconst 0, 1) := by decide +kernel
theorem dX8_goes_15 : decode cX8_goes 15 = .ok (.goto 51, 3) := by decide +kernel
theorem dX8_goes_18 : decode cX8_goes 18 = .ok (.iload_n 0, 1) := by decide +kernel
theorem dX8_goes_19 : decode cX8_goes 19 = .ok (.bipush 6, 2) := by decide +kernel
theorem dX8_goes_21 : decode cX8_goes 21 = .ok (.if_icmp .ne 16, 3) := by decide +kernel
theorem dX8_goes_24 : decode cX8_goes 24 = .ok (.iload_n 1, 1) := by decide +kernel
theorem dX8_goes_25 : decode cX8_goes 25 = .ok (.iload_n 2, 1) := by decide +kernel
theorem dX8_goes_26 : decode cX8_goes 26 = .ok (.if_icmp .ge 7, 3) := by decide +kernel
theorem dX8_goes_29 : decode cX8_goes 29 = .ok (.iconst 1, 1) := by decide +kernel
theorem dX8_goes_30 : decode cX8_goes 30 = .ok (.goto 36, 3) := by decide +kernel
theorem dX8_goes_33 : decode cX8_goes 33 = .ok (.iconst 0, 1) := by decide +kernel
theorem dX8_goes_34 : decode cX8_goes 34 = .ok (.goto 32, 3) := by decide +kernel
theorem dX8_goes_37 : decode cX8_goes 37 = .ok (.iload_n 0, 1) := by decide +kernel
theorem dX8_goes_38 : decode cX8_goes 38 = .ok (.bipush 7, 2) := by decide +kernel
theorem dX8_goes_40 : decode cX8_goes 40 = .ok (.if_icmp .ne 16, 3) := by decide +kernel
theorem dX8_goes_43 : decode cX8_goes 43 = .ok (.iload_n 1, 1) := by decide +kernel
theorem dX8_goes_44 : decode cX8_goes 44 = .ok (.iload_n 2, 1) := by decide +kernel
theorem dX8_goes_45 : decode cX8_goes 45 = .ok (.if_icmp .gt 7, 3) := by decide +kernel
theorem dX8_goes_48 : decode cX8_goes 48 = .ok (.iconst 1, 1) := by decide +kernel
theorem dX8_goes_49 : decode cX8_goes 49 = .ok (.goto 17, 3) := by decide +kernel
theorem dX8_goes_52 : decode cX8_goes 52 = .ok (.iconst 0, 1) := by decide +kernel
theorem dX8_goes_53 : decode cX8_goes 53 = .ok (.goto 13, 3) := by decide +kernel
theorem dX8_goes_56 : decode cX8_goes 56 = .ok (.iload_n 1, 1) := by decide +kernel
theorem dX8_goes_57 : decode cX8_goes 57 = .ok (.iload_n 2, 1) := by decide +kernel
theorem dX8_goes_58 : decode cX8_goes 58 = .ok (.if_icmp .eq 7, 3) := by decide +kernel
theorem dX8_goes_61 : decode cX8_goes 61 = .ok (.iconst 1, 1) := by decide +kernel
theorem dX8_goes_62 : decode cX8_goes 62 = .ok (.goto 4, 3) := by decide +kernel
theorem dX8_goes_65 : decode cX8_goes 65 = .ok (.iconst 0, 1) := by decide +kernel
theorem dX8_goes_66 : decode cX8_goes 66 = .ok (.ireturn, 1) := by decide +kernel
theorem dX8_isTwo_0 : decode cX8_isTwo 0 = .ok (.iconst 1, 1) := by decide +kernel
theorem dX8_isTwo_1 : decode cX8_isTwo 1 = .ok (.istore 6, 2) := by decide +kernel
theorem dX8_isTwo_3 : decode cX8_isTwo 3 = .ok (.iconst 0, 1) := by decide +kernel
theorem dX8_isTwo_4 : decode cX8_isTwo 4 = .ok (.istore 7, 2) := by decide +kernel
theorem dX8_isTwo_6 : decode cX8_isTwo 6 = .ok (.iload 7, 2) := by decide +kernel
theorem dX8_isTwo_8 : decode cX8_isTwo 8 = .ok (.aload_n 0, 1) := by decide +kernel
theorem dX8_isTwo_9 : decode cX8_isTwo 9 = .ok (.getfield 13, 3) := by decide +kernel
theorem dX8_isTwo_12 : decode cX8_isTwo 12 = .ok (.iload_n 1, 1) := by decide +kernel
theorem dX8_isTwo_13 : decode cX8_isTwo 13 = .ok (.iaload, 1) := by decide +kernel
theorem dX8_isTwo_14 : decode cX8_isTwo 14 = .ok (.if_icmp .ge 57, 3) := by decide +kernel
theorem dX8_isTwo_17 : decode cX8_isTwo 17 = .ok (.iload 6, 2) := by decide +kernel
theorem dX8_isTwo_19 : decode cX8_isTwo 19 = .ok (.ifCond .eq 43, 3) := by decide +kernel
theorem dX8_isTwo_22 : decode cX8_isTwo 22 = .ok (.aload_n 0, 1) := by decide +kernel
theorem dX8_isTwo_23 : decode cX8_isTwo 23 = .ok (.iload_n 1, 1) := by decide +kernel
theorem dX8_isTwo_24 : decode cX8_isTwo 24 = .ok (.iload_n 2, 1) := by decide +kernel
theorem dX8_isTwo_25 : decode cX8_isTwo 25 = .ok (.iload 7, 2) := by decide +kernel
theorem dX8_isTwo_27 : decode cX8_isTwo 27 = .ok (.invokevirtual 127, 3) := by decide +kernel
theorem dX8_isTwo_30 : decode cX8_isTwo 30 = .ok (.ifCond .eq 28, 3) := by decide +kernel
theorem dX8_isTwo_33 : decode cX8_isTwo 33 = .ok (.iload_n 3, 1) := by decide +kernel
theorem dX8_isTwo_34 : decode cX8_isTwo 34 = .ok (.aload_n 0, 1) := by decide +kernel
theorem dX8_isTwo_35 : decode cX8_isTwo 35 = .ok (.iload_n 1, 1) := by decide +kernel
theorem dX8_isTwo_36 : decode cX8_isTwo 36 = .ok (.iload 7, 2) := by decide +kernel
theorem dX8_isTwo_38 : decode cX8_isTwo 38 = .ok (.iload 4, 2) := by decide +kernel
theorem dX8_isTwo_40 : decode cX8_isTwo 40 = .ok (.invokevirtual 123, 3) := by decide +kernel
theorem dX8_isTwo_43 : decode cX8_isTwo 43 = .ok (.aload_n 0, 1) := by decide +kernel
theorem dX8_isTwo_44 : decode cX8_isTwo 44 = .ok (.iload_n 1, 1) := by decide +kernel
theorem dX8_isTwo_45 : decode cX8_isTwo 45 = .ok (.iload 7, 2) := by decide +kernel
theorem dX8_isTwo_47 : decode cX8_isTwo 47 = .ok (.iload 5, 2) := by decide +kernel
