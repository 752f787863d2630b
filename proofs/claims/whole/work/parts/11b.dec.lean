/-! Decode rows; printed by program. -/
theorem dX6_init_0 : decode cX6_init 0 = .ok (.aload_n 0, 1) := by decide +kernel
theorem dX6_init_1 : decode cX6_init 1 = .ok (.invokespecial 1, 3) := by decide +kernel
theorem dX6_init_4 : decode cX6_init 4 = .ok (.aload_n 0, 1) := by decide +kernel
theorem dX6_init_5 : decode cX6_init 5 = .ok (.iconst 3, 1) := by decide +kernel
theorem dX6_init_6 : decode cX6_init 6 = .ok (.anewarray 9, 3) := by decide +kernel
theorem dX6_init_9 : decode cX6_init 9 = .ok (.putfield 11, 3) := by decide +kernel
theorem dX6_init_12 : decode cX6_init 12 = .ok (.aload_n 0, 1) := by decide +kernel
theorem dX6_init_13 : decode cX6_init 13 = .ok (.iconst 3, 1) := by decide +kernel
theorem dX6_init_14 : decode cX6_init 14 = .ok (.anewarray 15, 3) := by decide +kernel
theorem dX6_init_17 : decode cX6_init 17 = .ok (.putfield 17, 3) := by decide +kernel
theorem dX6_init_20 : decode cX6_init 20 = .ok (.aload_n 0, 1) := by decide +kernel
theorem dX6_init_21 : decode cX6_init 21 = .ok (.new 9, 3) := by decide +kernel
theorem dX6_init_24 : decode cX6_init 24 = .ok (.dup, 1) := by decide +kernel
theorem dX6_init_25 : decode cX6_init 25 = .ok (.bipush 6, 2) := by decide +kernel
theorem dX6_init_27 : decode cX6_init 27 = .ok (.invokespecial 21, 3) := by decide +kernel
theorem dX6_init_30 : decode cX6_init 30 = .ok (.putfield 24, 3) := by decide +kernel
theorem dX6_init_33 : decode cX6_init 33 = .ok (.aload_n 0, 1) := by decide +kernel
theorem dX6_init_34 : decode cX6_init 34 = .ok (.new 9, 3) := by decide +kernel
theorem dX6_init_37 : decode cX6_init 37 = .ok (.dup, 1) := by decide +kernel
theorem dX6_init_38 : decode cX6_init 38 = .ok (.bipush 6, 2) := by decide +kernel
theorem dX6_init_40 : decode cX6_init 40 = .ok (.invokespecial 21, 3) := by decide +kernel
theorem dX6_init_43 : decode cX6_init 43 = .ok (.putfield 28, 3) := by decide +kernel
theorem dX6_init_46 : decode cX6_init 46 = .ok (.aload_n 0, 1) := by decide +kernel
theorem dX6_init_47 : decode cX6_init 47 = .ok (.new 9, 3) := by decide +kernel
theorem dX6_init_50 : decode cX6_init 50 = .ok (.dup, 1) := by decide +kernel
theorem dX6_init_51 : decode cX6_init 51 = .ok (.bipush 24, 2) := by decide +kernel
theorem dX6_init_53 : decode cX6_init 53 = .ok (.invokespecial 21, 3) := by decide +kernel
theorem dX6_init_56 : decode cX6_init 56 = .ok (.putfield 31, 3) := by decide +kernel
theorem dX6_init_59 : decode cX6_init 59 = .ok (.aload_n 0, 1) := by decide +kernel
theorem dX6_init_60 : decode cX6_init 60 = .ok (.new 34, 3) := by decide +kernel
theorem dX6_init_63 : decode cX6_init 63 = .ok (.dup, 1) := by decide +kernel
theorem dX6_init_64 : decode cX6_init 64 = .ok (.invokespecial 36, 3) := by decide +kernel
theorem dX6_init_67 : decode cX6_init 67 = .ok (.putfield 37, 3) := by decide +kernel
theorem dX6_init_70 : decode cX6_init 70 = .ok (.aload_n 0, 1) := by decide +kernel
theorem dX6_init_71 : decode cX6_init 71 = .ok (.new 41, 3) := by decide +kernel
theorem dX6_init_74 : decode cX6_init 74 = .ok (.dup, 1) := by decide +kernel
theorem dX6_init_75 : decode cX6_init 75 = .ok (.aload_n 0, 1) := by decide +kernel
theorem dX6_init_76 : decode cX6_init 76 = .ok (.getfield 37, 3) := by decide +kernel
theorem dX6_init_79 : decode cX6_init 79 = .ok (.invokespecial 43, 3) := by decide +kernel
theorem dX6_init_82 : decode cX6_init 82 = .ok (.putfield 46, 3) := by decide +kernel
theorem dX6_init_85 : decode cX6_init 85 = .ok (.aload_n 0, 1) := by decide +kernel
theorem dX6_init_86 : decode cX6_init 86 = .ok (.new 50, 3) := by decide +kernel
theorem dX6_init_89 : decode cX6_init 89 = .ok (.dup, 1) := by decide +kernel
theorem dX6_init_90 : decode cX6_init 90 = .ok (.aload_n 0, 1) := by decide +kernel
theorem dX6_init_91 : decode cX6_init 91 = .ok (.getfield 37, 3) := by decide +kernel
theorem dX6_init_94 : decode cX6_init 94 = .ok (.invokespecial 52, 3) := by decide +kernel
theorem dX6_init_97 : decode cX6_init 97 = .ok (.putfield 53, 3) := by decide +kernel
theorem dX6_init_100 : decode cX6_init 100 = .ok (.aload_n 0, 1) := by decide +kernel
theorem dX6_init_101 : decode cX6_init 101 = .ok (.iconst (-1), 1) := by decide +kernel
theorem dX6_init_102 : decode cX6_init 102 = .ok (.putfield 57, 3) := by decide +kernel
theorem dX6_init_105 : decode cX6_init 105 = .ok (.aload_n 0, 1) := by decide +kernel
theorem dX6_init_106 : decode cX6_init 106 = .ok (.iconst 0, 1) := by decide +kernel
theorem dX6_init_107 : decode cX6_init 107 = .ok (.putfield 61, 3) := by decide +kernel
theorem dX6_init_110 : decode cX6_init 110 = .ok (.iconst 0, 1) := by decide +kernel
theorem dX6_init_111 : decode cX6_init 111 = .ok (.istore_n 1, 1) := by decide +kernel
theorem dX6_init_112 : decode cX6_init 112 = .ok (.iload_n 1, 1) := by decide +kernel
theorem dX6_init_113 : decode cX6_init 113 = .ok (.iconst 3, 1) := by decide +kernel
theorem dX6_init_114 : decode cX6_init 114 = .ok (.if_icmp .ge 24, 3) := by decide +kernel
theorem dX6_init_117 : decode cX6_init 117 = .ok (.aload_n 0, 1) := by decide +kernel
theorem dX6_init_118 : decode cX6_init 118 = .ok (.getfield 11, 3) := by decide +kernel
theorem dX6_init_121 : decode cX6_init 121 = .ok (.iload_n 1, 1) := by decide +kernel
theorem dX6_init_122 : decode cX6_init 122 = .ok (.new 9, 3) := by decide +kernel
theorem dX6_init_125 : decode cX6_init 125 = .ok (.dup, 1) := by decide +kernel
theorem dX6_init_126 : decode cX6_init 126 = .ok (.bipush 12, 2) := by decide +kernel
theorem dX6_init_128 : decode cX6_init 128 = .ok (.invokespecial 21, 3) := by decide +kernel
theorem dX6_init_131 : decode cX6_init 131 = .ok (.aastore, 1) := by decide +kernel
theorem dX6_init_132 : decode cX6_init 132 = .ok (.iinc 1 1, 3) := by decide +kernel
theorem dX6_init_135 : decode cX6_init 135 = .ok (.goto (-23), 3) := by decide +kernel
theorem dX6_init_138 : decode cX6_init 138 = .ok (.iconst 0, 1) := by decide +kernel
theorem dX6_init_139 : decode cX6_init 139 = .ok (.istore_n 1, 1) := by decide +kernel
theorem dX6_init_140 : decode cX6_init 140 = .ok (.iload_n 1, 1) := by decide +kernel
theorem dX6_init_141 : decode cX6_init 141 = .ok (.iconst 3, 1) := by decide +kernel
theorem dX6_init_142 : decode cX6_init 142 = .ok (.if_icmp .ge 22, 3) := by decide +kernel
theorem dX6_init_145 : decode cX6_init 145 = .ok (.aload_n 0, 1) := by decide +kernel
theorem dX6_init_146 : decode cX6_init 146 = .ok (.getfield 17, 3) := by decide +kernel
theorem dX6_init_149 : decode cX6_init 149 = .ok (.iload_n 1, 1) := by decide +kernel
theorem dX6_init_150 : decode cX6_init 150 = .ok (.new 15, 3) := by decide +kernel
theorem dX6_init_153 : decode cX6_init 153 = .ok (.dup, 1) := by decide +kernel
theorem dX6_init_154 : decode cX6_init 154 = .ok (.invokespecial 64, 3) := by decide +kernel
theorem dX6_init_157 : decode cX6_init 157 = .ok (.aastore, 1) := by decide +kernel
theorem dX6_init_158 : decode cX6_init 158 = .ok (.iinc 1 1, 3) := by decide +kernel
theorem dX6_init_161 : decode cX6_init 161 = .ok (.goto (-21), 3) := by decide +kernel
theorem dX6_init_164 : decode cX6_init 164 = .ok (.return_, 1) := by decide +kernel
theorem dX6_add_0 : decode cX6_add 0 = .ok (.iload_n 1, 1) := by decide +kernel
theorem dX6_add_1 : decode cX6_add 1 = .ok (.invokestatic 65, 3) := by decide +kernel
theorem dX6_add_4 : decode cX6_add 4 = .ok (.ifCond .eq 23, 3) := by decide +kernel
theorem dX6_add_7 : decode cX6_add 7 = .ok (.aload_n 0, 1) := by decide +kernel
theorem dX6_add_8 : decode cX6_add 8 = .ok (.getfield 11, 3) := by decide +kernel
theorem dX6_add_11 : decode cX6_add 11 = .ok (.iload_n 1, 1) := by decide +kernel
theorem dX6_add_12 : decode cX6_add 12 = .ok (.aaload, 1) := by decide +kernel
theorem dX6_add_13 : decode cX6_add 13 = .ok (.iload_n 2, 1) := by decide +kernel
theorem dX6_add_14 : decode cX6_add 14 = .ok (.iload_n 3, 1) := by decide +kernel
theorem dX6_add_15 : decode cX6_add 15 = .ok (.iload 4, 2) := by decide +kernel
theorem dX6_add_17 : decode cX6_add 17 = .ok (.invokevirtual 69, 3) := by decide +kernel
theorem dX6_add_20 : decode cX6_add 20 = .ok (.ifCond .eq 7, 3) := by decide +kernel
theorem dX6_add_23 : decode cX6_add 23 = .ok (.iconst 1, 1) := by decide +kernel
theorem dX6_add_24 : decode cX6_add 24 = .ok (.goto 4, 3) := by decide +kernel
theorem dX6_add_27 : decode cX6_add 27 = .ok (.iconst 0, 1) := by decide +kernel
theorem dX6_add_28 : decode cX6_add 28 = .ok (.ireturn, 1) := by decide +kernel
theorem dX6_rows_0 : decode cX6_rows 0 = .ok (.iload_n 1, 1) := by decide +kernel
theorem dX6_rows_1 : decode cX6_rows 1 = .ok (.invokestatic 65, 3) := by decide +kernel
theorem dX6_rows_4 : decode cX6_rows 4 = .ok (.ifCond .eq 15, 3) := by decide +kernel
theorem dX6_rows_7 : decode cX6_rows 7 = .ok (.aload_n 0, 1) := by decide +kernel
theorem dX6_rows_8 : decode cX6_rows 8 = .ok (.getfield 11, 3) := by decide +kernel
theorem dX6_rows_11 : decode cX6_rows 11 = .ok (.iload_n 1, 1) := by decide +kernel
theorem dX6_rows_12 : decode cX6_rows 12 = .ok (.aaload, 1) := by decide +kernel
theorem dX6_rows_13 : decode cX6_rows 13 = .ok (.getfield 73, 3) := by decide +kernel
theorem dX6_rows_16 : decode cX6_rows 16 = .ok (.goto 4, 3) := by decide +kernel
theorem dX6_rows_19 : decode cX6_rows 19 = .ok (.iconst (-1), 1) := by decide +kernel
theorem dX6_rows_20 : decode cX6_rows 20 = .ok (.ireturn, 1) := by decide +kernel
theorem dX6_plan_0 : decode cX6_plan 0 = .ok (.iload_n 1, 1) := by decide +kernel
theorem dX6_plan_1 : decode cX6_plan 1 = .ok (.invokestatic 65, 3) := by decide +kernel
theorem dX6_plan_4 : decode cX6_plan 4 = .ok (.ifCond .ne 5, 3) := by decide +kernel
theorem dX6_plan_7 : decode cX6_plan 7 = .ok (.iconst 0, 1) := by decide +kernel
theorem dX6_plan_8 : decode cX6_plan 8 = .ok (.ireturn, 1) := by decide +kernel
theorem dX6_plan_9 : decode cX6_plan 9 = .ok (.aload_n 0, 1) := by decide +kernel
theorem dX6_plan_10 : decode cX6_plan 10 = .ok (.iload_n 1, 1) := by decide +kernel
theorem dX6_plan_11 : decode cX6_plan 11 = .ok (.putfield 57, 3) := by decide +kernel
theorem dX6_plan_14 : decode cX6_plan 14 = .ok (.aload_n 0, 1) := by decide +kernel
theorem dX6_plan_15 : decode cX6_plan 15 = .ok (.iconst 0, 1) := by decide +kernel
theorem dX6_plan_16 : decode cX6_plan 16 = .ok (.putfield 61, 3) := by decide +kernel
theorem dX6_plan_19 : decode cX6_plan 19 = .ok (.iconst 1, 1) := by decide +kernel
theorem dX6_plan_20 : decode cX6_plan 20 = .ok (.ireturn, 1) := by decide +kernel
theorem dX6_filter_0 : decode cX6_filter 0 = .ok (.iload_n 1, 1) := by decide +kernel
theorem dX6_filter_1 : decode cX6_filter 1 = .ok (.invokestatic 76, 3) := by decide +kernel
theorem dX6_filter_4 : decode cX6_filter 4 = .ok (.ifCond .eq 27, 3) := by decide +kernel
theorem dX6_filter_7 : decode cX6_filter 7 = .ok (.iload_n 2, 1) := by decide +kernel
theorem dX6_filter_8 : decode cX6_filter 8 = .ok (.ifCond .lt 23, 3) := by decide +kernel
theorem dX6_filter_11 : decode cX6_filter 11 = .ok (.iload_n 2, 1) := by decide +kernel
theorem dX6_filter_12 : decode cX6_filter 12 = .ok (.iconst 3, 1) := by decide +kernel
theorem dX6_filter_13 : decode cX6_filter 13 = .ok (.if_icmp .ge 18, 3) := by decide +kernel
theorem dX6_filter_16 : decode cX6_filter 16 = .ok (.aload_n 0, 1) := by decide +kernel
theorem dX6_filter_17 : decode cX6_filter 17 = .ok (.iconst 0, 1) := by decide +kernel
theorem dX6_filter_18 : decode cX6_filter 18 = .ok (.iload_n 1, 1) := by decide +kernel
theorem dX6_filter_19 : decode cX6_filter 19 = .ok (.iload_n 2, 1) := by decide +kernel
theorem dX6_filter_20 : decode cX6_filter 20 = .ok (.iload_n 3, 1) := by decide +kernel
theorem dX6_filter_21 : decode cX6_filter 21 = .ok (.invokevirtual 79, 3) := by decide +kernel
theorem dX6_filter_24 : decode cX6_filter 24 = .ok (.ifCond .eq 7, 3) := by decide +kernel
theorem dX6_filter_27 : decode cX6_filter 27 = .ok (.iconst 1, 1) := by decide +kernel
theorem dX6_filter_28 : decode cX6_filter 28 = .ok (.goto 4, 3) := by decide +kernel
theorem dX6_filter_31 : decode cX6_filter 31 = .ok (.iconst 0, 1) := by decide +kernel
theorem dX6_filter_32 : decode cX6_filter 32 = .ok (.ireturn, 1) := by decide +kernel
theorem dX6_pick_0 : decode cX6_pick 0 = .ok (.iload_n 1, 1) := by decide +kernel
theorem dX6_pick_1 : decode cX6_pick 1 = .ok (.invokestatic 76, 3) := by decide +kernel
theorem dX6_pick_4 : decode cX6_pick 4 = .ok (.ifCond .eq 32, 3) := by decide +kernel
theorem dX6_pick_7 : decode cX6_pick 7 = .ok (.iload_n 2, 1) := by decide +kernel
theorem dX6_pick_8 : decode cX6_pick 8 = .ok (.invokestatic 76, 3) := by decide +kernel
theorem dX6_pick_11 : decode cX6_pick 11 = .ok (.ifCond .eq 25, 3) := by decide +kernel
theorem dX6_pick_14 : decode cX6_pick 14 = .ok (.iload_n 3, 1) := by decide +kernel
theorem dX6_pick_15 : decode cX6_pick 15 = .ok (.invokestatic 76, 3) := by decide +kernel
theorem dX6_pick_18 : decode cX6_pick 18 = .ok (.ifCond .eq 18, 3) := by decide +kernel
theorem dX6_pick_21 : decode cX6_pick 21 = .ok (.aload_n 0, 1) := by decide +kernel
theorem dX6_pick_22 : decode cX6_pick 22 = .ok (.iconst 1, 1) := by decide +kernel
theorem dX6_pick_23 : decode cX6_pick 23 = .ok (.iload_n 1, 1) := by decide +kernel
theorem dX6_pick_24 : decode cX6_pick 24 = .ok (.iload_n 2, 1) := by decide +kernel
theorem dX6_pick_25 : decode cX6_pick 25 = .ok (.iload_n 3, 1) := by decide +kernel
theorem dX6_pick_26 : decode cX6_pick 26 = .ok (.invokevirtual 79, 3) := by decide +kernel
theorem dX6_pick_29 : decode cX6_pick 29 = .ok (.ifCond .eq 7, 3) := by decide +kernel
theorem dX6_pick_32 : decode cX6_pick 32 = .ok (.iconst 1, 1) := by decide +kernel
theorem dX6_pick_33 : decode cX6_pick 33 = .ok (.goto 4, 3) := by decide +kernel
theorem dX6_pick_36 : decode cX6_pick 36 = .ok (.iconst 0, 1) := by decide +kernel
theorem dX6_pick_37 : decode cX6_pick 37 = .ok (.ireturn, 1) := by decide +kernel
theorem dX6_distinct_0 : decode cX6_distinct 0 = .ok (.aload_n 0, 1) := by decide +kernel
theorem dX6_distinct_1 : decode cX6_distinct 1 = .ok (.iconst 2, 1) := by decide +kernel
theorem dX6_distinct_2 : decode cX6_distinct 2 = .ok (.iconst 0, 1) := by decide +kernel
theorem dX6_distinct_3 : decode cX6_distinct 3 = .ok (.iconst 0, 1) := by decide +kernel
theorem dX6_distinct_4 : decode cX6_distinct 4 = .ok (.iconst 0, 1) := by decide +kernel
theorem dX6_distinct_5 : decode cX6_distinct 5 = .ok (.invokevirtual 79, 3) := by decide +kernel
theorem dX6_distinct_8 : decode cX6_distinct 8 = .ok (.ireturn, 1) := by decide +kernel
theorem dX6_group_0 : decode cX6_group 0 = .ok (.iload_n 1, 1) := by decide +kernel
theorem dX6_group_1 : decode cX6_group 1 = .ok (.invokestatic 76, 3) := by decide +kernel
theorem dX6_group_4 : decode cX6_group 4 = .ok (.ifCond .eq 25, 3) := by decide +kernel
theorem dX6_group_7 : decode cX6_group 7 = .ok (.iload_n 2, 1) := by decide +kernel
theorem dX6_group_8 : decode cX6_group 8 = .ok (.invokestatic 76, 3) := by decide +kernel
theorem dX6_group_11 : decode cX6_group 11 = .ok (.ifCond .eq 18, 3) := by decide +kernel
theorem dX6_group_14 : decode cX6_group 14 = .ok (.aload_n 0, 1) := by decide +kernel
theorem dX6_group_15 : decode cX6_group 15 = .ok (.iconst 3, 1) := by decide +kernel
theorem dX6_group_16 : decode cX6_group 16 = .ok (.iload_n 1, 1) := by decide +kernel
theorem dX6_group_17 : decode cX6_group 17 = .ok (.iload_n 2, 1) := by decide +kernel
theorem dX6_group_18 : decode cX6_group 18 = .ok (.iconst 0, 1) := by decide +kernel
theorem dX6_group_19 : decode cX6_group 19 = .ok (.invokevirtual 79, 3) := by decide +kernel
theorem dX6_group_22 : decode cX6_group 22 = .ok (.ifCond .eq 7, 3) := by decide +kernel
theorem dX6_group_25 : decode cX6_group 25 = .ok (.iconst 1, 1) := by decide +kernel
theorem dX6_group_26 : decode cX6_group 26 = .ok (.goto 4, 3) := by decide +kernel
theorem dX6_group_29 : decode cX6_group 29 = .ok (.iconst 0, 1) := by decide +kernel
theorem dX6_group_30 : decode cX6_group 30 = .ok (.ireturn, 1) := by decide +kernel
theorem dX6_join_0 : decode cX6_join 0 = .ok (.iload_n 1, 1) := by decide +kernel
theorem dX6_join_1 : decode cX6_join 1 = .ok (.invokestatic 65, 3) := by decide +kernel
theorem dX6_join_4 : decode cX6_join 4 = .ok (.ifCond .eq 32, 3) := by decide +kernel
theorem dX6_join_7 : decode cX6_join 7 = .ok (.iload_n 2, 1) := by decide +kernel
theorem dX6_join_8 : decode cX6_join 8 = .ok (.invokestatic 76, 3) := by decide +kernel
theorem dX6_join_11 : decode cX6_join 11 = .ok (.ifCond .eq 25, 3) := by decide +kernel
theorem dX6_join_14 : decode cX6_join 14 = .ok (.iload_n 3, 1) := by decide +kernel
theorem dX6_join_15 : decode cX6_join 15 = .ok (.invokestatic 76, 3) := by decide +kernel
theorem dX6_join_18 : decode cX6_join 18 = .ok (.ifCond .eq 18, 3) := by decide +kernel
theorem dX6_join_21 : decode cX6_join 21 = .ok (.aload_n 0, 1) := by decide +kernel
theorem dX6_join_22 : decode cX6_join 22 = .ok (.iconst 4, 1) := by decide +kernel
theorem dX6_join_23 : decode cX6_join 23 = .ok (.iload_n 1, 1) := by decide +kernel
theorem dX6_join_24 : decode cX6_join 24 = .ok (.iload_n 2, 1) := by decide +kernel
theorem dX6_join_25 : decode cX6_join 25 = .ok (.iload_n 3, 1) := by decide +kernel
theorem dX6_join_26 : decode cX6_join 26 = .ok (.invokevirtual 79, 3) := by decide +kernel
theorem dX6_join_29 : decode cX6_join 29 = .ok (.ifCond .eq 7, 3) := by decide +kernel
theorem dX6_join_32 : decode cX6_join 32 = .ok (.iconst 1, 1) := by decide +kernel
theorem dX6_join_33 : decode cX6_join 33 = .ok (.goto 4, 3) := by decide +kernel
theorem dX6_join_36 : decode cX6_join 36 = .ok (.iconst 0, 1) := by decide +kernel
theorem dX6_join_37 : decode cX6_join 37 = .ok (.ireturn, 1) := by decide +kernel
theorem dX6_run_0 : decode cX6_run 0 = .ok (.aload_n 0, 1) := by decide +kernel
theorem dX6_run_1 : decode cX6_run 1 = .ok (.getfield 57, 3) := by decide +kernel
theorem dX6_run_4 : decode cX6_run 4 = .ok (.invokestatic 65, 3) := by decide +kernel
theorem dX6_run_7 : decode cX6_run 7 = .ok (.ifCond .ne 5, 3) := by decide +kernel
theorem dX6_run_10 : decode cX6_run 10 = .ok (.iconst (-1), 1) := by decide +kernel
theorem dX6_run_11 : decode cX6_run 11 = .ok (.ireturn, 1) := by decide +kernel
theorem dX6_run_12 : decode cX6_run 12 = .ok (.aload_n 0, 1) := by decide +kernel
theorem dX6_run_13 : decode cX6_run 13 = .ok (.getfield 37, 3) := by decide +kernel
theorem dX6_run_16 : decode cX6_run 16 = .ok (.invokevirtual 83, 3) := by decide +kernel
theorem dX6_run_19 : decode cX6_run 19 = .ok (.aload_n 0, 1) := by decide +kernel
theorem dX6_run_20 : decode cX6_run 20 = .ok (.getfield 31, 3) := by decide +kernel
theorem dX6_run_23 : decode cX6_run 23 = .ok (.aload_n 0, 1) := by decide +kernel
theorem dX6_run_24 : decode cX6_run 24 = .ok (.getfield 11, 3) := by decide +kernel
theorem dX6_run_27 : decode cX6_run 27 = .ok (.aload_n 0, 1) := by decide +kernel
theorem dX6_run_28 : decode cX6_run 28 = .ok (.getfield 57, 3) := by decide +kernel
theorem dX6_run_31 : decode cX6_run 31 = .ok (.aaload, 1) := by decide +kernel
theorem dX6_run_32 : decode cX6_run 32 = .ok (.invokevirtual 86, 3) := by decide +kernel
theorem dX6_run_35 : decode cX6_run 35 = .ok (.iconst 0, 1) := by decide +kernel
theorem dX6_run_36 : decode cX6_run 36 = .ok (.istore_n 1, 1) := by decide +kernel
theorem dX6_run_37 : decode cX6_run 37 = .ok (.iload_n 1, 1) := by decide +kernel
theorem dX6_run_38 : decode cX6_run 38 = .ok (.aload_n 0, 1) := by decide +kernel
theorem dX6_run_39 : decode cX6_run 39 = .ok (.getfield 61, 3) := by decide +kernel
theorem dX6_run_42 : decode cX6_run 42 = .ok (.if_icmp .ge 37, 3) := by decide +kernel
theorem dX6_run_45 : decode cX6_run 45 = .ok (.iload_n 1, 1) := by decide +kernel
theorem dX6_run_46 : decode cX6_run 46 = .ok (.iconst 3, 1) := by decide +kernel
theorem dX6_run_47 : decode cX6_run 47 = .ok (.if_icmp .ge 32, 3) := by decide +kernel
theorem dX6_run_50 : decode cX6_run 50 = .ok (.aload_n 0, 1) := by decide +kernel
theorem dX6_run_51 : decode cX6_run 51 = .ok (.aload_n 0, 1) := by decide +kernel
theorem dX6_run_52 : decode cX6_run 52 = .ok (.getfield 17, 3) := by decide +kernel
theorem dX6_run_55 : decode cX6_run 55 = .ok (.iload_n 1, 1) := by decide +kernel
theorem dX6_run_56 : decode cX6_run 56 = .ok (.aaload, 1) := by decide +kernel
theorem dX6_run_57 : decode cX6_run 57 = .ok (.invokevirtual 90, 3) := by decide +kernel
theorem dX6_run_60 : decode cX6_run 60 = .ok (.ifCond .ne 13, 3) := by decide +kernel
theorem dX6_run_63 : decode cX6_run 63 = .ok (.aload_n 0, 1) := by decide +kernel
theorem dX6_run_64 : decode cX6_run 64 = .ok (.getfield 31, 3) := by decide +kernel
theorem dX6_run_67 : decode cX6_run 67 = .ok (.invokevirtual 94, 3) := by decide +kernel
theorem dX6_run_70 : decode cX6_run 70 = .ok (.bipush (-2), 2) := by decide +kernel
theorem dX6_run_72 : decode cX6_run 72 = .ok (.ireturn, 1) := by decide +kernel
theorem dX6_run_73 : decode cX6_run 73 = .ok (.iinc 1 1, 3) := by decide +kernel
theorem dX6_run_76 : decode cX6_run 76 = .ok (.goto (-39), 3) := by decide +kernel
theorem dX6_run_79 : decode cX6_run 79 = .ok (.aload_n 0, 1) := by decide +kernel
theorem dX6_run_80 : decode cX6_run 80 = .ok (.getfield 46, 3) := by decide +kernel
theorem dX6_run_83 : decode cX6_run 83 = .ok (.aload_n 0, 1) := by decide +kernel
theorem dX6_run_84 : decode cX6_run 84 = .ok (.getfield 31, 3) := by decide +kernel
theorem dX6_run_87 : decode cX6_run 87 = .ok (.invokevirtual 97, 3) := by decide +kernel
theorem dX6_run_90 : decode cX6_run 90 = .ok (.aload_n 0, 1) := by decide +kernel
theorem dX6_run_91 : decode cX6_run 91 = .ok (.getfield 31, 3) := by decide +kernel
theorem dX6_run_94 : decode cX6_run 94 = .ok (.getfield 73, 3) := by decide +kernel
theorem dX6_run_97 : decode cX6_run 97 = .ok (.ireturn, 1) := by decide +kernel
theorem dX6_put_0 : decode cX6_put 0 = .ok (.aload_n 0, 1) := by decide +kernel
theorem dX6_put_1 : decode cX6_put 1 = .ok (.invokevirtual 100, 3) := by decide +kernel
theorem dX6_put_4 : decode cX6_put 4 = .ok (.bipush 6, 2) := by decide +kernel
theorem dX6_put_6 : decode cX6_put 6 = .ok (.if_icmp .ge 20, 3) := by decide +kernel
theorem dX6_put_9 : decode cX6_put 9 = .ok (.aload_n 0, 1) := by decide +kernel
theorem dX6_put_10 : decode cX6_put 10 = .ok (.getfield 24, 3) := by decide +kernel
theorem dX6_put_13 : decode cX6_put 13 = .ok (.iload_n 1, 1) := by decide +kernel
theorem dX6_put_14 : decode cX6_put 14 = .ok (.iload_n 2, 1) := by decide +kernel
theorem dX6_put_15 : decode cX6_put 15 = .ok (.iload_n 3, 1) := by decide +kernel
theorem dX6_put_16 : decode cX6_put 16 = .ok (.invokevirtual 69, 3) := by decide +kernel
theorem dX6_put_19 : decode cX6_put 19 = .ok (.ifCond .eq 7, 3) := by decide +kernel
theorem dX6_put_22 : decode cX6_put 22 = .ok (.iconst 1, 1) := by decide +kernel
theorem dX6_put_23 : decode cX6_put 23 = .ok (.goto 4, 3) := by decide +kernel
theorem dX6_put_26 : decode cX6_put 26 = .ok (.iconst 0, 1) := by decide +kernel
theorem dX6_put_27 : decode cX6_put 27 = .ok (.ireturn, 1) := by decide +kernel
theorem dX6_drop_0 : decode cX6_drop 0 = .ok (.aload_n 0, 1) := by decide +kernel
theorem dX6_drop_1 : decode cX6_drop 1 = .ok (.invokevirtual 100, 3) := by decide +kernel
theorem dX6_drop_4 : decode cX6_drop 4 = .ok (.bipush 6, 2) := by decide +kernel
theorem dX6_drop_6 : decode cX6_drop 6 = .ok (.if_icmp .ge 20, 3) := by decide +kernel
theorem dX6_drop_9 : decode cX6_drop 9 = .ok (.aload_n 0, 1) := by decide +kernel
theorem dX6_drop_10 : decode cX6_drop 10 = .ok (.getfield 28, 3) := by decide +kernel
theorem dX6_drop_13 : decode cX6_drop 13 = .ok (.iload_n 1, 1) := by decide +kernel
theorem dX6_drop_14 : decode cX6_drop 14 = .ok (.iconst 0, 1) := by decide +kernel
theorem dX6_drop_15 : decode cX6_drop 15 = .ok (.iconst 0, 1) := by decide +kernel
theorem dX6_drop_16 : decode cX6_drop 16 = .ok (.invokevirtual 69, 3) := by decide +kernel
theorem dX6_drop_19 : decode cX6_drop 19 = .ok (.ifCond .eq 7, 3) := by decide +kernel
theorem dX6_drop_22 : decode cX6_drop 22 = .ok (.iconst 1, 1) := by decide +kernel
theorem dX6_drop_23 : decode cX6_drop 23 = .ok (.goto 4, 3) := by decide +kernel
theorem dX6_drop_26 : decode cX6_drop 26 = .ok (.iconst 0, 1) := by decide +kernel
theorem dX6_drop_27 : decode cX6_drop 27 = .ok (.ireturn, 1) := by decide +kernel
theorem dX6_apply_0 : decode cX6_apply 0 = .ok (.iload_n 1, 1) := by decide +kernel
theorem dX6_apply_1 : decode cX6_apply 1 = .ok (.invokestatic 65, 3) := by decide +kernel
theorem dX6_apply_4 : decode cX6_apply 4 = .ok (.ifCond .ne 5, 3) := by decide +kernel
theorem dX6_apply_7 : decode cX6_apply 7 = .ok (.iconst (-1), 1) := by decide +kernel
theorem dX6_apply_8 : decode cX6_apply 8 = .ok (.ireturn, 1) := by decide +kernel
theorem dX6_apply_9 : decode cX6_apply 9 = .ok (.aload_n 0, 1) := by decide +kernel
theorem dX6_apply_10 : decode cX6_apply 10 = .ok (.getfield 37, 3) := by decide +kernel
theorem dX6_apply_13 : decode cX6_apply 13 = .ok (.invokevirtual 83, 3) := by decide +kernel
theorem dX6_apply_16 : decode cX6_apply 16 = .ok (.aload_n 0, 1) := by decide +kernel
theorem dX6_apply_17 : decode cX6_apply 17 = .ok (.getfield 46, 3) := by decide +kernel
theorem dX6_apply_20 : decode cX6_apply 20 = .ok (.aload_n 0, 1) := by decide +kernel
theorem dX6_apply_21 : decode cX6_apply 21 = .ok (.getfield 11, 3) := by decide +kernel
theorem dX6_apply_24 : decode cX6_apply 24 = .ok (.iload_n 1, 1) := by decide +kernel
theorem dX6_apply_25 : decode cX6_apply 25 = .ok (.aaload, 1) := by decide +kernel
theorem dX6_apply_26 : decode cX6_apply 26 = .ok (.aload_n 0, 1) := by decide +kernel
theorem dX6_apply_27 : decode cX6_apply 27 = .ok (.getfield 24, 3) := by decide +kernel
theorem dX6_apply_30 : decode cX6_apply 30 = .ok (.aload_n 0, 1) := by decide +kernel
theorem dX6_apply_31 : decode cX6_apply 31 = .ok (.getfield 28, 3) := by decide +kernel
theorem dX6_apply_34 : decode cX6_apply 34 = .ok (.invokevirtual 104, 3) := by decide +kernel
theorem dX6_apply_37 : decode cX6_apply 37 = .ok (.istore_n 2, 1) := by decide +kernel
theorem dX6_apply_38 : decode cX6_apply 38 = .ok (.aload_n 0, 1) := by decide +kernel
theorem dX6_apply_39 : decode cX6_apply 39 = .ok (.getfield 24, 3) := by decide +kernel
theorem dX6_apply_42 : decode cX6_apply 42 = .ok (.invokevirtual 94, 3) := by decide +kernel
theorem dX6_apply_45 : decode cX6_apply 45 = .ok (.aload_n 0, 1) := by decide +kernel
theorem dX6_apply_46 : decode cX6_apply 46 = .ok (.getfield 28, 3) := by decide +kernel
theorem dX6_apply_49 : decode cX6_apply 49 = .ok (.invokevirtual 94, 3) := by decide +kernel
theorem dX6_apply_52 : decode cX6_apply 52 = .ok (.iload_n 2, 1) := by decide +kernel
theorem dX6_apply_53 : decode cX6_apply 53 = .ok (.ifCond .eq 15, 3) := by decide +kernel
theorem dX6_apply_56 : decode cX6_apply 56 = .ok (.aload_n 0, 1) := by decide +kernel
theorem dX6_apply_57 : decode cX6_apply 57 = .ok (.getfield 11, 3) := by decide +kernel
theorem dX6_apply_60 : decode cX6_apply 60 = .ok (.iload_n 1, 1) := by decide +kernel
theorem dX6_apply_61 : decode cX6_apply 61 = .ok (.aaload, 1) := by decide +kernel
theorem dX6_apply_62 : decode cX6_apply 62 = .ok (.getfield 73, 3) := by decide +kernel
theorem dX6_apply_65 : decode cX6_apply 65 = .ok (.goto 5, 3) := by decide +kernel
theorem dX6_apply_68 : decode cX6_apply 68 = .ok (.bipush (-2), 2) := by decide +kernel
theorem dX6_apply_70 : decode cX6_apply 70 = .ok (.ireturn, 1) := by decide +kernel
theorem dX6_cell_0 : decode cX6_cell 0 = .ok (.iload_n 2, 1) := by decide +kernel
theorem dX6_cell_1 : decode cX6_cell 1 = .ok (.invokestatic 76, 3) := by decide +kernel
theorem dX6_cell_4 : decode cX6_cell 4 = .ok (.ifCond .eq 15, 3) := by decide +kernel
theorem dX6_cell_7 : decode cX6_cell 7 = .ok (.aload_n 0, 1) := by decide +kernel
theorem dX6_cell_8 : decode cX6_cell 8 = .ok (.getfield 31, 3) := by decide +kernel
theorem dX6_cell_11 : decode cX6_cell 11 = .ok (.iload_n 1, 1) := by decide +kernel
theorem dX6_cell_12 : decode cX6_cell 12 = .ok (.iload_n 2, 1) := by decide +kernel
theorem dX6_cell_13 : decode cX6_cell 13 = .ok (.invokevirtual 108, 3) := by decide +kernel
theorem dX6_cell_16 : decode cX6_cell 16 = .ok (.goto 4, 3) := by decide +kernel
theorem dX6_cell_19 : decode cX6_cell 19 = .ok (.iconst 0, 1) := by decide +kernel
theorem dX6_cell_20 : decode cX6_cell 20 = .ok (.ireturn, 1) := by decide +kernel
theorem dX6_length_0 : decode cX6_length 0 = .ok (.aload_n 0, 1) := by decide +kernel
theorem dX6_length_1 : decode cX6_length 1 = .ok (.getfield 37, 3) := by decide +kernel
theorem dX6_length_4 : decode cX6_length 4 = .ok (.getfield 112, 3) := by decide +kernel
theorem dX6_length_7 : decode cX6_length 7 = .ok (.ireturn, 1) := by decide +kernel
theorem dX6_access_0 : decode cX6_access 0 = .ok (.aload_n 0, 1) := by decide +kernel
theorem dX6_access_1 : decode cX6_access 1 = .ok (.getfield 37, 3) := by decide +kernel
theorem dX6_access_4 : decode cX6_access 4 = .ok (.iload_n 1, 1) := by decide +kernel
theorem dX6_access_5 : decode cX6_access 5 = .ok (.invokevirtual 115, 3) := by decide +kernel
theorem dX6_access_8 : decode cX6_access 8 = .ok (.ireturn, 1) := by decide +kernel
theorem dX6_sum_0 : decode cX6_sum 0 = .ok (.iload_n 1, 1) := by decide +kernel
theorem dX6_sum_1 : decode cX6_sum 1 = .ok (.invokestatic 65, 3) := by decide +kernel
theorem dX6_sum_4 : decode cX6_sum 4 = .ok (.ifCond .eq 15, 3) := by decide +kernel
theorem dX6_sum_7 : decode cX6_sum 7 = .ok (.aload_n 0, 1) := by decide +kernel
theorem dX6_sum_8 : decode cX6_sum 8 = .ok (.getfield 11, 3) := by decide +kernel
theorem dX6_sum_11 : decode cX6_sum 11 = .ok (.iload_n 1, 1) := by decide +kernel
theorem dX6_sum_12 : decode cX6_sum 12 = .ok (.aaload, 1) := by decide +kernel
theorem dX6_sum_13 : decode cX6_sum 13 = .ok (.invokevirtual 119, 3) := by decide +kernel
theorem dX6_sum_16 : decode cX6_sum 16 = .ok (.goto 4, 3) := by decide +kernel
theorem dX6_sum_19 : decode cX6_sum 19 = .ok (.iconst 0, 1) := by decide +kernel
theorem dX6_sum_20 : decode cX6_sum 20 = .ok (.ireturn, 1) := by decide +kernel
theorem dX6_isTable_0 : decode cX6_isTable 0 = .ok (.iload_n 0, 1) := by decide +kernel
theorem dX6_isTable_1 : decode cX6_isTable 1 = .ok (.ifCond .lt 12, 3) := by decide +kernel
theorem dX6_isTable_4 : decode cX6_isTable 4 = .ok (.iload_n 0, 1) := by decide +kernel
theorem dX6_isTable_5 : decode cX6_isTable 5 = .ok (.iconst 3, 1) := by decide +kernel
theorem dX6_isTable_6 : decode cX6_isTable 6 = .ok (.if_icmp .ge 7, 3) := by decide +kernel
theorem dX6_isTable_9 : decode cX6_isTable 9 = .ok (.iconst 1, 1) := by decide +kernel
theorem dX6_isTable_10 : decode cX6_isTable 10 = .ok (.goto 4, 3) := by decide +kernel
theorem dX6_isTable_13 : decode cX6_isTable 13 = .ok (.iconst 0, 1) := by decide +kernel
theorem dX6_isTable_14 : decode cX6_isTable 14 = .ok (.ireturn, 1) := by decide +kernel
theorem dX6_isColumn_0 : decode cX6_isColumn 0 = .ok (.iload_n 0, 1) := by decide +kernel
theorem dX6_isColumn_1 : decode cX6_isColumn 1 = .ok (.ifCond .lt 12, 3) := by decide +kernel
theorem dX6_isColumn_4 : decode cX6_isColumn 4 = .ok (.iload_n 0, 1) := by decide +kernel
theorem dX6_isColumn_5 : decode cX6_isColumn 5 = .ok (.iconst 3, 1) := by decide +kernel
theorem dX6_isColumn_6 : decode cX6_isColumn 6 = .ok (.if_icmp .ge 7, 3) := by decide +kernel
theorem dX6_isColumn_9 : decode cX6_isColumn 9 = .ok (.iconst 1, 1) := by decide +kernel
theorem dX6_isColumn_10 : decode cX6_isColumn 10 = .ok (.goto 4, 3) := by decide +kernel
theorem dX6_isColumn_13 : decode cX6_isColumn 13 = .ok (.iconst 0, 1) := by decide +kernel
theorem dX6_isColumn_14 : decode cX6_isColumn 14 = .ok (.ireturn, 1) := by decide +kernel
theorem dX6_changes_0 : decode cX6_changes 0 = .ok (.aload_n 0, 1) := by decide +kernel
theorem dX6_changes_1 : decode cX6_changes 1 = .ok (.getfield 24, 3) := by decide +kernel
theorem dX6_changes_4 : decode cX6_changes 4 = .ok (.getfield 73, 3) := by decide +kernel
theorem dX6_changes_7 : decode cX6_changes 7 = .ok (.aload_n 0, 1) := by decide +kernel
theorem dX6_changes_8 : decode cX6_changes 8 = .ok (.getfield 28, 3) := by decide +kernel
theorem dX6_changes_11 : decode cX6_changes 11 = .ok (.getfield 73, 3) := by decide +kernel
theorem dX6_changes_14 : decode cX6_changes 14 = .ok (.iadd, 1) := by decide +kernel
theorem dX6_changes_15 : decode cX6_changes 15 = .ok (.ireturn, 1) := by decide +kernel
theorem dX6_append_0 : decode cX6_append 0 = .ok (.aload_n 0, 1) := by decide +kernel
theorem dX6_append_1 : decode cX6_append 1 = .ok (.getfield 57, 3) := by decide +kernel
theorem dX6_append_4 : decode cX6_append 4 = .ok (.iconst (-1), 1) := by decide +kernel
theorem dX6_append_5 : decode cX6_append 5 = .ok (.if_icmp .eq 11, 3) := by decide +kernel
theorem dX6_append_8 : decode cX6_append 8 = .ok (.aload_n 0, 1) := by decide +kernel
theorem dX6_append_9 : decode cX6_append 9 = .ok (.getfield 61, 3) := by decide +kernel
theorem dX6_append_12 : decode cX6_append 12 = .ok (.iconst 3, 1) := by decide +kernel
theorem dX6_append_13 : decode cX6_append 13 = .ok (.if_icmp .lt 5, 3) := by decide +kernel
theorem dX6_append_16 : decode cX6_append 16 = .ok (.iconst 0, 1) := by decide +kernel
theorem dX6_append_17 : decode cX6_append 17 = .ok (.ireturn, 1) := by decide +kernel
theorem dX6_append_18 : decode cX6_append 18 = .ok (.aload_n 0, 1) := by decide +kernel
theorem dX6_append_19 : decode cX6_append 19 = .ok (.getfield 17, 3) := by decide +kernel
theorem dX6_append_22 : decode cX6_append 22 = .ok (.aload_n 0, 1) := by decide +kernel
theorem dX6_append_23 : decode cX6_append 23 = .ok (.getfield 61, 3) := by decide +kernel
theorem dX6_append_26 : decode cX6_append 26 = .ok (.aaload, 1) := by decide +kernel
theorem dX6_append_27 : decode cX6_append 27 = .ok (.iload_n 1, 1) := by decide +kernel
theorem dX6_append_28 : decode cX6_append 28 = .ok (.iload_n 2, 1) := by decide +kernel
theorem dX6_append_29 : decode cX6_append 29 = .ok (.iload_n 3, 1) := by decide +kernel
theorem dX6_append_30 : decode cX6_append 30 = .ok (.iload 4, 2) := by decide +kernel
theorem dX6_append_32 : decode cX6_append 32 = .ok (.invokevirtual 122, 3) := by decide +kernel
theorem dX6_append_35 : decode cX6_append 35 = .ok (.aload_n 0, 1) := by decide +kernel
theorem dX6_append_36 : decode cX6_append 36 = .ok (.dup, 1) := by decide +kernel
theorem dX6_append_37 : decode cX6_append 37 = .ok (.getfield 61, 3) := by decide +kernel
theorem dX6_append_40 : decode cX6_append 40 = .ok (.iconst 1, 1) := by decide +kernel
theorem dX6_append_41 : decode cX6_append 41 = .ok (.iadd, 1) := by decide +kernel
theorem dX6_append_42 : decode cX6_append 42 = .ok (.putfield 61, 3) := by decide +kernel
theorem dX6_append_45 : decode cX6_append 45 = .ok (.iconst 1, 1) := by decide +kernel
theorem dX6_append_46 : decode cX6_append 46 = .ok (.ireturn, 1) := by decide +kernel
theorem dX6_perform_0 : decode cX6_perform 0 = .ok (.aload_n 1, 1) := by decide +kernel
theorem dX6_perform_1 : decode cX6_perform 1 = .ok (.getfield 125, 3) := by decide +kernel
theorem dX6_perform_4 : decode cX6_perform 4 = .ok (.tableswitch 116 0 3 #[32, 57, 82, 95], 32) := by decide +kernel
theorem dX6_perform_36 : decode cX6_perform 36 = .ok (.aload_n 0, 1) := by decide +kernel
theorem dX6_perform_37 : decode cX6_perform 37 = .ok (.getfield 46, 3) := by decide +kernel
theorem dX6_perform_40 : decode cX6_perform 40 = .ok (.aload_n 0, 1) := by decide +kernel
theorem dX6_perform_41 : decode cX6_perform 41 = .ok (.getfield 31, 3) := by decide +kernel
theorem dX6_perform_44 : decode cX6_perform 44 = .ok (.aload_n 1, 1) := by decide +kernel
theorem dX6_perform_45 : decode cX6_perform 45 = .ok (.getfield 128, 3) := by decide +kernel
theorem dX6_perform_48 : decode cX6_perform 48 = .ok (.aload_n 1, 1) := by decide +kernel
theorem dX6_perform_49 : decode cX6_perform 49 = .ok (.getfield 131, 3) := by decide +kernel
theorem dX6_perform_52 : decode cX6_perform 52 = .ok (.aload_n 1, 1) := by decide +kernel
theorem dX6_perform_53 : decode cX6_perform 53 = .ok (.getfield 134, 3) := by decide +kernel
theorem dX6_perform_56 : decode cX6_perform 56 = .ok (.invokevirtual 137, 3) := by decide +kernel
theorem dX6_perform_59 : decode cX6_perform 59 = .ok (.iconst 1, 1) := by decide +kernel
theorem dX6_perform_60 : decode cX6_perform 60 = .ok (.ireturn, 1) := by decide +kernel
theorem dX6_perform_61 : decode cX6_perform 61 = .ok (.aload_n 0, 1) := by decide +kernel
theorem dX6_perform_62 : decode cX6_perform 62 = .ok (.getfield 46, 3) := by decide +kernel
theorem dX6_perform_65 : decode cX6_perform 65 = .ok (.aload_n 0, 1) := by decide +kernel
theorem dX6_perform_66 : decode cX6_perform 66 = .ok (.getfield 31, 3) := by decide +kernel
theorem dX6_perform_69 : decode cX6_perform 69 = .ok (.aload_n 1, 1) := by decide +kernel
theorem dX6_perform_70 : decode cX6_perform 70 = .ok (.getfield 128, 3) := by decide +kernel
theorem dX6_perform_73 : decode cX6_perform 73 = .ok (.aload_n 1, 1) := by decide +kernel
theorem dX6_perform_74 : decode cX6_perform 74 = .ok (.getfield 131, 3) := by decide +kernel
theorem dX6_perform_77 : decode cX6_perform 77 = .ok (.aload_n 1, 1) := by decide +kernel
theorem dX6_perform_78 : decode cX6_perform 78 = .ok (.getfield 134, 3) := by decide +kernel
theorem dX6_perform_81 : decode cX6_perform 81 = .ok (.invokevirtual 141, 3) := by decide +kernel
theorem dX6_perform_84 : decode cX6_perform 84 = .ok (.iconst 1, 1) := by decide +kernel
theorem dX6_perform_85 : decode cX6_perform 85 = .ok (.ireturn, 1) := by decide +kernel
theorem dX6_perform_86 : decode cX6_perform 86 = .ok (.aload_n 0, 1) := by decide +kernel
theorem dX6_perform_87 : decode cX6_perform 87 = .ok (.getfield 46, 3) := by decide +kernel
theorem dX6_perform_90 : decode cX6_perform 90 = .ok (.aload_n 0, 1) := by decide +kernel
theorem dX6_perform_91 : decode cX6_perform 91 = .ok (.getfield 31, 3) := by decide +kernel
theorem dX6_perform_94 : decode cX6_perform 94 = .ok (.invokevirtual 144, 3) := by decide +kernel
theorem dX6_perform_97 : decode cX6_perform 97 = .ok (.iconst 1, 1) := by decide +kernel
theorem dX6_perform_98 : decode cX6_perform 98 = .ok (.ireturn, 1) := by decide +kernel
theorem dX6_perform_99 : decode cX6_perform 99 = .ok (.aload_n 0, 1) := by decide +kernel
theorem dX6_perform_100 : decode cX6_perform 100 = .ok (.getfield 46, 3) := by decide +kernel
theorem dX6_perform_103 : decode cX6_perform 103 = .ok (.aload_n 0, 1) := by decide +kernel
theorem dX6_perform_104 : decode cX6_perform 104 = .ok (.getfield 31, 3) := by decide +kernel
theorem dX6_perform_107 : decode cX6_perform 107 = .ok (.aload_n 1, 1) := by decide +kernel
theorem dX6_perform_108 : decode cX6_perform 108 = .ok (.getfield 128, 3) := by decide +kernel
theorem dX6_perform_111 : decode cX6_perform 111 = .ok (.aload_n 1, 1) := by decide +kernel
theorem dX6_perform_112 : decode cX6_perform 112 = .ok (.getfield 131, 3) := by decide +kernel
theorem dX6_perform_115 : decode cX6_perform 115 = .ok (.invokevirtual 147, 3) := by decide +kernel
theorem dX6_perform_118 : decode cX6_perform 118 = .ok (.iconst 1, 1) := by decide +kernel
theorem dX6_perform_119 : decode cX6_perform 119 = .ok (.ireturn, 1) := by decide +kernel
theorem dX6_perform_120 : decode cX6_perform 120 = .ok (.aload_n 1, 1) := by decide +kernel
theorem dX6_perform_121 : decode cX6_perform 121 = .ok (.getfield 128, 3) := by decide +kernel
theorem dX6_perform_124 : decode cX6_perform 124 = .ok (.invokestatic 65, 3) := by decide +kernel
theorem dX6_perform_127 : decode cX6_perform 127 = .ok (.ifCond .eq 38, 3) := by decide +kernel
theorem dX6_perform_130 : decode cX6_perform 130 = .ok (.aload_n 0, 1) := by decide +kernel
theorem dX6_perform_131 : decode cX6_perform 131 = .ok (.getfield 53, 3) := by decide +kernel
theorem dX6_perform_134 : decode cX6_perform 134 = .ok (.aload_n 0, 1) := by decide +kernel
theorem dX6_perform_135 : decode cX6_perform 135 = .ok (.getfield 31, 3) := by decide +kernel
theorem dX6_perform_138 : decode cX6_perform 138 = .ok (.aload_n 0, 1) := by decide +kernel
theorem dX6_perform_139 : decode cX6_perform 139 = .ok (.getfield 11, 3) := by decide +kernel
theorem dX6_perform_142 : decode cX6_perform 142 = .ok (.aload_n 1, 1) := by decide +kernel
theorem dX6_perform_143 : decode cX6_perform 143 = .ok (.getfield 128, 3) := by decide +kernel
theorem dX6_perform_146 : decode cX6_perform 146 = .ok (.aaload, 1) := by decide +kernel
theorem dX6_perform_147 : decode cX6_perform 147 = .ok (.aload_n 1, 1) := by decide +kernel
theorem dX6_perform_148 : decode cX6_perform 148 = .ok (.getfield 131, 3) := by decide +kernel
theorem dX6_perform_151 : decode cX6_perform 151 = .ok (.aload_n 1, 1) := by decide +kernel
theorem dX6_perform_152 : decode cX6_perform 152 = .ok (.getfield 134, 3) := by decide +kernel
theorem dX6_perform_155 : decode cX6_perform 155 = .ok (.invokevirtual 151, 3) := by decide +kernel
theorem dX6_perform_158 : decode cX6_perform 158 = .ok (.ifCond .eq 7, 3) := by decide +kernel
theorem dX6_perform_161 : decode cX6_perform 161 = .ok (.iconst 1, 1) := by decide +kernel
theorem dX6_perform_162 : decode cX6_perform 162 = .ok (.goto 4, 3) := by decide +kernel
theorem dX6_perform_165 : decode cX6_perform 165 = .ok (.iconst 0, 1) := by decide +kernel
theorem dX6_perform_166 : decode cX6_perform 166 = .ok (.ireturn, 1) := by decide +kernel
theorem dX1_init_0 : decode cX1_init 0 = .ok (.aload_n 0, 1) := by decide +kernel
theorem dX1_init_1 : decode cX1_init 1 = .ok (.invokespecial 3, 3) := by decide +kernel
theorem dX1_init_4 : decode cX1_init 4 = .ok (.aload_n 0, 1) := by decide +kernel
theorem dX1_init_5 : decode cX1_init 5 = .ok (.new 9, 3) := by decide +kernel
theorem dX1_init_8 : decode cX1_init 8 = .ok (.dup, 1) := by decide +kernel
theorem dX1_init_9 : decode cX1_init 9 = .ok (.invokespecial 11, 3) := by decide +kernel
theorem dX1_init_12 : decode cX1_init 12 = .ok (.putfield 12, 3) := by decide +kernel
theorem dX1_init_15 : decode cX1_init 15 = .ok (.aload_n 0, 1) := by decide +kernel
theorem dX1_init_16 : decode cX1_init 16 = .ok (.aload_n 1, 1) := by decide +kernel
theorem dX1_init_17 : decode cX1_init 17 = .ok (.putfield 18, 3) := by decide +kernel
theorem dX1_init_20 : decode cX1_init 20 = .ok (.return_, 1) := by decide +kernel
theorem dX1_match_0 : decode cX1_match 0 = .ok (.aload_n 0, 1) := by decide +kernel
theorem dX1_match_1 : decode cX1_match 1 = .ok (.getfield 18, 3) := by decide +kernel
theorem dX1_match_4 : decode cX1_match 4 = .ok (.invokevirtual 22, 3) := by decide +kernel
theorem dX1_match_7 : decode cX1_match 7 = .ok (.aload_n 0, 1) := by decide +kernel
theorem dX1_match_8 : decode cX1_match 8 = .ok (.getfield 18, 3) := by decide +kernel
theorem dX1_match_11 : decode cX1_match 11 = .ok (.aload_n 1, 1) := by decide +kernel
theorem dX1_match_12 : decode cX1_match 12 = .ok (.iconst 0, 1) := by decide +kernel
theorem dX1_match_13 : decode cX1_match 13 = .ok (.iload_n 3, 1) := by decide +kernel
theorem dX1_match_14 : decode cX1_match 14 = .ok (.iconst 0, 1) := by decide +kernel
theorem dX1_match_15 : decode cX1_match 15 = .ok (.invokevirtual 27, 3) := by decide +kernel
theorem dX1_match_18 : decode cX1_match 18 = .ok (.istore 5, 2) := by decide +kernel
theorem dX1_match_20 : decode cX1_match 20 = .ok (.aload_n 0, 1) := by decide +kernel
theorem dX1_match_21 : decode cX1_match 21 = .ok (.getfield 18, 3) := by decide +kernel
theorem dX1_match_24 : decode cX1_match 24 = .ok (.aload_n 2, 1) := by decide +kernel
theorem dX1_match_25 : decode cX1_match 25 = .ok (.iload 5, 2) := by decide +kernel
theorem dX1_match_27 : decode cX1_match 27 = .ok (.iload 4, 2) := by decide +kernel
theorem dX1_match_29 : decode cX1_match 29 = .ok (.iconst 1, 1) := by decide +kernel
theorem dX1_match_30 : decode cX1_match 30 = .ok (.invokevirtual 27, 3) := by decide +kernel
theorem dX1_match_33 : decode cX1_match 33 = .ok (.istore 6, 2) := by decide +kernel
theorem dX1_match_35 : decode cX1_match 35 = .ok (.aload_n 0, 1) := by decide +kernel
theorem dX1_match_36 : decode cX1_match 36 = .ok (.getfield 18, 3) := by decide +kernel
theorem dX1_match_39 : decode cX1_match 39 = .ok (.iconst 0, 1) := by decide +kernel
theorem dX1_match_40 : decode cX1_match 40 = .ok (.iload 6, 2) := by decide +kernel
theorem dX1_match_42 : decode cX1_match 42 = .ok (.invokevirtual 31, 3) := by decide +kernel
theorem dX1_match_45 : decode cX1_match 45 = .ok (.aload_n 0, 1) := by decide +kernel
theorem dX1_match_46 : decode cX1_match 46 = .ok (.iload 6, 2) := by decide +kernel
theorem dX1_match_48 : decode cX1_match 48 = .ok (.invokevirtual 35, 3) := by decide +kernel
theorem dX1_match_51 : decode cX1_match 51 = .ok (.aload_n 0, 1) := by decide +kernel
theorem dX1_match_52 : decode cX1_match 52 = .ok (.iload 6, 2) := by decide +kernel
theorem dX1_match_54 : decode cX1_match 54 = .ok (.invokevirtual 39, 3) := by decide +kernel
theorem dX1_match_57 : decode cX1_match 57 = .ok (.istore 7, 2) := by decide +kernel
theorem dX1_match_59 : decode cX1_match 59 = .ok (.aload_n 0, 1) := by decide +kernel
theorem dX1_match_60 : decode cX1_match 60 = .ok (.getfield 18, 3) := by decide +kernel
theorem dX1_match_63 : decode cX1_match 63 = .ok (.iconst 0, 1) := by decide +kernel
theorem dX1_match_64 : decode cX1_match 64 = .ok (.iload 6, 2) := by decide +kernel
theorem dX1_match_66 : decode cX1_match 66 = .ok (.invokevirtual 31, 3) := by decide +kernel
theorem dX1_match_69 : decode cX1_match 69 = .ok (.iload 7, 2) := by decide +kernel
theorem dX1_match_71 : decode cX1_match 71 = .ok (.bipush 24, 2) := by decide +kernel
theorem dX1_match_73 : decode cX1_match 73 = .ok (.if_icmp .le 5, 3) := by decide +kernel
theorem dX1_match_76 : decode cX1_match 76 = .ok (.iconst 0, 1) := by decide +kernel
theorem dX1_match_77 : decode cX1_match 77 = .ok (.ireturn, 1) := by decide +kernel
theorem dX1_match_78 : decode cX1_match 78 = .ok (.iload 7, 2) := by decide +kernel
theorem dX1_match_80 : decode cX1_match 80 = .ok (.ifCond .le 47, 3) := by decide +kernel
theorem dX1_match_83 : decode cX1_match 83 = .ok (.aload_n 0, 1) := by decide +kernel
theorem dX1_match_84 : decode cX1_match 84 = .ok (.iload 6, 2) := by decide +kernel
theorem dX1_match_86 : decode cX1_match 86 = .ok (.invokevirtual 43, 3) := by decide +kernel
theorem dX1_match_89 : decode cX1_match 89 = .ok (.aload_n 0, 1) := by decide +kernel
theorem dX1_match_90 : decode cX1_match 90 = .ok (.iconst 0, 1) := by decide +kernel
theorem dX1_match_91 : decode cX1_match 91 = .ok (.iload 6, 2) := by decide +kernel
theorem dX1_match_93 : decode cX1_match 93 = .ok (.iload 7, 2) := by decide +kernel
theorem dX1_match_95 : decode cX1_match 95 = .ok (.iconst 0, 1) := by decide +kernel
theorem dX1_match_96 : decode cX1_match 96 = .ok (.invokevirtual 46, 3) := by decide +kernel
theorem dX1_match_99 : decode cX1_match 99 = .ok (.aload_n 0, 1) := by decide +kernel
theorem dX1_match_100 : decode cX1_match 100 = .ok (.bipush 40, 2) := by decide +kernel
theorem dX1_match_102 : decode cX1_match 102 = .ok (.iload 6, 2) := by decide +kernel
theorem dX1_match_104 : decode cX1_match 104 = .ok (.iload 7, 2) := by decide +kernel
theorem dX1_match_106 : decode cX1_match 106 = .ok (.iconst 1, 1) := by decide +kernel
theorem dX1_match_107 : decode cX1_match 107 = .ok (.invokevirtual 46, 3) := by decide +kernel
theorem dX1_match_110 : decode cX1_match 110 = .ok (.aload_n 0, 1) := by decide +kernel
theorem dX1_match_111 : decode cX1_match 111 = .ok (.getfield 18, 3) := by decide +kernel
theorem dX1_match_114 : decode cX1_match 114 = .ok (.bipush 40, 2) := by decide +kernel
theorem dX1_match_116 : decode cX1_match 116 = .ok (.iload 7, 2) := by decide +kernel
theorem dX1_match_118 : decode cX1_match 118 = .ok (.invokevirtual 31, 3) := by decide +kernel
theorem dX1_match_121 : decode cX1_match 121 = .ok (.aload_n 0, 1) := by decide +kernel
theorem dX1_match_122 : decode cX1_match 122 = .ok (.iload 7, 2) := by decide +kernel
theorem dX1_match_124 : decode cX1_match 124 = .ok (.invokevirtual 50, 3) := by decide +kernel
theorem dX1_match_127 : decode cX1_match 127 = .ok (.aload_n 0, 1) := by decide +kernel
theorem dX1_match_128 : decode cX1_match 128 = .ok (.getfield 18, 3) := by decide +kernel
theorem dX1_match_131 : decode cX1_match 131 = .ok (.aload_n 1, 1) := by decide +kernel
theorem dX1_match_132 : decode cX1_match 132 = .ok (.iload 7, 2) := by decide +kernel
theorem dX1_match_134 : decode cX1_match 134 = .ok (.invokevirtual 53, 3) := by decide +kernel
theorem dX1_match_137 : decode cX1_match 137 = .ok (.iconst 1, 1) := by decide +kernel
theorem dX1_match_138 : decode cX1_match 138 = .ok (.ireturn, 1) := by decide +kernel
theorem dX1_countForth_0 : decode cX1_countForth 0 = .ok (.iconst 0, 1) := by decide +kernel
theorem dX1_countForth_1 : decode cX1_countForth 1 = .ok (.istore_n 2, 1) := by decide +kernel
theorem dX1_countForth_2 : decode cX1_countForth 2 = .ok (.iconst 0, 1) := by decide +kernel
theorem dX1_countForth_3 : decode cX1_countForth 3 = .ok (.istore_n 3, 1) := by decide +kernel
theorem dX1_countForth_4 : decode cX1_countForth 4 = .ok (.iconst 0, 1) := by decide +kernel
theorem dX1_countForth_5 : decode cX1_countForth 5 = .ok (.istore 4, 2) := by decide +kernel
theorem dX1_countForth_7 : decode cX1_countForth 7 = .ok (.iconst 0, 1) := by decide +kernel
theorem dX1_countForth_8 : decode cX1_countForth 8 = .ok (.istore 5, 2) := by decide +kernel
theorem dX1_countForth_10 : decode cX1_countForth 10 = .ok (.iload 5, 2) := by decide +kernel
theorem dX1_countForth_12 : decode cX1_countForth 12 = .ok (.iload_n 1, 1) := by decide +kernel
theorem dX1_countForth_13 : decode cX1_countForth 13 = .ok (.if_icmp .ge 86, 3) := by decide +kernel
theorem dX1_countForth_16 : decode cX1_countForth 16 = .ok (.aload_n 0, 1) := by decide +kernel
theorem dX1_countForth_17 : decode cX1_countForth 17 = .ok (.getfield 18, 3) := by decide +kernel
theorem dX1_countForth_20 : decode cX1_countForth 20 = .ok (.iload 5, 2) := by decide +kernel
theorem dX1_countForth_22 : decode cX1_countForth 22 = .ok (.invokevirtual 57, 3) := by decide +kernel
theorem dX1_countForth_25 : decode cX1_countForth 25 = .ok (.astore 6, 2) := by decide +kernel
theorem dX1_countForth_27 : decode cX1_countForth 27 = .ok (.iload 5, 2) := by decide +kernel
theorem dX1_countForth_29 : decode cX1_countForth 29 = .ok (.ifCond .eq 12, 3) := by decide +kernel
theorem dX1_countForth_32 : decode cX1_countForth 32 = .ok (.aload 6, 2) := by decide +kernel
theorem dX1_countForth_34 : decode cX1_countForth 34 = .ok (.getfield 61, 3) := by decide +kernel
theorem dX1_countForth_37 : decode cX1_countForth 37 = .ok (.iload_n 2, 1) := by decide +kernel
theorem dX1_countForth_38 : decode cX1_countForth 38 = .ok (.if_icmp .eq 14, 3) := by decide +kernel
theorem dX1_countForth_41 : decode cX1_countForth 41 = .ok (.aload 6, 2) := by decide +kernel
theorem dX1_countForth_43 : decode cX1_countForth 43 = .ok (.getfield 61, 3) := by decide +kernel
theorem dX1_countForth_46 : decode cX1_countForth 46 = .ok (.istore_n 2, 1) := by decide +kernel
theorem dX1_countForth_47 : decode cX1_countForth 47 = .ok (.iconst 0, 1) := by decide +kernel
theorem dX1_countForth_48 : decode cX1_countForth 48 = .ok (.istore_n 3, 1) := by decide +kernel
theorem dX1_countForth_49 : decode cX1_countForth 49 = .ok (.iconst 0, 1) := by decide +kernel
theorem dX1_countForth_50 : decode cX1_countForth 50 = .ok (.istore 4, 2) := by decide +kernel
theorem dX1_countForth_52 : decode cX1_countForth 52 = .ok (.aload 6, 2) := by decide +kernel
theorem dX1_countForth_54 : decode cX1_countForth 54 = .ok (.getfield 65, 3) := by decide +kernel
theorem dX1_countForth_57 : decode cX1_countForth 57 = .ok (.ifCond .ne 9, 3) := by decide +kernel
theorem dX1_countForth_60 : decode cX1_countForth 60 = .ok (.iinc 3 1, 3) := by decide +kernel
theorem dX1_countForth_63 : decode cX1_countForth 63 = .ok (.goto 6, 3) := by decide +kernel
theorem dX1_countForth_66 : decode cX1_countForth 66 = .ok (.iinc 4 1, 3) := by decide +kernel
theorem dX1_countForth_69 : decode cX1_countForth 69 = .ok (.aload 6, 2) := by decide +kernel
theorem dX1_countForth_71 : decode cX1_countForth 71 = .ok (.iload_n 3, 1) := by decide +kernel
theorem dX1_countForth_72 : decode cX1_countForth 72 = .ok (.putfield 68, 3) := by decide +kernel
theorem dX1_countForth_75 : decode cX1_countForth 75 = .ok (.aload 6, 2) := by decide +kernel
theorem dX1_countForth_77 : decode cX1_countForth 77 = .ok (.iload 4, 2) := by decide +kernel
theorem dX1_countForth_79 : decode cX1_countForth 79 = .ok (.putfield 71, 3) := by decide +kernel
theorem dX1_countForth_82 : decode cX1_countForth 82 = .ok (.aload_n 0, 1) := by decide +kernel
theorem dX1_countForth_83 : decode cX1_countForth 83 = .ok (.getfield 18, 3) := by decide +kernel
theorem dX1_countForth_86 : decode cX1_countForth 86 = .ok (.iload 5, 2) := by decide +kernel
theorem dX1_countForth_88 : decode cX1_countForth 88 = .ok (.aload 6, 2) := by decide +kernel
theorem dX1_countForth_90 : decode cX1_countForth 90 = .ok (.invokevirtual 74, 3) := by decide +kernel
theorem dX1_countForth_93 : decode cX1_countForth 93 = .ok (.iinc 5 1, 3) := by decide +kernel
theorem dX1_countForth_96 : decode cX1_countForth 96 = .ok (.goto (-86), 3) := by decide +kernel
theorem dX1_countForth_99 : decode cX1_countForth 99 = .ok (.return_, 1) := by decide +kernel
theorem dX1_countBack_0 : decode cX1_countBack 0 = .ok (.iconst 0, 1) := by decide +kernel
theorem dX1_countBack_1 : decode cX1_countBack 1 = .ok (.istore_n 2, 1) := by decide +kernel
theorem dX1_countBack_2 : decode cX1_countBack 2 = .ok (.iconst 0, 1) := by decide +kernel
theorem dX1_countBack_3 : decode cX1_countBack 3 = .ok (.istore_n 3, 1) := by decide +kernel
theorem dX1_countBack_4 : decode cX1_countBack 4 = .ok (.iconst 0, 1) := by decide +kernel
theorem dX1_countBack_5 : decode cX1_countBack 5 = .ok (.istore 4, 2) := by decide +kernel
theorem dX1_countBack_7 : decode cX1_countBack 7 = .ok (.iconst 0, 1) := by decide +kernel
theorem dX1_countBack_8 : decode cX1_countBack 8 = .ok (.istore 5, 2) := by decide +kernel
theorem dX1_countBack_10 : decode cX1_countBack 10 = .ok (.iload_n 1, 1) := by decide +kernel
theorem dX1_countBack_11 : decode cX1_countBack 11 = .ok (.iconst 1, 1) := by decide +kernel
theorem dX1_countBack_12 : decode cX1_countBack 12 = .ok (.isub, 1) := by decide +kernel
theorem dX1_countBack_13 : decode cX1_countBack 13 = .ok (.istore 6, 2) := by decide +kernel
theorem dX1_countBack_15 : decode cX1_countBack 15 = .ok (.iload 6, 2) := by decide +kernel
theorem dX1_countBack_17 : decode cX1_countBack 17 = .ok (.ifCond .lt 105, 3) := by decide +kernel
theorem dX1_countBack_20 : decode cX1_countBack 20 = .ok (.aload_n 0, 1) := by decide +kernel
theorem dX1_countBack_21 : decode cX1_countBack 21 = .ok (.getfield 18, 3) := by decide +kernel
theorem dX1_countBack_24 : decode cX1_countBack 24 = .ok (.iload 6, 2) := by decide +kernel
theorem dX1_countBack_26 : decode cX1_countBack 26 = .ok (.invokevirtual 57, 3) := by decide +kernel
theorem dX1_countBack_29 : decode cX1_countBack 29 = .ok (.astore 7, 2) := by decide +kernel
theorem dX1_countBack_31 : decode cX1_countBack 31 = .ok (.iload 6, 2) := by decide +kernel
theorem dX1_countBack_33 : decode cX1_countBack 33 = .ok (.iload_n 1, 1) := by decide +kernel
theorem dX1_countBack_34 : decode cX1_countBack 34 = .ok (.iconst 1, 1) := by decide +kernel
theorem dX1_countBack_35 : decode cX1_countBack 35 = .ok (.isub, 1) := by decide +kernel
theorem dX1_countBack_36 : decode cX1_countBack 36 = .ok (.if_icmp .eq 12, 3) := by decide +kernel
theorem dX1_countBack_39 : decode cX1_countBack 39 = .ok (.aload 7, 2) := by decide +kernel
theorem dX1_countBack_41 : decode cX1_countBack 41 = .ok (.getfield 61, 3) := by decide +kernel
theorem dX1_countBack_44 : decode cX1_countBack 44 = .ok (.iload_n 2, 1) := by decide +kernel
theorem dX1_countBack_45 : decode cX1_countBack 45 = .ok (.if_icmp .eq 31, 3) := by decide +kernel
theorem dX1_countBack_48 : decode cX1_countBack 48 = .ok (.aload 7, 2) := by decide +kernel
theorem dX1_countBack_50 : decode cX1_countBack 50 = .ok (.getfield 61, 3) := by decide +kernel
theorem dX1_countBack_53 : decode cX1_countBack 53 = .ok (.istore_n 2, 1) := by decide +kernel
theorem dX1_countBack_54 : decode cX1_countBack 54 = .ok (.aload 7, 2) := by decide +kernel
theorem dX1_countBack_56 : decode cX1_countBack 56 = .ok (.getfield 68, 3) := by decide +kernel
theorem dX1_countBack_59 : decode cX1_countBack 59 = .ok (.istore_n 3, 1) := by decide +kernel
theorem dX1_countBack_60 : decode cX1_countBack 60 = .ok (.aload 7, 2) := by decide +kernel
theorem dX1_countBack_62 : decode cX1_countBack 62 = .ok (.getfield 71, 3) := by decide +kernel
theorem dX1_countBack_65 : decode cX1_countBack 65 = .ok (.istore 4, 2) := by decide +kernel
theorem dX1_countBack_67 : decode cX1_countBack 67 = .ok (.iload 5, 2) := by decide +kernel
theorem dX1_countBack_69 : decode cX1_countBack 69 = .ok (.iload_n 3, 1) := by decide +kernel
theorem dX1_countBack_70 : decode cX1_countBack 70 = .ok (.iload 4, 2) := by decide +kernel
theorem dX1_countBack_72 : decode cX1_countBack 72 = .ok (.imul, 1) := by decide +kernel
theorem dX1_countBack_73 : decode cX1_countBack 73 = .ok (.iadd, 1) := by decide +kernel
theorem dX1_countBack_74 : decode cX1_countBack 74 = .ok (.istore 5, 2) := by decide +kernel
theorem dX1_countBack_76 : decode cX1_countBack 76 = .ok (.aload 7, 2) := by decide +kernel
theorem dX1_countBack_78 : decode cX1_countBack 78 = .ok (.iload_n 3, 1) := by decide +kernel
theorem dX1_countBack_79 : decode cX1_countBack 79 = .ok (.putfield 68, 3) := by decide +kernel
theorem dX1_countBack_82 : decode cX1_countBack 82 = .ok (.aload 7, 2) := by decide +kernel
theorem dX1_countBack_84 : decode cX1_countBack 84 = .ok (.iload 4, 2) := by decide +kernel
theorem dX1_countBack_86 : decode cX1_countBack 86 = .ok (.putfield 71, 3) := by decide +kernel
theorem dX1_countBack_89 : decode cX1_countBack 89 = .ok (.aload 7, 2) := by decide +kernel
theorem dX1_countBack_91 : decode cX1_countBack 91 = .ok (.aload 7, 2) := by decide +kernel
theorem dX1_countBack_93 : decode cX1_countBack 93 = .ok (.getfield 65, 3) := by decide +kernel
theorem dX1_countBack_96 : decode cX1_countBack 96 = .ok (.aload 7, 2) := by decide +kernel
theorem dX1_countBack_98 : decode cX1_countBack 98 = .ok (.getfield 61, 3) := by decide +kernel
theorem dX1_countBack_101 : decode cX1_countBack 101 = .ok (.iconst 0, 1) := by decide +kernel
theorem dX1_countBack_102 : decode cX1_countBack 102 = .ok (.invokevirtual 78, 3) := by decide +kernel
theorem dX1_countBack_105 : decode cX1_countBack 105 = .ok (.aload_n 0, 1) := by decide +kernel
theorem dX1_countBack_106 : decode cX1_countBack 106 = .ok (.getfield 18, 3) := by decide +kernel
theorem dX1_countBack_109 : decode cX1_countBack 109 = .ok (.iload 6, 2) := by decide +kernel
theorem dX1_countBack_111 : decode cX1_countBack 111 = .ok (.aload 7, 2) := by decide +kernel
theorem dX1_countBack_113 : decode cX1_countBack 113 = .ok (.invokevirtual 74, 3) := by decide +kernel
theorem dX1_countBack_116 : decode cX1_countBack 116 = .ok (.iinc 6 (-1), 3) := by decide +kernel
theorem dX1_countBack_119 : decode cX1_countBack 119 = .ok (.goto (-104), 3) := by decide +kernel
theorem dX1_countBack_122 : decode cX1_countBack 122 = .ok (.iload 5, 2) := by decide +kernel
theorem dX1_countBack_124 : decode cX1_countBack 124 = .ok (.ireturn, 1) := by decide +kernel
theorem dX1_copyAll_0 : decode cX1_copyAll 0 = .ok (.iconst 0, 1) := by decide +kernel
theorem dX1_copyAll_1 : decode cX1_copyAll 1 = .ok (.istore_n 2, 1) := by decide +kernel
theorem dX1_copyAll_2 : decode cX1_copyAll 2 = .ok (.iload_n 2, 1) := by decide +kernel
theorem dX1_copyAll_3 : decode cX1_copyAll 3 = .ok (.iload_n 1, 1) := by decide +kernel
theorem dX1_copyAll_4 : decode cX1_copyAll 4 = .ok (.if_icmp .ge 21, 3) := by decide +kernel
theorem dX1_copyAll_7 : decode cX1_copyAll 7 = .ok (.aload_n 0, 1) := by decide +kernel
theorem dX1_copyAll_8 : decode cX1_copyAll 8 = .ok (.getfield 18, 3) := by decide +kernel
theorem dX1_copyAll_11 : decode cX1_copyAll 11 = .ok (.iload_n 2, 1) := by decide +kernel
theorem dX1_copyAll_12 : decode cX1_copyAll 12 = .ok (.iload_n 2, 1) := by decide +kernel
theorem dX1_copyAll_13 : decode cX1_copyAll 13 = .ok (.bipush 40, 2) := by decide +kernel
theorem dX1_copyAll_15 : decode cX1_copyAll 15 = .ok (.iadd, 1) := by decide +kernel
theorem dX1_copyAll_16 : decode cX1_copyAll 16 = .ok (.invokevirtual 82, 3) := by decide +kernel
theorem dX1_copyAll_19 : decode cX1_copyAll 19 = .ok (.iinc 2 1, 3) := by decide +kernel
theorem dX1_copyAll_22 : decode cX1_copyAll 22 = .ok (.goto (-20), 3) := by decide +kernel
theorem dX1_copyAll_25 : decode cX1_copyAll 25 = .ok (.return_, 1) := by decide +kernel
theorem dX1_addPairs_0 : decode cX1_addPairs 0 = .ok (.iconst 0, 1) := by decide +kernel
theorem dX1_addPairs_1 : decode cX1_addPairs 1 = .ok (.istore_n 2, 1) := by decide +kernel
theorem dX1_addPairs_2 : decode cX1_addPairs 2 = .ok (.iload_n 2, 1) := by decide +kernel
theorem dX1_addPairs_3 : decode cX1_addPairs 3 = .ok (.iload_n 1, 1) := by decide +kernel
theorem dX1_addPairs_4 : decode cX1_addPairs 4 = .ok (.if_icmp .ge 68, 3) := by decide +kernel
theorem dX1_addPairs_7 : decode cX1_addPairs 7 = .ok (.aload_n 0, 1) := by decide +kernel
theorem dX1_addPairs_8 : decode cX1_addPairs 8 = .ok (.getfield 18, 3) := by decide +kernel
theorem dX1_addPairs_11 : decode cX1_addPairs 11 = .ok (.iload_n 2, 1) := by decide +kernel
theorem dX1_addPairs_12 : decode cX1_addPairs 12 = .ok (.invokevirtual 57, 3) := by decide +kernel
theorem dX1_addPairs_15 : decode cX1_addPairs 15 = .ok (.astore_n 3, 1) := by decide +kernel
theorem dX1_addPairs_16 : decode cX1_addPairs 16 = .ok (.aload_n 0, 1) := by decide +kernel
theorem dX1_addPairs_17 : decode cX1_addPairs 17 = .ok (.getfield 18, 3) := by decide +kernel
theorem dX1_addPairs_20 : decode cX1_addPairs 20 = .ok (.iload_n 2, 1) := by decide +kernel
theorem dX1_addPairs_21 : decode cX1_addPairs 21 = .ok (.bipush 40, 2) := by decide +kernel
theorem dX1_addPairs_23 : decode cX1_addPairs 23 = .ok (.iadd, 1) := by decide +kernel
theorem dX1_addPairs_24 : decode cX1_addPairs 24 = .ok (.invokevirtual 57, 3) := by decide +kernel
theorem dX1_addPairs_27 : decode cX1_addPairs 27 = .ok (.astore 4, 2) := by decide +kernel
theorem dX1_addPairs_29 : decode cX1_addPairs 29 = .ok (.aload_n 3, 1) := by decide +kernel
theorem dX1_addPairs_30 : decode cX1_addPairs 30 = .ok (.aload_n 3, 1) := by decide +kernel
theorem dX1_addPairs_31 : decode cX1_addPairs 31 = .ok (.getfield 61, 3) := by decide +kernel
theorem dX1_addPairs_34 : decode cX1_addPairs 34 = .ok (.aload_n 3, 1) := by decide +kernel
theorem dX1_addPairs_35 : decode cX1_addPairs 35 = .ok (.getfield 85, 3) := by decide +kernel
theorem dX1_addPairs_38 : decode cX1_addPairs 38 = .ok (.aload 4, 2) := by decide +kernel
theorem dX1_addPairs_40 : decode cX1_addPairs 40 = .ok (.getfield 85, 3) := by decide +kernel
theorem dX1_addPairs_43 : decode cX1_addPairs 43 = .ok (.iadd, 1) := by decide +kernel
theorem dX1_addPairs_44 : decode cX1_addPairs 44 = .ok (.aload_n 3, 1) := by decide +kernel
theorem dX1_addPairs_45 : decode cX1_addPairs 45 = .ok (.getfield 88, 3) := by decide +kernel
theorem dX1_addPairs_48 : decode cX1_addPairs 48 = .ok (.aload 4, 2) := by decide +kernel
theorem dX1_addPairs_50 : decode cX1_addPairs 50 = .ok (.getfield 88, 3) := by decide +kernel
theorem dX1_addPairs_53 : decode cX1_addPairs 53 = .ok (.iadd, 1) := by decide +kernel
theorem dX1_addPairs_54 : decode cX1_addPairs 54 = .ok (.invokevirtual 91, 3) := by decide +kernel
theorem dX1_addPairs_57 : decode cX1_addPairs 57 = .ok (.aload_n 0, 1) := by decide +kernel
theorem dX1_addPairs_58 : decode cX1_addPairs 58 = .ok (.getfield 18, 3) := by decide +kernel
theorem dX1_addPairs_61 : decode cX1_addPairs 61 = .ok (.iload_n 2, 1) := by decide +kernel
theorem dX1_addPairs_62 : decode cX1_addPairs 62 = .ok (.aload_n 3, 1) := by decide +kernel
theorem dX1_addPairs_63 : decode cX1_addPairs 63 = .ok (.invokevirtual 74, 3) := by decide +kernel
theorem dX1_addPairs_66 : decode cX1_addPairs 66 = .ok (.iinc 2 1, 3) := by decide +kernel
theorem dX1_addPairs_69 : decode cX1_addPairs 69 = .ok (.goto (-67), 3) := by decide +kernel
theorem dX1_addPairs_72 : decode cX1_addPairs 72 = .ok (.return_, 1) := by decide +kernel
theorem dX1_expand_0 : decode cX1_expand 0 = .ok (.aload_n 0, 1) := by decide +kernel
theorem dX1_expand_1 : decode cX1_expand 1 = .ok (.iload_n 1, 1) := by decide +kernel
theorem dX1_expand_2 : decode cX1_expand 2 = .ok (.iload_n 2, 1) := by decide +kernel
theorem dX1_expand_3 : decode cX1_expand 3 = .ok (.iload 4, 2) := by decide +kernel
theorem dX1_expand_5 : decode cX1_expand 5 = .ok (.invokevirtual 94, 3) := by decide +kernel
theorem dX1_expand_8 : decode cX1_expand 8 = .ok (.aload_n 0, 1) := by decide +kernel
theorem dX1_expand_9 : decode cX1_expand 9 = .ok (.getfield 18, 3) := by decide +kernel
theorem dX1_expand_12 : decode cX1_expand 12 = .ok (.iload_n 1, 1) := by decide +kernel
theorem dX1_expand_13 : decode cX1_expand 13 = .ok (.iload_n 2, 1) := by decide +kernel
theorem dX1_expand_14 : decode cX1_expand 14 = .ok (.invokevirtual 97, 3) := by decide +kernel
theorem dX1_expand_17 : decode cX1_expand 17 = .ok (.aload_n 0, 1) := by decide +kernel
theorem dX1_expand_18 : decode cX1_expand 18 = .ok (.getfield 18, 3) := by decide +kernel
theorem dX1_expand_21 : decode cX1_expand 21 = .ok (.iload_n 1, 1) := by decide +kernel
theorem dX1_expand_22 : decode cX1_expand 22 = .ok (.iload_n 2, 1) := by decide +kernel
theorem dX1_expand_23 : decode cX1_expand 23 = .ok (.iload_n 3, 1) := by decide +kernel
theorem dX1_expand_24 : decode cX1_expand 24 = .ok (.invokestatic 100, 3) := by decide +kernel
theorem dX1_expand_27 : decode cX1_expand 27 = .ok (.invokevirtual 106, 3) := by decide +kernel
theorem dX1_expand_30 : decode cX1_expand 30 = .ok (.aload_n 0, 1) := by decide +kernel
theorem dX1_expand_31 : decode cX1_expand 31 = .ok (.iload_n 1, 1) := by decide +kernel
theorem dX1_expand_32 : decode cX1_expand 32 = .ok (.iload_n 3, 1) := by decide +kernel
theorem dX1_expand_33 : decode cX1_expand 33 = .ok (.invokevirtual 109, 3) := by decide +kernel
theorem dX1_expand_36 : decode cX1_expand 36 = .ok (.return_, 1) := by decide +kernel
theorem dX1_markStarts_0 : decode cX1_markStarts 0 = .ok (.iconst 0, 1) := by decide +kernel
theorem dX1_markStarts_1 : decode cX1_markStarts 1 = .ok (.istore 4, 2) := by decide +kernel
theorem dX1_markStarts_3 : decode cX1_markStarts 3 = .ok (.iconst 0, 1) := by decide +kernel
theorem dX1_markStarts_4 : decode cX1_markStarts 4 = .ok (.istore 5, 2) := by decide +kernel
theorem dX1_markStarts_6 : decode cX1_markStarts 6 = .ok (.iconst 0, 1) := by decide +kernel
theorem dX1_markStarts_7 : decode cX1_markStarts 7 = .ok (.istore 6, 2) := by decide +kernel
theorem dX1_markStarts_9 : decode cX1_markStarts 9 = .ok (.iload 6, 2) := by decide +kernel
theorem dX1_markStarts_11 : decode cX1_markStarts 11 = .ok (.iload_n 2, 1) := by decide +kernel
theorem dX1_markStarts_12 : decode cX1_markStarts 12 = .ok (.if_icmp .ge 97, 3) := by decide +kernel
theorem dX1_markStarts_15 : decode cX1_markStarts 15 = .ok (.aload_n 0, 1) := by decide +kernel
theorem dX1_markStarts_16 : decode cX1_markStarts 16 = .ok (.getfield 18, 3) := by decide +kernel
theorem dX1_markStarts_19 : decode cX1_markStarts 19 = .ok (.iload_n 1, 1) := by decide +kernel
theorem dX1_markStarts_20 : decode cX1_markStarts 20 = .ok (.iload 6, 2) := by decide +kernel
theorem dX1_markStarts_22 : decode cX1_markStarts 22 = .ok (.iadd, 1) := by decide +kernel
theorem dX1_markStarts_23 : decode cX1_markStarts 23 = .ok (.invokevirtual 57, 3) := by decide +kernel
theorem dX1_markStarts_26 : decode cX1_markStarts 26 = .ok (.astore 7, 2) := by decide +kernel
theorem dX1_markStarts_28 : decode cX1_markStarts 28 = .ok (.aload 7, 2) := by decide +kernel
theorem dX1_markStarts_30 : decode cX1_markStarts 30 = .ok (.getfield 65, 3) := by decide +kernel
theorem dX1_markStarts_33 : decode cX1_markStarts 33 = .ok (.iload_n 3, 1) := by decide +kernel
theorem dX1_markStarts_34 : decode cX1_markStarts 34 = .ok (.if_icmp .ne 11, 3) := by decide +kernel
theorem dX1_markStarts_37 : decode cX1_markStarts 37 = .ok (.aload 7, 2) := by decide +kernel
theorem dX1_markStarts_39 : decode cX1_markStarts 39 = .ok (.invokevirtual 112, 3) := by decide +kernel
theorem dX1_markStarts_42 : decode cX1_markStarts 42 = .ok (.goto 4, 3) := by decide +kernel
theorem dX1_markStarts_45 : decode cX1_markStarts 45 = .ok (.iconst 0, 1) := by decide +kernel
theorem dX1_markStarts_46 : decode cX1_markStarts 46 = .ok (.istore 8, 2) := by decide +kernel
theorem dX1_markStarts_48 : decode cX1_markStarts 48 = .ok (.iload 8, 2) := by decide +kernel
theorem dX1_markStarts_50 : decode cX1_markStarts 50 = .ok (.ifCond .le 35, 3) := by decide +kernel
theorem dX1_markStarts_53 : decode cX1_markStarts 53 = .ok (.aload 7, 2) := by decide +kernel
theorem dX1_markStarts_55 : decode cX1_markStarts 55 = .ok (.iload 6, 2) := by decide +kernel
theorem dX1_markStarts_57 : decode cX1_markStarts 57 = .ok (.iload 4, 2) := by decide +kernel
theorem dX1_markStarts_59 : decode cX1_markStarts 59 = .ok (.invokevirtual 116, 3) := by decide +kernel
theorem dX1_markStarts_62 : decode cX1_markStarts 62 = .ok (.aload 7, 2) := by decide +kernel
theorem dX1_markStarts_64 : decode cX1_markStarts 64 = .ok (.iload 5, 2) := by decide +kernel
theorem dX1_markStarts_66 : decode cX1_markStarts 66 = .ok (.iload 4, 2) := by decide +kernel
theorem dX1_markStarts_68 : decode cX1_markStarts 68 = .ok (.isub, 1) := by decide +kernel
theorem dX1_markStarts_69 : decode cX1_markStarts 69 = .ok (.putfield 119, 3) := by decide +kernel
theorem dX1_markStarts_72 : decode cX1_markStarts 72 = .ok (.iinc 4 1, 3) := by decide +kernel
theorem dX1_markStarts_75 : decode cX1_markStarts 75 = .ok (.iload 5, 2) := by decide +kernel
theorem dX1_markStarts_77 : decode cX1_markStarts 77 = .ok (.iload 8, 2) := by decide +kernel
theorem dX1_markStarts_79 : decode cX1_markStarts 79 = .ok (.iadd, 1) := by decide +kernel
theorem dX1_markStarts_80 : decode cX1_markStarts 80 = .ok (.istore 5, 2) := by decide +kernel
theorem dX1_markStarts_82 : decode cX1_markStarts 82 = .ok (.goto 8, 3) := by decide +kernel
theorem dX1_markStarts_85 : decode cX1_markStarts 85 = .ok (.aload 7, 2) := by decide +kernel
theorem dX1_markStarts_87 : decode cX1_markStarts 87 = .ok (.invokevirtual 122, 3) := by decide +kernel
theorem dX1_markStarts_90 : decode cX1_markStarts 90 = .ok (.aload_n 0, 1) := by decide +kernel
theorem dX1_markStarts_91 : decode cX1_markStarts 91 = .ok (.getfield 18, 3) := by decide +kernel
theorem dX1_markStarts_94 : decode cX1_markStarts 94 = .ok (.iload_n 1, 1) := by decide +kernel
theorem dX1_markStarts_95 : decode cX1_markStarts 95 = .ok (.iload 6, 2) := by decide +kernel
theorem dX1_markStarts_97 : decode cX1_markStarts 97 = .ok (.iadd, 1) := by decide +kernel
theorem dX1_markStarts_98 : decode cX1_markStarts 98 = .ok (.aload 7, 2) := by decide +kernel
theorem dX1_markStarts_100 : decode cX1_markStarts 100 = .ok (.invokevirtual 74, 3) := by decide +kernel
theorem dX1_markStarts_103 : decode cX1_markStarts 103 = .ok (.iinc 6 1, 3) := by decide +kernel
theorem dX1_markStarts_106 : decode cX1_markStarts 106 = .ok (.goto (-97), 3) := by decide +kernel
theorem dX1_markStarts_109 : decode cX1_markStarts 109 = .ok (.return_, 1) := by decide +kernel
theorem dX1_fillCopies_0 : decode cX1_fillCopies 0 = .ok (.iconst 0, 1) := by decide +kernel
theorem dX1_fillCopies_1 : decode cX1_fillCopies 1 = .ok (.istore_n 3, 1) := by decide +kernel
theorem dX1_fillCopies_2 : decode cX1_fillCopies 2 = .ok (.iconst 0, 1) := by decide +kernel
theorem dX1_fillCopies_3 : decode cX1_fillCopies 3 = .ok (.istore 4, 2) := by decide +kernel
theorem dX1_fillCopies_5 : decode cX1_fillCopies 5 = .ok (.iload 4, 2) := by decide +kernel
theorem dX1_fillCopies_7 : decode cX1_fillCopies 7 = .ok (.iload_n 2, 1) := by decide +kernel
theorem dX1_fillCopies_8 : decode cX1_fillCopies 8 = .ok (.if_icmp .ge 81, 3) := by decide +kernel
theorem dX1_fillCopies_11 : decode cX1_fillCopies 11 = .ok (.aload_n 0, 1) := by decide +kernel
theorem dX1_fillCopies_12 : decode cX1_fillCopies 12 = .ok (.getfield 18, 3) := by decide +kernel
theorem dX1_fillCopies_15 : decode cX1_fillCopies 15 = .ok (.iload_n 1, 1) := by decide +kernel
theorem dX1_fillCopies_16 : decode cX1_fillCopies 16 = .ok (.iload 4, 2) := by decide +kernel
theorem dX1_fillCopies_18 : decode cX1_fillCopies 18 = .ok (.iadd, 1) := by decide +kernel
theorem dX1_fillCopies_19 : decode cX1_fillCopies 19 = .ok (.invokevirtual 57, 3) := by decide +kernel
theorem dX1_fillCopies_22 : decode cX1_fillCopies 22 = .ok (.astore 5, 2) := by decide +kernel
theorem dX1_fillCopies_24 : decode cX1_fillCopies 24 = .ok (.aload 5, 2) := by decide +kernel
theorem dX1_fillCopies_26 : decode cX1_fillCopies 26 = .ok (.getfield 125, 3) := by decide +kernel
theorem dX1_fillCopies_29 : decode cX1_fillCopies 29 = .ok (.ifCond .eq 17, 3) := by decide +kernel
theorem dX1_fillCopies_32 : decode cX1_fillCopies 32 = .ok (.aload_n 0, 1) := by decide +kernel
theorem dX1_fillCopies_33 : decode cX1_fillCopies 33 = .ok (.getfield 12, 3) := by decide +kernel
theorem dX1_fillCopies_36 : decode cX1_fillCopies 36 = .ok (.aload 5, 2) := by decide +kernel
theorem dX1_fillCopies_38 : decode cX1_fillCopies 38 = .ok (.invokevirtual 129, 3) := by decide +kernel
theorem dX1_fillCopies_41 : decode cX1_fillCopies 41 = .ok (.iconst 0, 1) := by decide +kernel
theorem dX1_fillCopies_42 : decode cX1_fillCopies 42 = .ok (.istore_n 3, 1) := by decide +kernel
theorem dX1_fillCopies_43 : decode cX1_fillCopies 43 = .ok (.goto 15, 3) := by decide +kernel
theorem dX1_fillCopies_46 : decode cX1_fillCopies 46 = .ok (.aload 5, 2) := by decide +kernel
theorem dX1_fillCopies_48 : decode cX1_fillCopies 48 = .ok (.aload_n 0, 1) := by decide +kernel
theorem dX1_fillCopies_49 : decode cX1_fillCopies 49 = .ok (.getfield 12, 3) := by decide +kernel
theorem dX1_fillCopies_52 : decode cX1_fillCopies 52 = .ok (.invokevirtual 129, 3) := by decide +kernel
theorem dX1_fillCopies_55 : decode cX1_fillCopies 55 = .ok (.iinc 3 1, 3) := by decide +kernel
theorem dX1_fillCopies_58 : decode cX1_fillCopies 58 = .ok (.aload 5, 2) := by decide +kernel
theorem dX1_fillCopies_60 : decode cX1_fillCopies 60 = .ok (.aload 5, 2) := by decide +kernel
theorem dX1_fillCopies_62 : decode cX1_fillCopies 62 = .ok (.getfield 61, 3) := by decide +kernel
theorem dX1_fillCopies_65 : decode cX1_fillCopies 65 = .ok (.iload_n 3, 1) := by decide +kernel
theorem dX1_fillCopies_66 : decode cX1_fillCopies 66 = .ok (.iconst 0, 1) := by decide +kernel
theorem dX1_fillCopies_67 : decode cX1_fillCopies 67 = .ok (.invokevirtual 78, 3) := by decide +kernel
theorem dX1_fillCopies_70 : decode cX1_fillCopies 70 = .ok (.aload_n 0, 1) := by decide +kernel
theorem dX1_fillCopies_71 : decode cX1_fillCopies 71 = .ok (.getfield 18, 3) := by decide +kernel
theorem dX1_fillCopies_74 : decode cX1_fillCopies 74 = .ok (.iload_n 1, 1) := by decide +kernel
theorem dX1_fillCopies_75 : decode cX1_fillCopies 75 = .ok (.iload 4, 2) := by decide +kernel
theorem dX1_fillCopies_77 : decode cX1_fillCopies 77 = .ok (.iadd, 1) := by decide +kernel
theorem dX1_fillCopies_78 : decode cX1_fillCopies 78 = .ok (.aload 5, 2) := by decide +kernel
theorem dX1_fillCopies_80 : decode cX1_fillCopies 80 = .ok (.invokevirtual 74, 3) := by decide +kernel
theorem dX1_fillCopies_83 : decode cX1_fillCopies 83 = .ok (.iinc 4 1, 3) := by decide +kernel
theorem dX1_fillCopies_86 : decode cX1_fillCopies 86 = .ok (.goto (-81), 3) := by decide +kernel
theorem dX1_fillCopies_89 : decode cX1_fillCopies 89 = .ok (.return_, 1) := by decide +kernel
theorem dX2_init_0 : decode cX2_init 0 = .ok (.aload_n 0, 1) := by decide +kernel
theorem dX2_init_1 : decode cX2_init 1 = .ok (.invokespecial 3, 3) := by decide +kernel
theorem dX2_init_4 : decode cX2_init 4 = .ok (.aload_n 0, 1) := by decide +kernel
theorem dX2_init_5 : decode cX2_init 5 = .ok (.aload_n 1, 1) := by decide +kernel
theorem dX2_init_6 : decode cX2_init 6 = .ok (.putfield 9, 3) := by decide +kernel
theorem dX2_init_9 : decode cX2_init 9 = .ok (.return_, 1) := by decide +kernel
theorem dX2_order_0 : decode cX2_order 0 = .ok (.aload_n 0, 1) := by decide +kernel
theorem dX2_order_1 : decode cX2_order 1 = .ok (.getfield 9, 3) := by decide +kernel
theorem dX2_order_4 : decode cX2_order 4 = .ok (.aload_n 1, 1) := by decide +kernel
theorem dX2_order_5 : decode cX2_order 5 = .ok (.invokevirtual 15, 3) := by decide +kernel
theorem dX2_order_8 : decode cX2_order 8 = .ok (.istore_n 2, 1) := by decide +kernel
theorem dX2_order_9 : decode cX2_order 9 = .ok (.aload_n 0, 1) := by decide +kernel
theorem dX2_order_10 : decode cX2_order 10 = .ok (.getfield 9, 3) := by decide +kernel
theorem dX2_order_13 : decode cX2_order 13 = .ok (.iconst 0, 1) := by decide +kernel
theorem dX2_order_14 : decode cX2_order 14 = .ok (.iload_n 2, 1) := by decide +kernel
theorem dX2_order_15 : decode cX2_order 15 = .ok (.invokevirtual 21, 3) := by decide +kernel
theorem dX2_order_18 : decode cX2_order 18 = .ok (.aload_n 0, 1) := by decide +kernel
theorem dX2_order_19 : decode cX2_order 19 = .ok (.getfield 9, 3) := by decide +kernel
theorem dX2_order_22 : decode cX2_order 22 = .ok (.aload_n 1, 1) := by decide +kernel
theorem dX2_order_23 : decode cX2_order 23 = .ok (.iload_n 2, 1) := by decide +kernel
theorem dX2_order_24 : decode cX2_order 24 = .ok (.invokevirtual 25, 3) := by decide +kernel
theorem dX2_order_27 : decode cX2_order 27 = .ok (.return_, 1) := by decide +kernel
theorem dX2_keepMatching_0 : decode cX2_keepMatching 0 = .ok (.aload_n 0, 1) := by decide +kernel
theorem dX2_keepMatching_1 : decode cX2_keepMatching 1 = .ok (.getfield 9, 3) := by decide +kernel
theorem dX2_keepMatching_4 : decode cX2_keepMatching 4 = .ok (.aload_n 1, 1) := by decide +kernel
theorem dX2_keepMatching_5 : decode cX2_keepMatching 5 = .ok (.invokevirtual 15, 3) := by decide +kernel
theorem dX2_keepMatching_8 : decode cX2_keepMatching 8 = .ok (.istore 5, 2) := by decide +kernel
theorem dX2_keepMatching_10 : decode cX2_keepMatching 10 = .ok (.iconst 0, 1) := by decide +kernel
theorem dX2_keepMatching_11 : decode cX2_keepMatching 11 = .ok (.istore 6, 2) := by decide +kernel
theorem dX2_keepMatching_13 : decode cX2_keepMatching 13 = .ok (.iconst 0, 1) := by decide +kernel
theorem dX2_keepMatching_14 : decode cX2_keepMatching 14 = .ok (.istore 7, 2) := by decide +kernel
theorem dX2_keepMatching_16 : decode cX2_keepMatching 16 = .ok (.iload 7, 2) := by decide +kernel
theorem dX2_keepMatching_18 : decode cX2_keepMatching 18 = .ok (.iload 5, 2) := by decide +kernel
theorem dX2_keepMatching_20 : decode cX2_keepMatching 20 = .ok (.if_icmp .ge 66, 3) := by decide +kernel
theorem dX2_keepMatching_23 : decode cX2_keepMatching 23 = .ok (.aload_n 0, 1) := by decide +kernel
theorem dX2_keepMatching_24 : decode cX2_keepMatching 24 = .ok (.getfield 9, 3) := by decide +kernel
theorem dX2_keepMatching_27 : decode cX2_keepMatching 27 = .ok (.iload 7, 2) := by decide +kernel
theorem dX2_keepMatching_29 : decode cX2_keepMatching 29 = .ok (.invokevirtual 29, 3) := by decide +kernel
theorem dX2_keepMatching_32 : decode cX2_keepMatching 32 = .ok (.astore 8, 2) := by decide +kernel
theorem dX2_keepMatching_34 : decode cX2_keepMatching 34 = .ok (.aload 8, 2) := by decide +kernel
theorem dX2_keepMatching_36 : decode cX2_keepMatching 36 = .ok (.iload_n 2, 1) := by decide +kernel
theorem dX2_keepMatching_37 : decode cX2_keepMatching 37 = .ok (.invokevirtual 33, 3) := by decide +kernel
theorem dX2_keepMatching_40 : decode cX2_keepMatching 40 = .ok (.iload_n 3, 1) := by decide +kernel
theorem dX2_keepMatching_41 : decode cX2_keepMatching 41 = .ok (.iload 4, 2) := by decide +kernel
theorem dX2_keepMatching_43 : decode cX2_keepMatching 43 = .ok (.invokestatic 39, 3) := by decide +kernel
theorem dX2_keepMatching_46 : decode cX2_keepMatching 46 = .ok (.ifCond .eq 18, 3) := by decide +kernel
theorem dX2_keepMatching_49 : decode cX2_keepMatching 49 = .ok (.aload 8, 2) := by decide +kernel
theorem dX2_keepMatching_51 : decode cX2_keepMatching 51 = .ok (.iload 7, 2) := by decide +kernel
theorem dX2_keepMatching_53 : decode cX2_keepMatching 53 = .ok (.iload 6, 2) := by decide +kernel
theorem dX2_keepMatching_55 : decode cX2_keepMatching 55 = .ok (.invokevirtual 43, 3) := by decide +kernel
theorem dX2_keepMatching_58 : decode cX2_keepMatching 58 = .ok (.iinc 6 1, 3) := by decide +kernel
theorem dX2_keepMatching_61 : decode cX2_keepMatching 61 = .ok (.goto 8, 3) := by decide +kernel
theorem dX2_keepMatching_64 : decode cX2_keepMatching 64 = .ok (.aload 8, 2) := by decide +kernel
theorem dX2_keepMatching_66 : decode cX2_keepMatching 66 = .ok (.invokevirtual 46, 3) := by decide +kernel
theorem dX2_keepMatching_69 : decode cX2_keepMatching 69 = .ok (.aload_n 0, 1) := by decide +kernel
theorem dX2_keepMatching_70 : decode cX2_keepMatching 70 = .ok (.getfield 9, 3) := by decide +kernel
theorem dX2_keepMatching_73 : decode cX2_keepMatching 73 = .ok (.iload 7, 2) := by decide +kernel
theorem dX2_keepMatching_75 : decode cX2_keepMatching 75 = .ok (.aload 8, 2) := by decide +kernel
theorem dX2_keepMatching_77 : decode cX2_keepMatching 77 = .ok (.invokevirtual 49, 3) := by decide +kernel
theorem dX2_keepMatching_80 : decode cX2_keepMatching 80 = .ok (.iinc 7 1, 3) := by decide +kernel
theorem dX2_keepMatching_83 : decode cX2_keepMatching 83 = .ok (.goto (-67), 3) := by decide +kernel
theorem dX2_keepMatching_86 : decode cX2_keepMatching 86 = .ok (.aload_n 0, 1) := by decide +kernel
theorem dX2_keepMatching_87 : decode cX2_keepMatching 87 = .ok (.getfield 9, 3) := by decide +kernel
theorem dX2_keepMatching_90 : decode cX2_keepMatching 90 = .ok (.iconst 0, 1) := by decide +kernel
theorem dX2_keepMatching_91 : decode cX2_keepMatching 91 = .ok (.iload 5, 2) := by decide +kernel
theorem dX2_keepMatching_93 : decode cX2_keepMatching 93 = .ok (.invokevirtual 53, 3) := by decide +kernel
theorem dX2_keepMatching_96 : decode cX2_keepMatching 96 = .ok (.aload_n 0, 1) := by decide +kernel
theorem dX2_keepMatching_97 : decode cX2_keepMatching 97 = .ok (.getfield 9, 3) := by decide +kernel
theorem dX2_keepMatching_100 : decode cX2_keepMatching 100 = .ok (.aload_n 1, 1) := by decide +kernel
theorem dX2_keepMatching_101 : decode cX2_keepMatching 101 = .ok (.iload 6, 2) := by decide +kernel
theorem dX2_keepMatching_103 : decode cX2_keepMatching 103 = .ok (.invokevirtual 25, 3) := by decide +kernel
theorem dX2_keepMatching_106 : decode cX2_keepMatching 106 = .ok (.return_, 1) := by decide +kernel
theorem dX2_matches_0 : decode cX2_matches 0 = .ok (.iload_n 1, 1) := by decide +kernel
theorem dX2_matches_1 : decode cX2_matches 1 = .ok (.ifCond .ne 16, 3) := by decide +kernel
theorem dX2_matches_4 : decode cX2_matches 4 = .ok (.iload_n 0, 1) := by decide +kernel
theorem dX2_matches_5 : decode cX2_matches 5 = .ok (.iload_n 2, 1) := by decide +kernel
theorem dX2_matches_6 : decode cX2_matches 6 = .ok (.if_icmp .ge 7, 3) := by decide +kernel
theorem dX2_matches_9 : decode cX2_matches 9 = .ok (.iconst 1, 1) := by decide +kernel
theorem dX2_matches_10 : decode cX2_matches 10 = .ok (.goto 35, 3) := by decide +kernel
theorem dX2_matches_13 : decode cX2_matches 13 = .ok (.iconst 0, 1) := by decide +kernel
theorem dX2_matches_14 : decode cX2_matches 14 = .ok (.goto 31, 3) := by decide +kernel
theorem dX2_matches_17 : decode cX2_matches 17 = .ok (.iload_n 1, 1) := by decide +kernel
theorem dX2_matches_18 : decode cX2_matches 18 = .ok (.iconst 1, 1) := by decide +kernel
theorem dX2_matches_19 : decode cX2_matches 19 = .ok (.if_icmp .ne 16, 3) := by decide +kernel
theorem dX2_matches_22 : decode cX2_matches 22 = .ok (.iload_n 0, 1) := by decide +kernel
theorem dX2_matches_23 : decode cX2_matches 23 = .ok (.iload_n 2, 1) := by decide +kernel
theorem dX2_matches_24 : decode cX2_matches 24 = .ok (.if_icmp .ne 7, 3) := by decide +kernel
theorem dX2_matches_27 : decode cX2_matches 27 = .ok (.iconst 1, 1) := by decide +kernel
theorem dX2_matches_28 : decode cX2_matches 28 = .ok (.goto 17, 3) := by decide +kernel
theorem dX2_matches_31 : decode cX2_matches 31 = .ok (.iconst 0, 1) := by decide +kernel
theorem dX2_matches_32 : decode cX2_matches 32 = .ok (.goto 13, 3) := by decide +kernel
theorem dX2_matches_35 : decode cX2_matches 35 = .ok (.iload_n 0, 1) := by decide +kernel
theorem dX2_matches_36 : decode cX2_matches 36 = .ok (.iload_n 2, 1) := by decide +kernel
theorem dX2_matches_37 : decode cX2_matches 37 = .ok (.if_icmp .le 7, 3) := by decide +kernel
theorem dX2_matches_40 : decode cX2_matches 40 = .ok (.iconst 1, 1) := by decide +kernel
theorem dX2_matches_41 : decode cX2_matches 41 = .ok (.goto 4, 3) := by decide +kernel
theorem dX2_matches_44 : decode cX2_matches 44 = .ok (.iconst 0, 1) := by decide +kernel
theorem dX2_matches_45 : decode cX2_matches 45 = .ok (.ireturn, 1) := by decide +kernel
theorem dX2_rearrange_0 : decode cX2_rearrange 0 = .ok (.aload_n 0, 1) := by decide +kernel
theorem dX2_rearrange_1 : decode cX2_rearrange 1 = .ok (.getfield 9, 3) := by decide +kernel
theorem dX2_rearrange_4 : decode cX2_rearrange 4 = .ok (.aload_n 1, 1) := by decide +kernel
theorem dX2_rearrange_5 : decode cX2_rearrange 5 = .ok (.invokevirtual 15, 3) := by decide +kernel
theorem dX2_rearrange_8 : decode cX2_rearrange 8 = .ok (.istore 5, 2) := by decide +kernel
theorem dX2_rearrange_10 : decode cX2_rearrange 10 = .ok (.iconst 0, 1) := by decide +kernel
theorem dX2_rearrange_11 : decode cX2_rearrange 11 = .ok (.istore 6, 2) := by decide +kernel
theorem dX2_rearrange_13 : decode cX2_rearrange 13 = .ok (.iload 6, 2) := by decide +kernel
theorem dX2_rearrange_15 : decode cX2_rearrange 15 = .ok (.iload 5, 2) := by decide +kernel
theorem dX2_rearrange_17 : decode cX2_rearrange 17 = .ok (.if_icmp .ge 55, 3) := by decide +kernel
theorem dX2_rearrange_20 : decode cX2_rearrange 20 = .ok (.aload_n 0, 1) := by decide +kernel
theorem dX2_rearrange_21 : decode cX2_rearrange 21 = .ok (.getfield 9, 3) := by decide +kernel
theorem dX2_rearrange_24 : decode cX2_rearrange 24 = .ok (.iload 6, 2) := by decide +kernel
theorem dX2_rearrange_26 : decode cX2_rearrange 26 = .ok (.invokevirtual 29, 3) := by decide +kernel
theorem dX2_rearrange_29 : decode cX2_rearrange 29 = .ok (.astore 7, 2) := by decide +kernel
theorem dX2_rearrange_31 : decode cX2_rearrange 31 = .ok (.aload 7, 2) := by decide +kernel
theorem dX2_rearrange_33 : decode cX2_rearrange 33 = .ok (.aload 7, 2) := by decide +kernel
theorem dX2_rearrange_35 : decode cX2_rearrange 35 = .ok (.iload_n 2, 1) := by decide +kernel
theorem dX2_rearrange_36 : decode cX2_rearrange 36 = .ok (.invokevirtual 33, 3) := by decide +kernel
theorem dX2_rearrange_39 : decode cX2_rearrange 39 = .ok (.aload 7, 2) := by decide +kernel
theorem dX2_rearrange_41 : decode cX2_rearrange 41 = .ok (.iload_n 3, 1) := by decide +kernel
theorem dX2_rearrange_42 : decode cX2_rearrange 42 = .ok (.invokevirtual 33, 3) := by decide +kernel
theorem dX2_rearrange_45 : decode cX2_rearrange 45 = .ok (.aload 7, 2) := by decide +kernel
theorem dX2_rearrange_47 : decode cX2_rearrange 47 = .ok (.iload 4, 2) := by decide +kernel
theorem dX2_rearrange_49 : decode cX2_rearrange 49 = .ok (.invokevirtual 33, 3) := by decide +kernel
theorem dX2_rearrange_52 : decode cX2_rearrange 52 = .ok (.invokevirtual 56, 3) := by decide +kernel
theorem dX2_rearrange_55 : decode cX2_rearrange 55 = .ok (.aload_n 0, 1) := by decide +kernel
theorem dX2_rearrange_56 : decode cX2_rearrange 56 = .ok (.getfield 9, 3) := by decide +kernel
theorem dX2_rearrange_59 : decode cX2_rearrange 59 = .ok (.iload 6, 2) := by decide +kernel
theorem dX2_rearrange_61 : decode cX2_rearrange 61 = .ok (.aload 7, 2) := by decide +kernel
theorem dX2_rearrange_63 : decode cX2_rearrange 63 = .ok (.invokevirtual 49, 3) := by decide +kernel
theorem dX2_rearrange_66 : decode cX2_rearrange 66 = .ok (.iinc 6 1, 3) := by decide +kernel
theorem dX2_rearrange_69 : decode cX2_rearrange 69 = .ok (.goto (-56), 3) := by decide +kernel
theorem dX2_rearrange_72 : decode cX2_rearrange 72 = .ok (.aload_n 0, 1) := by decide +kernel
theorem dX2_rearrange_73 : decode cX2_rearrange 73 = .ok (.getfield 9, 3) := by decide +kernel
theorem dX2_rearrange_76 : decode cX2_rearrange 76 = .ok (.aload_n 1, 1) := by decide +kernel
theorem dX2_rearrange_77 : decode cX2_rearrange 77 = .ok (.iload 5, 2) := by decide +kernel
theorem dX2_rearrange_79 : decode cX2_rearrange 79 = .ok (.invokevirtual 25, 3) := by decide +kernel
theorem dX2_rearrange_82 : decode cX2_rearrange 82 = .ok (.return_, 1) := by decide +kernel
theorem dX2_keepDifferent_0 : decode cX2_keepDifferent 0 = .ok (.aload_n 0, 1) := by decide +kernel
theorem dX2_keepDifferent_1 : decode cX2_keepDifferent 1 = .ok (.getfield 9, 3) := by decide +kernel
theorem dX2_keepDifferent_4 : decode cX2_keepDifferent 4 = .ok (.aload_n 1, 1) := by decide +kernel
theorem dX2_keepDifferent_5 : decode cX2_keepDifferent 5 = .ok (.invokevirtual 15, 3) := by decide +kernel
theorem dX2_keepDifferent_8 : decode cX2_keepDifferent 8 = .ok (.istore_n 2, 1) := by decide +kernel
theorem dX2_keepDifferent_9 : decode cX2_keepDifferent 9 = .ok (.aload_n 0, 1) := by decide +kernel
theorem dX2_keepDifferent_10 : decode cX2_keepDifferent 10 = .ok (.getfield 9, 3) := by decide +kernel
theorem dX2_keepDifferent_13 : decode cX2_keepDifferent 13 = .ok (.iconst 0, 1) := by decide +kernel
theorem dX2_keepDifferent_14 : decode cX2_keepDifferent 14 = .ok (.iload_n 2, 1) := by decide +kernel
theorem dX2_keepDifferent_15 : decode cX2_keepDifferent 15 = .ok (.invokevirtual 21, 3) := by decide +kernel
theorem dX2_keepDifferent_18 : decode cX2_keepDifferent 18 = .ok (.aload_n 0, 1) := by decide +kernel
theorem dX2_keepDifferent_19 : decode cX2_keepDifferent 19 = .ok (.iload_n 2, 1) := by decide +kernel
theorem dX2_keepDifferent_20 : decode cX2_keepDifferent 20 = .ok (.invokevirtual 60, 3) := by decide +kernel
theorem dX2_keepDifferent_23 : decode cX2_keepDifferent 23 = .ok (.istore_n 3, 1) := by decide +kernel
theorem dX2_keepDifferent_24 : decode cX2_keepDifferent 24 = .ok (.aload_n 0, 1) := by decide +kernel
theorem dX2_keepDifferent_25 : decode cX2_keepDifferent 25 = .ok (.getfield 9, 3) := by decide +kernel
theorem dX2_keepDifferent_28 : decode cX2_keepDifferent 28 = .ok (.iconst 0, 1) := by decide +kernel
theorem dX2_keepDifferent_29 : decode cX2_keepDifferent 29 = .ok (.iload_n 2, 1) := by decide +kernel
theorem dX2_keepDifferent_30 : decode cX2_keepDifferent 30 = .ok (.invokevirtual 53, 3) := by decide +kernel
theorem dX2_keepDifferent_33 : decode cX2_keepDifferent 33 = .ok (.aload_n 0, 1) := by decide +kernel
theorem dX2_keepDifferent_34 : decode cX2_keepDifferent 34 = .ok (.getfield 9, 3) := by decide +kernel
theorem dX2_keepDifferent_37 : decode cX2_keepDifferent 37 = .ok (.aload_n 1, 1) := by decide +kernel
theorem dX2_keepDifferent_38 : decode cX2_keepDifferent 38 = .ok (.iload_n 3, 1) := by decide +kernel
theorem dX2_keepDifferent_39 : decode cX2_keepDifferent 39 = .ok (.invokevirtual 25, 3) := by decide +kernel
theorem dX2_keepDifferent_42 : decode cX2_keepDifferent 42 = .ok (.return_, 1) := by decide +kernel
theorem dX2_keepFirstOfEach_0 : decode cX2_keepFirstOfEach 0 = .ok (.iconst 0, 1) := by decide +kernel
theorem dX2_keepFirstOfEach_1 : decode cX2_keepFirstOfEach 1 = .ok (.istore_n 2, 1) := by decide +kernel
theorem dX2_keepFirstOfEach_2 : decode cX2_keepFirstOfEach 2 = .ok (.aconst_null, 1) := by decide +kernel
theorem dX2_keepFirstOfEach_3 : decode cX2_keepFirstOfEach 3 = .ok (.astore_n 3, 1) := by decide +kernel
theorem dX2_keepFirstOfEach_4 : decode cX2_keepFirstOfEach 4 = .ok (.iconst 0, 1) := by decide +kernel
theorem dX2_keepFirstOfEach_5 : decode cX2_keepFirstOfEach 5 = .ok (.istore 4, 2) := by decide +kernel
theorem dX2_keepFirstOfEach_7 : decode cX2_keepFirstOfEach 7 = .ok (.iload 4, 2) := by decide +kernel
theorem dX2_keepFirstOfEach_9 : decode cX2_keepFirstOfEach 9 = .ok (.iload_n 1, 1) := by decide +kernel
theorem dX2_keepFirstOfEach_10 : decode cX2_keepFirstOfEach 10 = .ok (.if_icmp .ge 66, 3) := by decide +kernel
theorem dX2_keepFirstOfEach_13 : decode cX2_keepFirstOfEach 13 = .ok (.aload_n 0, 1) := by decide +kernel
theorem dX2_keepFirstOfEach_14 : decode cX2_keepFirstOfEach 14 = .ok (.getfield 9, 3) := by decide +kernel
theorem dX2_keepFirstOfEach_17 : decode cX2_keepFirstOfEach 17 = .ok (.iload 4, 2) := by decide +kernel
theorem dX2_keepFirstOfEach_19 : decode cX2_keepFirstOfEach 19 = .ok (.invokevirtual 29, 3) := by decide +kernel
theorem dX2_keepFirstOfEach_22 : decode cX2_keepFirstOfEach 22 = .ok (.astore 5, 2) := by decide +kernel
theorem dX2_keepFirstOfEach_24 : decode cX2_keepFirstOfEach 24 = .ok (.aload_n 3, 1) := by decide +kernel
theorem dX2_keepFirstOfEach_25 : decode cX2_keepFirstOfEach 25 = .ok (.ifnull 20, 3) := by decide +kernel
theorem dX2_keepFirstOfEach_28 : decode cX2_keepFirstOfEach 28 = .ok (.aload 5, 2) := by decide +kernel
theorem dX2_keepFirstOfEach_30 : decode cX2_keepFirstOfEach 30 = .ok (.aload_n 3, 1) := by decide +kernel
theorem dX2_keepFirstOfEach_31 : decode cX2_keepFirstOfEach 31 = .ok (.invokevirtual 63, 3) := by decide +kernel
theorem dX2_keepFirstOfEach_34 : decode cX2_keepFirstOfEach 34 = .ok (.ifCond .eq 11, 3) := by decide +kernel
theorem dX2_keepFirstOfEach_37 : decode cX2_keepFirstOfEach 37 = .ok (.aload 5, 2) := by decide +kernel
theorem dX2_keepFirstOfEach_39 : decode cX2_keepFirstOfEach 39 = .ok (.invokevirtual 46, 3) := by decide +kernel
theorem dX2_keepFirstOfEach_42 : decode cX2_keepFirstOfEach 42 = .ok (.goto 14, 3) := by decide +kernel
theorem dX2_keepFirstOfEach_45 : decode cX2_keepFirstOfEach 45 = .ok (.aload 5, 2) := by decide +kernel
theorem dX2_keepFirstOfEach_47 : decode cX2_keepFirstOfEach 47 = .ok (.iload 4, 2) := by decide +kernel
theorem dX2_keepFirstOfEach_49 : decode cX2_keepFirstOfEach 49 = .ok (.iload_n 2, 1) := by decide +kernel
theorem dX2_keepFirstOfEach_50 : decode cX2_keepFirstOfEach 50 = .ok (.invokevirtual 43, 3) := by decide +kernel
theorem dX2_keepFirstOfEach_53 : decode cX2_keepFirstOfEach 53 = .ok (.iinc 2 1, 3) := by decide +kernel
theorem dX2_keepFirstOfEach_56 : decode cX2_keepFirstOfEach 56 = .ok (.aload 5, 2) := by decide +kernel
theorem dX2_keepFirstOfEach_58 : decode cX2_keepFirstOfEach 58 = .ok (.astore_n 3, 1) := by decide +kernel
theorem dX2_keepFirstOfEach_59 : decode cX2_keepFirstOfEach 59 = .ok (.aload_n 0, 1) := by decide +kernel
theorem dX2_keepFirstOfEach_60 : decode cX2_keepFirstOfEach 60 = .ok (.getfield 9, 3) := by decide +kernel
theorem dX2_keepFirstOfEach_63 : decode cX2_keepFirstOfEach 63 = .ok (.iload 4, 2) := by decide +kernel
theorem dX2_keepFirstOfEach_65 : decode cX2_keepFirstOfEach 65 = .ok (.aload 5, 2) := by decide +kernel
theorem dX2_keepFirstOfEach_67 : decode cX2_keepFirstOfEach 67 = .ok (.invokevirtual 49, 3) := by decide +kernel
theorem dX2_keepFirstOfEach_70 : decode cX2_keepFirstOfEach 70 = .ok (.iinc 4 1, 3) := by decide +kernel
theorem dX2_keepFirstOfEach_73 : decode cX2_keepFirstOfEach 73 = .ok (.goto (-66), 3) := by decide +kernel
theorem dX2_keepFirstOfEach_76 : decode cX2_keepFirstOfEach 76 = .ok (.iload_n 2, 1) := by decide +kernel
theorem dX2_keepFirstOfEach_77 : decode cX2_keepFirstOfEach 77 = .ok (.ireturn, 1) := by decide +kernel
theorem dX2_totalUp_0 : decode cX2_totalUp 0 = .ok (.aload_n 0, 1) := by decide +kernel
theorem dX2_totalUp_1 : decode cX2_totalUp 1 = .ok (.getfield 9, 3) := by decide +kernel
theorem dX2_totalUp_4 : decode cX2_totalUp 4 = .ok (.aload_n 1, 1) := by decide +kernel
theorem dX2_totalUp_5 : decode cX2_totalUp 5 = .ok (.iconst 0, 1) := by decide +kernel
theorem dX2_totalUp_6 : decode cX2_totalUp 6 = .ok (.iload_n 2, 1) := by decide +kernel
theorem dX2_totalUp_7 : decode cX2_totalUp 7 = .ok (.iconst 1, 1) := by decide +kernel
theorem dX2_totalUp_8 : decode cX2_totalUp 8 = .ok (.invokevirtual 67, 3) := by decide +kernel
theorem dX2_totalUp_11 : decode cX2_totalUp 11 = .ok (.istore 4, 2) := by decide +kernel
theorem dX2_totalUp_13 : decode cX2_totalUp 13 = .ok (.aload_n 0, 1) := by decide +kernel
theorem dX2_totalUp_14 : decode cX2_totalUp 14 = .ok (.getfield 9, 3) := by decide +kernel
theorem dX2_totalUp_17 : decode cX2_totalUp 17 = .ok (.iconst 0, 1) := by decide +kernel
theorem dX2_totalUp_18 : decode cX2_totalUp 18 = .ok (.iload 4, 2) := by decide +kernel
theorem dX2_totalUp_20 : decode cX2_totalUp 20 = .ok (.invokevirtual 21, 3) := by decide +kernel
theorem dX2_totalUp_23 : decode cX2_totalUp 23 = .ok (.aload_n 0, 1) := by decide +kernel
theorem dX2_totalUp_24 : decode cX2_totalUp 24 = .ok (.iload 4, 2) := by decide +kernel
theorem dX2_totalUp_26 : decode cX2_totalUp 26 = .ok (.iload_n 3, 1) := by decide +kernel
theorem dX2_totalUp_27 : decode cX2_totalUp 27 = .ok (.invokevirtual 71, 3) := by decide +kernel
theorem dX2_totalUp_30 : decode cX2_totalUp 30 = .ok (.istore 5, 2) := by decide +kernel
theorem dX2_totalUp_32 : decode cX2_totalUp 32 = .ok (.aload_n 0, 1) := by decide +kernel
theorem dX2_totalUp_33 : decode cX2_totalUp 33 = .ok (.iload 4, 2) := by decide +kernel
theorem dX2_totalUp_35 : decode cX2_totalUp 35 = .ok (.invokevirtual 75, 3) := by decide +kernel
theorem dX2_totalUp_38 : decode cX2_totalUp 38 = .ok (.aload_n 0, 1) := by decide +kernel
theorem dX2_totalUp_39 : decode cX2_totalUp 39 = .ok (.getfield 9, 3) := by decide +kernel
theorem dX2_totalUp_42 : decode cX2_totalUp 42 = .ok (.iconst 0, 1) := by decide +kernel
theorem dX2_totalUp_43 : decode cX2_totalUp 43 = .ok (.iload 4, 2) := by decide +kernel
theorem dX2_totalUp_45 : decode cX2_totalUp 45 = .ok (.invokevirtual 53, 3) := by decide +kernel
theorem dX2_totalUp_48 : decode cX2_totalUp 48 = .ok (.aload_n 0, 1) := by decide +kernel
theorem dX2_totalUp_49 : decode cX2_totalUp 49 = .ok (.getfield 9, 3) := by decide +kernel
theorem dX2_totalUp_52 : decode cX2_totalUp 52 = .ok (.aload_n 1, 1) := by decide +kernel
theorem dX2_totalUp_53 : decode cX2_totalUp 53 = .ok (.iload 5, 2) := by decide +kernel
theorem dX2_totalUp_55 : decode cX2_totalUp 55 = .ok (.invokevirtual 25, 3) := by decide +kernel
theorem dX2_totalUp_58 : decode cX2_totalUp 58 = .ok (.return_, 1) := by decide +kernel
theorem dX2_addUpForth_0 : decode cX2_addUpForth 0 = .ok (.iconst 0, 1) := by decide +kernel
theorem dX2_addUpForth_1 : decode cX2_addUpForth 1 = .ok (.istore_n 3, 1) := by decide +kernel
theorem dX2_addUpForth_2 : decode cX2_addUpForth 2 = .ok (.iconst 0, 1) := by decide +kernel
theorem dX2_addUpForth_3 : decode cX2_addUpForth 3 = .ok (.istore 4, 2) := by decide +kernel
theorem dX2_addUpForth_5 : decode cX2_addUpForth 5 = .ok (.iconst 0, 1) := by decide +kernel
theorem dX2_addUpForth_6 : decode cX2_addUpForth 6 = .ok (.istore 5, 2) := by decide +kernel
theorem dX2_addUpForth_8 : decode cX2_addUpForth 8 = .ok (.iconst 0, 1) := by decide +kernel
theorem dX2_addUpForth_9 : decode cX2_addUpForth 9 = .ok (.istore 6, 2) := by decide +kernel
theorem dX2_addUpForth_11 : decode cX2_addUpForth 11 = .ok (.iconst 0, 1) := by decide +kernel
theorem dX2_addUpForth_12 : decode cX2_addUpForth 12 = .ok (.istore 7, 2) := by decide +kernel
theorem dX2_addUpForth_14 : decode cX2_addUpForth 14 = .ok (.iload 7, 2) := by decide +kernel
theorem dX2_addUpForth_16 : decode cX2_addUpForth 16 = .ok (.iload_n 1, 1) := by decide +kernel
theorem dX2_addUpForth_17 : decode cX2_addUpForth 17 = .ok (.if_icmp .ge 97, 3) := by decide +kernel
theorem dX2_addUpForth_20 : decode cX2_addUpForth 20 = .ok (.aload_n 0, 1) := by decide +kernel
theorem dX2_addUpForth_21 : decode cX2_addUpForth 21 = .ok (.getfield 9, 3) := by decide +kernel
theorem dX2_addUpForth_24 : decode cX2_addUpForth 24 = .ok (.iload 7, 2) := by decide +kernel
theorem dX2_addUpForth_26 : decode cX2_addUpForth 26 = .ok (.invokevirtual 29, 3) := by decide +kernel
theorem dX2_addUpForth_29 : decode cX2_addUpForth 29 = .ok (.astore 8, 2) := by decide +kernel
theorem dX2_addUpForth_31 : decode cX2_addUpForth 31 = .ok (.iload 7, 2) := by decide +kernel
theorem dX2_addUpForth_33 : decode cX2_addUpForth 33 = .ok (.ifCond .eq 13, 3) := by decide +kernel
theorem dX2_addUpForth_36 : decode cX2_addUpForth 36 = .ok (.aload 8, 2) := by decide +kernel
theorem dX2_addUpForth_38 : decode cX2_addUpForth 38 = .ok (.getfield 79, 3) := by decide +kernel
theorem dX2_addUpForth_41 : decode cX2_addUpForth 41 = .ok (.iload 4, 2) := by decide +kernel
theorem dX2_addUpForth_43 : decode cX2_addUpForth 43 = .ok (.if_icmp .eq 19, 3) := by decide +kernel
theorem dX2_addUpForth_46 : decode cX2_addUpForth 46 = .ok (.iinc 3 1, 3) := by decide +kernel
theorem dX2_addUpForth_49 : decode cX2_addUpForth 49 = .ok (.aload 8, 2) := by decide +kernel
theorem dX2_addUpForth_51 : decode cX2_addUpForth 51 = .ok (.getfield 79, 3) := by decide +kernel
theorem dX2_addUpForth_54 : decode cX2_addUpForth 54 = .ok (.istore 4, 2) := by decide +kernel
theorem dX2_addUpForth_56 : decode cX2_addUpForth 56 = .ok (.iconst 0, 1) := by decide +kernel
theorem dX2_addUpForth_57 : decode cX2_addUpForth 57 = .ok (.istore 5, 2) := by decide +kernel
theorem dX2_addUpForth_59 : decode cX2_addUpForth 59 = .ok (.iconst 0, 1) := by decide +kernel
theorem dX2_addUpForth_60 : decode cX2_addUpForth 60 = .ok (.istore 6, 2) := by decide +kernel
theorem dX2_addUpForth_62 : decode cX2_addUpForth 62 = .ok (.iload 5, 2) := by decide +kernel
theorem dX2_addUpForth_64 : decode cX2_addUpForth 64 = .ok (.aload 8, 2) := by decide +kernel
theorem dX2_addUpForth_66 : decode cX2_addUpForth 66 = .ok (.iload_n 2, 1) := by decide +kernel
theorem dX2_addUpForth_67 : decode cX2_addUpForth 67 = .ok (.invokevirtual 33, 3) := by decide +kernel
theorem dX2_addUpForth_70 : decode cX2_addUpForth 70 = .ok (.iadd, 1) := by decide +kernel
theorem dX2_addUpForth_71 : decode cX2_addUpForth 71 = .ok (.istore 5, 2) := by decide +kernel
theorem dX2_addUpForth_73 : decode cX2_addUpForth 73 = .ok (.iinc 6 1, 3) := by decide +kernel
theorem dX2_addUpForth_76 : decode cX2_addUpForth 76 = .ok (.aload 8, 2) := by decide +kernel
theorem dX2_addUpForth_78 : decode cX2_addUpForth 78 = .ok (.iload 4, 2) := by decide +kernel
theorem dX2_addUpForth_80 : decode cX2_addUpForth 80 = .ok (.iload 5, 2) := by decide +kernel
theorem dX2_addUpForth_82 : decode cX2_addUpForth 82 = .ok (.iload 6, 2) := by decide +kernel
theorem dX2_addUpForth_84 : decode cX2_addUpForth 84 = .ok (.invokevirtual 56, 3) := by decide +kernel
theorem dX2_addUpForth_87 : decode cX2_addUpForth 87 = .ok (.aload 8, 2) := by decide +kernel
theorem dX2_addUpForth_89 : decode cX2_addUpForth 89 = .ok (.iload 7, 2) := by decide +kernel
theorem dX2_addUpForth_91 : decode cX2_addUpForth 91 = .ok (.iload_n 3, 1) := by decide +kernel
theorem dX2_addUpForth_92 : decode cX2_addUpForth 92 = .ok (.iconst 1, 1) := by decide +kernel
theorem dX2_addUpForth_93 : decode cX2_addUpForth 93 = .ok (.isub, 1) := by decide +kernel
theorem dX2_addUpForth_94 : decode cX2_addUpForth 94 = .ok (.invokevirtual 43, 3) := by decide +kernel
theorem dX2_addUpForth_97 : decode cX2_addUpForth 97 = .ok (.aload_n 0, 1) := by decide +kernel
theorem dX2_addUpForth_98 : decode cX2_addUpForth 98 = .ok (.getfield 9, 3) := by decide +kernel
theorem dX2_addUpForth_101 : decode cX2_addUpForth 101 = .ok (.iload 7, 2) := by decide +kernel
theorem dX2_addUpForth_103 : decode cX2_addUpForth 103 = .ok (.aload 8, 2) := by decide +kernel
theorem dX2_addUpForth_105 : decode cX2_addUpForth 105 = .ok (.invokevirtual 49, 3) := by decide +kernel
theorem dX2_addUpForth_108 : decode cX2_addUpForth 108 = .ok (.iinc 7 1, 3) := by decide +kernel
theorem dX2_addUpForth_111 : decode cX2_addUpForth 111 = .ok (.goto (-97), 3) := by decide +kernel
theorem dX2_addUpForth_114 : decode cX2_addUpForth 114 = .ok (.iload_n 3, 1) := by decide +kernel
theorem dX2_addUpForth_115 : decode cX2_addUpForth 115 = .ok (.ireturn, 1) := by decide +kernel
theorem dX2_keepLastOfEach_0 : decode cX2_keepLastOfEach 0 = .ok (.iconst 0, 1) := by decide +kernel
theorem dX2_keepLastOfEach_1 : decode cX2_keepLastOfEach 1 = .ok (.istore_n 2, 1) := by decide +kernel
theorem dX2_keepLastOfEach_2 : decode cX2_keepLastOfEach 2 = .ok (.iload_n 1, 1) := by decide +kernel
theorem dX2_keepLastOfEach_3 : decode cX2_keepLastOfEach 3 = .ok (.iconst 1, 1) := by decide +kernel
theorem dX2_keepLastOfEach_4 : decode cX2_keepLastOfEach 4 = .ok (.isub, 1) := by decide +kernel
theorem dX2_keepLastOfEach_5 : decode cX2_keepLastOfEach 5 = .ok (.istore_n 3, 1) := by decide +kernel
theorem dX2_keepLastOfEach_6 : decode cX2_keepLastOfEach 6 = .ok (.iload_n 3, 1) := by decide +kernel
theorem dX2_keepLastOfEach_7 : decode cX2_keepLastOfEach 7 = .ok (.ifCond .lt 56, 3) := by decide +kernel
theorem dX2_keepLastOfEach_10 : decode cX2_keepLastOfEach 10 = .ok (.aload_n 0, 1) := by decide +kernel
theorem dX2_keepLastOfEach_11 : decode cX2_keepLastOfEach 11 = .ok (.getfield 9, 3) := by decide +kernel
theorem dX2_keepLastOfEach_14 : decode cX2_keepLastOfEach 14 = .ok (.iload_n 3, 1) := by decide +kernel
theorem dX2_keepLastOfEach_15 : decode cX2_keepLastOfEach 15 = .ok (.invokevirtual 29, 3) := by decide +kernel
theorem dX2_keepLastOfEach_18 : decode cX2_keepLastOfEach 18 = .ok (.astore 4, 2) := by decide +kernel
theorem dX2_keepLastOfEach_20 : decode cX2_keepLastOfEach 20 = .ok (.iload_n 3, 1) := by decide +kernel
theorem dX2_keepLastOfEach_21 : decode cX2_keepLastOfEach 21 = .ok (.iload_n 1, 1) := by decide +kernel
theorem dX2_keepLastOfEach_22 : decode cX2_keepLastOfEach 22 = .ok (.iconst 1, 1) := by decide +kernel
theorem dX2_keepLastOfEach_23 : decode cX2_keepLastOfEach 23 = .ok (.isub, 1) := by decide +kernel
theorem dX2_keepLastOfEach_24 : decode cX2_keepLastOfEach 24 = .ok (.if_icmp .ge 17, 3) := by decide +kernel
theorem dX2_keepLastOfEach_27 : decode cX2_keepLastOfEach 27 = .ok (.aload 4, 2) := by decide +kernel
theorem dX2_keepLastOfEach_29 : decode cX2_keepLastOfEach 29 = .ok (.getfield 79, 3) := by decide +kernel
theorem dX2_keepLastOfEach_32 : decode cX2_keepLastOfEach 32 = .ok (.iload_n 2, 1) := by decide +kernel
theorem dX2_keepLastOfEach_33 : decode cX2_keepLastOfEach 33 = .ok (.if_icmp .ne 8, 3) := by decide +kernel
theorem dX2_keepLastOfEach_36 : decode cX2_keepLastOfEach 36 = .ok (.aload 4, 2) := by decide +kernel
theorem dX2_keepLastOfEach_38 : decode cX2_keepLastOfEach 38 = .ok (.invokevirtual 46, 3) := by decide +kernel
theorem dX2_keepLastOfEach_41 : decode cX2_keepLastOfEach 41 = .ok (.aload 4, 2) := by decide +kernel
theorem dX2_keepLastOfEach_43 : decode cX2_keepLastOfEach 43 = .ok (.getfield 79, 3) := by decide +kernel
theorem dX2_keepLastOfEach_46 : decode cX2_keepLastOfEach 46 = .ok (.istore_n 2, 1) := by decide +kernel
theorem dX2_keepLastOfEach_47 : decode cX2_keepLastOfEach 47 = .ok (.aload_n 0, 1) := by decide +kernel
theorem dX2_keepLastOfEach_48 : decode cX2_keepLastOfEach 48 = .ok (.getfield 9, 3) := by decide +kernel
theorem dX2_keepLastOfEach_51 : decode cX2_keepLastOfEach 51 = .ok (.iload_n 3, 1) := by decide +kernel
theorem dX2_keepLastOfEach_52 : decode cX2_keepLastOfEach 52 = .ok (.aload 4, 2) := by decide +kernel
theorem dX2_keepLastOfEach_54 : decode cX2_keepLastOfEach 54 = .ok (.invokevirtual 49, 3) := by decide +kernel
theorem dX2_keepLastOfEach_57 : decode cX2_keepLastOfEach 57 = .ok (.iinc 3 (-1), 3) := by decide +kernel
theorem dX2_keepLastOfEach_60 : decode cX2_keepLastOfEach 60 = .ok (.goto (-54), 3) := by decide +kernel
theorem dX2_keepLastOfEach_63 : decode cX2_keepLastOfEach 63 = .ok (.return_, 1) := by decide +kernel
theorem dX2_change_0 : decode cX2_change 0 = .ok (.aload_n 0, 1) := by decide +kernel
theorem dX2_change_1 : decode cX2_change 1 = .ok (.getfield 9, 3) := by decide +kernel
theorem dX2_change_4 : decode cX2_change 4 = .ok (.aload_n 1, 1) := by decide +kernel
theorem dX2_change_5 : decode cX2_change 5 = .ok (.iconst 0, 1) := by decide +kernel
theorem dX2_change_6 : decode cX2_change 6 = .ok (.iconst 0, 1) := by decide +kernel
theorem dX2_change_7 : decode cX2_change 7 = .ok (.iconst 1, 1) := by decide +kernel
theorem dX2_change_8 : decode cX2_change 8 = .ok (.invokevirtual 67, 3) := by decide +kernel
theorem dX2_change_11 : decode cX2_change 11 = .ok (.istore 4, 2) := by decide +kernel
theorem dX2_change_13 : decode cX2_change 13 = .ok (.aload_n 0, 1) := by decide +kernel
theorem dX2_change_14 : decode cX2_change 14 = .ok (.getfield 9, 3) := by decide +kernel
theorem dX2_change_17 : decode cX2_change 17 = .ok (.aload_n 2, 1) := by decide +kernel
theorem dX2_change_18 : decode cX2_change 18 = .ok (.iload 4, 2) := by decide +kernel
theorem dX2_change_20 : decode cX2_change 20 = .ok (.iconst 0, 1) := by decide +kernel
theorem dX2_change_21 : decode cX2_change 21 = .ok (.iconst 2, 1) := by decide +kernel
theorem dX2_change_22 : decode cX2_change 22 = .ok (.invokevirtual 67, 3) := by decide +kernel
theorem dX2_change_25 : decode cX2_change 25 = .ok (.istore 5, 2) := by decide +kernel
theorem dX2_change_27 : decode cX2_change 27 = .ok (.aload_n 0, 1) := by decide +kernel
theorem dX2_change_28 : decode cX2_change 28 = .ok (.getfield 9, 3) := by decide +kernel
theorem dX2_change_31 : decode cX2_change 31 = .ok (.aload_n 3, 1) := by decide +kernel
theorem dX2_change_32 : decode cX2_change 32 = .ok (.iload 5, 2) := by decide +kernel
theorem dX2_change_34 : decode cX2_change 34 = .ok (.iconst 0, 1) := by decide +kernel
theorem dX2_change_35 : decode cX2_change 35 = .ok (.iconst 0, 1) := by decide +kernel
theorem dX2_change_36 : decode cX2_change 36 = .ok (.invokevirtual 67, 3) := by decide +kernel
theorem dX2_change_39 : decode cX2_change 39 = .ok (.istore 6, 2) := by decide +kernel
theorem dX2_change_41 : decode cX2_change 41 = .ok (.aload_n 0, 1) := by decide +kernel
theorem dX2_change_42 : decode cX2_change 42 = .ok (.getfield 9, 3) := by decide +kernel
theorem dX2_change_45 : decode cX2_change 45 = .ok (.iconst 0, 1) := by decide +kernel
theorem dX2_change_46 : decode cX2_change 46 = .ok (.iload 6, 2) := by decide +kernel
theorem dX2_change_48 : decode cX2_change 48 = .ok (.invokevirtual 21, 3) := by decide +kernel
theorem dX2_change_51 : decode cX2_change 51 = .ok (.aload_n 0, 1) := by decide +kernel
theorem dX2_change_52 : decode cX2_change 52 = .ok (.iload 6, 2) := by decide +kernel
theorem dX2_change_54 : decode cX2_change 54 = .ok (.invokevirtual 83, 3) := by decide +kernel
theorem dX2_change_57 : decode cX2_change 57 = .ok (.istore 7, 2) := by decide +kernel
theorem dX2_change_59 : decode cX2_change 59 = .ok (.aload_n 0, 1) := by decide +kernel
theorem dX2_change_60 : decode cX2_change 60 = .ok (.getfield 9, 3) := by decide +kernel
theorem dX2_change_63 : decode cX2_change 63 = .ok (.iconst 0, 1) := by decide +kernel
theorem dX2_change_64 : decode cX2_change 64 = .ok (.iload 6, 2) := by decide +kernel
theorem dX2_change_66 : decode cX2_change 66 = .ok (.invokevirtual 53, 3) := by decide +kernel
theorem dX2_change_69 : decode cX2_change 69 = .ok (.iload 7, 2) := by decide +kernel
theorem dX2_change_71 : decode cX2_change 71 = .ok (.bipush 12, 2) := by decide +kernel
theorem dX2_change_73 : decode cX2_change 73 = .ok (.if_icmp .le 5, 3) := by decide +kernel
theorem dX2_change_76 : decode cX2_change 76 = .ok (.iconst 0, 1) := by decide +kernel
theorem dX2_change_77 : decode cX2_change 77 = .ok (.ireturn, 1) := by decide +kernel
theorem dX2_change_78 : decode cX2_change 78 = .ok (.aload_n 0, 1) := by decide +kernel
theorem dX2_change_79 : decode cX2_change 79 = .ok (.getfield 9, 3) := by decide +kernel
theorem dX2_change_82 : decode cX2_change 82 = .ok (.aload_n 1, 1) := by decide +kernel
theorem dX2_change_83 : decode cX2_change 83 = .ok (.iload 7, 2) := by decide +kernel
theorem dX2_change_85 : decode cX2_change 85 = .ok (.invokevirtual 25, 3) := by decide +kernel
theorem dX2_change_88 : decode cX2_change 88 = .ok (.iconst 1, 1) := by decide +kernel
theorem dX2_change_89 : decode cX2_change 89 = .ok (.ireturn, 1) := by decide +kernel
theorem dX2_keepUndropped_0 : decode cX2_keepUndropped 0 = .ok (.iconst 0, 1) := by decide +kernel
theorem dX2_keepUndropped_1 : decode cX2_keepUndropped 1 = .ok (.istore_n 2, 1) := by decide +kernel
theorem dX2_keepUndropped_2 : decode cX2_keepUndropped 2 = .ok (.iconst 0, 1) := by decide +kernel
theorem dX2_keepUndropped_3 : decode cX2_keepUndropped 3 = .ok (.istore_n 3, 1) := by decide +kernel
theorem dX2_keepUndropped_4 : decode cX2_keepUndropped 4 = .ok (.iconst 0, 1) := by decide +kernel
theorem dX2_keepUndropped_5 : decode cX2_keepUndropped 5 = .ok (.istore 4, 2) := by decide +kernel
theorem dX2_keepUndropped_7 : decode cX2_keepUndropped 7 = .ok (.iconst 0, 1) := by decide +kernel
theorem dX2_keepUndropped_8 : decode cX2_keepUndropped 8 = .ok (.istore 5, 2) := by decide +kernel
theorem dX2_keepUndropped_10 : decode cX2_keepUndropped 10 = .ok (.iload 5, 2) := by decide +kernel
theorem dX2_keepUndropped_12 : decode cX2_keepUndropped 12 = .ok (.iload_n 1, 1) := by decide +kernel
theorem dX2_keepUndropped_13 : decode cX2_keepUndropped 13 = .ok (.if_icmp .ge 102, 3) := by decide +kernel
theorem dX2_keepUndropped_16 : decode cX2_keepUndropped 16 = .ok (.aload_n 0, 1) := by decide +kernel
theorem dX2_keepUndropped_17 : decode cX2_keepUndropped 17 = .ok (.getfield 9, 3) := by decide +kernel
theorem dX2_keepUndropped_20 : decode cX2_keepUndropped 20 = .ok (.iload 5, 2) := by decide +kernel
theorem dX2_keepUndropped_22 : decode cX2_keepUndropped 22 = .ok (.invokevirtual 29, 3) := by decide +kernel
theorem dX2_keepUndropped_25 : decode cX2_keepUndropped 25 = .ok (.astore 6, 2) := by decide +kernel
theorem dX2_keepUndropped_27 : decode cX2_keepUndropped 27 = .ok (.aload 6, 2) := by decide +kernel
theorem dX2_keepUndropped_29 : decode cX2_keepUndropped 29 = .ok (.getfield 86, 3) := by decide +kernel
theorem dX2_keepUndropped_32 : decode cX2_keepUndropped 32 = .ok (.ifCond .ne 12, 3) := by decide +kernel
theorem dX2_keepUndropped_35 : decode cX2_keepUndropped 35 = .ok (.iconst 1, 1) := by decide +kernel
theorem dX2_keepUndropped_36 : decode cX2_keepUndropped 36 = .ok (.istore_n 3, 1) := by decide +kernel
theorem dX2_keepUndropped_37 : decode cX2_keepUndropped 37 = .ok (.aload 6, 2) := by decide +kernel
theorem dX2_keepUndropped_39 : decode cX2_keepUndropped 39 = .ok (.getfield 79, 3) := by decide +kernel
theorem dX2_keepUndropped_42 : decode cX2_keepUndropped 42 = .ok (.istore 4, 2) := by decide +kernel
theorem dX2_keepUndropped_44 : decode cX2_keepUndropped 44 = .ok (.iload_n 3, 1) := by decide +kernel
theorem dX2_keepUndropped_45 : decode cX2_keepUndropped 45 = .ok (.ifCond .eq 17, 3) := by decide +kernel
theorem dX2_keepUndropped_48 : decode cX2_keepUndropped 48 = .ok (.aload 6, 2) := by decide +kernel
theorem dX2_keepUndropped_50 : decode cX2_keepUndropped 50 = .ok (.getfield 79, 3) := by decide +kernel
theorem dX2_keepUndropped_53 : decode cX2_keepUndropped 53 = .ok (.iload 4, 2) := by decide +kernel
theorem dX2_keepUndropped_55 : decode cX2_keepUndropped 55 = .ok (.if_icmp .ne 7, 3) := by decide +kernel
theorem dX2_keepUndropped_58 : decode cX2_keepUndropped 58 = .ok (.iconst 1, 1) := by decide +kernel
theorem dX2_keepUndropped_59 : decode cX2_keepUndropped 59 = .ok (.goto 4, 3) := by decide +kernel
theorem dX2_keepUndropped_62 : decode cX2_keepUndropped 62 = .ok (.iconst 0, 1) := by decide +kernel
theorem dX2_keepUndropped_63 : decode cX2_keepUndropped 63 = .ok (.istore 7, 2) := by decide +kernel
theorem dX2_keepUndropped_65 : decode cX2_keepUndropped 65 = .ok (.aload 6, 2) := by decide +kernel
theorem dX2_keepUndropped_67 : decode cX2_keepUndropped 67 = .ok (.getfield 86, 3) := by decide +kernel
theorem dX2_keepUndropped_70 : decode cX2_keepUndropped 70 = .ok (.iconst 2, 1) := by decide +kernel
theorem dX2_keepUndropped_71 : decode cX2_keepUndropped 71 = .ok (.if_icmp .eq 8, 3) := by decide +kernel
theorem dX2_keepUndropped_74 : decode cX2_keepUndropped 74 = .ok (.iload 7, 2) := by decide +kernel
theorem dX2_keepUndropped_76 : decode cX2_keepUndropped 76 = .ok (.ifCond .ne 17, 3) := by decide +kernel
theorem dX2_keepUndropped_79 : decode cX2_keepUndropped 79 = .ok (.aload 6, 2) := by decide +kernel
theorem dX2_keepUndropped_81 : decode cX2_keepUndropped 81 = .ok (.iload 5, 2) := by decide +kernel
theorem dX2_keepUndropped_83 : decode cX2_keepUndropped 83 = .ok (.iload_n 2, 1) := by decide +kernel
theorem dX2_keepUndropped_84 : decode cX2_keepUndropped 84 = .ok (.invokevirtual 43, 3) := by decide +kernel
theorem dX2_keepUndropped_87 : decode cX2_keepUndropped 87 = .ok (.iinc 2 1, 3) := by decide +kernel
theorem dX2_keepUndropped_90 : decode cX2_keepUndropped 90 = .ok (.goto 8, 3) := by decide +kernel
theorem dX2_keepUndropped_93 : decode cX2_keepUndropped 93 = .ok (.aload 6, 2) := by decide +kernel
theorem dX2_keepUndropped_95 : decode cX2_keepUndropped 95 = .ok (.invokevirtual 46, 3) := by decide +kernel
theorem dX2_keepUndropped_98 : decode cX2_keepUndropped 98 = .ok (.aload_n 0, 1) := by decide +kernel
theorem dX2_keepUndropped_99 : decode cX2_keepUndropped 99 = .ok (.getfield 9, 3) := by decide +kernel
theorem dX2_keepUndropped_102 : decode cX2_keepUndropped 102 = .ok (.iload 5, 2) := by decide +kernel
theorem dX2_keepUndropped_104 : decode cX2_keepUndropped 104 = .ok (.aload 6, 2) := by decide +kernel
theorem dX2_keepUndropped_106 : decode cX2_keepUndropped 106 = .ok (.invokevirtual 49, 3) := by decide +kernel
theorem dX2_keepUndropped_109 : decode cX2_keepUndropped 109 = .ok (.iinc 5 1, 3) := by decide +kernel
theorem dX2_keepUndropped_112 : decode cX2_keepUndropped 112 = .ok (.goto (-102), 3) := by decide +kernel
theorem dX2_keepUndropped_115 : decode cX2_keepUndropped 115 = .ok (.iload_n 2, 1) := by decide +kernel
theorem dX2_keepUndropped_116 : decode cX2_keepUndropped 116 = .ok (.ireturn, 1) := by decide +kernel
