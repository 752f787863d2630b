/-! Decode rows; printed by program. -/

theorem dX7_init_0 : decode cX7_init 0 = .ok (.aload_n 0, 1) := by decide +kernel
theorem dX7_init_1 : decode cX7_init 1 = .ok (.invokespecial 1, 3) := by decide +kernel
theorem dX7_init_4 : decode cX7_init 4 = .ok (.aload_n 0, 1) := by decide +kernel
theorem dX7_init_5 : decode cX7_init 5 = .ok (.bipush 108, 2) := by decide +kernel
theorem dX7_init_7 : decode cX7_init 7 = .ok (.newarray .int, 2) := by decide +kernel
theorem dX7_init_9 : decode cX7_init 9 = .ok (.putfield 7, 3) := by decide +kernel
theorem dX7_init_12 : decode cX7_init 12 = .ok (.aload_n 0, 1) := by decide +kernel
theorem dX7_init_13 : decode cX7_init 13 = .ok (.iconst 3, 1) := by decide +kernel
theorem dX7_init_14 : decode cX7_init 14 = .ok (.newarray .int, 2) := by decide +kernel
theorem dX7_init_16 : decode cX7_init 16 = .ok (.putfield 13, 3) := by decide +kernel
theorem dX7_init_19 : decode cX7_init 19 = .ok (.aload_n 0, 1) := by decide +kernel
theorem dX7_init_20 : decode cX7_init 20 = .ok (.iconst 3, 1) := by decide +kernel
theorem dX7_init_21 : decode cX7_init 21 = .ok (.newarray .int, 2) := by decide +kernel
theorem dX7_init_23 : decode cX7_init 23 = .ok (.putfield 16, 3) := by decide +kernel
theorem dX7_init_26 : decode cX7_init 26 = .ok (.aload_n 0, 1) := by decide +kernel
theorem dX7_init_27 : decode cX7_init 27 = .ok (.iconst 3, 1) := by decide +kernel
theorem dX7_init_28 : decode cX7_init 28 = .ok (.newarray .int, 2) := by decide +kernel
theorem dX7_init_30 : decode cX7_init 30 = .ok (.putfield 19, 3) := by decide +kernel
theorem dX7_init_33 : decode cX7_init 33 = .ok (.aload_n 0, 1) := by decide +kernel
theorem dX7_init_34 : decode cX7_init 34 = .ok (.iconst 3, 1) := by decide +kernel
theorem dX7_init_35 : decode cX7_init 35 = .ok (.newarray .int, 2) := by decide +kernel
theorem dX7_init_37 : decode cX7_init 37 = .ok (.putfield 22, 3) := by decide +kernel
theorem dX7_init_40 : decode cX7_init 40 = .ok (.aload_n 0, 1) := by decide +kernel
theorem dX7_init_41 : decode cX7_init 41 = .ok (.iconst 3, 1) := by decide +kernel
theorem dX7_init_42 : decode cX7_init 42 = .ok (.newarray .int, 2) := by decide +kernel
theorem dX7_init_44 : decode cX7_init 44 = .ok (.putfield 25, 3) := by decide +kernel
theorem dX7_init_47 : decode cX7_init 47 = .ok (.aload_n 0, 1) := by decide +kernel
theorem dX7_init_48 : decode cX7_init 48 = .ok (.bipush 6, 2) := by decide +kernel
theorem dX7_init_50 : decode cX7_init 50 = .ok (.newarray .boolean, 2) := by decide +kernel
theorem dX7_init_52 : decode cX7_init 52 = .ok (.putfield 28, 3) := by decide +kernel
theorem dX7_init_55 : decode cX7_init 55 = .ok (.aload_n 0, 1) := by decide +kernel
theorem dX7_init_56 : decode cX7_init 56 = .ok (.bipush 18, 2) := by decide +kernel
theorem dX7_init_58 : decode cX7_init 58 = .ok (.newarray .int, 2) := by decide +kernel
theorem dX7_init_60 : decode cX7_init 60 = .ok (.putfield 32, 3) := by decide +kernel
theorem dX7_init_63 : decode cX7_init 63 = .ok (.aload_n 0, 1) := by decide +kernel
theorem dX7_init_64 : decode cX7_init 64 = .ok (.bipush 72, 2) := by decide +kernel
theorem dX7_init_66 : decode cX7_init 66 = .ok (.newarray .int, 2) := by decide +kernel
theorem dX7_init_68 : decode cX7_init 68 = .ok (.putfield 35, 3) := by decide +kernel
theorem dX7_init_71 : decode cX7_init 71 = .ok (.aload_n 0, 1) := by decide +kernel
theorem dX7_init_72 : decode cX7_init 72 = .ok (.bipush 75, 2) := by decide +kernel
theorem dX7_init_74 : decode cX7_init 74 = .ok (.newarray .int, 2) := by decide +kernel
theorem dX7_init_76 : decode cX7_init 76 = .ok (.putfield 38, 3) := by decide +kernel
theorem dX7_init_79 : decode cX7_init 79 = .ok (.aload_n 0, 1) := by decide +kernel
theorem dX7_init_80 : decode cX7_init 80 = .ok (.bipush 72, 2) := by decide +kernel
theorem dX7_init_82 : decode cX7_init 82 = .ok (.newarray .int, 2) := by decide +kernel
theorem dX7_init_84 : decode cX7_init 84 = .ok (.putfield 41, 3) := by decide +kernel
theorem dX7_init_87 : decode cX7_init 87 = .ok (.aload_n 0, 1) := by decide +kernel
theorem dX7_init_88 : decode cX7_init 88 = .ok (.iconst 3, 1) := by decide +kernel
theorem dX7_init_89 : decode cX7_init 89 = .ok (.newarray .int, 2) := by decide +kernel
theorem dX7_init_91 : decode cX7_init 91 = .ok (.putfield 44, 3) := by decide +kernel
theorem dX7_init_94 : decode cX7_init 94 = .ok (.aload_n 0, 1) := by decide +kernel
theorem dX7_init_95 : decode cX7_init 95 = .ok (.iconst 3, 1) := by decide +kernel
theorem dX7_init_96 : decode cX7_init 96 = .ok (.newarray .int, 2) := by decide +kernel
theorem dX7_init_98 : decode cX7_init 98 = .ok (.putfield 47, 3) := by decide +kernel
theorem dX7_init_101 : decode cX7_init 101 = .ok (.aload_n 0, 1) := by decide +kernel
theorem dX7_init_102 : decode cX7_init 102 = .ok (.iconst 3, 1) := by decide +kernel
theorem dX7_init_103 : decode cX7_init 103 = .ok (.newarray .int, 2) := by decide +kernel
theorem dX7_init_105 : decode cX7_init 105 = .ok (.putfield 50, 3) := by decide +kernel
theorem dX7_init_108 : decode cX7_init 108 = .ok (.aload_n 0, 1) := by decide +kernel
theorem dX7_init_109 : decode cX7_init 109 = .ok (.iconst 3, 1) := by decide +kernel
theorem dX7_init_110 : decode cX7_init 110 = .ok (.newarray .int, 2) := by decide +kernel
theorem dX7_init_112 : decode cX7_init 112 = .ok (.putfield 53, 3) := by decide +kernel
theorem dX7_init_115 : decode cX7_init 115 = .ok (.return_, 1) := by decide +kernel
theorem dX7_outside_0 : decode cX7_outside 0 = .ok (.iload_n 0, 1) := by decide +kernel
theorem dX7_outside_1 : decode cX7_outside 1 = .ok (.iload_n 1, 1) := by decide +kernel
theorem dX7_outside_2 : decode cX7_outside 2 = .ok (.if_icmp .lt 8, 3) := by decide +kernel
theorem dX7_outside_5 : decode cX7_outside 5 = .ok (.iload_n 0, 1) := by decide +kernel
theorem dX7_outside_6 : decode cX7_outside 6 = .ok (.iload_n 2, 1) := by decide +kernel
theorem dX7_outside_7 : decode cX7_outside 7 = .ok (.if_icmp .le 7, 3) := by decide +kernel
theorem dX7_outside_10 : decode cX7_outside 10 = .ok (.iconst 1, 1) := by decide +kernel
theorem dX7_outside_11 : decode cX7_outside 11 = .ok (.goto 4, 3) := by decide +kernel
theorem dX7_outside_14 : decode cX7_outside 14 = .ok (.iconst 0, 1) := by decide +kernel
theorem dX7_outside_15 : decode cX7_outside 15 = .ok (.ireturn, 1) := by decide +kernel
theorem dX7_add_0 : decode cX7_add 0 = .ok (.iload_n 1, 1) := by decide +kernel
theorem dX7_add_1 : decode cX7_add 1 = .ok (.iconst 0, 1) := by decide +kernel
theorem dX7_add_2 : decode cX7_add 2 = .ok (.iconst 2, 1) := by decide +kernel
theorem dX7_add_3 : decode cX7_add 3 = .ok (.invokestatic 56, 3) := by decide +kernel
theorem dX7_add_6 : decode cX7_add 6 = .ok (.ifCond .ne 14, 3) := by decide +kernel
theorem dX7_add_9 : decode cX7_add 9 = .ok (.aload_n 0, 1) := by decide +kernel
theorem dX7_add_10 : decode cX7_add 10 = .ok (.getfield 13, 3) := by decide +kernel
theorem dX7_add_13 : decode cX7_add 13 = .ok (.iload_n 1, 1) := by decide +kernel
theorem dX7_add_14 : decode cX7_add 14 = .ok (.iaload, 1) := by decide +kernel
theorem dX7_add_15 : decode cX7_add 15 = .ok (.bipush 12, 2) := by decide +kernel
theorem dX7_add_17 : decode cX7_add 17 = .ok (.if_icmp .lt 5, 3) := by decide +kernel
theorem dX7_add_20 : decode cX7_add 20 = .ok (.iconst 0, 1) := by decide +kernel
theorem dX7_add_21 : decode cX7_add 21 = .ok (.ireturn, 1) := by decide +kernel
theorem dX7_add_22 : decode cX7_add 22 = .ok (.bipush 36, 2) := by decide +kernel
theorem dX7_add_24 : decode cX7_add 24 = .ok (.iload_n 1, 1) := by decide +kernel
theorem dX7_add_25 : decode cX7_add 25 = .ok (.imul, 1) := by decide +kernel
theorem dX7_add_26 : decode cX7_add 26 = .ok (.iconst 3, 1) := by decide +kernel
theorem dX7_add_27 : decode cX7_add 27 = .ok (.aload_n 0, 1) := by decide +kernel
theorem dX7_add_28 : decode cX7_add 28 = .ok (.getfield 13, 3) := by decide +kernel
theorem dX7_add_31 : decode cX7_add 31 = .ok (.iload_n 1, 1) := by decide +kernel
theorem dX7_add_32 : decode cX7_add 32 = .ok (.iaload, 1) := by decide +kernel
theorem dX7_add_33 : decode cX7_add 33 = .ok (.imul, 1) := by decide +kernel
theorem dX7_add_34 : decode cX7_add 34 = .ok (.iadd, 1) := by decide +kernel
theorem dX7_add_35 : decode cX7_add 35 = .ok (.istore 5, 2) := by decide +kernel
theorem dX7_add_37 : decode cX7_add 37 = .ok (.aload_n 0, 1) := by decide +kernel
theorem dX7_add_38 : decode cX7_add 38 = .ok (.getfield 7, 3) := by decide +kernel
theorem dX7_add_41 : decode cX7_add 41 = .ok (.iload 5, 2) := by decide +kernel
theorem dX7_add_43 : decode cX7_add 43 = .ok (.iload_n 2, 1) := by decide +kernel
theorem dX7_add_44 : decode cX7_add 44 = .ok (.iastore, 1) := by decide +kernel
theorem dX7_add_45 : decode cX7_add 45 = .ok (.aload_n 0, 1) := by decide +kernel
theorem dX7_add_46 : decode cX7_add 46 = .ok (.getfield 7, 3) := by decide +kernel
theorem dX7_add_49 : decode cX7_add 49 = .ok (.iload 5, 2) := by decide +kernel
theorem dX7_add_51 : decode cX7_add 51 = .ok (.iconst 1, 1) := by decide +kernel
theorem dX7_add_52 : decode cX7_add 52 = .ok (.iadd, 1) := by decide +kernel
theorem dX7_add_53 : decode cX7_add 53 = .ok (.iload_n 3, 1) := by decide +kernel
theorem dX7_add_54 : decode cX7_add 54 = .ok (.iastore, 1) := by decide +kernel
theorem dX7_add_55 : decode cX7_add 55 = .ok (.aload_n 0, 1) := by decide +kernel
theorem dX7_add_56 : decode cX7_add 56 = .ok (.getfield 7, 3) := by decide +kernel
theorem dX7_add_59 : decode cX7_add 59 = .ok (.iload 5, 2) := by decide +kernel
theorem dX7_add_61 : decode cX7_add 61 = .ok (.iconst 2, 1) := by decide +kernel
theorem dX7_add_62 : decode cX7_add 62 = .ok (.iadd, 1) := by decide +kernel
theorem dX7_add_63 : decode cX7_add 63 = .ok (.iload 4, 2) := by decide +kernel
theorem dX7_add_65 : decode cX7_add 65 = .ok (.iastore, 1) := by decide +kernel
theorem dX7_add_66 : decode cX7_add 66 = .ok (.aload_n 0, 1) := by decide +kernel
theorem dX7_add_67 : decode cX7_add 67 = .ok (.getfield 13, 3) := by decide +kernel
theorem dX7_add_70 : decode cX7_add 70 = .ok (.iload_n 1, 1) := by decide +kernel
theorem dX7_add_71 : decode cX7_add 71 = .ok (.dup2, 1) := by decide +kernel
theorem dX7_add_72 : decode cX7_add 72 = .ok (.iaload, 1) := by decide +kernel
theorem dX7_add_73 : decode cX7_add 73 = .ok (.iconst 1, 1) := by decide +kernel
theorem dX7_add_74 : decode cX7_add 74 = .ok (.iadd, 1) := by decide +kernel
theorem dX7_add_75 : decode cX7_add 75 = .ok (.iastore, 1) := by decide +kernel
theorem dX7_add_76 : decode cX7_add 76 = .ok (.iconst 1, 1) := by decide +kernel
theorem dX7_add_77 : decode cX7_add 77 = .ok (.ireturn, 1) := by decide +kernel
theorem dX7_rows_0 : decode cX7_rows 0 = .ok (.iload_n 1, 1) := by decide +kernel
theorem dX7_rows_1 : decode cX7_rows 1 = .ok (.iconst 0, 1) := by decide +kernel
theorem dX7_rows_2 : decode cX7_rows 2 = .ok (.iconst 2, 1) := by decide +kernel
theorem dX7_rows_3 : decode cX7_rows 3 = .ok (.invokestatic 56, 3) := by decide +kernel
theorem dX7_rows_6 : decode cX7_rows 6 = .ok (.ifCond .eq 7, 3) := by decide +kernel
theorem dX7_rows_9 : decode cX7_rows 9 = .ok (.iconst (-1), 1) := by decide +kernel
theorem dX7_rows_10 : decode cX7_rows 10 = .ok (.goto 9, 3) := by decide +kernel
theorem dX7_rows_13 : decode cX7_rows 13 = .ok (.aload_n 0, 1) := by decide +kernel
theorem dX7_rows_14 : decode cX7_rows 14 = .ok (.getfield 13, 3) := by decide +kernel
theorem dX7_rows_17 : decode cX7_rows 17 = .ok (.iload_n 1, 1) := by decide +kernel
theorem dX7_rows_18 : decode cX7_rows 18 = .ok (.iaload, 1) := by decide +kernel
theorem dX7_rows_19 : decode cX7_rows 19 = .ok (.ireturn, 1) := by decide +kernel
theorem dX7_sum_0 : decode cX7_sum 0 = .ok (.iconst 0, 1) := by decide +kernel
theorem dX7_sum_1 : decode cX7_sum 1 = .ok (.istore_n 2, 1) := by decide +kernel
theorem dX7_sum_2 : decode cX7_sum 2 = .ok (.iconst 0, 1) := by decide +kernel
theorem dX7_sum_3 : decode cX7_sum 3 = .ok (.istore_n 3, 1) := by decide +kernel
theorem dX7_sum_4 : decode cX7_sum 4 = .ok (.iload_n 1, 1) := by decide +kernel
theorem dX7_sum_5 : decode cX7_sum 5 = .ok (.iconst 0, 1) := by decide +kernel
theorem dX7_sum_6 : decode cX7_sum 6 = .ok (.iconst 2, 1) := by decide +kernel
theorem dX7_sum_7 : decode cX7_sum 7 = .ok (.invokestatic 56, 3) := by decide +kernel
theorem dX7_sum_10 : decode cX7_sum 10 = .ok (.ifCond .ne 73, 3) := by decide +kernel
theorem dX7_sum_13 : decode cX7_sum 13 = .ok (.iload_n 3, 1) := by decide +kernel
theorem dX7_sum_14 : decode cX7_sum 14 = .ok (.aload_n 0, 1) := by decide +kernel
theorem dX7_sum_15 : decode cX7_sum 15 = .ok (.getfield 13, 3) := by decide +kernel
theorem dX7_sum_18 : decode cX7_sum 18 = .ok (.iload_n 1, 1) := by decide +kernel
theorem dX7_sum_19 : decode cX7_sum 19 = .ok (.iaload, 1) := by decide +kernel
theorem dX7_sum_20 : decode cX7_sum 20 = .ok (.if_icmp .ge 63, 3) := by decide +kernel
theorem dX7_sum_23 : decode cX7_sum 23 = .ok (.iload_n 2, 1) := by decide +kernel
theorem dX7_sum_24 : decode cX7_sum 24 = .ok (.bipush 31, 2) := by decide +kernel
theorem dX7_sum_26 : decode cX7_sum 26 = .ok (.bipush 31, 2) := by decide +kernel
theorem dX7_sum_28 : decode cX7_sum 28 = .ok (.aload_n 0, 1) := by decide +kernel
theorem dX7_sum_29 : decode cX7_sum 29 = .ok (.getfield 7, 3) := by decide +kernel
theorem dX7_sum_32 : decode cX7_sum 32 = .ok (.bipush 36, 2) := by decide +kernel
theorem dX7_sum_34 : decode cX7_sum 34 = .ok (.iload_n 1, 1) := by decide +kernel
theorem dX7_sum_35 : decode cX7_sum 35 = .ok (.imul, 1) := by decide +kernel
theorem dX7_sum_36 : decode cX7_sum 36 = .ok (.iconst 3, 1) := by decide +kernel
theorem dX7_sum_37 : decode cX7_sum 37 = .ok (.iload_n 3, 1) := by decide +kernel
theorem dX7_sum_38 : decode cX7_sum 38 = .ok (.imul, 1) := by decide +kernel
theorem dX7_sum_39 : decode cX7_sum 39 = .ok (.iadd, 1) := by decide +kernel
theorem dX7_sum_40 : decode cX7_sum 40 = .ok (.iaload, 1) := by decide +kernel
theorem dX7_sum_41 : decode cX7_sum 41 = .ok (.imul, 1) := by decide +kernel
theorem dX7_sum_42 : decode cX7_sum 42 = .ok (.aload_n 0, 1) := by decide +kernel
theorem dX7_sum_43 : decode cX7_sum 43 = .ok (.getfield 7, 3) := by decide +kernel
theorem dX7_sum_46 : decode cX7_sum 46 = .ok (.bipush 36, 2) := by decide +kernel
theorem dX7_sum_48 : decode cX7_sum 48 = .ok (.iload_n 1, 1) := by decide +kernel
theorem dX7_sum_49 : decode cX7_sum 49 = .ok (.imul, 1) := by decide +kernel
theorem dX7_sum_50 : decode cX7_sum 50 = .ok (.iconst 3, 1) := by decide +kernel
theorem dX7_sum_51 : decode cX7_sum 51 = .ok (.iload_n 3, 1) := by decide +kernel
theorem dX7_sum_52 : decode cX7_sum 52 = .ok (.imul, 1) := by decide +kernel
theorem dX7_sum_53 : decode cX7_sum 53 = .ok (.iadd, 1) := by decide +kernel
theorem dX7_sum_54 : decode cX7_sum 54 = .ok (.iconst 1, 1) := by decide +kernel
theorem dX7_sum_55 : decode cX7_sum 55 = .ok (.iadd, 1) := by decide +kernel
theorem dX7_sum_56 : decode cX7_sum 56 = .ok (.iaload, 1) := by decide +kernel
theorem dX7_sum_57 : decode cX7_sum 57 = .ok (.iadd, 1) := by decide +kernel
theorem dX7_sum_58 : decode cX7_sum 58 = .ok (.imul, 1) := by decide +kernel
theorem dX7_sum_59 : decode cX7_sum 59 = .ok (.aload_n 0, 1) := by decide +kernel
theorem dX7_sum_60 : decode cX7_sum 60 = .ok (.getfield 7, 3) := by decide +kernel
theorem dX7_sum_63 : decode cX7_sum 63 = .ok (.bipush 36, 2) := by decide +kernel
theorem dX7_sum_65 : decode cX7_sum 65 = .ok (.iload_n 1, 1) := by decide +kernel
theorem dX7_sum_66 : decode cX7_sum 66 = .ok (.imul, 1) := by decide +kernel
theorem dX7_sum_67 : decode cX7_sum 67 = .ok (.iconst 3, 1) := by decide +kernel
theorem dX7_sum_68 : decode cX7_sum 68 = .ok (.iload_n 3, 1) := by decide +kernel
theorem dX7_sum_69 : decode cX7_sum 69 = .ok (.imul, 1) := by decide +kernel
theorem dX7_sum_70 : decode cX7_sum 70 = .ok (.iadd, 1) := by decide +kernel
theorem dX7_sum_71 : decode cX7_sum 71 = .ok (.iconst 2, 1) := by decide +kernel
theorem dX7_sum_72 : decode cX7_sum 72 = .ok (.iadd, 1) := by decide +kernel
theorem dX7_sum_73 : decode cX7_sum 73 = .ok (.iaload, 1) := by decide +kernel
theorem dX7_sum_74 : decode cX7_sum 74 = .ok (.iadd, 1) := by decide +kernel
theorem dX7_sum_75 : decode cX7_sum 75 = .ok (.iadd, 1) := by decide +kernel
theorem dX7_sum_76 : decode cX7_sum 76 = .ok (.istore_n 2, 1) := by decide +kernel
theorem dX7_sum_77 : decode cX7_sum 77 = .ok (.iinc 3 1, 3) := by decide +kernel
theorem dX7_sum_80 : decode cX7_sum 80 = .ok (.goto (-76), 3) := by decide +kernel
theorem dX7_sum_83 : decode cX7_sum 83 = .ok (.iload_n 2, 1) := by decide +kernel
theorem dX7_sum_84 : decode cX7_sum 84 = .ok (.ireturn, 1) := by decide +kernel
theorem dX7_plan_0 : decode cX7_plan 0 = .ok (.iload_n 1, 1) := by decide +kernel
theorem dX7_plan_1 : decode cX7_plan 1 = .ok (.iconst 0, 1) := by decide +kernel
theorem dX7_plan_2 : decode cX7_plan 2 = .ok (.iconst 2, 1) := by decide +kernel
theorem dX7_plan_3 : decode cX7_plan 3 = .ok (.invokestatic 56, 3) := by decide +kernel
theorem dX7_plan_6 : decode cX7_plan 6 = .ok (.ifCond .eq 5, 3) := by decide +kernel
theorem dX7_plan_9 : decode cX7_plan 9 = .ok (.iconst 0, 1) := by decide +kernel
theorem dX7_plan_10 : decode cX7_plan 10 = .ok (.ireturn, 1) := by decide +kernel
theorem dX7_plan_11 : decode cX7_plan 11 = .ok (.aload_n 0, 1) := by decide +kernel
theorem dX7_plan_12 : decode cX7_plan 12 = .ok (.iconst 1, 1) := by decide +kernel
theorem dX7_plan_13 : decode cX7_plan 13 = .ok (.putfield 60, 3) := by decide +kernel
theorem dX7_plan_16 : decode cX7_plan 16 = .ok (.aload_n 0, 1) := by decide +kernel
theorem dX7_plan_17 : decode cX7_plan 17 = .ok (.iload_n 1, 1) := by decide +kernel
theorem dX7_plan_18 : decode cX7_plan 18 = .ok (.putfield 64, 3) := by decide +kernel
theorem dX7_plan_21 : decode cX7_plan 21 = .ok (.aload_n 0, 1) := by decide +kernel
theorem dX7_plan_22 : decode cX7_plan 22 = .ok (.iconst 0, 1) := by decide +kernel
theorem dX7_plan_23 : decode cX7_plan 23 = .ok (.putfield 68, 3) := by decide +kernel
theorem dX7_plan_26 : decode cX7_plan 26 = .ok (.iconst 1, 1) := by decide +kernel
theorem dX7_plan_27 : decode cX7_plan 27 = .ok (.ireturn, 1) := by decide +kernel
theorem dX7_step_0 : decode cX7_step 0 = .ok (.aload_n 0, 1) := by decide +kernel
theorem dX7_step_1 : decode cX7_step 1 = .ok (.getfield 60, 3) := by decide +kernel
theorem dX7_step_4 : decode cX7_step 4 = .ok (.ifCond .eq 16, 3) := by decide +kernel
theorem dX7_step_7 : decode cX7_step 7 = .ok (.aload_n 0, 1) := by decide +kernel
theorem dX7_step_8 : decode cX7_step 8 = .ok (.getfield 68, 3) := by decide +kernel
theorem dX7_step_11 : decode cX7_step 11 = .ok (.iconst 3, 1) := by decide +kernel
theorem dX7_step_12 : decode cX7_step 12 = .ok (.if_icmp .ge 8, 3) := by decide +kernel
theorem dX7_step_15 : decode cX7_step 15 = .ok (.iload 5, 2) := by decide +kernel
theorem dX7_step_17 : decode cX7_step 17 = .ok (.ifCond .ne 5, 3) := by decide +kernel
theorem dX7_step_20 : decode cX7_step 20 = .ok (.iconst 0, 1) := by decide +kernel
theorem dX7_step_21 : decode cX7_step 21 = .ok (.ireturn, 1) := by decide +kernel
theorem dX7_step_22 : decode cX7_step 22 = .ok (.aload_n 0, 1) := by decide +kernel
theorem dX7_step_23 : decode cX7_step 23 = .ok (.getfield 16, 3) := by decide +kernel
theorem dX7_step_26 : decode cX7_step 26 = .ok (.aload_n 0, 1) := by decide +kernel
theorem dX7_step_27 : decode cX7_step 27 = .ok (.getfield 68, 3) := by decide +kernel
theorem dX7_step_30 : decode cX7_step 30 = .ok (.iload_n 1, 1) := by decide +kernel
theorem dX7_step_31 : decode cX7_step 31 = .ok (.iastore, 1) := by decide +kernel
theorem dX7_step_32 : decode cX7_step 32 = .ok (.aload_n 0, 1) := by decide +kernel
theorem dX7_step_33 : decode cX7_step 33 = .ok (.getfield 19, 3) := by decide +kernel
theorem dX7_step_36 : decode cX7_step 36 = .ok (.aload_n 0, 1) := by decide +kernel
theorem dX7_step_37 : decode cX7_step 37 = .ok (.getfield 68, 3) := by decide +kernel
theorem dX7_step_40 : decode cX7_step 40 = .ok (.iload_n 2, 1) := by decide +kernel
theorem dX7_step_41 : decode cX7_step 41 = .ok (.iastore, 1) := by decide +kernel
theorem dX7_step_42 : decode cX7_step 42 = .ok (.aload_n 0, 1) := by decide +kernel
theorem dX7_step_43 : decode cX7_step 43 = .ok (.getfield 22, 3) := by decide +kernel
theorem dX7_step_46 : decode cX7_step 46 = .ok (.aload_n 0, 1) := by decide +kernel
theorem dX7_step_47 : decode cX7_step 47 = .ok (.getfield 68, 3) := by decide +kernel
theorem dX7_step_50 : decode cX7_step 50 = .ok (.iload_n 3, 1) := by decide +kernel
theorem dX7_step_51 : decode cX7_step 51 = .ok (.iastore, 1) := by decide +kernel
theorem dX7_step_52 : decode cX7_step 52 = .ok (.aload_n 0, 1) := by decide +kernel
theorem dX7_step_53 : decode cX7_step 53 = .ok (.getfield 25, 3) := by decide +kernel
theorem dX7_step_56 : decode cX7_step 56 = .ok (.aload_n 0, 1) := by decide +kernel
theorem dX7_step_57 : decode cX7_step 57 = .ok (.getfield 68, 3) := by decide +kernel
theorem dX7_step_60 : decode cX7_step 60 = .ok (.iload 4, 2) := by decide +kernel
theorem dX7_step_62 : decode cX7_step 62 = .ok (.iastore, 1) := by decide +kernel
theorem dX7_step_63 : decode cX7_step 63 = .ok (.aload_n 0, 1) := by decide +kernel
theorem dX7_step_64 : decode cX7_step 64 = .ok (.dup, 1) := by decide +kernel
theorem dX7_step_65 : decode cX7_step 65 = .ok (.getfield 68, 3) := by decide +kernel
theorem dX7_step_68 : decode cX7_step 68 = .ok (.iconst 1, 1) := by decide +kernel
theorem dX7_step_69 : decode cX7_step 69 = .ok (.iadd, 1) := by decide +kernel
theorem dX7_step_70 : decode cX7_step 70 = .ok (.putfield 68, 3) := by decide +kernel
theorem dX7_step_73 : decode cX7_step 73 = .ok (.iconst 1, 1) := by decide +kernel
theorem dX7_step_74 : decode cX7_step 74 = .ok (.ireturn, 1) := by decide +kernel
theorem dX7_filter_0 : decode cX7_filter 0 = .ok (.aload_n 0, 1) := by decide +kernel
theorem dX7_filter_1 : decode cX7_filter 1 = .ok (.iconst 0, 1) := by decide +kernel
theorem dX7_filter_2 : decode cX7_filter 2 = .ok (.iload_n 1, 1) := by decide +kernel
theorem dX7_filter_3 : decode cX7_filter 3 = .ok (.iload_n 2, 1) := by decide +kernel
theorem dX7_filter_4 : decode cX7_filter 4 = .ok (.iload_n 3, 1) := by decide +kernel
theorem dX7_filter_5 : decode cX7_filter 5 = .ok (.iload_n 1, 1) := by decide +kernel
theorem dX7_filter_6 : decode cX7_filter 6 = .ok (.iconst 0, 1) := by decide +kernel
theorem dX7_filter_7 : decode cX7_filter 7 = .ok (.iconst 2, 1) := by decide +kernel
theorem dX7_filter_8 : decode cX7_filter 8 = .ok (.invokestatic 56, 3) := by decide +kernel
theorem dX7_filter_11 : decode cX7_filter 11 = .ok (.ifCond .ne 16, 3) := by decide +kernel
theorem dX7_filter_14 : decode cX7_filter 14 = .ok (.iload_n 2, 1) := by decide +kernel
theorem dX7_filter_15 : decode cX7_filter 15 = .ok (.iconst 0, 1) := by decide +kernel
theorem dX7_filter_16 : decode cX7_filter 16 = .ok (.iconst 2, 1) := by decide +kernel
theorem dX7_filter_17 : decode cX7_filter 17 = .ok (.invokestatic 56, 3) := by decide +kernel
theorem dX7_filter_20 : decode cX7_filter 20 = .ok (.ifCond .ne 7, 3) := by decide +kernel
theorem dX7_filter_23 : decode cX7_filter 23 = .ok (.iconst 1, 1) := by decide +kernel
theorem dX7_filter_24 : decode cX7_filter 24 = .ok (.goto 4, 3) := by decide +kernel
theorem dX7_filter_27 : decode cX7_filter 27 = .ok (.iconst 0, 1) := by decide +kernel
theorem dX7_filter_28 : decode cX7_filter 28 = .ok (.invokevirtual 71, 3) := by decide +kernel
theorem dX7_filter_31 : decode cX7_filter 31 = .ok (.ireturn, 1) := by decide +kernel
theorem dX7_pick_0 : decode cX7_pick 0 = .ok (.aload_n 0, 1) := by decide +kernel
theorem dX7_pick_1 : decode cX7_pick 1 = .ok (.iconst 1, 1) := by decide +kernel
theorem dX7_pick_2 : decode cX7_pick 2 = .ok (.iload_n 1, 1) := by decide +kernel
theorem dX7_pick_3 : decode cX7_pick 3 = .ok (.iload_n 2, 1) := by decide +kernel
theorem dX7_pick_4 : decode cX7_pick 4 = .ok (.iload_n 3, 1) := by decide +kernel
theorem dX7_pick_5 : decode cX7_pick 5 = .ok (.iload_n 1, 1) := by decide +kernel
theorem dX7_pick_6 : decode cX7_pick 6 = .ok (.iconst 0, 1) := by decide +kernel
theorem dX7_pick_7 : decode cX7_pick 7 = .ok (.iconst 2, 1) := by decide +kernel
theorem dX7_pick_8 : decode cX7_pick 8 = .ok (.invokestatic 56, 3) := by decide +kernel
theorem dX7_pick_11 : decode cX7_pick 11 = .ok (.ifCond .ne 25, 3) := by decide +kernel
theorem dX7_pick_14 : decode cX7_pick 14 = .ok (.iload_n 2, 1) := by decide +kernel
theorem dX7_pick_15 : decode cX7_pick 15 = .ok (.iconst 0, 1) := by decide +kernel
theorem dX7_pick_16 : decode cX7_pick 16 = .ok (.iconst 2, 1) := by decide +kernel
theorem dX7_pick_17 : decode cX7_pick 17 = .ok (.invokestatic 56, 3) := by decide +kernel
theorem dX7_pick_20 : decode cX7_pick 20 = .ok (.ifCond .ne 16, 3) := by decide +kernel
theorem dX7_pick_23 : decode cX7_pick 23 = .ok (.iload_n 3, 1) := by decide +kernel
theorem dX7_pick_24 : decode cX7_pick 24 = .ok (.iconst 0, 1) := by decide +kernel
theorem dX7_pick_25 : decode cX7_pick 25 = .ok (.iconst 2, 1) := by decide +kernel
theorem dX7_pick_26 : decode cX7_pick 26 = .ok (.invokestatic 56, 3) := by decide +kernel
theorem dX7_pick_29 : decode cX7_pick 29 = .ok (.ifCond .ne 7, 3) := by decide +kernel
theorem dX7_pick_32 : decode cX7_pick 32 = .ok (.iconst 1, 1) := by decide +kernel
theorem dX7_pick_33 : decode cX7_pick 33 = .ok (.goto 4, 3) := by decide +kernel
theorem dX7_pick_36 : decode cX7_pick 36 = .ok (.iconst 0, 1) := by decide +kernel
theorem dX7_pick_37 : decode cX7_pick 37 = .ok (.invokevirtual 71, 3) := by decide +kernel
theorem dX7_pick_40 : decode cX7_pick 40 = .ok (.ireturn, 1) := by decide +kernel
theorem dX7_distinct_0 : decode cX7_distinct 0 = .ok (.aload_n 0, 1) := by decide +kernel
theorem dX7_distinct_1 : decode cX7_distinct 1 = .ok (.iconst 2, 1) := by decide +kernel
theorem dX7_distinct_2 : decode cX7_distinct 2 = .ok (.iconst 0, 1) := by decide +kernel
theorem dX7_distinct_3 : decode cX7_distinct 3 = .ok (.iconst 0, 1) := by decide +kernel
theorem dX7_distinct_4 : decode cX7_distinct 4 = .ok (.iconst 0, 1) := by decide +kernel
theorem dX7_distinct_5 : decode cX7_distinct 5 = .ok (.iconst 1, 1) := by decide +kernel
theorem dX7_distinct_6 : decode cX7_distinct 6 = .ok (.invokevirtual 71, 3) := by decide +kernel
theorem dX7_distinct_9 : decode cX7_distinct 9 = .ok (.ireturn, 1) := by decide +kernel
theorem dX7_group_0 : decode cX7_group 0 = .ok (.aload_n 0, 1) := by decide +kernel
theorem dX7_group_1 : decode cX7_group 1 = .ok (.iconst 3, 1) := by decide +kernel
theorem dX7_group_2 : decode cX7_group 2 = .ok (.iload_n 1, 1) := by decide +kernel
theorem dX7_group_3 : decode cX7_group 3 = .ok (.iload_n 2, 1) := by decide +kernel
theorem dX7_group_4 : decode cX7_group 4 = .ok (.iconst 0, 1) := by decide +kernel
theorem dX7_group_5 : decode cX7_group 5 = .ok (.iload_n 1, 1) := by decide +kernel
theorem dX7_group_6 : decode cX7_group 6 = .ok (.iconst 0, 1) := by decide +kernel
theorem dX7_group_7 : decode cX7_group 7 = .ok (.iconst 2, 1) := by decide +kernel
theorem dX7_group_8 : decode cX7_group 8 = .ok (.invokestatic 56, 3) := by decide +kernel
theorem dX7_group_11 : decode cX7_group 11 = .ok (.ifCond .ne 16, 3) := by decide +kernel
theorem dX7_group_14 : decode cX7_group 14 = .ok (.iload_n 2, 1) := by decide +kernel
theorem dX7_group_15 : decode cX7_group 15 = .ok (.iconst 0, 1) := by decide +kernel
theorem dX7_group_16 : decode cX7_group 16 = .ok (.iconst 2, 1) := by decide +kernel
theorem dX7_group_17 : decode cX7_group 17 = .ok (.invokestatic 56, 3) := by decide +kernel
theorem dX7_group_20 : decode cX7_group 20 = .ok (.ifCond .ne 7, 3) := by decide +kernel
theorem dX7_group_23 : decode cX7_group 23 = .ok (.iconst 1, 1) := by decide +kernel
theorem dX7_group_24 : decode cX7_group 24 = .ok (.goto 4, 3) := by decide +kernel
theorem dX7_group_27 : decode cX7_group 27 = .ok (.iconst 0, 1) := by decide +kernel
theorem dX7_group_28 : decode cX7_group 28 = .ok (.invokevirtual 71, 3) := by decide +kernel
theorem dX7_group_31 : decode cX7_group 31 = .ok (.ireturn, 1) := by decide +kernel
theorem dX7_join_0 : decode cX7_join 0 = .ok (.aload_n 0, 1) := by decide +kernel
theorem dX7_join_1 : decode cX7_join 1 = .ok (.iconst 4, 1) := by decide +kernel
theorem dX7_join_2 : decode cX7_join 2 = .ok (.iload_n 1, 1) := by decide +kernel
theorem dX7_join_3 : decode cX7_join 3 = .ok (.iload_n 2, 1) := by decide +kernel
theorem dX7_join_4 : decode cX7_join 4 = .ok (.iload_n 3, 1) := by decide +kernel
theorem dX7_join_5 : decode cX7_join 5 = .ok (.iload_n 1, 1) := by decide +kernel
theorem dX7_join_6 : decode cX7_join 6 = .ok (.iconst 0, 1) := by decide +kernel
theorem dX7_join_7 : decode cX7_join 7 = .ok (.iconst 2, 1) := by decide +kernel
theorem dX7_join_8 : decode cX7_join 8 = .ok (.invokestatic 56, 3) := by decide +kernel
theorem dX7_join_11 : decode cX7_join 11 = .ok (.ifCond .ne 25, 3) := by decide +kernel
theorem dX7_join_14 : decode cX7_join 14 = .ok (.iload_n 2, 1) := by decide +kernel
theorem dX7_join_15 : decode cX7_join 15 = .ok (.iconst 0, 1) := by decide +kernel
theorem dX7_join_16 : decode cX7_join 16 = .ok (.iconst 2, 1) := by decide +kernel
theorem dX7_join_17 : decode cX7_join 17 = .ok (.invokestatic 56, 3) := by decide +kernel
theorem dX7_join_20 : decode cX7_join 20 = .ok (.ifCond .ne 16, 3) := by decide +kernel
theorem dX7_join_23 : decode cX7_join 23 = .ok (.iload_n 3, 1) := by decide +kernel
theorem dX7_join_24 : decode cX7_join 24 = .ok (.iconst 0, 1) := by decide +kernel
theorem dX7_join_25 : decode cX7_join 25 = .ok (.iconst 2, 1) := by decide +kernel
theorem dX7_join_26 : decode cX7_join 26 = .ok (.invokestatic 56, 3) := by decide +kernel
theorem dX7_join_29 : decode cX7_join 29 = .ok (.ifCond .ne 7, 3) := by decide +kernel
theorem dX7_join_32 : decode cX7_join 32 = .ok (.iconst 1, 1) := by decide +kernel
theorem dX7_join_33 : decode cX7_join 33 = .ok (.goto 4, 3) := by decide +kernel
theorem dX7_join_36 : decode cX7_join 36 = .ok (.iconst 0, 1) := by decide +kernel
theorem dX7_join_37 : decode cX7_join 37 = .ok (.invokevirtual 71, 3) := by decide +kernel
theorem dX7_join_40 : decode cX7_join 40 = .ok (.ireturn, 1) := by decide +kernel
theorem dX7_give_0 : decode cX7_give 0 = .ok (.aload_n 0, 1) := by decide +kernel
theorem dX7_give_1 : decode cX7_give 1 = .ok (.getfield 75, 3) := by decide +kernel
theorem dX7_give_4 : decode cX7_give 4 = .ok (.bipush 25, 2) := by decide +kernel
theorem dX7_give_6 : decode cX7_give 6 = .ok (.if_icmp .ge 43, 3) := by decide +kernel
theorem dX7_give_9 : decode cX7_give 9 = .ok (.aload_n 0, 1) := by decide +kernel
theorem dX7_give_10 : decode cX7_give 10 = .ok (.getfield 38, 3) := by decide +kernel
theorem dX7_give_13 : decode cX7_give 13 = .ok (.iconst 3, 1) := by decide +kernel
theorem dX7_give_14 : decode cX7_give 14 = .ok (.aload_n 0, 1) := by decide +kernel
theorem dX7_give_15 : decode cX7_give 15 = .ok (.getfield 75, 3) := by decide +kernel
theorem dX7_give_18 : decode cX7_give 18 = .ok (.imul, 1) := by decide +kernel
theorem dX7_give_19 : decode cX7_give 19 = .ok (.iload_n 1, 1) := by decide +kernel
theorem dX7_give_20 : decode cX7_give 20 = .ok (.iastore, 1) := by decide +kernel
theorem dX7_give_21 : decode cX7_give 21 = .ok (.aload_n 0, 1) := by decide +kernel
theorem dX7_give_22 : decode cX7_give 22 = .ok (.getfield 38, 3) := by decide +kernel
theorem dX7_give_25 : decode cX7_give 25 = .ok (.iconst 3, 1) := by decide +kernel
theorem dX7_give_26 : decode cX7_give 26 = .ok (.aload_n 0, 1) := by decide +kernel
theorem dX7_give_27 : decode cX7_give 27 = .ok (.getfield 75, 3) := by decide +kernel
theorem dX7_give_30 : decode cX7_give 30 = .ok (.imul, 1) := by decide +kernel
theorem dX7_give_31 : decode cX7_give 31 = .ok (.iconst 1, 1) := by decide +kernel
theorem dX7_give_32 : decode cX7_give 32 = .ok (.iadd, 1) := by decide +kernel
theorem dX7_give_33 : decode cX7_give 33 = .ok (.iload_n 2, 1) := by decide +kernel
theorem dX7_give_34 : decode cX7_give 34 = .ok (.iastore, 1) := by decide +kernel
theorem dX7_give_35 : decode cX7_give 35 = .ok (.aload_n 0, 1) := by decide +kernel
theorem dX7_give_36 : decode cX7_give 36 = .ok (.getfield 38, 3) := by decide +kernel
theorem dX7_give_39 : decode cX7_give 39 = .ok (.iconst 3, 1) := by decide +kernel
theorem dX7_give_40 : decode cX7_give 40 = .ok (.aload_n 0, 1) := by decide +kernel
theorem dX7_give_41 : decode cX7_give 41 = .ok (.getfield 75, 3) := by decide +kernel
theorem dX7_give_44 : decode cX7_give 44 = .ok (.imul, 1) := by decide +kernel
theorem dX7_give_45 : decode cX7_give 45 = .ok (.iconst 2, 1) := by decide +kernel
theorem dX7_give_46 : decode cX7_give 46 = .ok (.iadd, 1) := by decide +kernel
theorem dX7_give_47 : decode cX7_give 47 = .ok (.iload_n 3, 1) := by decide +kernel
theorem dX7_give_48 : decode cX7_give 48 = .ok (.iastore, 1) := by decide +kernel
theorem dX7_give_49 : decode cX7_give 49 = .ok (.aload_n 0, 1) := by decide +kernel
theorem dX7_give_50 : decode cX7_give 50 = .ok (.dup, 1) := by decide +kernel
theorem dX7_give_51 : decode cX7_give 51 = .ok (.getfield 75, 3) := by decide +kernel
theorem dX7_give_54 : decode cX7_give 54 = .ok (.iconst 1, 1) := by decide +kernel
theorem dX7_give_55 : decode cX7_give 55 = .ok (.iadd, 1) := by decide +kernel
theorem dX7_give_56 : decode cX7_give 56 = .ok (.putfield 75, 3) := by decide +kernel
theorem dX7_give_59 : decode cX7_give 59 = .ok (.return_, 1) := by decide +kernel
theorem dX7_passes_0 : decode cX7_passes 0 = .ok (.iload_n 2, 1) := by decide +kernel
theorem dX7_passes_1 : decode cX7_passes 1 = .ok (.ifCond .ne 16, 3) := by decide +kernel
theorem dX7_passes_4 : decode cX7_passes 4 = .ok (.iload_n 1, 1) := by decide +kernel
theorem dX7_passes_5 : decode cX7_passes 5 = .ok (.iload_n 3, 1) := by decide +kernel
theorem dX7_passes_6 : decode cX7_passes 6 = .ok (.if_icmp .ge 7, 3) := by decide +kernel
theorem dX7_passes_9 : decode cX7_passes 9 = .ok (.iconst 1, 1) := by decide +kernel
theorem dX7_passes_10 : decode cX7_passes 10 = .ok (.goto 35, 3) := by decide +kernel
theorem dX7_passes_13 : decode cX7_passes 13 = .ok (.iconst 0, 1) := by decide +kernel
theorem dX7_passes_14 : decode cX7_passes 14 = .ok (.goto 31, 3) := by decide +kernel
theorem dX7_passes_17 : decode cX7_passes 17 = .ok (.iload_n 2, 1) := by decide +kernel
theorem dX7_passes_18 : decode cX7_passes 18 = .ok (.iconst 1, 1) := by decide +kernel
theorem dX7_passes_19 : decode cX7_passes 19 = .ok (.if_icmp .ne 16, 3) := by decide +kernel
theorem dX7_passes_22 : decode cX7_passes 22 = .ok (.iload_n 1, 1) := by decide +kernel
theorem dX7_passes_23 : decode cX7_passes 23 = .ok (.iload_n 3, 1) := by decide +kernel
theorem dX7_passes_24 : decode cX7_passes 24 = .ok (.if_icmp .ne 7, 3) := by decide +kernel
theorem dX7_passes_27 : decode cX7_passes 27 = .ok (.iconst 1, 1) := by decide +kernel
theorem dX7_passes_28 : decode cX7_passes 28 = .ok (.goto 17, 3) := by decide +kernel
theorem dX7_passes_31 : decode cX7_passes 31 = .ok (.iconst 0, 1) := by decide +kernel
theorem dX7_passes_32 : decode cX7_passes 32 = .ok (.goto 13, 3) := by decide +kernel
theorem dX7_passes_35 : decode cX7_passes 35 = .ok (.iload_n 1, 1) := by decide +kernel
theorem dX7_passes_36 : decode cX7_passes 36 = .ok (.iload_n 3, 1) := by decide +kernel
theorem dX7_passes_37 : decode cX7_passes 37 = .ok (.if_icmp .le 7, 3) := by decide +kernel
theorem dX7_passes_40 : decode cX7_passes 40 = .ok (.iconst 1, 1) := by decide +kernel
theorem dX7_passes_41 : decode cX7_passes 41 = .ok (.goto 4, 3) := by decide +kernel
theorem dX7_passes_44 : decode cX7_passes 44 = .ok (.iconst 0, 1) := by decide +kernel
theorem dX7_passes_45 : decode cX7_passes 45 = .ok (.ireturn, 1) := by decide +kernel
theorem dX7_first_0 : decode cX7_first 0 = .ok (.iconst 1, 1) := by decide +kernel
theorem dX7_first_1 : decode cX7_first 1 = .ok (.istore_n 3, 1) := by decide +kernel
theorem dX7_first_2 : decode cX7_first 2 = .ok (.iconst 0, 1) := by decide +kernel
theorem dX7_first_3 : decode cX7_first 3 = .ok (.istore 4, 2) := by decide +kernel
theorem dX7_first_5 : decode cX7_first 5 = .ok (.iload 4, 2) := by decide +kernel
theorem dX7_first_7 : decode cX7_first 7 = .ok (.iload_n 1, 1) := by decide +kernel
theorem dX7_first_8 : decode cX7_first 8 = .ok (.if_icmp .ge 91, 3) := by decide +kernel
theorem dX7_first_11 : decode cX7_first 11 = .ok (.iconst 1, 1) := by decide +kernel
theorem dX7_first_12 : decode cX7_first 12 = .ok (.istore 5, 2) := by decide +kernel
theorem dX7_first_14 : decode cX7_first 14 = .ok (.iconst 0, 1) := by decide +kernel
theorem dX7_first_15 : decode cX7_first 15 = .ok (.istore 6, 2) := by decide +kernel
theorem dX7_first_17 : decode cX7_first 17 = .ok (.iload 6, 2) := by decide +kernel
theorem dX7_first_19 : decode cX7_first 19 = .ok (.iconst 3, 1) := by decide +kernel
theorem dX7_first_20 : decode cX7_first 20 = .ok (.if_icmp .ge 58, 3) := by decide +kernel
theorem dX7_first_23 : decode cX7_first 23 = .ok (.iload 5, 2) := by decide +kernel
theorem dX7_first_25 : decode cX7_first 25 = .ok (.ifCond .eq 44, 3) := by decide +kernel
theorem dX7_first_28 : decode cX7_first 28 = .ok (.iload_n 2, 1) := by decide +kernel
theorem dX7_first_29 : decode cX7_first 29 = .ok (.iconst 3, 1) := by decide +kernel
theorem dX7_first_30 : decode cX7_first 30 = .ok (.if_icmp .eq 9, 3) := by decide +kernel
theorem dX7_first_33 : decode cX7_first 33 = .ok (.iload 6, 2) := by decide +kernel
theorem dX7_first_35 : decode cX7_first 35 = .ok (.iload_n 2, 1) := by decide +kernel
theorem dX7_first_36 : decode cX7_first 36 = .ok (.if_icmp .ne 29, 3) := by decide +kernel
theorem dX7_first_39 : decode cX7_first 39 = .ok (.aload_n 0, 1) := by decide +kernel
theorem dX7_first_40 : decode cX7_first 40 = .ok (.getfield 35, 3) := by decide +kernel
theorem dX7_first_43 : decode cX7_first 43 = .ok (.iconst 3, 1) := by decide +kernel
theorem dX7_first_44 : decode cX7_first 44 = .ok (.iload 4, 2) := by decide +kernel
theorem dX7_first_46 : decode cX7_first 46 = .ok (.imul, 1) := by decide +kernel
theorem dX7_first_47 : decode cX7_first 47 = .ok (.iload 6, 2) := by decide +kernel
theorem dX7_first_49 : decode cX7_first 49 = .ok (.iadd, 1) := by decide +kernel
theorem dX7_first_50 : decode cX7_first 50 = .ok (.iaload, 1) := by decide +kernel
theorem dX7_first_51 : decode cX7_first 51 = .ok (.aload_n 0, 1) := by decide +kernel
theorem dX7_first_52 : decode cX7_first 52 = .ok (.getfield 35, 3) := by decide +kernel
theorem dX7_first_55 : decode cX7_first 55 = .ok (.iconst 3, 1) := by decide +kernel
theorem dX7_first_56 : decode cX7_first 56 = .ok (.iload_n 1, 1) := by decide +kernel
theorem dX7_first_57 : decode cX7_first 57 = .ok (.imul, 1) := by decide +kernel
theorem dX7_first_58 : decode cX7_first 58 = .ok (.iload 6, 2) := by decide +kernel
theorem dX7_first_60 : decode cX7_first 60 = .ok (.iadd, 1) := by decide +kernel
theorem dX7_first_61 : decode cX7_first 61 = .ok (.iaload, 1) := by decide +kernel
theorem dX7_first_62 : decode cX7_first 62 = .ok (.if_icmp .ne 7, 3) := by decide +kernel
theorem dX7_first_65 : decode cX7_first 65 = .ok (.iconst 1, 1) := by decide +kernel
theorem dX7_first_66 : decode cX7_first 66 = .ok (.goto 4, 3) := by decide +kernel
theorem dX7_first_69 : decode cX7_first 69 = .ok (.iconst 0, 1) := by decide +kernel
theorem dX7_first_70 : decode cX7_first 70 = .ok (.istore 5, 2) := by decide +kernel
theorem dX7_first_72 : decode cX7_first 72 = .ok (.iinc 6 1, 3) := by decide +kernel
theorem dX7_first_75 : decode cX7_first 75 = .ok (.goto (-58), 3) := by decide +kernel
theorem dX7_first_78 : decode cX7_first 78 = .ok (.iload_n 3, 1) := by decide +kernel
theorem dX7_first_79 : decode cX7_first 79 = .ok (.ifCond .eq 12, 3) := by decide +kernel
theorem dX7_first_82 : decode cX7_first 82 = .ok (.iload 5, 2) := by decide +kernel
theorem dX7_first_84 : decode cX7_first 84 = .ok (.ifCond .ne 7, 3) := by decide +kernel
theorem dX7_first_87 : decode cX7_first 87 = .ok (.iconst 1, 1) := by decide +kernel
theorem dX7_first_88 : decode cX7_first 88 = .ok (.goto 4, 3) := by decide +kernel
theorem dX7_first_91 : decode cX7_first 91 = .ok (.iconst 0, 1) := by decide +kernel
theorem dX7_first_92 : decode cX7_first 92 = .ok (.istore_n 3, 1) := by decide +kernel
theorem dX7_first_93 : decode cX7_first 93 = .ok (.iinc 4 1, 3) := by decide +kernel
theorem dX7_first_96 : decode cX7_first 96 = .ok (.goto (-91), 3) := by decide +kernel
theorem dX7_first_99 : decode cX7_first 99 = .ok (.iload_n 3, 1) := by decide +kernel
theorem dX7_first_100 : decode cX7_first 100 = .ok (.ireturn, 1) := by decide +kernel
theorem dX7_groupOf_0 : decode cX7_groupOf 0 = .ok (.iconst 0, 1) := by decide +kernel
theorem dX7_groupOf_1 : decode cX7_groupOf 1 = .ok (.istore 4, 2) := by decide +kernel
theorem dX7_groupOf_3 : decode cX7_groupOf 3 = .ok (.iconst 0, 1) := by decide +kernel
theorem dX7_groupOf_4 : decode cX7_groupOf 4 = .ok (.istore 5, 2) := by decide +kernel
theorem dX7_groupOf_6 : decode cX7_groupOf 6 = .ok (.iconst 0, 1) := by decide +kernel
theorem dX7_groupOf_7 : decode cX7_groupOf 7 = .ok (.istore 6, 2) := by decide +kernel
theorem dX7_groupOf_9 : decode cX7_groupOf 9 = .ok (.iload 6, 2) := by decide +kernel
theorem dX7_groupOf_11 : decode cX7_groupOf 11 = .ok (.aload_n 0, 1) := by decide +kernel
theorem dX7_groupOf_12 : decode cX7_groupOf 12 = .ok (.getfield 78, 3) := by decide +kernel
theorem dX7_groupOf_15 : decode cX7_groupOf 15 = .ok (.if_icmp .ge 52, 3) := by decide +kernel
theorem dX7_groupOf_18 : decode cX7_groupOf 18 = .ok (.aload_n 0, 1) := by decide +kernel
theorem dX7_groupOf_19 : decode cX7_groupOf 19 = .ok (.getfield 35, 3) := by decide +kernel
theorem dX7_groupOf_22 : decode cX7_groupOf 22 = .ok (.iconst 3, 1) := by decide +kernel
theorem dX7_groupOf_23 : decode cX7_groupOf 23 = .ok (.iload 6, 2) := by decide +kernel
theorem dX7_groupOf_25 : decode cX7_groupOf 25 = .ok (.imul, 1) := by decide +kernel
theorem dX7_groupOf_26 : decode cX7_groupOf 26 = .ok (.iload_n 2, 1) := by decide +kernel
theorem dX7_groupOf_27 : decode cX7_groupOf 27 = .ok (.iadd, 1) := by decide +kernel
theorem dX7_groupOf_28 : decode cX7_groupOf 28 = .ok (.iaload, 1) := by decide +kernel
theorem dX7_groupOf_29 : decode cX7_groupOf 29 = .ok (.aload_n 0, 1) := by decide +kernel
theorem dX7_groupOf_30 : decode cX7_groupOf 30 = .ok (.getfield 35, 3) := by decide +kernel
theorem dX7_groupOf_33 : decode cX7_groupOf 33 = .ok (.iconst 3, 1) := by decide +kernel
theorem dX7_groupOf_34 : decode cX7_groupOf 34 = .ok (.iload_n 1, 1) := by decide +kernel
theorem dX7_groupOf_35 : decode cX7_groupOf 35 = .ok (.imul, 1) := by decide +kernel
theorem dX7_groupOf_36 : decode cX7_groupOf 36 = .ok (.iload_n 2, 1) := by decide +kernel
theorem dX7_groupOf_37 : decode cX7_groupOf 37 = .ok (.iadd, 1) := by decide +kernel
theorem dX7_groupOf_38 : decode cX7_groupOf 38 = .ok (.iaload, 1) := by decide +kernel
theorem dX7_groupOf_39 : decode cX7_groupOf 39 = .ok (.if_icmp .ne 22, 3) := by decide +kernel
theorem dX7_groupOf_42 : decode cX7_groupOf 42 = .ok (.iload 4, 2) := by decide +kernel
theorem dX7_groupOf_44 : decode cX7_groupOf 44 = .ok (.aload_n 0, 1) := by decide +kernel
theorem dX7_groupOf_45 : decode cX7_groupOf 45 = .ok (.getfield 35, 3) := by decide +kernel
theorem dX7_groupOf_48 : decode cX7_groupOf 48 = .ok (.iconst 3, 1) := by decide +kernel
theorem dX7_groupOf_49 : decode cX7_groupOf 49 = .ok (.iload 6, 2) := by decide +kernel
theorem dX7_groupOf_51 : decode cX7_groupOf 51 = .ok (.imul, 1) := by decide +kernel
theorem dX7_groupOf_52 : decode cX7_groupOf 52 = .ok (.iload_n 3, 1) := by decide +kernel
theorem dX7_groupOf_53 : decode cX7_groupOf 53 = .ok (.iadd, 1) := by decide +kernel
theorem dX7_groupOf_54 : decode cX7_groupOf 54 = .ok (.iaload, 1) := by decide +kernel
theorem dX7_groupOf_55 : decode cX7_groupOf 55 = .ok (.iadd, 1) := by decide +kernel
theorem dX7_groupOf_56 : decode cX7_groupOf 56 = .ok (.istore 4, 2) := by decide +kernel
theorem dX7_groupOf_58 : decode cX7_groupOf 58 = .ok (.iinc 5 1, 3) := by decide +kernel
theorem dX7_groupOf_61 : decode cX7_groupOf 61 = .ok (.iinc 6 1, 3) := by decide +kernel
theorem dX7_groupOf_64 : decode cX7_groupOf 64 = .ok (.goto (-55), 3) := by decide +kernel
theorem dX7_groupOf_67 : decode cX7_groupOf 67 = .ok (.aload_n 0, 1) := by decide +kernel
theorem dX7_groupOf_68 : decode cX7_groupOf 68 = .ok (.aload_n 0, 1) := by decide +kernel
theorem dX7_groupOf_69 : decode cX7_groupOf 69 = .ok (.getfield 35, 3) := by decide +kernel
theorem dX7_groupOf_72 : decode cX7_groupOf 72 = .ok (.iconst 3, 1) := by decide +kernel
theorem dX7_groupOf_73 : decode cX7_groupOf 73 = .ok (.iload_n 1, 1) := by decide +kernel
theorem dX7_groupOf_74 : decode cX7_groupOf 74 = .ok (.imul, 1) := by decide +kernel
theorem dX7_groupOf_75 : decode cX7_groupOf 75 = .ok (.iload_n 2, 1) := by decide +kernel
theorem dX7_groupOf_76 : decode cX7_groupOf 76 = .ok (.iadd, 1) := by decide +kernel
theorem dX7_groupOf_77 : decode cX7_groupOf 77 = .ok (.iaload, 1) := by decide +kernel
theorem dX7_groupOf_78 : decode cX7_groupOf 78 = .ok (.iload 4, 2) := by decide +kernel
theorem dX7_groupOf_80 : decode cX7_groupOf 80 = .ok (.iload 5, 2) := by decide +kernel
theorem dX7_groupOf_82 : decode cX7_groupOf 82 = .ok (.invokevirtual 81, 3) := by decide +kernel
theorem dX7_groupOf_85 : decode cX7_groupOf 85 = .ok (.return_, 1) := by decide +kernel
theorem dX7_joinWith_0 : decode cX7_joinWith 0 = .ok (.bipush 36, 2) := by decide +kernel
theorem dX7_joinWith_2 : decode cX7_joinWith 2 = .ok (.iload_n 2, 1) := by decide +kernel
theorem dX7_joinWith_3 : decode cX7_joinWith 3 = .ok (.imul, 1) := by decide +kernel
theorem dX7_joinWith_4 : decode cX7_joinWith 4 = .ok (.istore 5, 2) := by decide +kernel
theorem dX7_joinWith_6 : decode cX7_joinWith 6 = .ok (.iload 5, 2) := by decide +kernel
theorem dX7_joinWith_8 : decode cX7_joinWith 8 = .ok (.bipush 36, 2) := by decide +kernel
theorem dX7_joinWith_10 : decode cX7_joinWith 10 = .ok (.iload_n 2, 1) := by decide +kernel
theorem dX7_joinWith_11 : decode cX7_joinWith 11 = .ok (.imul, 1) := by decide +kernel
theorem dX7_joinWith_12 : decode cX7_joinWith 12 = .ok (.iconst 3, 1) := by decide +kernel
theorem dX7_joinWith_13 : decode cX7_joinWith 13 = .ok (.aload_n 0, 1) := by decide +kernel
theorem dX7_joinWith_14 : decode cX7_joinWith 14 = .ok (.getfield 13, 3) := by decide +kernel
theorem dX7_joinWith_17 : decode cX7_joinWith 17 = .ok (.iload_n 2, 1) := by decide +kernel
theorem dX7_joinWith_18 : decode cX7_joinWith 18 = .ok (.iaload, 1) := by decide +kernel
theorem dX7_joinWith_19 : decode cX7_joinWith 19 = .ok (.imul, 1) := by decide +kernel
theorem dX7_joinWith_20 : decode cX7_joinWith 20 = .ok (.iadd, 1) := by decide +kernel
theorem dX7_joinWith_21 : decode cX7_joinWith 21 = .ok (.if_icmp .ge 86, 3) := by decide +kernel
theorem dX7_joinWith_24 : decode cX7_joinWith 24 = .ok (.aload_n 0, 1) := by decide +kernel
theorem dX7_joinWith_25 : decode cX7_joinWith 25 = .ok (.getfield 35, 3) := by decide +kernel
theorem dX7_joinWith_28 : decode cX7_joinWith 28 = .ok (.iconst 3, 1) := by decide +kernel
theorem dX7_joinWith_29 : decode cX7_joinWith 29 = .ok (.iload_n 1, 1) := by decide +kernel
theorem dX7_joinWith_30 : decode cX7_joinWith 30 = .ok (.imul, 1) := by decide +kernel
theorem dX7_joinWith_31 : decode cX7_joinWith 31 = .ok (.iload_n 3, 1) := by decide +kernel
theorem dX7_joinWith_32 : decode cX7_joinWith 32 = .ok (.iadd, 1) := by decide +kernel
theorem dX7_joinWith_33 : decode cX7_joinWith 33 = .ok (.iaload, 1) := by decide +kernel
theorem dX7_joinWith_34 : decode cX7_joinWith 34 = .ok (.aload_n 0, 1) := by decide +kernel
theorem dX7_joinWith_35 : decode cX7_joinWith 35 = .ok (.getfield 7, 3) := by decide +kernel
theorem dX7_joinWith_38 : decode cX7_joinWith 38 = .ok (.iload 5, 2) := by decide +kernel
theorem dX7_joinWith_40 : decode cX7_joinWith 40 = .ok (.iload 4, 2) := by decide +kernel
theorem dX7_joinWith_42 : decode cX7_joinWith 42 = .ok (.iadd, 1) := by decide +kernel
theorem dX7_joinWith_43 : decode cX7_joinWith 43 = .ok (.iaload, 1) := by decide +kernel
theorem dX7_joinWith_44 : decode cX7_joinWith 44 = .ok (.if_icmp .ne 57, 3) := by decide +kernel
theorem dX7_joinWith_47 : decode cX7_joinWith 47 = .ok (.aload_n 0, 1) := by decide +kernel
theorem dX7_joinWith_48 : decode cX7_joinWith 48 = .ok (.aload_n 0, 1) := by decide +kernel
theorem dX7_joinWith_49 : decode cX7_joinWith 49 = .ok (.getfield 35, 3) := by decide +kernel
theorem dX7_joinWith_52 : decode cX7_joinWith 52 = .ok (.iconst 3, 1) := by decide +kernel
theorem dX7_joinWith_53 : decode cX7_joinWith 53 = .ok (.iload_n 1, 1) := by decide +kernel
theorem dX7_joinWith_54 : decode cX7_joinWith 54 = .ok (.imul, 1) := by decide +kernel
theorem dX7_joinWith_55 : decode cX7_joinWith 55 = .ok (.iload_n 3, 1) := by decide +kernel
theorem dX7_joinWith_56 : decode cX7_joinWith 56 = .ok (.iadd, 1) := by decide +kernel
theorem dX7_joinWith_57 : decode cX7_joinWith 57 = .ok (.iaload, 1) := by decide +kernel
theorem dX7_joinWith_58 : decode cX7_joinWith 58 = .ok (.aload_n 0, 1) := by decide +kernel
theorem dX7_joinWith_59 : decode cX7_joinWith 59 = .ok (.getfield 35, 3) := by decide +kernel
theorem dX7_joinWith_62 : decode cX7_joinWith 62 = .ok (.iconst 3, 1) := by decide +kernel
theorem dX7_joinWith_63 : decode cX7_joinWith 63 = .ok (.iload_n 1, 1) := by decide +kernel
theorem dX7_joinWith_64 : decode cX7_joinWith 64 = .ok (.imul, 1) := by decide +kernel
theorem dX7_joinWith_65 : decode cX7_joinWith 65 = .ok (.iconst 1, 1) := by decide +kernel
theorem dX7_joinWith_66 : decode cX7_joinWith 66 = .ok (.iadd, 1) := by decide +kernel
theorem dX7_joinWith_67 : decode cX7_joinWith 67 = .ok (.iaload, 1) := by decide +kernel
theorem dX7_joinWith_68 : decode cX7_joinWith 68 = .ok (.aload_n 0, 1) := by decide +kernel
theorem dX7_joinWith_69 : decode cX7_joinWith 69 = .ok (.getfield 7, 3) := by decide +kernel
theorem dX7_joinWith_72 : decode cX7_joinWith 72 = .ok (.iload 5, 2) := by decide +kernel
theorem dX7_joinWith_74 : decode cX7_joinWith 74 = .ok (.iconst 1, 1) := by decide +kernel
theorem dX7_joinWith_75 : decode cX7_joinWith 75 = .ok (.iadd, 1) := by decide +kernel
theorem dX7_joinWith_76 : decode cX7_joinWith 76 = .ok (.iaload, 1) := by decide +kernel
theorem dX7_joinWith_77 : decode cX7_joinWith 77 = .ok (.iadd, 1) := by decide +kernel
theorem dX7_joinWith_78 : decode cX7_joinWith 78 = .ok (.aload_n 0, 1) := by decide +kernel
theorem dX7_joinWith_79 : decode cX7_joinWith 79 = .ok (.getfield 35, 3) := by decide +kernel
theorem dX7_joinWith_82 : decode cX7_joinWith 82 = .ok (.iconst 3, 1) := by decide +kernel
theorem dX7_joinWith_83 : decode cX7_joinWith 83 = .ok (.iload_n 1, 1) := by decide +kernel
theorem dX7_joinWith_84 : decode cX7_joinWith 84 = .ok (.imul, 1) := by decide +kernel
theorem dX7_joinWith_85 : decode cX7_joinWith 85 = .ok (.iconst 2, 1) := by decide +kernel
theorem dX7_joinWith_86 : decode cX7_joinWith 86 = .ok (.iadd, 1) := by decide +kernel
theorem dX7_joinWith_87 : decode cX7_joinWith 87 = .ok (.iaload, 1) := by decide +kernel
theorem dX7_joinWith_88 : decode cX7_joinWith 88 = .ok (.aload_n 0, 1) := by decide +kernel
theorem dX7_joinWith_89 : decode cX7_joinWith 89 = .ok (.getfield 7, 3) := by decide +kernel
theorem dX7_joinWith_92 : decode cX7_joinWith 92 = .ok (.iload 5, 2) := by decide +kernel
theorem dX7_joinWith_94 : decode cX7_joinWith 94 = .ok (.iconst 2, 1) := by decide +kernel
theorem dX7_joinWith_95 : decode cX7_joinWith 95 = .ok (.iadd, 1) := by decide +kernel
theorem dX7_joinWith_96 : decode cX7_joinWith 96 = .ok (.iaload, 1) := by decide +kernel
theorem dX7_joinWith_97 : decode cX7_joinWith 97 = .ok (.iadd, 1) := by decide +kernel
theorem dX7_joinWith_98 : decode cX7_joinWith 98 = .ok (.invokevirtual 81, 3) := by decide +kernel
theorem dX7_joinWith_101 : decode cX7_joinWith 101 = .ok (.iinc 5 3, 3) := by decide +kernel
theorem dX7_joinWith_104 : decode cX7_joinWith 104 = .ok (.goto (-98), 3) := by decide +kernel
theorem dX7_joinWith_107 : decode cX7_joinWith 107 = .ok (.return_, 1) := by decide +kernel
theorem dX7_work_0 : decode cX7_work 0 = .ok (.aload_n 0, 1) := by decide +kernel
theorem dX7_work_1 : decode cX7_work 1 = .ok (.getfield 19, 3) := by decide +kernel
theorem dX7_work_4 : decode cX7_work 4 = .ok (.iload_n 1, 1) := by decide +kernel
theorem dX7_work_5 : decode cX7_work 5 = .ok (.iaload, 1) := by decide +kernel
theorem dX7_work_6 : decode cX7_work 6 = .ok (.istore_n 2, 1) := by decide +kernel
theorem dX7_work_7 : decode cX7_work 7 = .ok (.aload_n 0, 1) := by decide +kernel
theorem dX7_work_8 : decode cX7_work 8 = .ok (.getfield 22, 3) := by decide +kernel
theorem dX7_work_11 : decode cX7_work 11 = .ok (.iload_n 1, 1) := by decide +kernel
theorem dX7_work_12 : decode cX7_work 12 = .ok (.iaload, 1) := by decide +kernel
theorem dX7_work_13 : decode cX7_work 13 = .ok (.istore_n 3, 1) := by decide +kernel
theorem dX7_work_14 : decode cX7_work 14 = .ok (.aload_n 0, 1) := by decide +kernel
theorem dX7_work_15 : decode cX7_work 15 = .ok (.getfield 25, 3) := by decide +kernel
theorem dX7_work_18 : decode cX7_work 18 = .ok (.iload_n 1, 1) := by decide +kernel
theorem dX7_work_19 : decode cX7_work 19 = .ok (.iaload, 1) := by decide +kernel
theorem dX7_work_20 : decode cX7_work 20 = .ok (.istore 4, 2) := by decide +kernel
theorem dX7_work_22 : decode cX7_work 22 = .ok (.aload_n 0, 1) := by decide +kernel
theorem dX7_work_23 : decode cX7_work 23 = .ok (.iconst 0, 1) := by decide +kernel
theorem dX7_work_24 : decode cX7_work 24 = .ok (.putfield 75, 3) := by decide +kernel
theorem dX7_work_27 : decode cX7_work 27 = .ok (.iconst 0, 1) := by decide +kernel
theorem dX7_work_28 : decode cX7_work 28 = .ok (.istore 5, 2) := by decide +kernel
theorem dX7_work_30 : decode cX7_work 30 = .ok (.iload 5, 2) := by decide +kernel
theorem dX7_work_32 : decode cX7_work 32 = .ok (.aload_n 0, 1) := by decide +kernel
theorem dX7_work_33 : decode cX7_work 33 = .ok (.getfield 78, 3) := by decide +kernel
theorem dX7_work_36 : decode cX7_work 36 = .ok (.if_icmp .ge 190, 3) := by decide +kernel
theorem dX7_work_39 : decode cX7_work 39 = .ok (.aload_n 0, 1) := by decide +kernel
theorem dX7_work_40 : decode cX7_work 40 = .ok (.getfield 16, 3) := by decide +kernel
theorem dX7_work_43 : decode cX7_work 43 = .ok (.iload_n 1, 1) := by decide +kernel
theorem dX7_work_44 : decode cX7_work 44 = .ok (.iaload, 1) := by decide +kernel
theorem dX7_work_45 : decode cX7_work 45 = .ok (.ifCond .ne 24, 3) := by decide +kernel
theorem dX7_work_48 : decode cX7_work 48 = .ok (.aload_n 0, 1) := by decide +kernel
theorem dX7_work_49 : decode cX7_work 49 = .ok (.aload_n 0, 1) := by decide +kernel
theorem dX7_work_50 : decode cX7_work 50 = .ok (.getfield 35, 3) := by decide +kernel
theorem dX7_work_53 : decode cX7_work 53 = .ok (.iconst 3, 1) := by decide +kernel
theorem dX7_work_54 : decode cX7_work 54 = .ok (.iload 5, 2) := by decide +kernel
theorem dX7_work_56 : decode cX7_work 56 = .ok (.imul, 1) := by decide +kernel
theorem dX7_work_57 : decode cX7_work 57 = .ok (.iload_n 2, 1) := by decide +kernel
theorem dX7_work_58 : decode cX7_work 58 = .ok (.iadd, 1) := by decide +kernel
theorem dX7_work_59 : decode cX7_work 59 = .ok (.iaload, 1) := by decide +kernel
theorem dX7_work_60 : decode cX7_work 60 = .ok (.iload_n 3, 1) := by decide +kernel
theorem dX7_work_61 : decode cX7_work 61 = .ok (.iload 4, 2) := by decide +kernel
theorem dX7_work_63 : decode cX7_work 63 = .ok (.invokevirtual 85, 3) := by decide +kernel
theorem dX7_work_66 : decode cX7_work 66 = .ok (.ifCond .ne 23, 3) := by decide +kernel
theorem dX7_work_69 : decode cX7_work 69 = .ok (.aload_n 0, 1) := by decide +kernel
theorem dX7_work_70 : decode cX7_work 70 = .ok (.getfield 16, 3) := by decide +kernel
theorem dX7_work_73 : decode cX7_work 73 = .ok (.iload_n 1, 1) := by decide +kernel
theorem dX7_work_74 : decode cX7_work 74 = .ok (.iaload, 1) := by decide +kernel
theorem dX7_work_75 : decode cX7_work 75 = .ok (.iconst 2, 1) := by decide +kernel
theorem dX7_work_76 : decode cX7_work 76 = .ok (.if_icmp .ne 48, 3) := by decide +kernel
theorem dX7_work_79 : decode cX7_work 79 = .ok (.aload_n 0, 1) := by decide +kernel
theorem dX7_work_80 : decode cX7_work 80 = .ok (.iload 5, 2) := by decide +kernel
theorem dX7_work_82 : decode cX7_work 82 = .ok (.iconst 3, 1) := by decide +kernel
theorem dX7_work_83 : decode cX7_work 83 = .ok (.invokevirtual 88, 3) := by decide +kernel
theorem dX7_work_86 : decode cX7_work 86 = .ok (.ifCond .eq 38, 3) := by decide +kernel
theorem dX7_work_89 : decode cX7_work 89 = .ok (.aload_n 0, 1) := by decide +kernel
theorem dX7_work_90 : decode cX7_work 90 = .ok (.aload_n 0, 1) := by decide +kernel
theorem dX7_work_91 : decode cX7_work 91 = .ok (.getfield 35, 3) := by decide +kernel
theorem dX7_work_94 : decode cX7_work 94 = .ok (.iconst 3, 1) := by decide +kernel
theorem dX7_work_95 : decode cX7_work 95 = .ok (.iload 5, 2) := by decide +kernel
theorem dX7_work_97 : decode cX7_work 97 = .ok (.imul, 1) := by decide +kernel
theorem dX7_work_98 : decode cX7_work 98 = .ok (.iaload, 1) := by decide +kernel
theorem dX7_work_99 : decode cX7_work 99 = .ok (.aload_n 0, 1) := by decide +kernel
theorem dX7_work_100 : decode cX7_work 100 = .ok (.getfield 35, 3) := by decide +kernel
theorem dX7_work_103 : decode cX7_work 103 = .ok (.iconst 3, 1) := by decide +kernel
theorem dX7_work_104 : decode cX7_work 104 = .ok (.iload 5, 2) := by decide +kernel
theorem dX7_work_106 : decode cX7_work 106 = .ok (.imul, 1) := by decide +kernel
theorem dX7_work_107 : decode cX7_work 107 = .ok (.iconst 1, 1) := by decide +kernel
theorem dX7_work_108 : decode cX7_work 108 = .ok (.iadd, 1) := by decide +kernel
theorem dX7_work_109 : decode cX7_work 109 = .ok (.iaload, 1) := by decide +kernel
theorem dX7_work_110 : decode cX7_work 110 = .ok (.aload_n 0, 1) := by decide +kernel
theorem dX7_work_111 : decode cX7_work 111 = .ok (.getfield 35, 3) := by decide +kernel
theorem dX7_work_114 : decode cX7_work 114 = .ok (.iconst 3, 1) := by decide +kernel
theorem dX7_work_115 : decode cX7_work 115 = .ok (.iload 5, 2) := by decide +kernel
theorem dX7_work_117 : decode cX7_work 117 = .ok (.imul, 1) := by decide +kernel
theorem dX7_work_118 : decode cX7_work 118 = .ok (.iconst 2, 1) := by decide +kernel
theorem dX7_work_119 : decode cX7_work 119 = .ok (.iadd, 1) := by decide +kernel
theorem dX7_work_120 : decode cX7_work 120 = .ok (.iaload, 1) := by decide +kernel
theorem dX7_work_121 : decode cX7_work 121 = .ok (.invokevirtual 81, 3) := by decide +kernel
theorem dX7_work_124 : decode cX7_work 124 = .ok (.aload_n 0, 1) := by decide +kernel
theorem dX7_work_125 : decode cX7_work 125 = .ok (.getfield 16, 3) := by decide +kernel
theorem dX7_work_128 : decode cX7_work 128 = .ok (.iload_n 1, 1) := by decide +kernel
theorem dX7_work_129 : decode cX7_work 129 = .ok (.iaload, 1) := by decide +kernel
theorem dX7_work_130 : decode cX7_work 130 = .ok (.iconst 1, 1) := by decide +kernel
theorem dX7_work_131 : decode cX7_work 131 = .ok (.if_icmp .ne 41, 3) := by decide +kernel
theorem dX7_work_134 : decode cX7_work 134 = .ok (.aload_n 0, 1) := by decide +kernel
theorem dX7_work_135 : decode cX7_work 135 = .ok (.aload_n 0, 1) := by decide +kernel
theorem dX7_work_136 : decode cX7_work 136 = .ok (.getfield 35, 3) := by decide +kernel
theorem dX7_work_139 : decode cX7_work 139 = .ok (.iconst 3, 1) := by decide +kernel
theorem dX7_work_140 : decode cX7_work 140 = .ok (.iload 5, 2) := by decide +kernel
theorem dX7_work_142 : decode cX7_work 142 = .ok (.imul, 1) := by decide +kernel
theorem dX7_work_143 : decode cX7_work 143 = .ok (.iload_n 2, 1) := by decide +kernel
theorem dX7_work_144 : decode cX7_work 144 = .ok (.iadd, 1) := by decide +kernel
theorem dX7_work_145 : decode cX7_work 145 = .ok (.iaload, 1) := by decide +kernel
theorem dX7_work_146 : decode cX7_work 146 = .ok (.aload_n 0, 1) := by decide +kernel
theorem dX7_work_147 : decode cX7_work 147 = .ok (.getfield 35, 3) := by decide +kernel
theorem dX7_work_150 : decode cX7_work 150 = .ok (.iconst 3, 1) := by decide +kernel
theorem dX7_work_151 : decode cX7_work 151 = .ok (.iload 5, 2) := by decide +kernel
theorem dX7_work_153 : decode cX7_work 153 = .ok (.imul, 1) := by decide +kernel
theorem dX7_work_154 : decode cX7_work 154 = .ok (.iload_n 3, 1) := by decide +kernel
theorem dX7_work_155 : decode cX7_work 155 = .ok (.iadd, 1) := by decide +kernel
theorem dX7_work_156 : decode cX7_work 156 = .ok (.iaload, 1) := by decide +kernel
theorem dX7_work_157 : decode cX7_work 157 = .ok (.aload_n 0, 1) := by decide +kernel
theorem dX7_work_158 : decode cX7_work 158 = .ok (.getfield 35, 3) := by decide +kernel
theorem dX7_work_161 : decode cX7_work 161 = .ok (.iconst 3, 1) := by decide +kernel
theorem dX7_work_162 : decode cX7_work 162 = .ok (.iload 5, 2) := by decide +kernel
theorem dX7_work_164 : decode cX7_work 164 = .ok (.imul, 1) := by decide +kernel
theorem dX7_work_165 : decode cX7_work 165 = .ok (.iload 4, 2) := by decide +kernel
theorem dX7_work_167 : decode cX7_work 167 = .ok (.iadd, 1) := by decide +kernel
theorem dX7_work_168 : decode cX7_work 168 = .ok (.iaload, 1) := by decide +kernel
theorem dX7_work_169 : decode cX7_work 169 = .ok (.invokevirtual 81, 3) := by decide +kernel
theorem dX7_work_172 : decode cX7_work 172 = .ok (.aload_n 0, 1) := by decide +kernel
theorem dX7_work_173 : decode cX7_work 173 = .ok (.getfield 16, 3) := by decide +kernel
theorem dX7_work_176 : decode cX7_work 176 = .ok (.iload_n 1, 1) := by decide +kernel
theorem dX7_work_177 : decode cX7_work 177 = .ok (.iaload, 1) := by decide +kernel
theorem dX7_work_178 : decode cX7_work 178 = .ok (.iconst 3, 1) := by decide +kernel
theorem dX7_work_179 : decode cX7_work 179 = .ok (.if_icmp .ne 21, 3) := by decide +kernel
theorem dX7_work_182 : decode cX7_work 182 = .ok (.aload_n 0, 1) := by decide +kernel
theorem dX7_work_183 : decode cX7_work 183 = .ok (.iload 5, 2) := by decide +kernel
theorem dX7_work_185 : decode cX7_work 185 = .ok (.iload_n 2, 1) := by decide +kernel
theorem dX7_work_186 : decode cX7_work 186 = .ok (.invokevirtual 88, 3) := by decide +kernel
theorem dX7_work_189 : decode cX7_work 189 = .ok (.ifCond .eq 11, 3) := by decide +kernel
theorem dX7_work_192 : decode cX7_work 192 = .ok (.aload_n 0, 1) := by decide +kernel
theorem dX7_work_193 : decode cX7_work 193 = .ok (.iload 5, 2) := by decide +kernel
theorem dX7_work_195 : decode cX7_work 195 = .ok (.iload_n 2, 1) := by decide +kernel
theorem dX7_work_196 : decode cX7_work 196 = .ok (.iload_n 3, 1) := by decide +kernel
theorem dX7_work_197 : decode cX7_work 197 = .ok (.invokevirtual 92, 3) := by decide +kernel
theorem dX7_work_200 : decode cX7_work 200 = .ok (.aload_n 0, 1) := by decide +kernel
theorem dX7_work_201 : decode cX7_work 201 = .ok (.getfield 16, 3) := by decide +kernel
theorem dX7_work_204 : decode cX7_work 204 = .ok (.iload_n 1, 1) := by decide +kernel
theorem dX7_work_205 : decode cX7_work 205 = .ok (.iaload, 1) := by decide +kernel
theorem dX7_work_206 : decode cX7_work 206 = .ok (.iconst 4, 1) := by decide +kernel
theorem dX7_work_207 : decode cX7_work 207 = .ok (.if_icmp .ne 13, 3) := by decide +kernel
theorem dX7_work_210 : decode cX7_work 210 = .ok (.aload_n 0, 1) := by decide +kernel
theorem dX7_work_211 : decode cX7_work 211 = .ok (.iload 5, 2) := by decide +kernel
theorem dX7_work_213 : decode cX7_work 213 = .ok (.iload_n 2, 1) := by decide +kernel
theorem dX7_work_214 : decode cX7_work 214 = .ok (.iload_n 3, 1) := by decide +kernel
theorem dX7_work_215 : decode cX7_work 215 = .ok (.iload 4, 2) := by decide +kernel
theorem dX7_work_217 : decode cX7_work 217 = .ok (.invokevirtual 95, 3) := by decide +kernel
theorem dX7_work_220 : decode cX7_work 220 = .ok (.iinc 5 1, 3) := by decide +kernel
theorem dX7_work_223 : decode cX7_work 223 = .ok (.goto (-193), 3) := by decide +kernel
theorem dX7_work_226 : decode cX7_work 226 = .ok (.return_, 1) := by decide +kernel
theorem dX7_part_0 : decode cX7_part 0 = .ok (.aload_n 0, 1) := by decide +kernel
theorem dX7_part_1 : decode cX7_part 1 = .ok (.getfield 44, 3) := by decide +kernel
theorem dX7_part_4 : decode cX7_part 4 = .ok (.aload_n 0, 1) := by decide +kernel
theorem dX7_part_5 : decode cX7_part 5 = .ok (.getfield 99, 3) := by decide +kernel
theorem dX7_part_8 : decode cX7_part 8 = .ok (.iload_n 1, 1) := by decide +kernel
theorem dX7_part_9 : decode cX7_part 9 = .ok (.iastore, 1) := by decide +kernel
theorem dX7_part_10 : decode cX7_part 10 = .ok (.aload_n 0, 1) := by decide +kernel
theorem dX7_part_11 : decode cX7_part 11 = .ok (.getfield 47, 3) := by decide +kernel
theorem dX7_part_14 : decode cX7_part 14 = .ok (.aload_n 0, 1) := by decide +kernel
theorem dX7_part_15 : decode cX7_part 15 = .ok (.getfield 99, 3) := by decide +kernel
theorem dX7_part_18 : decode cX7_part 18 = .ok (.iload_n 2, 1) := by decide +kernel
theorem dX7_part_19 : decode cX7_part 19 = .ok (.iastore, 1) := by decide +kernel
theorem dX7_part_20 : decode cX7_part 20 = .ok (.aload_n 0, 1) := by decide +kernel
theorem dX7_part_21 : decode cX7_part 21 = .ok (.getfield 50, 3) := by decide +kernel
theorem dX7_part_24 : decode cX7_part 24 = .ok (.aload_n 0, 1) := by decide +kernel
theorem dX7_part_25 : decode cX7_part 25 = .ok (.getfield 99, 3) := by decide +kernel
theorem dX7_part_28 : decode cX7_part 28 = .ok (.iload_n 3, 1) := by decide +kernel
theorem dX7_part_29 : decode cX7_part 29 = .ok (.iastore, 1) := by decide +kernel
theorem dX7_part_30 : decode cX7_part 30 = .ok (.aload_n 0, 1) := by decide +kernel
theorem dX7_part_31 : decode cX7_part 31 = .ok (.getfield 53, 3) := by decide +kernel
theorem dX7_part_34 : decode cX7_part 34 = .ok (.aload_n 0, 1) := by decide +kernel
theorem dX7_part_35 : decode cX7_part 35 = .ok (.getfield 99, 3) := by decide +kernel
theorem dX7_part_38 : decode cX7_part 38 = .ok (.iload 4, 2) := by decide +kernel
theorem dX7_part_40 : decode cX7_part 40 = .ok (.iastore, 1) := by decide +kernel
theorem dX7_part_41 : decode cX7_part 41 = .ok (.aload_n 0, 1) := by decide +kernel
theorem dX7_part_42 : decode cX7_part 42 = .ok (.dup, 1) := by decide +kernel
theorem dX7_part_43 : decode cX7_part 43 = .ok (.getfield 99, 3) := by decide +kernel
theorem dX7_part_46 : decode cX7_part 46 = .ok (.iconst 1, 1) := by decide +kernel
theorem dX7_part_47 : decode cX7_part 47 = .ok (.iadd, 1) := by decide +kernel
theorem dX7_part_48 : decode cX7_part 48 = .ok (.putfield 99, 3) := by decide +kernel
theorem dX7_part_51 : decode cX7_part 51 = .ok (.return_, 1) := by decide +kernel
theorem dX7_less_0 : decode cX7_less 0 = .ok (.iconst 0, 1) := by decide +kernel
theorem dX7_less_1 : decode cX7_less 1 = .ok (.istore_n 3, 1) := by decide +kernel
theorem dX7_less_2 : decode cX7_less 2 = .ok (.iload_n 3, 1) := by decide +kernel
theorem dX7_less_3 : decode cX7_less 3 = .ok (.iconst 3, 1) := by decide +kernel
theorem dX7_less_4 : decode cX7_less 4 = .ok (.if_icmp .ge 61, 3) := by decide +kernel
theorem dX7_less_7 : decode cX7_less 7 = .ok (.aload_n 0, 1) := by decide +kernel
theorem dX7_less_8 : decode cX7_less 8 = .ok (.getfield 35, 3) := by decide +kernel
theorem dX7_less_11 : decode cX7_less 11 = .ok (.iconst 3, 1) := by decide +kernel
theorem dX7_less_12 : decode cX7_less 12 = .ok (.iload_n 1, 1) := by decide +kernel
theorem dX7_less_13 : decode cX7_less 13 = .ok (.imul, 1) := by decide +kernel
theorem dX7_less_14 : decode cX7_less 14 = .ok (.iload_n 3, 1) := by decide +kernel
theorem dX7_less_15 : decode cX7_less 15 = .ok (.iadd, 1) := by decide +kernel
theorem dX7_less_16 : decode cX7_less 16 = .ok (.iaload, 1) := by decide +kernel
theorem dX7_less_17 : decode cX7_less 17 = .ok (.aload_n 0, 1) := by decide +kernel
theorem dX7_less_18 : decode cX7_less 18 = .ok (.getfield 35, 3) := by decide +kernel
theorem dX7_less_21 : decode cX7_less 21 = .ok (.iconst 3, 1) := by decide +kernel
theorem dX7_less_22 : decode cX7_less 22 = .ok (.iload_n 2, 1) := by decide +kernel
theorem dX7_less_23 : decode cX7_less 23 = .ok (.imul, 1) := by decide +kernel
theorem dX7_less_24 : decode cX7_less 24 = .ok (.iload_n 3, 1) := by decide +kernel
theorem dX7_less_25 : decode cX7_less 25 = .ok (.iadd, 1) := by decide +kernel
theorem dX7_less_26 : decode cX7_less 26 = .ok (.iaload, 1) := by decide +kernel
theorem dX7_less_27 : decode cX7_less 27 = .ok (.if_icmp .eq 32, 3) := by decide +kernel
theorem dX7_less_30 : decode cX7_less 30 = .ok (.aload_n 0, 1) := by decide +kernel
theorem dX7_less_31 : decode cX7_less 31 = .ok (.getfield 35, 3) := by decide +kernel
theorem dX7_less_34 : decode cX7_less 34 = .ok (.iconst 3, 1) := by decide +kernel
theorem dX7_less_35 : decode cX7_less 35 = .ok (.iload_n 1, 1) := by decide +kernel
theorem dX7_less_36 : decode cX7_less 36 = .ok (.imul, 1) := by decide +kernel
theorem dX7_less_37 : decode cX7_less 37 = .ok (.iload_n 3, 1) := by decide +kernel
theorem dX7_less_38 : decode cX7_less 38 = .ok (.iadd, 1) := by decide +kernel
theorem dX7_less_39 : decode cX7_less 39 = .ok (.iaload, 1) := by decide +kernel
theorem dX7_less_40 : decode cX7_less 40 = .ok (.aload_n 0, 1) := by decide +kernel
theorem dX7_less_41 : decode cX7_less 41 = .ok (.getfield 35, 3) := by decide +kernel
theorem dX7_less_44 : decode cX7_less 44 = .ok (.iconst 3, 1) := by decide +kernel
theorem dX7_less_45 : decode cX7_less 45 = .ok (.iload_n 2, 1) := by decide +kernel
theorem dX7_less_46 : decode cX7_less 46 = .ok (.imul, 1) := by decide +kernel
theorem dX7_less_47 : decode cX7_less 47 = .ok (.iload_n 3, 1) := by decide +kernel
theorem dX7_less_48 : decode cX7_less 48 = .ok (.iadd, 1) := by decide +kernel
theorem dX7_less_49 : decode cX7_less 49 = .ok (.iaload, 1) := by decide +kernel
theorem dX7_less_50 : decode cX7_less 50 = .ok (.if_icmp .ge 7, 3) := by decide +kernel
theorem dX7_less_53 : decode cX7_less 53 = .ok (.iconst 1, 1) := by decide +kernel
theorem dX7_less_54 : decode cX7_less 54 = .ok (.goto 4, 3) := by decide +kernel
theorem dX7_less_57 : decode cX7_less 57 = .ok (.iconst 0, 1) := by decide +kernel
theorem dX7_less_58 : decode cX7_less 58 = .ok (.ireturn, 1) := by decide +kernel
theorem dX7_less_59 : decode cX7_less 59 = .ok (.iinc 3 1, 3) := by decide +kernel
theorem dX7_less_62 : decode cX7_less 62 = .ok (.goto (-60), 3) := by decide +kernel
theorem dX7_less_65 : decode cX7_less 65 = .ok (.iconst 0, 1) := by decide +kernel
theorem dX7_less_66 : decode cX7_less 66 = .ok (.ireturn, 1) := by decide +kernel
theorem dX7_order_0 : decode cX7_order 0 = .ok (.aload_n 0, 1) := by decide +kernel
theorem dX7_order_1 : decode cX7_order 1 = .ok (.aload_n 0, 1) := by decide +kernel
theorem dX7_order_2 : decode cX7_order 2 = .ok (.getfield 78, 3) := by decide +kernel
theorem dX7_order_5 : decode cX7_order 5 = .ok (.putfield 102, 3) := by decide +kernel
theorem dX7_order_8 : decode cX7_order 8 = .ok (.iconst 0, 1) := by decide +kernel
theorem dX7_order_9 : decode cX7_order 9 = .ok (.istore_n 1, 1) := by decide +kernel
theorem dX7_order_10 : decode cX7_order 10 = .ok (.iload_n 1, 1) := by decide +kernel
theorem dX7_order_11 : decode cX7_order 11 = .ok (.aload_n 0, 1) := by decide +kernel
theorem dX7_order_12 : decode cX7_order 12 = .ok (.getfield 78, 3) := by decide +kernel
theorem dX7_order_15 : decode cX7_order 15 = .ok (.if_icmp .ge 91, 3) := by decide +kernel
theorem dX7_order_18 : decode cX7_order 18 = .ok (.iconst 0, 1) := by decide +kernel
theorem dX7_order_19 : decode cX7_order 19 = .ok (.istore_n 2, 1) := by decide +kernel
theorem dX7_order_20 : decode cX7_order 20 = .ok (.iconst 0, 1) := by decide +kernel
theorem dX7_order_21 : decode cX7_order 21 = .ok (.istore_n 3, 1) := by decide +kernel
theorem dX7_order_22 : decode cX7_order 22 = .ok (.iload_n 3, 1) := by decide +kernel
theorem dX7_order_23 : decode cX7_order 23 = .ok (.aload_n 0, 1) := by decide +kernel
theorem dX7_order_24 : decode cX7_order 24 = .ok (.getfield 78, 3) := by decide +kernel
theorem dX7_order_27 : decode cX7_order 27 = .ok (.if_icmp .ge 40, 3) := by decide +kernel
theorem dX7_order_30 : decode cX7_order 30 = .ok (.aload_n 0, 1) := by decide +kernel
theorem dX7_order_31 : decode cX7_order 31 = .ok (.iload_n 3, 1) := by decide +kernel
theorem dX7_order_32 : decode cX7_order 32 = .ok (.iload_n 1, 1) := by decide +kernel
theorem dX7_order_33 : decode cX7_order 33 = .ok (.invokevirtual 105, 3) := by decide +kernel
theorem dX7_order_36 : decode cX7_order 36 = .ok (.ifCond .ne 17, 3) := by decide +kernel
theorem dX7_order_39 : decode cX7_order 39 = .ok (.iload_n 3, 1) := by decide +kernel
theorem dX7_order_40 : decode cX7_order 40 = .ok (.iload_n 1, 1) := by decide +kernel
theorem dX7_order_41 : decode cX7_order 41 = .ok (.if_icmp .ge 18, 3) := by decide +kernel
theorem dX7_order_44 : decode cX7_order 44 = .ok (.aload_n 0, 1) := by decide +kernel
theorem dX7_order_45 : decode cX7_order 45 = .ok (.iload_n 1, 1) := by decide +kernel
theorem dX7_order_46 : decode cX7_order 46 = .ok (.iload_n 3, 1) := by decide +kernel
theorem dX7_order_47 : decode cX7_order 47 = .ok (.invokevirtual 105, 3) := by decide +kernel
theorem dX7_order_50 : decode cX7_order 50 = .ok (.ifCond .ne 9, 3) := by decide +kernel
theorem dX7_order_53 : decode cX7_order 53 = .ok (.iload_n 2, 1) := by decide +kernel
theorem dX7_order_54 : decode cX7_order 54 = .ok (.iconst 1, 1) := by decide +kernel
theorem dX7_order_55 : decode cX7_order 55 = .ok (.iadd, 1) := by decide +kernel
theorem dX7_order_56 : decode cX7_order 56 = .ok (.goto 4, 3) := by decide +kernel
theorem dX7_order_59 : decode cX7_order 59 = .ok (.iload_n 2, 1) := by decide +kernel
theorem dX7_order_60 : decode cX7_order 60 = .ok (.istore_n 2, 1) := by decide +kernel
theorem dX7_order_61 : decode cX7_order 61 = .ok (.iinc 3 1, 3) := by decide +kernel
theorem dX7_order_64 : decode cX7_order 64 = .ok (.goto (-42), 3) := by decide +kernel
theorem dX7_order_67 : decode cX7_order 67 = .ok (.iconst 0, 1) := by decide +kernel
theorem dX7_order_68 : decode cX7_order 68 = .ok (.istore_n 3, 1) := by decide +kernel
theorem dX7_order_69 : decode cX7_order 69 = .ok (.iload_n 3, 1) := by decide +kernel
theorem dX7_order_70 : decode cX7_order 70 = .ok (.iconst 3, 1) := by decide +kernel
theorem dX7_order_71 : decode cX7_order 71 = .ok (.if_icmp .ge 29, 3) := by decide +kernel
theorem dX7_order_74 : decode cX7_order 74 = .ok (.aload_n 0, 1) := by decide +kernel
theorem dX7_order_75 : decode cX7_order 75 = .ok (.getfield 41, 3) := by decide +kernel
theorem dX7_order_78 : decode cX7_order 78 = .ok (.iconst 3, 1) := by decide +kernel
theorem dX7_order_79 : decode cX7_order 79 = .ok (.iload_n 2, 1) := by decide +kernel
theorem dX7_order_80 : decode cX7_order 80 = .ok (.imul, 1) := by decide +kernel
theorem dX7_order_81 : decode cX7_order 81 = .ok (.iload_n 3, 1) := by decide +kernel
theorem dX7_order_82 : decode cX7_order 82 = .ok (.iadd, 1) := by decide +kernel
theorem dX7_order_83 : decode cX7_order 83 = .ok (.aload_n 0, 1) := by decide +kernel
theorem dX7_order_84 : decode cX7_order 84 = .ok (.getfield 35, 3) := by decide +kernel
theorem dX7_order_87 : decode cX7_order 87 = .ok (.iconst 3, 1) := by decide +kernel
theorem dX7_order_88 : decode cX7_order 88 = .ok (.iload_n 1, 1) := by decide +kernel
theorem dX7_order_89 : decode cX7_order 89 = .ok (.imul, 1) := by decide +kernel
theorem dX7_order_90 : decode cX7_order 90 = .ok (.iload_n 3, 1) := by decide +kernel
theorem dX7_order_91 : decode cX7_order 91 = .ok (.iadd, 1) := by decide +kernel
theorem dX7_order_92 : decode cX7_order 92 = .ok (.iaload, 1) := by decide +kernel
theorem dX7_order_93 : decode cX7_order 93 = .ok (.iastore, 1) := by decide +kernel
theorem dX7_order_94 : decode cX7_order 94 = .ok (.iinc 3 1, 3) := by decide +kernel
theorem dX7_order_97 : decode cX7_order 97 = .ok (.goto (-28), 3) := by decide +kernel
theorem dX7_order_100 : decode cX7_order 100 = .ok (.iinc 1 1, 3) := by decide +kernel
theorem dX7_order_103 : decode cX7_order 103 = .ok (.goto (-93), 3) := by decide +kernel
theorem dX7_order_106 : decode cX7_order 106 = .ok (.return_, 1) := by decide +kernel
theorem dX7_run_0 : decode cX7_run 0 = .ok (.aload_n 0, 1) := by decide +kernel
theorem dX7_run_1 : decode cX7_run 1 = .ok (.getfield 60, 3) := by decide +kernel
theorem dX7_run_4 : decode cX7_run 4 = .ok (.ifCond .ne 5, 3) := by decide +kernel
theorem dX7_run_7 : decode cX7_run 7 = .ok (.iconst (-1), 1) := by decide +kernel
theorem dX7_run_8 : decode cX7_run 8 = .ok (.ireturn, 1) := by decide +kernel
theorem dX7_run_9 : decode cX7_run 9 = .ok (.aload_n 0, 1) := by decide +kernel
theorem dX7_run_10 : decode cX7_run 10 = .ok (.iconst 0, 1) := by decide +kernel
theorem dX7_run_11 : decode cX7_run 11 = .ok (.putfield 99, 3) := by decide +kernel
theorem dX7_run_14 : decode cX7_run 14 = .ok (.aload_n 0, 1) := by decide +kernel
theorem dX7_run_15 : decode cX7_run 15 = .ok (.iconst 0, 1) := by decide +kernel
theorem dX7_run_16 : decode cX7_run 16 = .ok (.putfield 108, 3) := by decide +kernel
theorem dX7_run_19 : decode cX7_run 19 = .ok (.aload_n 0, 1) := by decide +kernel
theorem dX7_run_20 : decode cX7_run 20 = .ok (.iconst 0, 1) := by decide +kernel
theorem dX7_run_21 : decode cX7_run 21 = .ok (.putfield 102, 3) := by decide +kernel
theorem dX7_run_24 : decode cX7_run 24 = .ok (.aload_n 0, 1) := by decide +kernel
theorem dX7_run_25 : decode cX7_run 25 = .ok (.aload_n 0, 1) := by decide +kernel
theorem dX7_run_26 : decode cX7_run 26 = .ok (.getfield 13, 3) := by decide +kernel
theorem dX7_run_29 : decode cX7_run 29 = .ok (.aload_n 0, 1) := by decide +kernel
theorem dX7_run_30 : decode cX7_run 30 = .ok (.getfield 64, 3) := by decide +kernel
theorem dX7_run_33 : decode cX7_run 33 = .ok (.iaload, 1) := by decide +kernel
theorem dX7_run_34 : decode cX7_run 34 = .ok (.putfield 78, 3) := by decide +kernel
theorem dX7_run_37 : decode cX7_run 37 = .ok (.iconst 0, 1) := by decide +kernel
theorem dX7_run_38 : decode cX7_run 38 = .ok (.istore_n 1, 1) := by decide +kernel
theorem dX7_run_39 : decode cX7_run 39 = .ok (.iload_n 1, 1) := by decide +kernel
theorem dX7_run_40 : decode cX7_run 40 = .ok (.iconst 3, 1) := by decide +kernel
theorem dX7_run_41 : decode cX7_run 41 = .ok (.aload_n 0, 1) := by decide +kernel
theorem dX7_run_42 : decode cX7_run 42 = .ok (.getfield 78, 3) := by decide +kernel
theorem dX7_run_45 : decode cX7_run 45 = .ok (.imul, 1) := by decide +kernel
theorem dX7_run_46 : decode cX7_run 46 = .ok (.if_icmp .ge 29, 3) := by decide +kernel
theorem dX7_run_49 : decode cX7_run 49 = .ok (.aload_n 0, 1) := by decide +kernel
theorem dX7_run_50 : decode cX7_run 50 = .ok (.getfield 35, 3) := by decide +kernel
theorem dX7_run_53 : decode cX7_run 53 = .ok (.iload_n 1, 1) := by decide +kernel
theorem dX7_run_54 : decode cX7_run 54 = .ok (.aload_n 0, 1) := by decide +kernel
theorem dX7_run_55 : decode cX7_run 55 = .ok (.getfield 7, 3) := by decide +kernel
theorem dX7_run_58 : decode cX7_run 58 = .ok (.bipush 36, 2) := by decide +kernel
theorem dX7_run_60 : decode cX7_run 60 = .ok (.aload_n 0, 1) := by decide +kernel
theorem dX7_run_61 : decode cX7_run 61 = .ok (.getfield 64, 3) := by decide +kernel
theorem dX7_run_64 : decode cX7_run 64 = .ok (.imul, 1) := by decide +kernel
theorem dX7_run_65 : decode cX7_run 65 = .ok (.iload_n 1, 1) := by decide +kernel
theorem dX7_run_66 : decode cX7_run 66 = .ok (.iadd, 1) := by decide +kernel
theorem dX7_run_67 : decode cX7_run 67 = .ok (.iaload, 1) := by decide +kernel
theorem dX7_run_68 : decode cX7_run 68 = .ok (.iastore, 1) := by decide +kernel
theorem dX7_run_69 : decode cX7_run 69 = .ok (.iinc 1 1, 3) := by decide +kernel
theorem dX7_run_72 : decode cX7_run 72 = .ok (.goto (-33), 3) := by decide +kernel
theorem dX7_run_75 : decode cX7_run 75 = .ok (.iconst 0, 1) := by decide +kernel
theorem dX7_run_76 : decode cX7_run 76 = .ok (.istore_n 1, 1) := by decide +kernel
theorem dX7_run_77 : decode cX7_run 77 = .ok (.iload_n 1, 1) := by decide +kernel
theorem dX7_run_78 : decode cX7_run 78 = .ok (.aload_n 0, 1) := by decide +kernel
theorem dX7_run_79 : decode cX7_run 79 = .ok (.getfield 68, 3) := by decide +kernel
theorem dX7_run_82 : decode cX7_run 82 = .ok (.if_icmp .ge 125, 3) := by decide +kernel
theorem dX7_run_85 : decode cX7_run 85 = .ok (.aload_n 0, 1) := by decide +kernel
theorem dX7_run_86 : decode cX7_run 86 = .ok (.iload_n 1, 1) := by decide +kernel
theorem dX7_run_87 : decode cX7_run 87 = .ok (.invokevirtual 111, 3) := by decide +kernel
theorem dX7_run_90 : decode cX7_run 90 = .ok (.aload_n 0, 1) := by decide +kernel
theorem dX7_run_91 : decode cX7_run 91 = .ok (.getfield 75, 3) := by decide +kernel
theorem dX7_run_94 : decode cX7_run 94 = .ok (.bipush 24, 2) := by decide +kernel
theorem dX7_run_96 : decode cX7_run 96 = .ok (.if_icmp .gt 7, 3) := by decide +kernel
theorem dX7_run_99 : decode cX7_run 99 = .ok (.iconst 1, 1) := by decide +kernel
theorem dX7_run_100 : decode cX7_run 100 = .ok (.goto 4, 3) := by decide +kernel
theorem dX7_run_103 : decode cX7_run 103 = .ok (.iconst 0, 1) := by decide +kernel
theorem dX7_run_104 : decode cX7_run 104 = .ok (.istore_n 2, 1) := by decide +kernel
theorem dX7_run_105 : decode cX7_run 105 = .ok (.aload_n 0, 1) := by decide +kernel
theorem dX7_run_106 : decode cX7_run 106 = .ok (.aload_n 0, 1) := by decide +kernel
theorem dX7_run_107 : decode cX7_run 107 = .ok (.getfield 16, 3) := by decide +kernel
theorem dX7_run_110 : decode cX7_run 110 = .ok (.iload_n 1, 1) := by decide +kernel
theorem dX7_run_111 : decode cX7_run 111 = .ok (.iaload, 1) := by decide +kernel
theorem dX7_run_112 : decode cX7_run 112 = .ok (.aload_n 0, 1) := by decide +kernel
theorem dX7_run_113 : decode cX7_run 113 = .ok (.getfield 78, 3) := by decide +kernel
theorem dX7_run_116 : decode cX7_run 116 = .ok (.aload_n 0, 1) := by decide +kernel
theorem dX7_run_117 : decode cX7_run 117 = .ok (.getfield 16, 3) := by decide +kernel
theorem dX7_run_120 : decode cX7_run 120 = .ok (.iload_n 1, 1) := by decide +kernel
theorem dX7_run_121 : decode cX7_run 121 = .ok (.iaload, 1) := by decide +kernel
theorem dX7_run_122 : decode cX7_run 122 = .ok (.iconst 4, 1) := by decide +kernel
theorem dX7_run_123 : decode cX7_run 123 = .ok (.if_icmp .ne 17, 3) := by decide +kernel
theorem dX7_run_126 : decode cX7_run 126 = .ok (.aload_n 0, 1) := by decide +kernel
theorem dX7_run_127 : decode cX7_run 127 = .ok (.getfield 13, 3) := by decide +kernel
theorem dX7_run_130 : decode cX7_run 130 = .ok (.aload_n 0, 1) := by decide +kernel
theorem dX7_run_131 : decode cX7_run 131 = .ok (.getfield 19, 3) := by decide +kernel
theorem dX7_run_134 : decode cX7_run 134 = .ok (.iload_n 1, 1) := by decide +kernel
theorem dX7_run_135 : decode cX7_run 135 = .ok (.iaload, 1) := by decide +kernel
theorem dX7_run_136 : decode cX7_run 136 = .ok (.iaload, 1) := by decide +kernel
theorem dX7_run_137 : decode cX7_run 137 = .ok (.goto 4, 3) := by decide +kernel
theorem dX7_run_140 : decode cX7_run 140 = .ok (.iconst 0, 1) := by decide +kernel
theorem dX7_run_141 : decode cX7_run 141 = .ok (.iload_n 2, 1) := by decide +kernel
theorem dX7_run_142 : decode cX7_run 142 = .ok (.ifCond .eq 10, 3) := by decide +kernel
theorem dX7_run_145 : decode cX7_run 145 = .ok (.aload_n 0, 1) := by decide +kernel
theorem dX7_run_146 : decode cX7_run 146 = .ok (.getfield 75, 3) := by decide +kernel
theorem dX7_run_149 : decode cX7_run 149 = .ok (.goto 4, 3) := by decide +kernel
theorem dX7_run_152 : decode cX7_run 152 = .ok (.iconst (-1), 1) := by decide +kernel
theorem dX7_run_153 : decode cX7_run 153 = .ok (.invokevirtual 115, 3) := by decide +kernel
theorem dX7_run_156 : decode cX7_run 156 = .ok (.iload_n 2, 1) := by decide +kernel
theorem dX7_run_157 : decode cX7_run 157 = .ok (.ifCond .ne 6, 3) := by decide +kernel
theorem dX7_run_160 : decode cX7_run 160 = .ok (.bipush (-2), 2) := by decide +kernel
theorem dX7_run_162 : decode cX7_run 162 = .ok (.ireturn, 1) := by decide +kernel
theorem dX7_run_163 : decode cX7_run 163 = .ok (.aload_n 0, 1) := by decide +kernel
theorem dX7_run_164 : decode cX7_run 164 = .ok (.aload_n 0, 1) := by decide +kernel
theorem dX7_run_165 : decode cX7_run 165 = .ok (.getfield 75, 3) := by decide +kernel
theorem dX7_run_168 : decode cX7_run 168 = .ok (.putfield 78, 3) := by decide +kernel
theorem dX7_run_171 : decode cX7_run 171 = .ok (.iconst 0, 1) := by decide +kernel
theorem dX7_run_172 : decode cX7_run 172 = .ok (.istore_n 3, 1) := by decide +kernel
theorem dX7_run_173 : decode cX7_run 173 = .ok (.iload_n 3, 1) := by decide +kernel
theorem dX7_run_174 : decode cX7_run 174 = .ok (.iconst 3, 1) := by decide +kernel
theorem dX7_run_175 : decode cX7_run 175 = .ok (.aload_n 0, 1) := by decide +kernel
theorem dX7_run_176 : decode cX7_run 176 = .ok (.getfield 78, 3) := by decide +kernel
theorem dX7_run_179 : decode cX7_run 179 = .ok (.imul, 1) := by decide +kernel
theorem dX7_run_180 : decode cX7_run 180 = .ok (.if_icmp .ge 21, 3) := by decide +kernel
theorem dX7_run_183 : decode cX7_run 183 = .ok (.aload_n 0, 1) := by decide +kernel
theorem dX7_run_184 : decode cX7_run 184 = .ok (.getfield 35, 3) := by decide +kernel
theorem dX7_run_187 : decode cX7_run 187 = .ok (.iload_n 3, 1) := by decide +kernel
theorem dX7_run_188 : decode cX7_run 188 = .ok (.aload_n 0, 1) := by decide +kernel
theorem dX7_run_189 : decode cX7_run 189 = .ok (.getfield 38, 3) := by decide +kernel
theorem dX7_run_192 : decode cX7_run 192 = .ok (.iload_n 3, 1) := by decide +kernel
theorem dX7_run_193 : decode cX7_run 193 = .ok (.iaload, 1) := by decide +kernel
theorem dX7_run_194 : decode cX7_run 194 = .ok (.iastore, 1) := by decide +kernel
theorem dX7_run_195 : decode cX7_run 195 = .ok (.iinc 3 1, 3) := by decide +kernel
theorem dX7_run_198 : decode cX7_run 198 = .ok (.goto (-25), 3) := by decide +kernel
theorem dX7_run_201 : decode cX7_run 201 = .ok (.iinc 1 1, 3) := by decide +kernel
theorem dX7_run_204 : decode cX7_run 204 = .ok (.goto (-127), 3) := by decide +kernel
theorem dX7_run_207 : decode cX7_run 207 = .ok (.aload_n 0, 1) := by decide +kernel
theorem dX7_run_208 : decode cX7_run 208 = .ok (.invokevirtual 118, 3) := by decide +kernel
theorem dX7_run_211 : decode cX7_run 211 = .ok (.aload_n 0, 1) := by decide +kernel
theorem dX7_run_212 : decode cX7_run 212 = .ok (.aload_n 0, 1) := by decide +kernel
theorem dX7_run_213 : decode cX7_run 213 = .ok (.getfield 78, 3) := by decide +kernel
theorem dX7_run_216 : decode cX7_run 216 = .ok (.putfield 108, 3) := by decide +kernel
theorem dX7_run_219 : decode cX7_run 219 = .ok (.aload_n 0, 1) := by decide +kernel
theorem dX7_run_220 : decode cX7_run 220 = .ok (.getfield 78, 3) := by decide +kernel
theorem dX7_run_223 : decode cX7_run 223 = .ok (.ireturn, 1) := by decide +kernel
theorem dX7_collect_0 : decode cX7_collect 0 = .ok (.aload_n 0, 1) := by decide +kernel
theorem dX7_collect_1 : decode cX7_collect 1 = .ok (.getfield 121, 3) := by decide +kernel
theorem dX7_collect_4 : decode cX7_collect 4 = .ok (.bipush 6, 2) := by decide +kernel
theorem dX7_collect_6 : decode cX7_collect 6 = .ok (.if_icmp .lt 5, 3) := by decide +kernel
theorem dX7_collect_9 : decode cX7_collect 9 = .ok (.iconst 0, 1) := by decide +kernel
theorem dX7_collect_10 : decode cX7_collect 10 = .ok (.ireturn, 1) := by decide +kernel
theorem dX7_collect_11 : decode cX7_collect 11 = .ok (.aload_n 0, 1) := by decide +kernel
theorem dX7_collect_12 : decode cX7_collect 12 = .ok (.getfield 28, 3) := by decide +kernel
theorem dX7_collect_15 : decode cX7_collect 15 = .ok (.aload_n 0, 1) := by decide +kernel
theorem dX7_collect_16 : decode cX7_collect 16 = .ok (.getfield 121, 3) := by decide +kernel
theorem dX7_collect_19 : decode cX7_collect 19 = .ok (.iload_n 1, 1) := by decide +kernel
theorem dX7_collect_20 : decode cX7_collect 20 = .ok (.bastore, 1) := by decide +kernel
theorem dX7_collect_21 : decode cX7_collect 21 = .ok (.aload_n 0, 1) := by decide +kernel
theorem dX7_collect_22 : decode cX7_collect 22 = .ok (.getfield 32, 3) := by decide +kernel
theorem dX7_collect_25 : decode cX7_collect 25 = .ok (.iconst 3, 1) := by decide +kernel
theorem dX7_collect_26 : decode cX7_collect 26 = .ok (.aload_n 0, 1) := by decide +kernel
theorem dX7_collect_27 : decode cX7_collect 27 = .ok (.getfield 121, 3) := by decide +kernel
theorem dX7_collect_30 : decode cX7_collect 30 = .ok (.imul, 1) := by decide +kernel
theorem dX7_collect_31 : decode cX7_collect 31 = .ok (.iload_n 2, 1) := by decide +kernel
theorem dX7_collect_32 : decode cX7_collect 32 = .ok (.iastore, 1) := by decide +kernel
theorem dX7_collect_33 : decode cX7_collect 33 = .ok (.aload_n 0, 1) := by decide +kernel
theorem dX7_collect_34 : decode cX7_collect 34 = .ok (.getfield 32, 3) := by decide +kernel
theorem dX7_collect_37 : decode cX7_collect 37 = .ok (.iconst 3, 1) := by decide +kernel
theorem dX7_collect_38 : decode cX7_collect 38 = .ok (.aload_n 0, 1) := by decide +kernel
theorem dX7_collect_39 : decode cX7_collect 39 = .ok (.getfield 121, 3) := by decide +kernel
theorem dX7_collect_42 : decode cX7_collect 42 = .ok (.imul, 1) := by decide +kernel
theorem dX7_collect_43 : decode cX7_collect 43 = .ok (.iconst 1, 1) := by decide +kernel
theorem dX7_collect_44 : decode cX7_collect 44 = .ok (.iadd, 1) := by decide +kernel
theorem dX7_collect_45 : decode cX7_collect 45 = .ok (.iload_n 3, 1) := by decide +kernel
theorem dX7_collect_46 : decode cX7_collect 46 = .ok (.iastore, 1) := by decide +kernel
theorem dX7_collect_47 : decode cX7_collect 47 = .ok (.aload_n 0, 1) := by decide +kernel
theorem dX7_collect_48 : decode cX7_collect 48 = .ok (.getfield 32, 3) := by decide +kernel
theorem dX7_collect_51 : decode cX7_collect 51 = .ok (.iconst 3, 1) := by decide +kernel
theorem dX7_collect_52 : decode cX7_collect 52 = .ok (.aload_n 0, 1) := by decide +kernel
theorem dX7_collect_53 : decode cX7_collect 53 = .ok (.getfield 121, 3) := by decide +kernel
theorem dX7_collect_56 : decode cX7_collect 56 = .ok (.imul, 1) := by decide +kernel
theorem dX7_collect_57 : decode cX7_collect 57 = .ok (.iconst 2, 1) := by decide +kernel
theorem dX7_collect_58 : decode cX7_collect 58 = .ok (.iadd, 1) := by decide +kernel
theorem dX7_collect_59 : decode cX7_collect 59 = .ok (.iload 4, 2) := by decide +kernel
theorem dX7_collect_61 : decode cX7_collect 61 = .ok (.iastore, 1) := by decide +kernel
theorem dX7_collect_62 : decode cX7_collect 62 = .ok (.aload_n 0, 1) := by decide +kernel
theorem dX7_collect_63 : decode cX7_collect 63 = .ok (.dup, 1) := by decide +kernel
theorem dX7_collect_64 : decode cX7_collect 64 = .ok (.getfield 121, 3) := by decide +kernel
theorem dX7_collect_67 : decode cX7_collect 67 = .ok (.iconst 1, 1) := by decide +kernel
theorem dX7_collect_68 : decode cX7_collect 68 = .ok (.iadd, 1) := by decide +kernel
theorem dX7_collect_69 : decode cX7_collect 69 = .ok (.putfield 121, 3) := by decide +kernel
theorem dX7_collect_72 : decode cX7_collect 72 = .ok (.iconst 1, 1) := by decide +kernel
theorem dX7_collect_73 : decode cX7_collect 73 = .ok (.ireturn, 1) := by decide +kernel
theorem dX7_put_0 : decode cX7_put 0 = .ok (.aload_n 0, 1) := by decide +kernel
theorem dX7_put_1 : decode cX7_put 1 = .ok (.iconst 0, 1) := by decide +kernel
theorem dX7_put_2 : decode cX7_put 2 = .ok (.iload_n 1, 1) := by decide +kernel
theorem dX7_put_3 : decode cX7_put 3 = .ok (.iload_n 2, 1) := by decide +kernel
theorem dX7_put_4 : decode cX7_put 4 = .ok (.iload_n 3, 1) := by decide +kernel
theorem dX7_put_5 : decode cX7_put 5 = .ok (.invokevirtual 124, 3) := by decide +kernel
theorem dX7_put_8 : decode cX7_put 8 = .ok (.ireturn, 1) := by decide +kernel
theorem dX7_drop_0 : decode cX7_drop 0 = .ok (.aload_n 0, 1) := by decide +kernel
theorem dX7_drop_1 : decode cX7_drop 1 = .ok (.iconst 1, 1) := by decide +kernel
theorem dX7_drop_2 : decode cX7_drop 2 = .ok (.iload_n 1, 1) := by decide +kernel
theorem dX7_drop_3 : decode cX7_drop 3 = .ok (.iconst 0, 1) := by decide +kernel
theorem dX7_drop_4 : decode cX7_drop 4 = .ok (.iconst 0, 1) := by decide +kernel
theorem dX7_drop_5 : decode cX7_drop 5 = .ok (.invokevirtual 124, 3) := by decide +kernel
theorem dX7_drop_8 : decode cX7_drop 8 = .ok (.ireturn, 1) := by decide +kernel
theorem dX7_apply_0 : decode cX7_apply 0 = .ok (.iload_n 1, 1) := by decide +kernel
theorem dX7_apply_1 : decode cX7_apply 1 = .ok (.iconst 0, 1) := by decide +kernel
theorem dX7_apply_2 : decode cX7_apply 2 = .ok (.iconst 2, 1) := by decide +kernel
theorem dX7_apply_3 : decode cX7_apply 3 = .ok (.invokestatic 56, 3) := by decide +kernel
theorem dX7_apply_6 : decode cX7_apply 6 = .ok (.ifCond .eq 5, 3) := by decide +kernel
theorem dX7_apply_9 : decode cX7_apply 9 = .ok (.iconst (-1), 1) := by decide +kernel
theorem dX7_apply_10 : decode cX7_apply 10 = .ok (.ireturn, 1) := by decide +kernel
theorem dX7_apply_11 : decode cX7_apply 11 = .ok (.aload_n 0, 1) := by decide +kernel
theorem dX7_apply_12 : decode cX7_apply 12 = .ok (.iconst 0, 1) := by decide +kernel
theorem dX7_apply_13 : decode cX7_apply 13 = .ok (.putfield 99, 3) := by decide +kernel
theorem dX7_apply_16 : decode cX7_apply 16 = .ok (.aload_n 0, 1) := by decide +kernel
theorem dX7_apply_17 : decode cX7_apply 17 = .ok (.iconst 0, 1) := by decide +kernel
theorem dX7_apply_18 : decode cX7_apply 18 = .ok (.putfield 108, 3) := by decide +kernel
theorem dX7_apply_21 : decode cX7_apply 21 = .ok (.aload_n 0, 1) := by decide +kernel
theorem dX7_apply_22 : decode cX7_apply 22 = .ok (.iconst 5, 1) := by decide +kernel
theorem dX7_apply_23 : decode cX7_apply 23 = .ok (.aload_n 0, 1) := by decide +kernel
theorem dX7_apply_24 : decode cX7_apply 24 = .ok (.getfield 13, 3) := by decide +kernel
theorem dX7_apply_27 : decode cX7_apply 27 = .ok (.iload_n 1, 1) := by decide +kernel
theorem dX7_apply_28 : decode cX7_apply 28 = .ok (.iaload, 1) := by decide +kernel
theorem dX7_apply_29 : decode cX7_apply 29 = .ok (.aload_n 0, 1) := by decide +kernel
theorem dX7_apply_30 : decode cX7_apply 30 = .ok (.getfield 121, 3) := by decide +kernel
theorem dX7_apply_33 : decode cX7_apply 33 = .ok (.iconst 0, 1) := by decide +kernel
theorem dX7_apply_34 : decode cX7_apply 34 = .ok (.invokevirtual 115, 3) := by decide +kernel
theorem dX7_apply_37 : decode cX7_apply 37 = .ok (.aload_n 0, 1) := by decide +kernel
theorem dX7_apply_38 : decode cX7_apply 38 = .ok (.iconst 0, 1) := by decide +kernel
theorem dX7_apply_39 : decode cX7_apply 39 = .ok (.putfield 75, 3) := by decide +kernel
theorem dX7_apply_42 : decode cX7_apply 42 = .ok (.bipush 36, 2) := by decide +kernel
theorem dX7_apply_44 : decode cX7_apply 44 = .ok (.iload_n 1, 1) := by decide +kernel
theorem dX7_apply_45 : decode cX7_apply 45 = .ok (.imul, 1) := by decide +kernel
theorem dX7_apply_46 : decode cX7_apply 46 = .ok (.istore_n 2, 1) := by decide +kernel
theorem dX7_apply_47 : decode cX7_apply 47 = .ok (.iload_n 2, 1) := by decide +kernel
theorem dX7_apply_48 : decode cX7_apply 48 = .ok (.bipush 36, 2) := by decide +kernel
theorem dX7_apply_50 : decode cX7_apply 50 = .ok (.iload_n 1, 1) := by decide +kernel
theorem dX7_apply_51 : decode cX7_apply 51 = .ok (.imul, 1) := by decide +kernel
theorem dX7_apply_52 : decode cX7_apply 52 = .ok (.iconst 3, 1) := by decide +kernel
theorem dX7_apply_53 : decode cX7_apply 53 = .ok (.aload_n 0, 1) := by decide +kernel
theorem dX7_apply_54 : decode cX7_apply 54 = .ok (.getfield 13, 3) := by decide +kernel
theorem dX7_apply_57 : decode cX7_apply 57 = .ok (.iload_n 1, 1) := by decide +kernel
theorem dX7_apply_58 : decode cX7_apply 58 = .ok (.iaload, 1) := by decide +kernel
theorem dX7_apply_59 : decode cX7_apply 59 = .ok (.imul, 1) := by decide +kernel
theorem dX7_apply_60 : decode cX7_apply 60 = .ok (.iadd, 1) := by decide +kernel
theorem dX7_apply_61 : decode cX7_apply 61 = .ok (.if_icmp .ge 97, 3) := by decide +kernel
theorem dX7_apply_64 : decode cX7_apply 64 = .ok (.iconst 1, 1) := by decide +kernel
theorem dX7_apply_65 : decode cX7_apply 65 = .ok (.istore_n 3, 1) := by decide +kernel
theorem dX7_apply_66 : decode cX7_apply 66 = .ok (.iconst 0, 1) := by decide +kernel
theorem dX7_apply_67 : decode cX7_apply 67 = .ok (.istore 4, 2) := by decide +kernel
theorem dX7_apply_69 : decode cX7_apply 69 = .ok (.iload 4, 2) := by decide +kernel
theorem dX7_apply_71 : decode cX7_apply 71 = .ok (.aload_n 0, 1) := by decide +kernel
theorem dX7_apply_72 : decode cX7_apply 72 = .ok (.getfield 121, 3) := by decide +kernel
theorem dX7_apply_75 : decode cX7_apply 75 = .ok (.if_icmp .ge 47, 3) := by decide +kernel
theorem dX7_apply_78 : decode cX7_apply 78 = .ok (.iload_n 3, 1) := by decide +kernel
theorem dX7_apply_79 : decode cX7_apply 79 = .ok (.ifCond .eq 35, 3) := by decide +kernel
theorem dX7_apply_82 : decode cX7_apply 82 = .ok (.aload_n 0, 1) := by decide +kernel
theorem dX7_apply_83 : decode cX7_apply 83 = .ok (.getfield 28, 3) := by decide +kernel
theorem dX7_apply_86 : decode cX7_apply 86 = .ok (.iload 4, 2) := by decide +kernel
theorem dX7_apply_88 : decode cX7_apply 88 = .ok (.baload, 1) := by decide +kernel
theorem dX7_apply_89 : decode cX7_apply 89 = .ok (.ifCond .eq 21, 3) := by decide +kernel
theorem dX7_apply_92 : decode cX7_apply 92 = .ok (.aload_n 0, 1) := by decide +kernel
theorem dX7_apply_93 : decode cX7_apply 93 = .ok (.getfield 32, 3) := by decide +kernel
theorem dX7_apply_96 : decode cX7_apply 96 = .ok (.iconst 3, 1) := by decide +kernel
theorem dX7_apply_97 : decode cX7_apply 97 = .ok (.iload 4, 2) := by decide +kernel
theorem dX7_apply_99 : decode cX7_apply 99 = .ok (.imul, 1) := by decide +kernel
theorem dX7_apply_100 : decode cX7_apply 100 = .ok (.iaload, 1) := by decide +kernel
theorem dX7_apply_101 : decode cX7_apply 101 = .ok (.aload_n 0, 1) := by decide +kernel
theorem dX7_apply_102 : decode cX7_apply 102 = .ok (.getfield 7, 3) := by decide +kernel
theorem dX7_apply_105 : decode cX7_apply 105 = .ok (.iload_n 2, 1) := by decide +kernel
theorem dX7_apply_106 : decode cX7_apply 106 = .ok (.iaload, 1) := by decide +kernel
theorem dX7_apply_107 : decode cX7_apply 107 = .ok (.if_icmp .eq 7, 3) := by decide +kernel
theorem dX7_apply_110 : decode cX7_apply 110 = .ok (.iconst 1, 1) := by decide +kernel
theorem dX7_apply_111 : decode cX7_apply 111 = .ok (.goto 4, 3) := by decide +kernel
theorem dX7_apply_114 : decode cX7_apply 114 = .ok (.iconst 0, 1) := by decide +kernel
theorem dX7_apply_115 : decode cX7_apply 115 = .ok (.istore_n 3, 1) := by decide +kernel
theorem dX7_apply_116 : decode cX7_apply 116 = .ok (.iinc 4 1, 3) := by decide +kernel
theorem dX7_apply_119 : decode cX7_apply 119 = .ok (.goto (-50), 3) := by decide +kernel
theorem dX7_apply_122 : decode cX7_apply 122 = .ok (.iload_n 3, 1) := by decide +kernel
theorem dX7_apply_123 : decode cX7_apply 123 = .ok (.ifCond .eq 29, 3) := by decide +kernel
theorem dX7_apply_126 : decode cX7_apply 126 = .ok (.aload_n 0, 1) := by decide +kernel
theorem dX7_apply_127 : decode cX7_apply 127 = .ok (.aload_n 0, 1) := by decide +kernel
theorem dX7_apply_128 : decode cX7_apply 128 = .ok (.getfield 7, 3) := by decide +kernel
theorem dX7_apply_131 : decode cX7_apply 131 = .ok (.iload_n 2, 1) := by decide +kernel
theorem dX7_apply_132 : decode cX7_apply 132 = .ok (.iaload, 1) := by decide +kernel
theorem dX7_apply_133 : decode cX7_apply 133 = .ok (.aload_n 0, 1) := by decide +kernel
theorem dX7_apply_134 : decode cX7_apply 134 = .ok (.getfield 7, 3) := by decide +kernel
theorem dX7_apply_137 : decode cX7_apply 137 = .ok (.iload_n 2, 1) := by decide +kernel
theorem dX7_apply_138 : decode cX7_apply 138 = .ok (.iconst 1, 1) := by decide +kernel
theorem dX7_apply_139 : decode cX7_apply 139 = .ok (.iadd, 1) := by decide +kernel
theorem dX7_apply_140 : decode cX7_apply 140 = .ok (.iaload, 1) := by decide +kernel
theorem dX7_apply_141 : decode cX7_apply 141 = .ok (.aload_n 0, 1) := by decide +kernel
theorem dX7_apply_142 : decode cX7_apply 142 = .ok (.getfield 7, 3) := by decide +kernel
theorem dX7_apply_145 : decode cX7_apply 145 = .ok (.iload_n 2, 1) := by decide +kernel
theorem dX7_apply_146 : decode cX7_apply 146 = .ok (.iconst 2, 1) := by decide +kernel
theorem dX7_apply_147 : decode cX7_apply 147 = .ok (.iadd, 1) := by decide +kernel
theorem dX7_apply_148 : decode cX7_apply 148 = .ok (.iaload, 1) := by decide +kernel
theorem dX7_apply_149 : decode cX7_apply 149 = .ok (.invokevirtual 81, 3) := by decide +kernel
theorem dX7_apply_152 : decode cX7_apply 152 = .ok (.iinc 2 3, 3) := by decide +kernel
theorem dX7_apply_155 : decode cX7_apply 155 = .ok (.goto (-108), 3) := by decide +kernel
theorem dX7_apply_158 : decode cX7_apply 158 = .ok (.iconst 0, 1) := by decide +kernel
theorem dX7_apply_159 : decode cX7_apply 159 = .ok (.istore_n 2, 1) := by decide +kernel
theorem dX7_apply_160 : decode cX7_apply 160 = .ok (.iload_n 2, 1) := by decide +kernel
theorem dX7_apply_161 : decode cX7_apply 161 = .ok (.aload_n 0, 1) := by decide +kernel
theorem dX7_apply_162 : decode cX7_apply 162 = .ok (.getfield 121, 3) := by decide +kernel
theorem dX7_apply_165 : decode cX7_apply 165 = .ok (.if_icmp .ge 50, 3) := by decide +kernel
theorem dX7_apply_168 : decode cX7_apply 168 = .ok (.aload_n 0, 1) := by decide +kernel
theorem dX7_apply_169 : decode cX7_apply 169 = .ok (.getfield 28, 3) := by decide +kernel
theorem dX7_apply_172 : decode cX7_apply 172 = .ok (.iload_n 2, 1) := by decide +kernel
theorem dX7_apply_173 : decode cX7_apply 173 = .ok (.baload, 1) := by decide +kernel
theorem dX7_apply_174 : decode cX7_apply 174 = .ok (.ifCond .ne 35, 3) := by decide +kernel
theorem dX7_apply_177 : decode cX7_apply 177 = .ok (.aload_n 0, 1) := by decide +kernel
theorem dX7_apply_178 : decode cX7_apply 178 = .ok (.aload_n 0, 1) := by decide +kernel
theorem dX7_apply_179 : decode cX7_apply 179 = .ok (.getfield 32, 3) := by decide +kernel
theorem dX7_apply_182 : decode cX7_apply 182 = .ok (.iconst 3, 1) := by decide +kernel
theorem dX7_apply_183 : decode cX7_apply 183 = .ok (.iload_n 2, 1) := by decide +kernel
theorem dX7_apply_184 : decode cX7_apply 184 = .ok (.imul, 1) := by decide +kernel
theorem dX7_apply_185 : decode cX7_apply 185 = .ok (.iaload, 1) := by decide +kernel
theorem dX7_apply_186 : decode cX7_apply 186 = .ok (.aload_n 0, 1) := by decide +kernel
theorem dX7_apply_187 : decode cX7_apply 187 = .ok (.getfield 32, 3) := by decide +kernel
theorem dX7_apply_190 : decode cX7_apply 190 = .ok (.iconst 3, 1) := by decide +kernel
theorem dX7_apply_191 : decode cX7_apply 191 = .ok (.iload_n 2, 1) := by decide +kernel
theorem dX7_apply_192 : decode cX7_apply 192 = .ok (.imul, 1) := by decide +kernel
theorem dX7_apply_193 : decode cX7_apply 193 = .ok (.iconst 1, 1) := by decide +kernel
theorem dX7_apply_194 : decode cX7_apply 194 = .ok (.iadd, 1) := by decide +kernel
theorem dX7_apply_195 : decode cX7_apply 195 = .ok (.iaload, 1) := by decide +kernel
theorem dX7_apply_196 : decode cX7_apply 196 = .ok (.aload_n 0, 1) := by decide +kernel
theorem dX7_apply_197 : decode cX7_apply 197 = .ok (.getfield 32, 3) := by decide +kernel
theorem dX7_apply_200 : decode cX7_apply 200 = .ok (.iconst 3, 1) := by decide +kernel
theorem dX7_apply_201 : decode cX7_apply 201 = .ok (.iload_n 2, 1) := by decide +kernel
theorem dX7_apply_202 : decode cX7_apply 202 = .ok (.imul, 1) := by decide +kernel
theorem dX7_apply_203 : decode cX7_apply 203 = .ok (.iconst 2, 1) := by decide +kernel
theorem dX7_apply_204 : decode cX7_apply 204 = .ok (.iadd, 1) := by decide +kernel
theorem dX7_apply_205 : decode cX7_apply 205 = .ok (.iaload, 1) := by decide +kernel
theorem dX7_apply_206 : decode cX7_apply 206 = .ok (.invokevirtual 81, 3) := by decide +kernel
theorem dX7_apply_209 : decode cX7_apply 209 = .ok (.iinc 2 1, 3) := by decide +kernel
theorem dX7_apply_212 : decode cX7_apply 212 = .ok (.goto (-52), 3) := by decide +kernel
theorem dX7_apply_215 : decode cX7_apply 215 = .ok (.aload_n 0, 1) := by decide +kernel
theorem dX7_apply_216 : decode cX7_apply 216 = .ok (.iconst 0, 1) := by decide +kernel
theorem dX7_apply_217 : decode cX7_apply 217 = .ok (.putfield 121, 3) := by decide +kernel
theorem dX7_apply_220 : decode cX7_apply 220 = .ok (.aload_n 0, 1) := by decide +kernel
theorem dX7_apply_221 : decode cX7_apply 221 = .ok (.getfield 75, 3) := by decide +kernel
theorem dX7_apply_224 : decode cX7_apply 224 = .ok (.bipush 12, 2) := by decide +kernel
theorem dX7_apply_226 : decode cX7_apply 226 = .ok (.if_icmp .le 6, 3) := by decide +kernel
theorem dX7_apply_229 : decode cX7_apply 229 = .ok (.bipush (-2), 2) := by decide +kernel
theorem dX7_apply_231 : decode cX7_apply 231 = .ok (.ireturn, 1) := by decide +kernel
theorem dX7_apply_232 : decode cX7_apply 232 = .ok (.iconst 0, 1) := by decide +kernel
theorem dX7_apply_233 : decode cX7_apply 233 = .ok (.istore_n 2, 1) := by decide +kernel
theorem dX7_apply_234 : decode cX7_apply 234 = .ok (.iload_n 2, 1) := by decide +kernel
theorem dX7_apply_235 : decode cX7_apply 235 = .ok (.iconst 3, 1) := by decide +kernel
theorem dX7_apply_236 : decode cX7_apply 236 = .ok (.aload_n 0, 1) := by decide +kernel
theorem dX7_apply_237 : decode cX7_apply 237 = .ok (.getfield 75, 3) := by decide +kernel
theorem dX7_apply_240 : decode cX7_apply 240 = .ok (.imul, 1) := by decide +kernel
theorem dX7_apply_241 : decode cX7_apply 241 = .ok (.if_icmp .ge 26, 3) := by decide +kernel
theorem dX7_apply_244 : decode cX7_apply 244 = .ok (.aload_n 0, 1) := by decide +kernel
theorem dX7_apply_245 : decode cX7_apply 245 = .ok (.getfield 7, 3) := by decide +kernel
theorem dX7_apply_248 : decode cX7_apply 248 = .ok (.bipush 36, 2) := by decide +kernel
theorem dX7_apply_250 : decode cX7_apply 250 = .ok (.iload_n 1, 1) := by decide +kernel
theorem dX7_apply_251 : decode cX7_apply 251 = .ok (.imul, 1) := by decide +kernel
theorem dX7_apply_252 : decode cX7_apply 252 = .ok (.iload_n 2, 1) := by decide +kernel
theorem dX7_apply_253 : decode cX7_apply 253 = .ok (.iadd, 1) := by decide +kernel
theorem dX7_apply_254 : decode cX7_apply 254 = .ok (.aload_n 0, 1) := by decide +kernel
theorem dX7_apply_255 : decode cX7_apply 255 = .ok (.getfield 38, 3) := by decide +kernel
theorem dX7_apply_258 : decode cX7_apply 258 = .ok (.iload_n 2, 1) := by decide +kernel
theorem dX7_apply_259 : decode cX7_apply 259 = .ok (.iaload, 1) := by decide +kernel
theorem dX7_apply_260 : decode cX7_apply 260 = .ok (.iastore, 1) := by decide +kernel
theorem dX7_apply_261 : decode cX7_apply 261 = .ok (.iinc 2 1, 3) := by decide +kernel
theorem dX7_apply_264 : decode cX7_apply 264 = .ok (.goto (-30), 3) := by decide +kernel
theorem dX7_apply_267 : decode cX7_apply 267 = .ok (.aload_n 0, 1) := by decide +kernel
theorem dX7_apply_268 : decode cX7_apply 268 = .ok (.getfield 13, 3) := by decide +kernel
theorem dX7_apply_271 : decode cX7_apply 271 = .ok (.iload_n 1, 1) := by decide +kernel
theorem dX7_apply_272 : decode cX7_apply 272 = .ok (.aload_n 0, 1) := by decide +kernel
theorem dX7_apply_273 : decode cX7_apply 273 = .ok (.getfield 75, 3) := by decide +kernel
theorem dX7_apply_276 : decode cX7_apply 276 = .ok (.iastore, 1) := by decide +kernel
theorem dX7_apply_277 : decode cX7_apply 277 = .ok (.aload_n 0, 1) := by decide +kernel
theorem dX7_apply_278 : decode cX7_apply 278 = .ok (.getfield 75, 3) := by decide +kernel
theorem dX7_apply_281 : decode cX7_apply 281 = .ok (.ireturn, 1) := by decide +kernel
theorem dX7_touch_0 : decode cX7_touch 0 = .ok (.aload_n 0, 1) := by decide +kernel
theorem dX7_touch_1 : decode cX7_touch 1 = .ok (.aload_n 0, 1) := by decide +kernel
theorem dX7_touch_2 : decode cX7_touch 2 = .ok (.getfield 128, 3) := by decide +kernel
theorem dX7_touch_5 : decode cX7_touch 5 = .ok (.aload_n 0, 1) := by decide +kernel
theorem dX7_touch_6 : decode cX7_touch 6 = .ok (.getfield 131, 3) := by decide +kernel
theorem dX7_touch_9 : decode cX7_touch 9 = .ok (.if_icmp .ne 19, 3) := by decide +kernel
theorem dX7_touch_12 : decode cX7_touch 12 = .ok (.iconst 2, 1) := by decide +kernel
theorem dX7_touch_13 : decode cX7_touch 13 = .ok (.iload_n 1, 1) := by decide +kernel
theorem dX7_touch_14 : decode cX7_touch 14 = .ok (.imul, 1) := by decide +kernel
theorem dX7_touch_15 : decode cX7_touch 15 = .ok (.iload_n 2, 1) := by decide +kernel
theorem dX7_touch_16 : decode cX7_touch 16 = .ok (.ifCond .eq 7, 3) := by decide +kernel
theorem dX7_touch_19 : decode cX7_touch 19 = .ok (.iconst 1, 1) := by decide +kernel
theorem dX7_touch_20 : decode cX7_touch 20 = .ok (.goto 4, 3) := by decide +kernel
theorem dX7_touch_23 : decode cX7_touch 23 = .ok (.iconst 0, 1) := by decide +kernel
theorem dX7_touch_24 : decode cX7_touch 24 = .ok (.iadd, 1) := by decide +kernel
theorem dX7_touch_25 : decode cX7_touch 25 = .ok (.goto 7, 3) := by decide +kernel
theorem dX7_touch_28 : decode cX7_touch 28 = .ok (.aload_n 0, 1) := by decide +kernel
theorem dX7_touch_29 : decode cX7_touch 29 = .ok (.getfield 134, 3) := by decide +kernel
theorem dX7_touch_32 : decode cX7_touch 32 = .ok (.putfield 134, 3) := by decide +kernel
theorem dX7_touch_35 : decode cX7_touch 35 = .ok (.aload_n 0, 1) := by decide +kernel
theorem dX7_touch_36 : decode cX7_touch 36 = .ok (.dup, 1) := by decide +kernel
theorem dX7_touch_37 : decode cX7_touch 37 = .ok (.getfield 128, 3) := by decide +kernel
theorem dX7_touch_40 : decode cX7_touch 40 = .ok (.iconst 1, 1) := by decide +kernel
theorem dX7_touch_41 : decode cX7_touch 41 = .ok (.iadd, 1) := by decide +kernel
theorem dX7_touch_42 : decode cX7_touch 42 = .ok (.putfield 128, 3) := by decide +kernel
theorem dX7_touch_45 : decode cX7_touch 45 = .ok (.return_, 1) := by decide +kernel
theorem dX7_exchange_0 : decode cX7_exchange 0 = .ok (.aload_n 0, 1) := by decide +kernel
theorem dX7_exchange_1 : decode cX7_exchange 1 = .ok (.iload_n 1, 1) := by decide +kernel
theorem dX7_exchange_2 : decode cX7_exchange 2 = .ok (.iconst 0, 1) := by decide +kernel
theorem dX7_exchange_3 : decode cX7_exchange 3 = .ok (.invokevirtual 137, 3) := by decide +kernel
theorem dX7_exchange_6 : decode cX7_exchange 6 = .ok (.aload_n 0, 1) := by decide +kernel
theorem dX7_exchange_7 : decode cX7_exchange 7 = .ok (.iload_n 2, 1) := by decide +kernel
theorem dX7_exchange_8 : decode cX7_exchange 8 = .ok (.iconst 0, 1) := by decide +kernel
theorem dX7_exchange_9 : decode cX7_exchange 9 = .ok (.invokevirtual 137, 3) := by decide +kernel
theorem dX7_exchange_12 : decode cX7_exchange 12 = .ok (.aload_n 0, 1) := by decide +kernel
theorem dX7_exchange_13 : decode cX7_exchange 13 = .ok (.iload_n 1, 1) := by decide +kernel
theorem dX7_exchange_14 : decode cX7_exchange 14 = .ok (.iconst 1, 1) := by decide +kernel
theorem dX7_exchange_15 : decode cX7_exchange 15 = .ok (.invokevirtual 137, 3) := by decide +kernel
theorem dX7_exchange_18 : decode cX7_exchange 18 = .ok (.aload_n 0, 1) := by decide +kernel
theorem dX7_exchange_19 : decode cX7_exchange 19 = .ok (.iload_n 2, 1) := by decide +kernel
theorem dX7_exchange_20 : decode cX7_exchange 20 = .ok (.iconst 1, 1) := by decide +kernel
theorem dX7_exchange_21 : decode cX7_exchange 21 = .ok (.invokevirtual 137, 3) := by decide +kernel
theorem dX7_exchange_24 : decode cX7_exchange 24 = .ok (.return_, 1) := by decide +kernel
theorem dX7_scan_0 : decode cX7_scan 0 = .ok (.iconst 0, 1) := by decide +kernel
theorem dX7_scan_1 : decode cX7_scan 1 = .ok (.istore 4, 2) := by decide +kernel
theorem dX7_scan_3 : decode cX7_scan 3 = .ok (.iload 4, 2) := by decide +kernel
theorem dX7_scan_5 : decode cX7_scan 5 = .ok (.iload_n 1, 1) := by decide +kernel
theorem dX7_scan_6 : decode cX7_scan 6 = .ok (.if_icmp .ge 42, 3) := by decide +kernel
theorem dX7_scan_9 : decode cX7_scan 9 = .ok (.iload_n 2, 1) := by decide +kernel
theorem dX7_scan_10 : decode cX7_scan 10 = .ok (.iload_n 3, 1) := by decide +kernel
theorem dX7_scan_11 : decode cX7_scan 11 = .ok (.ifCond .eq 12, 3) := by decide +kernel
theorem dX7_scan_14 : decode cX7_scan 14 = .ok (.iload_n 1, 1) := by decide +kernel
theorem dX7_scan_15 : decode cX7_scan 15 = .ok (.iconst 1, 1) := by decide +kernel
theorem dX7_scan_16 : decode cX7_scan 16 = .ok (.isub, 1) := by decide +kernel
theorem dX7_scan_17 : decode cX7_scan 17 = .ok (.iload 4, 2) := by decide +kernel
theorem dX7_scan_19 : decode cX7_scan 19 = .ok (.isub, 1) := by decide +kernel
theorem dX7_scan_20 : decode cX7_scan 20 = .ok (.goto 5, 3) := by decide +kernel
theorem dX7_scan_23 : decode cX7_scan 23 = .ok (.iload 4, 2) := by decide +kernel
theorem dX7_scan_25 : decode cX7_scan 25 = .ok (.iadd, 1) := by decide +kernel
theorem dX7_scan_26 : decode cX7_scan 26 = .ok (.istore 5, 2) := by decide +kernel
theorem dX7_scan_28 : decode cX7_scan 28 = .ok (.aload_n 0, 1) := by decide +kernel
theorem dX7_scan_29 : decode cX7_scan 29 = .ok (.iload 5, 2) := by decide +kernel
theorem dX7_scan_31 : decode cX7_scan 31 = .ok (.iconst 0, 1) := by decide +kernel
theorem dX7_scan_32 : decode cX7_scan 32 = .ok (.invokevirtual 137, 3) := by decide +kernel
theorem dX7_scan_35 : decode cX7_scan 35 = .ok (.aload_n 0, 1) := by decide +kernel
theorem dX7_scan_36 : decode cX7_scan 36 = .ok (.iload 5, 2) := by decide +kernel
theorem dX7_scan_38 : decode cX7_scan 38 = .ok (.iconst 1, 1) := by decide +kernel
theorem dX7_scan_39 : decode cX7_scan 39 = .ok (.invokevirtual 137, 3) := by decide +kernel
theorem dX7_scan_42 : decode cX7_scan 42 = .ok (.iinc 4 1, 3) := by decide +kernel
theorem dX7_scan_45 : decode cX7_scan 45 = .ok (.goto (-42), 3) := by decide +kernel
theorem dX7_scan_48 : decode cX7_scan 48 = .ok (.return_, 1) := by decide +kernel
theorem dX7_compare_0 : decode cX7_compare 0 = .ok (.iconst 0, 1) := by decide +kernel
theorem dX7_compare_1 : decode cX7_compare 1 = .ok (.istore 6, 2) := by decide +kernel
theorem dX7_compare_3 : decode cX7_compare 3 = .ok (.iload 6, 2) := by decide +kernel
theorem dX7_compare_5 : decode cX7_compare 5 = .ok (.iload_n 1, 1) := by decide +kernel
theorem dX7_compare_6 : decode cX7_compare 6 = .ok (.iload 5, 2) := by decide +kernel
theorem dX7_compare_8 : decode cX7_compare 8 = .ok (.isub, 1) := by decide +kernel
theorem dX7_compare_9 : decode cX7_compare 9 = .ok (.if_icmp .ge 33, 3) := by decide +kernel
theorem dX7_compare_12 : decode cX7_compare 12 = .ok (.iload 6, 2) := by decide +kernel
theorem dX7_compare_14 : decode cX7_compare 14 = .ok (.iload_n 3, 1) := by decide +kernel
theorem dX7_compare_15 : decode cX7_compare 15 = .ok (.iand, 1) := by decide +kernel
theorem dX7_compare_16 : decode cX7_compare 16 = .ok (.iload 4, 2) := by decide +kernel
theorem dX7_compare_18 : decode cX7_compare 18 = .ok (.if_icmp .ne 18, 3) := by decide +kernel
theorem dX7_compare_21 : decode cX7_compare 21 = .ok (.aload_n 0, 1) := by decide +kernel
theorem dX7_compare_22 : decode cX7_compare 22 = .ok (.iload_n 2, 1) := by decide +kernel
theorem dX7_compare_23 : decode cX7_compare 23 = .ok (.iload 6, 2) := by decide +kernel
theorem dX7_compare_25 : decode cX7_compare 25 = .ok (.iadd, 1) := by decide +kernel
theorem dX7_compare_26 : decode cX7_compare 26 = .ok (.iload_n 2, 1) := by decide +kernel
theorem dX7_compare_27 : decode cX7_compare 27 = .ok (.iload 6, 2) := by decide +kernel
theorem dX7_compare_29 : decode cX7_compare 29 = .ok (.iadd, 1) := by decide +kernel
theorem dX7_compare_30 : decode cX7_compare 30 = .ok (.iload 5, 2) := by decide +kernel
theorem dX7_compare_32 : decode cX7_compare 32 = .ok (.iadd, 1) := by decide +kernel
theorem dX7_compare_33 : decode cX7_compare 33 = .ok (.invokevirtual 141, 3) := by decide +kernel
theorem dX7_compare_36 : decode cX7_compare 36 = .ok (.iinc 6 1, 3) := by decide +kernel
theorem dX7_compare_39 : decode cX7_compare 39 = .ok (.goto (-36), 3) := by decide +kernel
theorem dX7_compare_42 : decode cX7_compare 42 = .ok (.return_, 1) := by decide +kernel
theorem dX7_sort_0 : decode cX7_sort 0 = .ok (.iconst 1, 1) := by decide +kernel
theorem dX7_sort_1 : decode cX7_sort 1 = .ok (.istore_n 3, 1) := by decide +kernel
theorem dX7_sort_2 : decode cX7_sort 2 = .ok (.iconst 2, 1) := by decide +kernel
theorem dX7_sort_3 : decode cX7_sort 3 = .ok (.iload_n 3, 1) := by decide +kernel
theorem dX7_sort_4 : decode cX7_sort 4 = .ok (.imul, 1) := by decide +kernel
theorem dX7_sort_5 : decode cX7_sort 5 = .ok (.iload_n 1, 1) := by decide +kernel
theorem dX7_sort_6 : decode cX7_sort 6 = .ok (.if_icmp .ge 10, 3) := by decide +kernel
theorem dX7_sort_9 : decode cX7_sort 9 = .ok (.iconst 2, 1) := by decide +kernel
theorem dX7_sort_10 : decode cX7_sort 10 = .ok (.iload_n 3, 1) := by decide +kernel
theorem dX7_sort_11 : decode cX7_sort 11 = .ok (.imul, 1) := by decide +kernel
theorem dX7_sort_12 : decode cX7_sort 12 = .ok (.istore_n 3, 1) := by decide +kernel
theorem dX7_sort_13 : decode cX7_sort 13 = .ok (.goto (-11), 3) := by decide +kernel
theorem dX7_sort_16 : decode cX7_sort 16 = .ok (.iload_n 3, 1) := by decide +kernel
theorem dX7_sort_17 : decode cX7_sort 17 = .ok (.istore 4, 2) := by decide +kernel
theorem dX7_sort_19 : decode cX7_sort 19 = .ok (.iload 4, 2) := by decide +kernel
theorem dX7_sort_21 : decode cX7_sort 21 = .ok (.ifCond .le 62, 3) := by decide +kernel
theorem dX7_sort_24 : decode cX7_sort 24 = .ok (.iload_n 1, 1) := by decide +kernel
theorem dX7_sort_25 : decode cX7_sort 25 = .ok (.iconst 1, 1) := by decide +kernel
theorem dX7_sort_26 : decode cX7_sort 26 = .ok (.if_icmp .le 57, 3) := by decide +kernel
theorem dX7_sort_29 : decode cX7_sort 29 = .ok (.aload_n 0, 1) := by decide +kernel
theorem dX7_sort_30 : decode cX7_sort 30 = .ok (.iload_n 1, 1) := by decide +kernel
theorem dX7_sort_31 : decode cX7_sort 31 = .ok (.iload_n 2, 1) := by decide +kernel
theorem dX7_sort_32 : decode cX7_sort 32 = .ok (.iload 4, 2) := by decide +kernel
theorem dX7_sort_34 : decode cX7_sort 34 = .ok (.iconst 0, 1) := by decide +kernel
theorem dX7_sort_35 : decode cX7_sort 35 = .ok (.iload 4, 2) := by decide +kernel
theorem dX7_sort_37 : decode cX7_sort 37 = .ok (.invokevirtual 145, 3) := by decide +kernel
theorem dX7_sort_40 : decode cX7_sort 40 = .ok (.iload_n 3, 1) := by decide +kernel
theorem dX7_sort_41 : decode cX7_sort 41 = .ok (.istore 5, 2) := by decide +kernel
theorem dX7_sort_43 : decode cX7_sort 43 = .ok (.iload 5, 2) := by decide +kernel
theorem dX7_sort_45 : decode cX7_sort 45 = .ok (.iload 4, 2) := by decide +kernel
theorem dX7_sort_47 : decode cX7_sort 47 = .ok (.if_icmp .eq 27, 3) := by decide +kernel
theorem dX7_sort_50 : decode cX7_sort 50 = .ok (.aload_n 0, 1) := by decide +kernel
theorem dX7_sort_51 : decode cX7_sort 51 = .ok (.iload_n 1, 1) := by decide +kernel
theorem dX7_sort_52 : decode cX7_sort 52 = .ok (.iload_n 2, 1) := by decide +kernel
theorem dX7_sort_53 : decode cX7_sort 53 = .ok (.iload 4, 2) := by decide +kernel
theorem dX7_sort_55 : decode cX7_sort 55 = .ok (.iload 4, 2) := by decide +kernel
theorem dX7_sort_57 : decode cX7_sort 57 = .ok (.iload 5, 2) := by decide +kernel
theorem dX7_sort_59 : decode cX7_sort 59 = .ok (.iload 4, 2) := by decide +kernel
theorem dX7_sort_61 : decode cX7_sort 61 = .ok (.isub, 1) := by decide +kernel
theorem dX7_sort_62 : decode cX7_sort 62 = .ok (.invokevirtual 145, 3) := by decide +kernel
theorem dX7_sort_65 : decode cX7_sort 65 = .ok (.iload 5, 2) := by decide +kernel
theorem dX7_sort_67 : decode cX7_sort 67 = .ok (.iconst 2, 1) := by decide +kernel
theorem dX7_sort_68 : decode cX7_sort 68 = .ok (.idiv, 1) := by decide +kernel
theorem dX7_sort_69 : decode cX7_sort 69 = .ok (.istore 5, 2) := by decide +kernel
theorem dX7_sort_71 : decode cX7_sort 71 = .ok (.goto (-28), 3) := by decide +kernel
theorem dX7_sort_74 : decode cX7_sort 74 = .ok (.iload 4, 2) := by decide +kernel
theorem dX7_sort_76 : decode cX7_sort 76 = .ok (.iconst 2, 1) := by decide +kernel
theorem dX7_sort_77 : decode cX7_sort 77 = .ok (.idiv, 1) := by decide +kernel
theorem dX7_sort_78 : decode cX7_sort 78 = .ok (.istore 4, 2) := by decide +kernel
theorem dX7_sort_80 : decode cX7_sort 80 = .ok (.goto (-61), 3) := by decide +kernel
theorem dX7_sort_83 : decode cX7_sort 83 = .ok (.return_, 1) := by decide +kernel
theorem dX7_squeeze_0 : decode cX7_squeeze 0 = .ok (.iconst 1, 1) := by decide +kernel
theorem dX7_squeeze_1 : decode cX7_squeeze 1 = .ok (.istore_n 3, 1) := by decide +kernel
theorem dX7_squeeze_2 : decode cX7_squeeze 2 = .ok (.iload_n 3, 1) := by decide +kernel
theorem dX7_squeeze_3 : decode cX7_squeeze 3 = .ok (.iload_n 1, 1) := by decide +kernel
theorem dX7_squeeze_4 : decode cX7_squeeze 4 = .ok (.if_icmp .ge 39, 3) := by decide +kernel
theorem dX7_squeeze_7 : decode cX7_squeeze 7 = .ok (.iload_n 3, 1) := by decide +kernel
theorem dX7_squeeze_8 : decode cX7_squeeze 8 = .ok (.istore 4, 2) := by decide +kernel
theorem dX7_squeeze_10 : decode cX7_squeeze 10 = .ok (.iload 4, 2) := by decide +kernel
theorem dX7_squeeze_12 : decode cX7_squeeze 12 = .ok (.iload_n 1, 1) := by decide +kernel
theorem dX7_squeeze_13 : decode cX7_squeeze 13 = .ok (.if_icmp .ge 23, 3) := by decide +kernel
theorem dX7_squeeze_16 : decode cX7_squeeze 16 = .ok (.aload_n 0, 1) := by decide +kernel
theorem dX7_squeeze_17 : decode cX7_squeeze 17 = .ok (.iload_n 2, 1) := by decide +kernel
theorem dX7_squeeze_18 : decode cX7_squeeze 18 = .ok (.iload 4, 2) := by decide +kernel
theorem dX7_squeeze_20 : decode cX7_squeeze 20 = .ok (.iadd, 1) := by decide +kernel
theorem dX7_squeeze_21 : decode cX7_squeeze 21 = .ok (.iload_n 3, 1) := by decide +kernel
theorem dX7_squeeze_22 : decode cX7_squeeze 22 = .ok (.isub, 1) := by decide +kernel
theorem dX7_squeeze_23 : decode cX7_squeeze 23 = .ok (.iload_n 2, 1) := by decide +kernel
theorem dX7_squeeze_24 : decode cX7_squeeze 24 = .ok (.iload 4, 2) := by decide +kernel
theorem dX7_squeeze_26 : decode cX7_squeeze 26 = .ok (.iadd, 1) := by decide +kernel
theorem dX7_squeeze_27 : decode cX7_squeeze 27 = .ok (.invokevirtual 141, 3) := by decide +kernel
theorem dX7_squeeze_30 : decode cX7_squeeze 30 = .ok (.iinc 4 1, 3) := by decide +kernel
theorem dX7_squeeze_33 : decode cX7_squeeze 33 = .ok (.goto (-23), 3) := by decide +kernel
theorem dX7_squeeze_36 : decode cX7_squeeze 36 = .ok (.iconst 2, 1) := by decide +kernel
theorem dX7_squeeze_37 : decode cX7_squeeze 37 = .ok (.iload_n 3, 1) := by decide +kernel
theorem dX7_squeeze_38 : decode cX7_squeeze 38 = .ok (.imul, 1) := by decide +kernel
theorem dX7_squeeze_39 : decode cX7_squeeze 39 = .ok (.istore_n 3, 1) := by decide +kernel
theorem dX7_squeeze_40 : decode cX7_squeeze 40 = .ok (.goto (-38), 3) := by decide +kernel
theorem dX7_squeeze_43 : decode cX7_squeeze 43 = .ok (.return_, 1) := by decide +kernel
theorem dX7_spread_0 : decode cX7_spread 0 = .ok (.iconst 1, 1) := by decide +kernel
theorem dX7_spread_1 : decode cX7_spread 1 = .ok (.istore_n 3, 1) := by decide +kernel
theorem dX7_spread_2 : decode cX7_spread 2 = .ok (.iconst 2, 1) := by decide +kernel
theorem dX7_spread_3 : decode cX7_spread 3 = .ok (.iload_n 3, 1) := by decide +kernel
theorem dX7_spread_4 : decode cX7_spread 4 = .ok (.imul, 1) := by decide +kernel
theorem dX7_spread_5 : decode cX7_spread 5 = .ok (.iload_n 1, 1) := by decide +kernel
theorem dX7_spread_6 : decode cX7_spread 6 = .ok (.if_icmp .ge 10, 3) := by decide +kernel
theorem dX7_spread_9 : decode cX7_spread 9 = .ok (.iconst 2, 1) := by decide +kernel
theorem dX7_spread_10 : decode cX7_spread 10 = .ok (.iload_n 3, 1) := by decide +kernel
theorem dX7_spread_11 : decode cX7_spread 11 = .ok (.imul, 1) := by decide +kernel
theorem dX7_spread_12 : decode cX7_spread 12 = .ok (.istore_n 3, 1) := by decide +kernel
theorem dX7_spread_13 : decode cX7_spread 13 = .ok (.goto (-11), 3) := by decide +kernel
theorem dX7_spread_16 : decode cX7_spread 16 = .ok (.iload_n 3, 1) := by decide +kernel
theorem dX7_spread_17 : decode cX7_spread 17 = .ok (.istore 4, 2) := by decide +kernel
theorem dX7_spread_19 : decode cX7_spread 19 = .ok (.iload 4, 2) := by decide +kernel
theorem dX7_spread_21 : decode cX7_spread 21 = .ok (.ifCond .le 45, 3) := by decide +kernel
theorem dX7_spread_24 : decode cX7_spread 24 = .ok (.iload_n 1, 1) := by decide +kernel
theorem dX7_spread_25 : decode cX7_spread 25 = .ok (.iconst 1, 1) := by decide +kernel
theorem dX7_spread_26 : decode cX7_spread 26 = .ok (.isub, 1) := by decide +kernel
theorem dX7_spread_27 : decode cX7_spread 27 = .ok (.istore 5, 2) := by decide +kernel
theorem dX7_spread_29 : decode cX7_spread 29 = .ok (.iload 5, 2) := by decide +kernel
theorem dX7_spread_31 : decode cX7_spread 31 = .ok (.iload 4, 2) := by decide +kernel
theorem dX7_spread_33 : decode cX7_spread 33 = .ok (.if_icmp .lt 24, 3) := by decide +kernel
theorem dX7_spread_36 : decode cX7_spread 36 = .ok (.aload_n 0, 1) := by decide +kernel
theorem dX7_spread_37 : decode cX7_spread 37 = .ok (.iload_n 2, 1) := by decide +kernel
theorem dX7_spread_38 : decode cX7_spread 38 = .ok (.iload 5, 2) := by decide +kernel
theorem dX7_spread_40 : decode cX7_spread 40 = .ok (.iadd, 1) := by decide +kernel
theorem dX7_spread_41 : decode cX7_spread 41 = .ok (.iload 4, 2) := by decide +kernel
theorem dX7_spread_43 : decode cX7_spread 43 = .ok (.isub, 1) := by decide +kernel
theorem dX7_spread_44 : decode cX7_spread 44 = .ok (.iload_n 2, 1) := by decide +kernel
theorem dX7_spread_45 : decode cX7_spread 45 = .ok (.iload 5, 2) := by decide +kernel
theorem dX7_spread_47 : decode cX7_spread 47 = .ok (.iadd, 1) := by decide +kernel
theorem dX7_spread_48 : decode cX7_spread 48 = .ok (.invokevirtual 141, 3) := by decide +kernel
theorem dX7_spread_51 : decode cX7_spread 51 = .ok (.iinc 5 (-1), 3) := by decide +kernel
theorem dX7_spread_54 : decode cX7_spread 54 = .ok (.goto (-25), 3) := by decide +kernel
theorem dX7_spread_57 : decode cX7_spread 57 = .ok (.iload 4, 2) := by decide +kernel
theorem dX7_spread_59 : decode cX7_spread 59 = .ok (.iconst 2, 1) := by decide +kernel
theorem dX7_spread_60 : decode cX7_spread 60 = .ok (.idiv, 1) := by decide +kernel
theorem dX7_spread_61 : decode cX7_spread 61 = .ok (.istore 4, 2) := by decide +kernel
theorem dX7_spread_63 : decode cX7_spread 63 = .ok (.goto (-44), 3) := by decide +kernel
theorem dX7_spread_66 : decode cX7_spread 66 = .ok (.return_, 1) := by decide +kernel
theorem dX7_side_0 : decode cX7_side 0 = .ok (.aload_n 0, 1) := by decide +kernel
theorem dX7_side_1 : decode cX7_side 1 = .ok (.iload_n 1, 1) := by decide +kernel
theorem dX7_side_2 : decode cX7_side 2 = .ok (.iload_n 3, 1) := by decide +kernel
theorem dX7_side_3 : decode cX7_side 3 = .ok (.iconst 0, 1) := by decide +kernel
theorem dX7_side_4 : decode cX7_side 4 = .ok (.invokevirtual 149, 3) := by decide +kernel
theorem dX7_side_7 : decode cX7_side 7 = .ok (.aload_n 0, 1) := by decide +kernel
theorem dX7_side_8 : decode cX7_side 8 = .ok (.iload_n 1, 1) := by decide +kernel
theorem dX7_side_9 : decode cX7_side 9 = .ok (.iload_n 3, 1) := by decide +kernel
theorem dX7_side_10 : decode cX7_side 10 = .ok (.invokevirtual 153, 3) := by decide +kernel
theorem dX7_side_13 : decode cX7_side 13 = .ok (.aload_n 0, 1) := by decide +kernel
theorem dX7_side_14 : decode cX7_side 14 = .ok (.iload_n 1, 1) := by decide +kernel
theorem dX7_side_15 : decode cX7_side 15 = .ok (.iload_n 2, 1) := by decide +kernel
theorem dX7_side_16 : decode cX7_side 16 = .ok (.if_icmp .le 7, 3) := by decide +kernel
theorem dX7_side_19 : decode cX7_side 19 = .ok (.iload_n 1, 1) := by decide +kernel
theorem dX7_side_20 : decode cX7_side 20 = .ok (.goto 4, 3) := by decide +kernel
theorem dX7_side_23 : decode cX7_side 23 = .ok (.iload_n 2, 1) := by decide +kernel
theorem dX7_side_24 : decode cX7_side 24 = .ok (.iload_n 3, 1) := by decide +kernel
theorem dX7_side_25 : decode cX7_side 25 = .ok (.invokevirtual 156, 3) := by decide +kernel
theorem dX7_side_28 : decode cX7_side 28 = .ok (.aload_n 0, 1) := by decide +kernel
theorem dX7_side_29 : decode cX7_side 29 = .ok (.iload_n 2, 1) := by decide +kernel
theorem dX7_side_30 : decode cX7_side 30 = .ok (.iload_n 3, 1) := by decide +kernel
theorem dX7_side_31 : decode cX7_side 31 = .ok (.iconst 0, 1) := by decide +kernel
theorem dX7_side_32 : decode cX7_side 32 = .ok (.invokevirtual 149, 3) := by decide +kernel
theorem dX7_side_35 : decode cX7_side 35 = .ok (.return_, 1) := by decide +kernel
theorem dX7_joinTrace_0 : decode cX7_joinTrace 0 = .ok (.aload_n 0, 1) := by decide +kernel
theorem dX7_joinTrace_1 : decode cX7_joinTrace 1 = .ok (.iload_n 1, 1) := by decide +kernel
theorem dX7_joinTrace_2 : decode cX7_joinTrace 2 = .ok (.iconst 0, 1) := by decide +kernel
theorem dX7_joinTrace_3 : decode cX7_joinTrace 3 = .ok (.invokevirtual 159, 3) := by decide +kernel
theorem dX7_joinTrace_6 : decode cX7_joinTrace 6 = .ok (.aload_n 0, 1) := by decide +kernel
theorem dX7_joinTrace_7 : decode cX7_joinTrace 7 = .ok (.iload_n 1, 1) := by decide +kernel
theorem dX7_joinTrace_8 : decode cX7_joinTrace 8 = .ok (.iconst 0, 1) := by decide +kernel
theorem dX7_joinTrace_9 : decode cX7_joinTrace 9 = .ok (.iconst 0, 1) := by decide +kernel
theorem dX7_joinTrace_10 : decode cX7_joinTrace 10 = .ok (.invokevirtual 149, 3) := by decide +kernel
theorem dX7_joinTrace_13 : decode cX7_joinTrace 13 = .ok (.aload_n 0, 1) := by decide +kernel
theorem dX7_joinTrace_14 : decode cX7_joinTrace 14 = .ok (.iload_n 1, 1) := by decide +kernel
theorem dX7_joinTrace_15 : decode cX7_joinTrace 15 = .ok (.iconst 0, 1) := by decide +kernel
theorem dX7_joinTrace_16 : decode cX7_joinTrace 16 = .ok (.iconst 1, 1) := by decide +kernel
theorem dX7_joinTrace_17 : decode cX7_joinTrace 17 = .ok (.invokevirtual 149, 3) := by decide +kernel
theorem dX7_joinTrace_20 : decode cX7_joinTrace 20 = .ok (.aload_n 0, 1) := by decide +kernel
theorem dX7_joinTrace_21 : decode cX7_joinTrace 21 = .ok (.iload_n 1, 1) := by decide +kernel
theorem dX7_joinTrace_22 : decode cX7_joinTrace 22 = .ok (.iconst 0, 1) := by decide +kernel
theorem dX7_joinTrace_23 : decode cX7_joinTrace 23 = .ok (.invokevirtual 159, 3) := by decide +kernel
theorem dX7_joinTrace_26 : decode cX7_joinTrace 26 = .ok (.iload_n 2, 1) := by decide +kernel
theorem dX7_joinTrace_27 : decode cX7_joinTrace 27 = .ok (.iconst 1, 1) := by decide +kernel
theorem dX7_joinTrace_28 : decode cX7_joinTrace 28 = .ok (.if_icmp .ge 4, 3) := by decide +kernel
theorem dX7_joinTrace_31 : decode cX7_joinTrace 31 = .ok (.return_, 1) := by decide +kernel
theorem dX7_joinTrace_32 : decode cX7_joinTrace 32 = .ok (.iconst 0, 1) := by decide +kernel
theorem dX7_joinTrace_33 : decode cX7_joinTrace 33 = .ok (.istore_n 3, 1) := by decide +kernel
theorem dX7_joinTrace_34 : decode cX7_joinTrace 34 = .ok (.iload_n 3, 1) := by decide +kernel
theorem dX7_joinTrace_35 : decode cX7_joinTrace 35 = .ok (.iload_n 1, 1) := by decide +kernel
theorem dX7_joinTrace_36 : decode cX7_joinTrace 36 = .ok (.if_icmp .ge 24, 3) := by decide +kernel
theorem dX7_joinTrace_39 : decode cX7_joinTrace 39 = .ok (.aload_n 0, 1) := by decide +kernel
theorem dX7_joinTrace_40 : decode cX7_joinTrace 40 = .ok (.iload_n 3, 1) := by decide +kernel
theorem dX7_joinTrace_41 : decode cX7_joinTrace 41 = .ok (.iconst 0, 1) := by decide +kernel
theorem dX7_joinTrace_42 : decode cX7_joinTrace 42 = .ok (.invokevirtual 137, 3) := by decide +kernel
theorem dX7_joinTrace_45 : decode cX7_joinTrace 45 = .ok (.aload_n 0, 1) := by decide +kernel
theorem dX7_joinTrace_46 : decode cX7_joinTrace 46 = .ok (.iload_n 3, 1) := by decide +kernel
theorem dX7_joinTrace_47 : decode cX7_joinTrace 47 = .ok (.bipush 40, 2) := by decide +kernel
theorem dX7_joinTrace_49 : decode cX7_joinTrace 49 = .ok (.iadd, 1) := by decide +kernel
theorem dX7_joinTrace_50 : decode cX7_joinTrace 50 = .ok (.iconst 1, 1) := by decide +kernel
theorem dX7_joinTrace_51 : decode cX7_joinTrace 51 = .ok (.invokevirtual 137, 3) := by decide +kernel
theorem dX7_joinTrace_54 : decode cX7_joinTrace 54 = .ok (.iinc 3 1, 3) := by decide +kernel
theorem dX7_joinTrace_57 : decode cX7_joinTrace 57 = .ok (.goto (-23), 3) := by decide +kernel
theorem dX7_joinTrace_60 : decode cX7_joinTrace 60 = .ok (.aload_n 0, 1) := by decide +kernel
theorem dX7_joinTrace_61 : decode cX7_joinTrace 61 = .ok (.iload_n 1, 1) := by decide +kernel
theorem dX7_joinTrace_62 : decode cX7_joinTrace 62 = .ok (.iload_n 2, 1) := by decide +kernel
theorem dX7_joinTrace_63 : decode cX7_joinTrace 63 = .ok (.iconst 0, 1) := by decide +kernel
theorem dX7_joinTrace_64 : decode cX7_joinTrace 64 = .ok (.invokevirtual 162, 3) := by decide +kernel
theorem dX7_joinTrace_67 : decode cX7_joinTrace 67 = .ok (.aload_n 0, 1) := by decide +kernel
theorem dX7_joinTrace_68 : decode cX7_joinTrace 68 = .ok (.iload_n 1, 1) := by decide +kernel
theorem dX7_joinTrace_69 : decode cX7_joinTrace 69 = .ok (.iload_n 2, 1) := by decide +kernel
theorem dX7_joinTrace_70 : decode cX7_joinTrace 70 = .ok (.bipush 40, 2) := by decide +kernel
theorem dX7_joinTrace_72 : decode cX7_joinTrace 72 = .ok (.invokevirtual 162, 3) := by decide +kernel
theorem dX7_joinTrace_75 : decode cX7_joinTrace 75 = .ok (.aload_n 0, 1) := by decide +kernel
theorem dX7_joinTrace_76 : decode cX7_joinTrace 76 = .ok (.iload_n 2, 1) := by decide +kernel
theorem dX7_joinTrace_77 : decode cX7_joinTrace 77 = .ok (.bipush 40, 2) := by decide +kernel
theorem dX7_joinTrace_79 : decode cX7_joinTrace 79 = .ok (.invokevirtual 159, 3) := by decide +kernel
theorem dX7_joinTrace_82 : decode cX7_joinTrace 82 = .ok (.iconst 0, 1) := by decide +kernel
theorem dX7_joinTrace_83 : decode cX7_joinTrace 83 = .ok (.istore_n 3, 1) := by decide +kernel
theorem dX7_joinTrace_84 : decode cX7_joinTrace 84 = .ok (.iload_n 3, 1) := by decide +kernel
theorem dX7_joinTrace_85 : decode cX7_joinTrace 85 = .ok (.iload_n 2, 1) := by decide +kernel
theorem dX7_joinTrace_86 : decode cX7_joinTrace 86 = .ok (.if_icmp .ge 30, 3) := by decide +kernel
theorem dX7_joinTrace_89 : decode cX7_joinTrace 89 = .ok (.aload_n 0, 1) := by decide +kernel
theorem dX7_joinTrace_90 : decode cX7_joinTrace 90 = .ok (.iload_n 3, 1) := by decide +kernel
theorem dX7_joinTrace_91 : decode cX7_joinTrace 91 = .ok (.iconst 0, 1) := by decide +kernel
theorem dX7_joinTrace_92 : decode cX7_joinTrace 92 = .ok (.invokevirtual 137, 3) := by decide +kernel
theorem dX7_joinTrace_95 : decode cX7_joinTrace 95 = .ok (.aload_n 0, 1) := by decide +kernel
theorem dX7_joinTrace_96 : decode cX7_joinTrace 96 = .ok (.iload_n 3, 1) := by decide +kernel
theorem dX7_joinTrace_97 : decode cX7_joinTrace 97 = .ok (.bipush 40, 2) := by decide +kernel
theorem dX7_joinTrace_99 : decode cX7_joinTrace 99 = .ok (.iadd, 1) := by decide +kernel
theorem dX7_joinTrace_100 : decode cX7_joinTrace 100 = .ok (.iconst 0, 1) := by decide +kernel
theorem dX7_joinTrace_101 : decode cX7_joinTrace 101 = .ok (.invokevirtual 137, 3) := by decide +kernel
theorem dX7_joinTrace_104 : decode cX7_joinTrace 104 = .ok (.aload_n 0, 1) := by decide +kernel
theorem dX7_joinTrace_105 : decode cX7_joinTrace 105 = .ok (.iload_n 3, 1) := by decide +kernel
theorem dX7_joinTrace_106 : decode cX7_joinTrace 106 = .ok (.iconst 1, 1) := by decide +kernel
theorem dX7_joinTrace_107 : decode cX7_joinTrace 107 = .ok (.invokevirtual 137, 3) := by decide +kernel
theorem dX7_joinTrace_110 : decode cX7_joinTrace 110 = .ok (.iinc 3 1, 3) := by decide +kernel
theorem dX7_joinTrace_113 : decode cX7_joinTrace 113 = .ok (.goto (-29), 3) := by decide +kernel
theorem dX7_joinTrace_116 : decode cX7_joinTrace 116 = .ok (.return_, 1) := by decide +kernel
theorem dX7_partTrace_0 : decode cX7_partTrace 0 = .ok (.aload_n 0, 1) := by decide +kernel
theorem dX7_partTrace_1 : decode cX7_partTrace 1 = .ok (.getfield 44, 3) := by decide +kernel
theorem dX7_partTrace_4 : decode cX7_partTrace 4 = .ok (.iload_n 1, 1) := by decide +kernel
theorem dX7_partTrace_5 : decode cX7_partTrace 5 = .ok (.iaload, 1) := by decide +kernel
theorem dX7_partTrace_6 : decode cX7_partTrace 6 = .ok (.istore_n 2, 1) := by decide +kernel
theorem dX7_partTrace_7 : decode cX7_partTrace 7 = .ok (.iload_n 2, 1) := by decide +kernel
theorem dX7_partTrace_8 : decode cX7_partTrace 8 = .ok (.iconst 5, 1) := by decide +kernel
theorem dX7_partTrace_9 : decode cX7_partTrace 9 = .ok (.if_icmp .ne 19, 3) := by decide +kernel
theorem dX7_partTrace_12 : decode cX7_partTrace 12 = .ok (.aload_n 0, 1) := by decide +kernel
theorem dX7_partTrace_13 : decode cX7_partTrace 13 = .ok (.getfield 47, 3) := by decide +kernel
theorem dX7_partTrace_16 : decode cX7_partTrace 16 = .ok (.iload_n 1, 1) := by decide +kernel
theorem dX7_partTrace_17 : decode cX7_partTrace 17 = .ok (.iaload, 1) := by decide +kernel
theorem dX7_partTrace_18 : decode cX7_partTrace 18 = .ok (.aload_n 0, 1) := by decide +kernel
theorem dX7_partTrace_19 : decode cX7_partTrace 19 = .ok (.getfield 50, 3) := by decide +kernel
theorem dX7_partTrace_22 : decode cX7_partTrace 22 = .ok (.iload_n 1, 1) := by decide +kernel
theorem dX7_partTrace_23 : decode cX7_partTrace 23 = .ok (.iaload, 1) := by decide +kernel
theorem dX7_partTrace_24 : decode cX7_partTrace 24 = .ok (.iadd, 1) := by decide +kernel
theorem dX7_partTrace_25 : decode cX7_partTrace 25 = .ok (.goto 9, 3) := by decide +kernel
theorem dX7_partTrace_28 : decode cX7_partTrace 28 = .ok (.aload_n 0, 1) := by decide +kernel
theorem dX7_partTrace_29 : decode cX7_partTrace 29 = .ok (.getfield 47, 3) := by decide +kernel
theorem dX7_partTrace_32 : decode cX7_partTrace 32 = .ok (.iload_n 1, 1) := by decide +kernel
theorem dX7_partTrace_33 : decode cX7_partTrace 33 = .ok (.iaload, 1) := by decide +kernel
theorem dX7_partTrace_34 : decode cX7_partTrace 34 = .ok (.istore_n 3, 1) := by decide +kernel
theorem dX7_partTrace_35 : decode cX7_partTrace 35 = .ok (.iload_n 2, 1) := by decide +kernel
theorem dX7_partTrace_36 : decode cX7_partTrace 36 = .ok (.iconst 4, 1) := by decide +kernel
theorem dX7_partTrace_37 : decode cX7_partTrace 37 = .ok (.if_icmp .ne 22, 3) := by decide +kernel
theorem dX7_partTrace_40 : decode cX7_partTrace 40 = .ok (.aload_n 0, 1) := by decide +kernel
theorem dX7_partTrace_41 : decode cX7_partTrace 41 = .ok (.iload_n 3, 1) := by decide +kernel
theorem dX7_partTrace_42 : decode cX7_partTrace 42 = .ok (.aload_n 0, 1) := by decide +kernel
theorem dX7_partTrace_43 : decode cX7_partTrace 43 = .ok (.getfield 50, 3) := by decide +kernel
theorem dX7_partTrace_46 : decode cX7_partTrace 46 = .ok (.iload_n 1, 1) := by decide +kernel
theorem dX7_partTrace_47 : decode cX7_partTrace 47 = .ok (.iaload, 1) := by decide +kernel
theorem dX7_partTrace_48 : decode cX7_partTrace 48 = .ok (.iadd, 1) := by decide +kernel
theorem dX7_partTrace_49 : decode cX7_partTrace 49 = .ok (.aload_n 0, 1) := by decide +kernel
theorem dX7_partTrace_50 : decode cX7_partTrace 50 = .ok (.getfield 53, 3) := by decide +kernel
theorem dX7_partTrace_53 : decode cX7_partTrace 53 = .ok (.iload_n 1, 1) := by decide +kernel
theorem dX7_partTrace_54 : decode cX7_partTrace 54 = .ok (.iaload, 1) := by decide +kernel
theorem dX7_partTrace_55 : decode cX7_partTrace 55 = .ok (.invokevirtual 165, 3) := by decide +kernel
theorem dX7_partTrace_58 : decode cX7_partTrace 58 = .ok (.return_, 1) := by decide +kernel
theorem dX7_partTrace_59 : decode cX7_partTrace 59 = .ok (.iload_n 2, 1) := by decide +kernel
theorem dX7_partTrace_60 : decode cX7_partTrace 60 = .ok (.iconst 2, 1) := by decide +kernel
theorem dX7_partTrace_61 : decode cX7_partTrace 61 = .ok (.if_icmp .eq 13, 3) := by decide +kernel
theorem dX7_partTrace_64 : decode cX7_partTrace 64 = .ok (.iload_n 2, 1) := by decide +kernel
theorem dX7_partTrace_65 : decode cX7_partTrace 65 = .ok (.iconst 3, 1) := by decide +kernel
theorem dX7_partTrace_66 : decode cX7_partTrace 66 = .ok (.if_icmp .eq 8, 3) := by decide +kernel
theorem dX7_partTrace_69 : decode cX7_partTrace 69 = .ok (.iload_n 2, 1) := by decide +kernel
theorem dX7_partTrace_70 : decode cX7_partTrace 70 = .ok (.iconst 5, 1) := by decide +kernel
theorem dX7_partTrace_71 : decode cX7_partTrace 71 = .ok (.if_icmp .ne 9, 3) := by decide +kernel
theorem dX7_partTrace_74 : decode cX7_partTrace 74 = .ok (.aload_n 0, 1) := by decide +kernel
theorem dX7_partTrace_75 : decode cX7_partTrace 75 = .ok (.iload_n 3, 1) := by decide +kernel
theorem dX7_partTrace_76 : decode cX7_partTrace 76 = .ok (.iconst 0, 1) := by decide +kernel
theorem dX7_partTrace_77 : decode cX7_partTrace 77 = .ok (.invokevirtual 159, 3) := by decide +kernel
theorem dX7_partTrace_80 : decode cX7_partTrace 80 = .ok (.aload_n 0, 1) := by decide +kernel
theorem dX7_partTrace_81 : decode cX7_partTrace 81 = .ok (.iload_n 3, 1) := by decide +kernel
theorem dX7_partTrace_82 : decode cX7_partTrace 82 = .ok (.iconst 0, 1) := by decide +kernel
theorem dX7_partTrace_83 : decode cX7_partTrace 83 = .ok (.iconst 0, 1) := by decide +kernel
theorem dX7_partTrace_84 : decode cX7_partTrace 84 = .ok (.invokevirtual 149, 3) := by decide +kernel
theorem dX7_partTrace_87 : decode cX7_partTrace 87 = .ok (.iload_n 2, 1) := by decide +kernel
theorem dX7_partTrace_88 : decode cX7_partTrace 88 = .ok (.iconst 3, 1) := by decide +kernel
theorem dX7_partTrace_89 : decode cX7_partTrace 89 = .ok (.if_icmp .ne 10, 3) := by decide +kernel
theorem dX7_partTrace_92 : decode cX7_partTrace 92 = .ok (.aload_n 0, 1) := by decide +kernel
theorem dX7_partTrace_93 : decode cX7_partTrace 93 = .ok (.iload_n 3, 1) := by decide +kernel
theorem dX7_partTrace_94 : decode cX7_partTrace 94 = .ok (.iconst 0, 1) := by decide +kernel
theorem dX7_partTrace_95 : decode cX7_partTrace 95 = .ok (.iconst 1, 1) := by decide +kernel
theorem dX7_partTrace_96 : decode cX7_partTrace 96 = .ok (.invokevirtual 149, 3) := by decide +kernel
theorem dX7_partTrace_99 : decode cX7_partTrace 99 = .ok (.iload_n 2, 1) := by decide +kernel
theorem dX7_partTrace_100 : decode cX7_partTrace 100 = .ok (.iconst 1, 1) := by decide +kernel
theorem dX7_partTrace_101 : decode cX7_partTrace 101 = .ok (.if_icmp .eq 9, 3) := by decide +kernel
theorem dX7_partTrace_104 : decode cX7_partTrace 104 = .ok (.aload_n 0, 1) := by decide +kernel
theorem dX7_partTrace_105 : decode cX7_partTrace 105 = .ok (.iload_n 3, 1) := by decide +kernel
theorem dX7_partTrace_106 : decode cX7_partTrace 106 = .ok (.iconst 0, 1) := by decide +kernel
theorem dX7_partTrace_107 : decode cX7_partTrace 107 = .ok (.invokevirtual 153, 3) := by decide +kernel
theorem dX7_partTrace_110 : decode cX7_partTrace 110 = .ok (.return_, 1) := by decide +kernel
theorem dX7_write_0 : decode cX7_write 0 = .ok (.aload_n 0, 1) := by decide +kernel
theorem dX7_write_1 : decode cX7_write 1 = .ok (.iload_n 1, 1) := by decide +kernel
theorem dX7_write_2 : decode cX7_write 2 = .ok (.putfield 131, 3) := by decide +kernel
theorem dX7_write_5 : decode cX7_write 5 = .ok (.aload_n 0, 1) := by decide +kernel
theorem dX7_write_6 : decode cX7_write 6 = .ok (.iconst 0, 1) := by decide +kernel
theorem dX7_write_7 : decode cX7_write 7 = .ok (.putfield 128, 3) := by decide +kernel
theorem dX7_write_10 : decode cX7_write 10 = .ok (.aload_n 0, 1) := by decide +kernel
theorem dX7_write_11 : decode cX7_write 11 = .ok (.iconst (-1), 1) := by decide +kernel
theorem dX7_write_12 : decode cX7_write 12 = .ok (.putfield 134, 3) := by decide +kernel
theorem dX7_write_15 : decode cX7_write 15 = .ok (.iconst 0, 1) := by decide +kernel
theorem dX7_write_16 : decode cX7_write 16 = .ok (.istore_n 2, 1) := by decide +kernel
theorem dX7_write_17 : decode cX7_write 17 = .ok (.iload_n 2, 1) := by decide +kernel
theorem dX7_write_18 : decode cX7_write 18 = .ok (.aload_n 0, 1) := by decide +kernel
theorem dX7_write_19 : decode cX7_write 19 = .ok (.getfield 99, 3) := by decide +kernel
theorem dX7_write_22 : decode cX7_write 22 = .ok (.if_icmp .ge 14, 3) := by decide +kernel
theorem dX7_write_25 : decode cX7_write 25 = .ok (.aload_n 0, 1) := by decide +kernel
theorem dX7_write_26 : decode cX7_write 26 = .ok (.iload_n 2, 1) := by decide +kernel
theorem dX7_write_27 : decode cX7_write 27 = .ok (.invokevirtual 168, 3) := by decide +kernel
theorem dX7_write_30 : decode cX7_write 30 = .ok (.iinc 2 1, 3) := by decide +kernel
theorem dX7_write_33 : decode cX7_write 33 = .ok (.goto (-16), 3) := by decide +kernel
theorem dX7_write_36 : decode cX7_write 36 = .ok (.aload_n 0, 1) := by decide +kernel
theorem dX7_write_37 : decode cX7_write 37 = .ok (.aload_n 0, 1) := by decide +kernel
theorem dX7_write_38 : decode cX7_write 38 = .ok (.getfield 108, 3) := by decide +kernel
theorem dX7_write_41 : decode cX7_write 41 = .ok (.iconst 0, 1) := by decide +kernel
theorem dX7_write_42 : decode cX7_write 42 = .ok (.invokevirtual 159, 3) := by decide +kernel
theorem dX7_write_45 : decode cX7_write 45 = .ok (.return_, 1) := by decide +kernel
theorem dX7_cell_0 : decode cX7_cell 0 = .ok (.iload_n 1, 1) := by decide +kernel
theorem dX7_cell_1 : decode cX7_cell 1 = .ok (.iconst 0, 1) := by decide +kernel
theorem dX7_cell_2 : decode cX7_cell 2 = .ok (.aload_n 0, 1) := by decide +kernel
theorem dX7_cell_3 : decode cX7_cell 3 = .ok (.getfield 102, 3) := by decide +kernel
theorem dX7_cell_6 : decode cX7_cell 6 = .ok (.iconst 1, 1) := by decide +kernel
theorem dX7_cell_7 : decode cX7_cell 7 = .ok (.isub, 1) := by decide +kernel
theorem dX7_cell_8 : decode cX7_cell 8 = .ok (.invokestatic 56, 3) := by decide +kernel
theorem dX7_cell_11 : decode cX7_cell 11 = .ok (.ifCond .ne 12, 3) := by decide +kernel
theorem dX7_cell_14 : decode cX7_cell 14 = .ok (.iload_n 2, 1) := by decide +kernel
theorem dX7_cell_15 : decode cX7_cell 15 = .ok (.iconst 0, 1) := by decide +kernel
theorem dX7_cell_16 : decode cX7_cell 16 = .ok (.iconst 2, 1) := by decide +kernel
theorem dX7_cell_17 : decode cX7_cell 17 = .ok (.invokestatic 56, 3) := by decide +kernel
theorem dX7_cell_20 : decode cX7_cell 20 = .ok (.ifCond .eq 7, 3) := by decide +kernel
theorem dX7_cell_23 : decode cX7_cell 23 = .ok (.iconst 0, 1) := by decide +kernel
theorem dX7_cell_24 : decode cX7_cell 24 = .ok (.goto 13, 3) := by decide +kernel
theorem dX7_cell_27 : decode cX7_cell 27 = .ok (.aload_n 0, 1) := by decide +kernel
theorem dX7_cell_28 : decode cX7_cell 28 = .ok (.getfield 41, 3) := by decide +kernel
theorem dX7_cell_31 : decode cX7_cell 31 = .ok (.iconst 3, 1) := by decide +kernel
theorem dX7_cell_32 : decode cX7_cell 32 = .ok (.iload_n 1, 1) := by decide +kernel
theorem dX7_cell_33 : decode cX7_cell 33 = .ok (.imul, 1) := by decide +kernel
theorem dX7_cell_34 : decode cX7_cell 34 = .ok (.iload_n 2, 1) := by decide +kernel
theorem dX7_cell_35 : decode cX7_cell 35 = .ok (.iadd, 1) := by decide +kernel
theorem dX7_cell_36 : decode cX7_cell 36 = .ok (.iaload, 1) := by decide +kernel
theorem dX7_cell_37 : decode cX7_cell 37 = .ok (.ireturn, 1) := by decide +kernel
theorem dX7_length_0 : decode cX7_length 0 = .ok (.aload_n 0, 1) := by decide +kernel
theorem dX7_length_1 : decode cX7_length 1 = .ok (.iconst (-1), 1) := by decide +kernel
theorem dX7_length_2 : decode cX7_length 2 = .ok (.invokevirtual 171, 3) := by decide +kernel
theorem dX7_length_5 : decode cX7_length 5 = .ok (.aload_n 0, 1) := by decide +kernel
theorem dX7_length_6 : decode cX7_length 6 = .ok (.getfield 128, 3) := by decide +kernel
theorem dX7_length_9 : decode cX7_length 9 = .ok (.ireturn, 1) := by decide +kernel
theorem dX7_access_0 : decode cX7_access 0 = .ok (.aload_n 0, 1) := by decide +kernel
theorem dX7_access_1 : decode cX7_access 1 = .ok (.iload_n 1, 1) := by decide +kernel
theorem dX7_access_2 : decode cX7_access 2 = .ok (.invokevirtual 171, 3) := by decide +kernel
theorem dX7_access_5 : decode cX7_access 5 = .ok (.aload_n 0, 1) := by decide +kernel
theorem dX7_access_6 : decode cX7_access 6 = .ok (.getfield 134, 3) := by decide +kernel
theorem dX7_access_9 : decode cX7_access 9 = .ok (.ireturn, 1) := by decide +kernel
