/-! Decode rows; printed by program. -/
theorem dX0_init_0 : decode cX0_init 0 = .ok (.aload_n 0, 1) := by decide +kernel
theorem dX0_init_1 : decode cX0_init 1 = .ok (.invokespecial 1, 3) := by decide +kernel
theorem dX0_init_4 : decode cX0_init 4 = .ok (.aload_n 0, 1) := by decide +kernel
theorem dX0_init_5 : decode cX0_init 5 = .ok (.iconst 0, 1) := by decide +kernel
theorem dX0_init_6 : decode cX0_init 6 = .ok (.putfield 7, 3) := by decide +kernel
theorem dX0_init_9 : decode cX0_init 9 = .ok (.aload_n 0, 1) := by decide +kernel
theorem dX0_init_10 : decode cX0_init 10 = .ok (.iload_n 1, 1) := by decide +kernel
theorem dX0_init_11 : decode cX0_init 11 = .ok (.newarray .int, 2) := by decide +kernel
theorem dX0_init_13 : decode cX0_init 13 = .ok (.putfield 13, 3) := by decide +kernel
theorem dX0_init_16 : decode cX0_init 16 = .ok (.aload_n 0, 1) := by decide +kernel
theorem dX0_init_17 : decode cX0_init 17 = .ok (.iload_n 1, 1) := by decide +kernel
theorem dX0_init_18 : decode cX0_init 18 = .ok (.newarray .int, 2) := by decide +kernel
theorem dX0_init_20 : decode cX0_init 20 = .ok (.putfield 17, 3) := by decide +kernel
theorem dX0_init_23 : decode cX0_init 23 = .ok (.aload_n 0, 1) := by decide +kernel
theorem dX0_init_24 : decode cX0_init 24 = .ok (.iload_n 1, 1) := by decide +kernel
theorem dX0_init_25 : decode cX0_init 25 = .ok (.newarray .int, 2) := by decide +kernel
theorem dX0_init_27 : decode cX0_init 27 = .ok (.putfield 20, 3) := by decide +kernel
theorem dX0_init_30 : decode cX0_init 30 = .ok (.return_, 1) := by decide +kernel
theorem dX0_hold_0 : decode cX0_hold 0 = .ok (.aload_n 0, 1) := by decide +kernel
theorem dX0_hold_1 : decode cX0_hold 1 = .ok (.getfield 7, 3) := by decide +kernel
theorem dX0_hold_4 : decode cX0_hold 4 = .ok (.aload_n 0, 1) := by decide +kernel
theorem dX0_hold_5 : decode cX0_hold 5 = .ok (.getfield 13, 3) := by decide +kernel
theorem dX0_hold_8 : decode cX0_hold 8 = .ok (.arraylength, 1) := by decide +kernel
theorem dX0_hold_9 : decode cX0_hold 9 = .ok (.if_icmp .lt 5, 3) := by decide +kernel
theorem dX0_hold_12 : decode cX0_hold 12 = .ok (.iconst 0, 1) := by decide +kernel
theorem dX0_hold_13 : decode cX0_hold 13 = .ok (.ireturn, 1) := by decide +kernel
theorem dX0_hold_14 : decode cX0_hold 14 = .ok (.aload_n 0, 1) := by decide +kernel
theorem dX0_hold_15 : decode cX0_hold 15 = .ok (.getfield 13, 3) := by decide +kernel
theorem dX0_hold_18 : decode cX0_hold 18 = .ok (.aload_n 0, 1) := by decide +kernel
theorem dX0_hold_19 : decode cX0_hold 19 = .ok (.getfield 7, 3) := by decide +kernel
theorem dX0_hold_22 : decode cX0_hold 22 = .ok (.iload_n 1, 1) := by decide +kernel
theorem dX0_hold_23 : decode cX0_hold 23 = .ok (.iastore, 1) := by decide +kernel
theorem dX0_hold_24 : decode cX0_hold 24 = .ok (.aload_n 0, 1) := by decide +kernel
theorem dX0_hold_25 : decode cX0_hold 25 = .ok (.getfield 17, 3) := by decide +kernel
theorem dX0_hold_28 : decode cX0_hold 28 = .ok (.aload_n 0, 1) := by decide +kernel
theorem dX0_hold_29 : decode cX0_hold 29 = .ok (.getfield 7, 3) := by decide +kernel
theorem dX0_hold_32 : decode cX0_hold 32 = .ok (.iload_n 2, 1) := by decide +kernel
theorem dX0_hold_33 : decode cX0_hold 33 = .ok (.iastore, 1) := by decide +kernel
theorem dX0_hold_34 : decode cX0_hold 34 = .ok (.aload_n 0, 1) := by decide +kernel
theorem dX0_hold_35 : decode cX0_hold 35 = .ok (.getfield 20, 3) := by decide +kernel
theorem dX0_hold_38 : decode cX0_hold 38 = .ok (.aload_n 0, 1) := by decide +kernel
theorem dX0_hold_39 : decode cX0_hold 39 = .ok (.getfield 7, 3) := by decide +kernel
theorem dX0_hold_42 : decode cX0_hold 42 = .ok (.iload_n 3, 1) := by decide +kernel
theorem dX0_hold_43 : decode cX0_hold 43 = .ok (.iastore, 1) := by decide +kernel
theorem dX0_hold_44 : decode cX0_hold 44 = .ok (.aload_n 0, 1) := by decide +kernel
theorem dX0_hold_45 : decode cX0_hold 45 = .ok (.dup, 1) := by decide +kernel
theorem dX0_hold_46 : decode cX0_hold 46 = .ok (.getfield 7, 3) := by decide +kernel
theorem dX0_hold_49 : decode cX0_hold 49 = .ok (.iconst 1, 1) := by decide +kernel
theorem dX0_hold_50 : decode cX0_hold 50 = .ok (.iadd, 1) := by decide +kernel
theorem dX0_hold_51 : decode cX0_hold 51 = .ok (.putfield 7, 3) := by decide +kernel
theorem dX0_hold_54 : decode cX0_hold 54 = .ok (.iconst 1, 1) := by decide +kernel
theorem dX0_hold_55 : decode cX0_hold 55 = .ok (.ireturn, 1) := by decide +kernel
theorem dX0_clear_0 : decode cX0_clear 0 = .ok (.aload_n 0, 1) := by decide +kernel
theorem dX0_clear_1 : decode cX0_clear 1 = .ok (.iconst 0, 1) := by decide +kernel
theorem dX0_clear_2 : decode cX0_clear 2 = .ok (.putfield 7, 3) := by decide +kernel
theorem dX0_clear_5 : decode cX0_clear 5 = .ok (.return_, 1) := by decide +kernel
theorem dX0_become_0 : decode cX0_become 0 = .ok (.aload_n 0, 1) := by decide +kernel
theorem dX0_become_1 : decode cX0_become 1 = .ok (.invokevirtual 23, 3) := by decide +kernel
theorem dX0_become_4 : decode cX0_become 4 = .ok (.iconst 0, 1) := by decide +kernel
theorem dX0_become_5 : decode cX0_become 5 = .ok (.istore_n 2, 1) := by decide +kernel
theorem dX0_become_6 : decode cX0_become 6 = .ok (.iload_n 2, 1) := by decide +kernel
theorem dX0_become_7 : decode cX0_become 7 = .ok (.aload_n 1, 1) := by decide +kernel
theorem dX0_become_8 : decode cX0_become 8 = .ok (.getfield 7, 3) := by decide +kernel
theorem dX0_become_11 : decode cX0_become 11 = .ok (.if_icmp .ge 32, 3) := by decide +kernel
theorem dX0_become_14 : decode cX0_become 14 = .ok (.aload_n 0, 1) := by decide +kernel
theorem dX0_become_15 : decode cX0_become 15 = .ok (.aload_n 1, 1) := by decide +kernel
theorem dX0_become_16 : decode cX0_become 16 = .ok (.getfield 13, 3) := by decide +kernel
theorem dX0_become_19 : decode cX0_become 19 = .ok (.iload_n 2, 1) := by decide +kernel
theorem dX0_become_20 : decode cX0_become 20 = .ok (.iaload, 1) := by decide +kernel
theorem dX0_become_21 : decode cX0_become 21 = .ok (.aload_n 1, 1) := by decide +kernel
theorem dX0_become_22 : decode cX0_become 22 = .ok (.getfield 17, 3) := by decide +kernel
theorem dX0_become_25 : decode cX0_become 25 = .ok (.iload_n 2, 1) := by decide +kernel
theorem dX0_become_26 : decode cX0_become 26 = .ok (.iaload, 1) := by decide +kernel
theorem dX0_become_27 : decode cX0_become 27 = .ok (.aload_n 1, 1) := by decide +kernel
theorem dX0_become_28 : decode cX0_become 28 = .ok (.getfield 20, 3) := by decide +kernel
theorem dX0_become_31 : decode cX0_become 31 = .ok (.iload_n 2, 1) := by decide +kernel
theorem dX0_become_32 : decode cX0_become 32 = .ok (.iaload, 1) := by decide +kernel
theorem dX0_become_33 : decode cX0_become 33 = .ok (.invokevirtual 26, 3) := by decide +kernel
theorem dX0_become_36 : decode cX0_become 36 = .ok (.pop, 1) := by decide +kernel
theorem dX0_become_37 : decode cX0_become 37 = .ok (.iinc 2 1, 3) := by decide +kernel
theorem dX0_become_40 : decode cX0_become 40 = .ok (.goto (-34), 3) := by decide +kernel
theorem dX0_become_43 : decode cX0_become 43 = .ok (.return_, 1) := by decide +kernel
theorem dX0_column_0 : decode cX0_column 0 = .ok (.iload_n 1, 1) := by decide +kernel
theorem dX0_column_1 : decode cX0_column 1 = .ok (.ifCond .lt 11, 3) := by decide +kernel
theorem dX0_column_4 : decode cX0_column 4 = .ok (.iload_n 1, 1) := by decide +kernel
theorem dX0_column_5 : decode cX0_column 5 = .ok (.aload_n 0, 1) := by decide +kernel
theorem dX0_column_6 : decode cX0_column 6 = .ok (.getfield 7, 3) := by decide +kernel
theorem dX0_column_9 : decode cX0_column 9 = .ok (.if_icmp .lt 5, 3) := by decide +kernel
theorem dX0_column_12 : decode cX0_column 12 = .ok (.iconst 0, 1) := by decide +kernel
theorem dX0_column_13 : decode cX0_column 13 = .ok (.ireturn, 1) := by decide +kernel
theorem dX0_column_14 : decode cX0_column 14 = .ok (.iload_n 2, 1) := by decide +kernel
theorem dX0_column_15 : decode cX0_column 15 = .ok (.ifCond .ne 12, 3) := by decide +kernel
theorem dX0_column_18 : decode cX0_column 18 = .ok (.aload_n 0, 1) := by decide +kernel
theorem dX0_column_19 : decode cX0_column 19 = .ok (.getfield 13, 3) := by decide +kernel
theorem dX0_column_22 : decode cX0_column 22 = .ok (.iload_n 1, 1) := by decide +kernel
theorem dX0_column_23 : decode cX0_column 23 = .ok (.iaload, 1) := by decide +kernel
theorem dX0_column_24 : decode cX0_column 24 = .ok (.goto 23, 3) := by decide +kernel
theorem dX0_column_27 : decode cX0_column 27 = .ok (.iload_n 2, 1) := by decide +kernel
theorem dX0_column_28 : decode cX0_column 28 = .ok (.iconst 1, 1) := by decide +kernel
theorem dX0_column_29 : decode cX0_column 29 = .ok (.if_icmp .ne 12, 3) := by decide +kernel
theorem dX0_column_32 : decode cX0_column 32 = .ok (.aload_n 0, 1) := by decide +kernel
theorem dX0_column_33 : decode cX0_column 33 = .ok (.getfield 17, 3) := by decide +kernel
theorem dX0_column_36 : decode cX0_column 36 = .ok (.iload_n 1, 1) := by decide +kernel
theorem dX0_column_37 : decode cX0_column 37 = .ok (.iaload, 1) := by decide +kernel
theorem dX0_column_38 : decode cX0_column 38 = .ok (.goto 9, 3) := by decide +kernel
theorem dX0_column_41 : decode cX0_column 41 = .ok (.aload_n 0, 1) := by decide +kernel
theorem dX0_column_42 : decode cX0_column 42 = .ok (.getfield 20, 3) := by decide +kernel
theorem dX0_column_45 : decode cX0_column 45 = .ok (.iload_n 1, 1) := by decide +kernel
theorem dX0_column_46 : decode cX0_column 46 = .ok (.iaload, 1) := by decide +kernel
theorem dX0_column_47 : decode cX0_column 47 = .ok (.ireturn, 1) := by decide +kernel
theorem dX0_total_0 : decode cX0_total 0 = .ok (.iconst 0, 1) := by decide +kernel
theorem dX0_total_1 : decode cX0_total 1 = .ok (.istore_n 1, 1) := by decide +kernel
theorem dX0_total_2 : decode cX0_total 2 = .ok (.iconst 0, 1) := by decide +kernel
theorem dX0_total_3 : decode cX0_total 3 = .ok (.istore_n 2, 1) := by decide +kernel
theorem dX0_total_4 : decode cX0_total 4 = .ok (.iload_n 2, 1) := by decide +kernel
theorem dX0_total_5 : decode cX0_total 5 = .ok (.aload_n 0, 1) := by decide +kernel
theorem dX0_total_6 : decode cX0_total 6 = .ok (.getfield 7, 3) := by decide +kernel
theorem dX0_total_9 : decode cX0_total 9 = .ok (.if_icmp .ge 38, 3) := by decide +kernel
theorem dX0_total_12 : decode cX0_total 12 = .ok (.iload_n 1, 1) := by decide +kernel
theorem dX0_total_13 : decode cX0_total 13 = .ok (.bipush 31, 2) := by decide +kernel
theorem dX0_total_15 : decode cX0_total 15 = .ok (.bipush 31, 2) := by decide +kernel
theorem dX0_total_17 : decode cX0_total 17 = .ok (.aload_n 0, 1) := by decide +kernel
theorem dX0_total_18 : decode cX0_total 18 = .ok (.getfield 13, 3) := by decide +kernel
theorem dX0_total_21 : decode cX0_total 21 = .ok (.iload_n 2, 1) := by decide +kernel
theorem dX0_total_22 : decode cX0_total 22 = .ok (.iaload, 1) := by decide +kernel
theorem dX0_total_23 : decode cX0_total 23 = .ok (.imul, 1) := by decide +kernel
theorem dX0_total_24 : decode cX0_total 24 = .ok (.aload_n 0, 1) := by decide +kernel
theorem dX0_total_25 : decode cX0_total 25 = .ok (.getfield 17, 3) := by decide +kernel
theorem dX0_total_28 : decode cX0_total 28 = .ok (.iload_n 2, 1) := by decide +kernel
theorem dX0_total_29 : decode cX0_total 29 = .ok (.iaload, 1) := by decide +kernel
theorem dX0_total_30 : decode cX0_total 30 = .ok (.iadd, 1) := by decide +kernel
theorem dX0_total_31 : decode cX0_total 31 = .ok (.imul, 1) := by decide +kernel
theorem dX0_total_32 : decode cX0_total 32 = .ok (.aload_n 0, 1) := by decide +kernel
theorem dX0_total_33 : decode cX0_total 33 = .ok (.getfield 20, 3) := by decide +kernel
theorem dX0_total_36 : decode cX0_total 36 = .ok (.iload_n 2, 1) := by decide +kernel
theorem dX0_total_37 : decode cX0_total 37 = .ok (.iaload, 1) := by decide +kernel
theorem dX0_total_38 : decode cX0_total 38 = .ok (.iadd, 1) := by decide +kernel
theorem dX0_total_39 : decode cX0_total 39 = .ok (.iadd, 1) := by decide +kernel
theorem dX0_total_40 : decode cX0_total 40 = .ok (.istore_n 1, 1) := by decide +kernel
theorem dX0_total_41 : decode cX0_total 41 = .ok (.iinc 2 1, 3) := by decide +kernel
theorem dX0_total_44 : decode cX0_total 44 = .ok (.goto (-40), 3) := by decide +kernel
theorem dX0_total_47 : decode cX0_total 47 = .ok (.iload_n 1, 1) := by decide +kernel
theorem dX0_total_48 : decode cX0_total 48 = .ok (.ireturn, 1) := by decide +kernel
theorem dX3_init_0 : decode cX3_init 0 = .ok (.aload_n 0, 1) := by decide +kernel
theorem dX3_init_1 : decode cX3_init 1 = .ok (.invokespecial 1, 3) := by decide +kernel
theorem dX3_init_4 : decode cX3_init 4 = .ok (.return_, 1) := by decide +kernel
theorem dX3_setColumns_0 : decode cX3_setColumns 0 = .ok (.aload_n 0, 1) := by decide +kernel
theorem dX3_setColumns_1 : decode cX3_setColumns 1 = .ok (.iload_n 1, 1) := by decide +kernel
theorem dX3_setColumns_2 : decode cX3_setColumns 2 = .ok (.putfield 7, 3) := by decide +kernel
theorem dX3_setColumns_5 : decode cX3_setColumns 5 = .ok (.aload_n 0, 1) := by decide +kernel
theorem dX3_setColumns_6 : decode cX3_setColumns 6 = .ok (.iload_n 2, 1) := by decide +kernel
theorem dX3_setColumns_7 : decode cX3_setColumns 7 = .ok (.putfield 13, 3) := by decide +kernel
theorem dX3_setColumns_10 : decode cX3_setColumns 10 = .ok (.aload_n 0, 1) := by decide +kernel
theorem dX3_setColumns_11 : decode cX3_setColumns 11 = .ok (.iload_n 3, 1) := by decide +kernel
theorem dX3_setColumns_12 : decode cX3_setColumns 12 = .ok (.putfield 16, 3) := by decide +kernel
theorem dX3_setColumns_15 : decode cX3_setColumns 15 = .ok (.return_, 1) := by decide +kernel
theorem dX3_column_0 : decode cX3_column 0 = .ok (.iload_n 1, 1) := by decide +kernel
theorem dX3_column_1 : decode cX3_column 1 = .ok (.ifCond .ne 10, 3) := by decide +kernel
theorem dX3_column_4 : decode cX3_column 4 = .ok (.aload_n 0, 1) := by decide +kernel
theorem dX3_column_5 : decode cX3_column 5 = .ok (.getfield 7, 3) := by decide +kernel
theorem dX3_column_8 : decode cX3_column 8 = .ok (.goto 19, 3) := by decide +kernel
theorem dX3_column_11 : decode cX3_column 11 = .ok (.iload_n 1, 1) := by decide +kernel
theorem dX3_column_12 : decode cX3_column 12 = .ok (.iconst 1, 1) := by decide +kernel
theorem dX3_column_13 : decode cX3_column 13 = .ok (.if_icmp .ne 10, 3) := by decide +kernel
theorem dX3_column_16 : decode cX3_column 16 = .ok (.aload_n 0, 1) := by decide +kernel
theorem dX3_column_17 : decode cX3_column 17 = .ok (.getfield 13, 3) := by decide +kernel
theorem dX3_column_20 : decode cX3_column 20 = .ok (.goto 7, 3) := by decide +kernel
theorem dX3_column_23 : decode cX3_column 23 = .ok (.aload_n 0, 1) := by decide +kernel
theorem dX3_column_24 : decode cX3_column 24 = .ok (.getfield 16, 3) := by decide +kernel
theorem dX3_column_27 : decode cX3_column 27 = .ok (.ireturn, 1) := by decide +kernel
theorem dX3_sameColumns_0 : decode cX3_sameColumns 0 = .ok (.aload_n 0, 1) := by decide +kernel
theorem dX3_sameColumns_1 : decode cX3_sameColumns 1 = .ok (.getfield 7, 3) := by decide +kernel
theorem dX3_sameColumns_4 : decode cX3_sameColumns 4 = .ok (.aload_n 1, 1) := by decide +kernel
theorem dX3_sameColumns_5 : decode cX3_sameColumns 5 = .ok (.getfield 7, 3) := by decide +kernel
theorem dX3_sameColumns_8 : decode cX3_sameColumns 8 = .ok (.if_icmp .ne 29, 3) := by decide +kernel
theorem dX3_sameColumns_11 : decode cX3_sameColumns 11 = .ok (.aload_n 0, 1) := by decide +kernel
theorem dX3_sameColumns_12 : decode cX3_sameColumns 12 = .ok (.getfield 13, 3) := by decide +kernel
theorem dX3_sameColumns_15 : decode cX3_sameColumns 15 = .ok (.aload_n 1, 1) := by decide +kernel
theorem dX3_sameColumns_16 : decode cX3_sameColumns 16 = .ok (.getfield 13, 3) := by decide +kernel
theorem dX3_sameColumns_19 : decode cX3_sameColumns 19 = .ok (.if_icmp .ne 18, 3) := by decide +kernel
theorem dX3_sameColumns_22 : decode cX3_sameColumns 22 = .ok (.aload_n 0, 1) := by decide +kernel
theorem dX3_sameColumns_23 : decode cX3_sameColumns 23 = .ok (.getfield 16, 3) := by decide +kernel
theorem dX3_sameColumns_26 : decode cX3_sameColumns 26 = .ok (.aload_n 1, 1) := by decide +kernel
theorem dX3_sameColumns_27 : decode cX3_sameColumns 27 = .ok (.getfield 16, 3) := by decide +kernel
theorem dX3_sameColumns_30 : decode cX3_sameColumns 30 = .ok (.if_icmp .ne 7, 3) := by decide +kernel
theorem dX3_sameColumns_33 : decode cX3_sameColumns 33 = .ok (.iconst 1, 1) := by decide +kernel
theorem dX3_sameColumns_34 : decode cX3_sameColumns 34 = .ok (.goto 4, 3) := by decide +kernel
theorem dX3_sameColumns_37 : decode cX3_sameColumns 37 = .ok (.iconst 0, 1) := by decide +kernel
theorem dX3_sameColumns_38 : decode cX3_sameColumns 38 = .ok (.ireturn, 1) := by decide +kernel
theorem dX3_sortBy_0 : decode cX3_sortBy 0 = .ok (.aload_n 0, 1) := by decide +kernel
theorem dX3_sortBy_1 : decode cX3_sortBy 1 = .ok (.iload_n 1, 1) := by decide +kernel
theorem dX3_sortBy_2 : decode cX3_sortBy 2 = .ok (.putfield 19, 3) := by decide +kernel
theorem dX3_sortBy_5 : decode cX3_sortBy 5 = .ok (.aload_n 0, 1) := by decide +kernel
theorem dX3_sortBy_6 : decode cX3_sortBy 6 = .ok (.iload_n 2, 1) := by decide +kernel
theorem dX3_sortBy_7 : decode cX3_sortBy 7 = .ok (.putfield 22, 3) := by decide +kernel
theorem dX3_sortBy_10 : decode cX3_sortBy 10 = .ok (.aload_n 0, 1) := by decide +kernel
theorem dX3_sortBy_11 : decode cX3_sortBy 11 = .ok (.iload_n 3, 1) := by decide +kernel
theorem dX3_sortBy_12 : decode cX3_sortBy 12 = .ok (.putfield 25, 3) := by decide +kernel
theorem dX3_sortBy_15 : decode cX3_sortBy 15 = .ok (.return_, 1) := by decide +kernel
theorem dX3_isBehind_0 : decode cX3_isBehind 0 = .ok (.aload_n 0, 1) := by decide +kernel
theorem dX3_isBehind_1 : decode cX3_isBehind 1 = .ok (.getfield 19, 3) := by decide +kernel
theorem dX3_isBehind_4 : decode cX3_isBehind 4 = .ok (.aload_n 1, 1) := by decide +kernel
theorem dX3_isBehind_5 : decode cX3_isBehind 5 = .ok (.getfield 19, 3) := by decide +kernel
theorem dX3_isBehind_8 : decode cX3_isBehind 8 = .ok (.if_icmp .eq 20, 3) := by decide +kernel
theorem dX3_isBehind_11 : decode cX3_isBehind 11 = .ok (.aload_n 0, 1) := by decide +kernel
theorem dX3_isBehind_12 : decode cX3_isBehind 12 = .ok (.getfield 19, 3) := by decide +kernel
theorem dX3_isBehind_15 : decode cX3_isBehind 15 = .ok (.aload_n 1, 1) := by decide +kernel
theorem dX3_isBehind_16 : decode cX3_isBehind 16 = .ok (.getfield 19, 3) := by decide +kernel
theorem dX3_isBehind_19 : decode cX3_isBehind 19 = .ok (.if_icmp .le 7, 3) := by decide +kernel
theorem dX3_isBehind_22 : decode cX3_isBehind 22 = .ok (.iconst 1, 1) := by decide +kernel
theorem dX3_isBehind_23 : decode cX3_isBehind 23 = .ok (.goto 4, 3) := by decide +kernel
theorem dX3_isBehind_26 : decode cX3_isBehind 26 = .ok (.iconst 0, 1) := by decide +kernel
theorem dX3_isBehind_27 : decode cX3_isBehind 27 = .ok (.ireturn, 1) := by decide +kernel
theorem dX3_isBehind_28 : decode cX3_isBehind 28 = .ok (.aload_n 0, 1) := by decide +kernel
theorem dX3_isBehind_29 : decode cX3_isBehind 29 = .ok (.getfield 22, 3) := by decide +kernel
theorem dX3_isBehind_32 : decode cX3_isBehind 32 = .ok (.aload_n 1, 1) := by decide +kernel
theorem dX3_isBehind_33 : decode cX3_isBehind 33 = .ok (.getfield 22, 3) := by decide +kernel
theorem dX3_isBehind_36 : decode cX3_isBehind 36 = .ok (.if_icmp .eq 20, 3) := by decide +kernel
theorem dX3_isBehind_39 : decode cX3_isBehind 39 = .ok (.aload_n 0, 1) := by decide +kernel
theorem dX3_isBehind_40 : decode cX3_isBehind 40 = .ok (.getfield 22, 3) := by decide +kernel
theorem dX3_isBehind_43 : decode cX3_isBehind 43 = .ok (.aload_n 1, 1) := by decide +kernel
theorem dX3_isBehind_44 : decode cX3_isBehind 44 = .ok (.getfield 22, 3) := by decide +kernel
theorem dX3_isBehind_47 : decode cX3_isBehind 47 = .ok (.if_icmp .le 7, 3) := by decide +kernel
theorem dX3_isBehind_50 : decode cX3_isBehind 50 = .ok (.iconst 1, 1) := by decide +kernel
theorem dX3_isBehind_51 : decode cX3_isBehind 51 = .ok (.goto 4, 3) := by decide +kernel
theorem dX3_isBehind_54 : decode cX3_isBehind 54 = .ok (.iconst 0, 1) := by decide +kernel
theorem dX3_isBehind_55 : decode cX3_isBehind 55 = .ok (.ireturn, 1) := by decide +kernel
theorem dX3_isBehind_56 : decode cX3_isBehind 56 = .ok (.aload_n 0, 1) := by decide +kernel
theorem dX3_isBehind_57 : decode cX3_isBehind 57 = .ok (.getfield 25, 3) := by decide +kernel
theorem dX3_isBehind_60 : decode cX3_isBehind 60 = .ok (.aload_n 1, 1) := by decide +kernel
theorem dX3_isBehind_61 : decode cX3_isBehind 61 = .ok (.getfield 25, 3) := by decide +kernel
theorem dX3_isBehind_64 : decode cX3_isBehind 64 = .ok (.if_icmp .le 7, 3) := by decide +kernel
theorem dX3_isBehind_67 : decode cX3_isBehind 67 = .ok (.iconst 1, 1) := by decide +kernel
theorem dX3_isBehind_68 : decode cX3_isBehind 68 = .ok (.goto 4, 3) := by decide +kernel
theorem dX3_isBehind_71 : decode cX3_isBehind 71 = .ok (.iconst 0, 1) := by decide +kernel
theorem dX3_isBehind_72 : decode cX3_isBehind 72 = .ok (.ireturn, 1) := by decide +kernel
theorem dX3_keep_0 : decode cX3_keep 0 = .ok (.aload_n 0, 1) := by decide +kernel
theorem dX3_keep_1 : decode cX3_keep 1 = .ok (.iconst 1, 1) := by decide +kernel
theorem dX3_keep_2 : decode cX3_keep 2 = .ok (.putfield 28, 3) := by decide +kernel
theorem dX3_keep_5 : decode cX3_keep 5 = .ok (.aload_n 0, 1) := by decide +kernel
theorem dX3_keep_6 : decode cX3_keep 6 = .ok (.iload_n 1, 1) := by decide +kernel
theorem dX3_keep_7 : decode cX3_keep 7 = .ok (.iload_n 2, 1) := by decide +kernel
theorem dX3_keep_8 : decode cX3_keep 8 = .ok (.isub, 1) := by decide +kernel
theorem dX3_keep_9 : decode cX3_keep 9 = .ok (.putfield 32, 3) := by decide +kernel
theorem dX3_keep_12 : decode cX3_keep 12 = .ok (.aload_n 0, 1) := by decide +kernel
theorem dX3_keep_13 : decode cX3_keep 13 = .ok (.iconst 0, 1) := by decide +kernel
theorem dX3_keep_14 : decode cX3_keep 14 = .ok (.putfield 35, 3) := by decide +kernel
theorem dX3_keep_17 : decode cX3_keep 17 = .ok (.return_, 1) := by decide +kernel
theorem dX3_discard_0 : decode cX3_discard 0 = .ok (.aload_n 0, 1) := by decide +kernel
theorem dX3_discard_1 : decode cX3_discard 1 = .ok (.iconst 0, 1) := by decide +kernel
theorem dX3_discard_2 : decode cX3_discard 2 = .ok (.putfield 28, 3) := by decide +kernel
theorem dX3_discard_5 : decode cX3_discard 5 = .ok (.aload_n 0, 1) := by decide +kernel
theorem dX3_discard_6 : decode cX3_discard 6 = .ok (.iconst 0, 1) := by decide +kernel
theorem dX3_discard_7 : decode cX3_discard 7 = .ok (.putfield 32, 3) := by decide +kernel
theorem dX3_discard_10 : decode cX3_discard 10 = .ok (.aload_n 0, 1) := by decide +kernel
theorem dX3_discard_11 : decode cX3_discard 11 = .ok (.iconst 0, 1) := by decide +kernel
theorem dX3_discard_12 : decode cX3_discard 12 = .ok (.putfield 35, 3) := by decide +kernel
theorem dX3_discard_15 : decode cX3_discard 15 = .ok (.return_, 1) := by decide +kernel
theorem dX3_partners_0 : decode cX3_partners 0 = .ok (.aload_n 0, 1) := by decide +kernel
theorem dX3_partners_1 : decode cX3_partners 1 = .ok (.getfield 38, 3) := by decide +kernel
theorem dX3_partners_4 : decode cX3_partners 4 = .ok (.ifCond .ne 10, 3) := by decide +kernel
theorem dX3_partners_7 : decode cX3_partners 7 = .ok (.aload_n 0, 1) := by decide +kernel
theorem dX3_partners_8 : decode cX3_partners 8 = .ok (.getfield 41, 3) := by decide +kernel
theorem dX3_partners_11 : decode cX3_partners 11 = .ok (.goto 7, 3) := by decide +kernel
theorem dX3_partners_14 : decode cX3_partners 14 = .ok (.aload_n 0, 1) := by decide +kernel
theorem dX3_partners_15 : decode cX3_partners 15 = .ok (.getfield 44, 3) := by decide +kernel
theorem dX3_partners_18 : decode cX3_partners 18 = .ok (.ireturn, 1) := by decide +kernel
theorem dX3_become_0 : decode cX3_become 0 = .ok (.aload_n 0, 1) := by decide +kernel
theorem dX3_become_1 : decode cX3_become 1 = .ok (.aload_n 1, 1) := by decide +kernel
theorem dX3_become_2 : decode cX3_become 2 = .ok (.getfield 7, 3) := by decide +kernel
theorem dX3_become_5 : decode cX3_become 5 = .ok (.aload_n 1, 1) := by decide +kernel
theorem dX3_become_6 : decode cX3_become 6 = .ok (.getfield 13, 3) := by decide +kernel
theorem dX3_become_9 : decode cX3_become 9 = .ok (.aload_n 1, 1) := by decide +kernel
theorem dX3_become_10 : decode cX3_become 10 = .ok (.getfield 16, 3) := by decide +kernel
theorem dX3_become_13 : decode cX3_become 13 = .ok (.invokevirtual 47, 3) := by decide +kernel
theorem dX3_become_16 : decode cX3_become 16 = .ok (.aload_n 0, 1) := by decide +kernel
theorem dX3_become_17 : decode cX3_become 17 = .ok (.aload_n 1, 1) := by decide +kernel
theorem dX3_become_18 : decode cX3_become 18 = .ok (.getfield 51, 3) := by decide +kernel
theorem dX3_become_21 : decode cX3_become 21 = .ok (.putfield 51, 3) := by decide +kernel
theorem dX3_become_24 : decode cX3_become 24 = .ok (.aload_n 0, 1) := by decide +kernel
theorem dX3_become_25 : decode cX3_become 25 = .ok (.aload_n 1, 1) := by decide +kernel
theorem dX3_become_26 : decode cX3_become 26 = .ok (.getfield 38, 3) := by decide +kernel
theorem dX3_become_29 : decode cX3_become 29 = .ok (.putfield 38, 3) := by decide +kernel
theorem dX3_become_32 : decode cX3_become 32 = .ok (.aload_n 0, 1) := by decide +kernel
theorem dX3_become_33 : decode cX3_become 33 = .ok (.aload_n 1, 1) := by decide +kernel
theorem dX3_become_34 : decode cX3_become 34 = .ok (.getfield 44, 3) := by decide +kernel
theorem dX3_become_37 : decode cX3_become 37 = .ok (.putfield 44, 3) := by decide +kernel
theorem dX3_become_40 : decode cX3_become 40 = .ok (.aload_n 0, 1) := by decide +kernel
theorem dX3_become_41 : decode cX3_become 41 = .ok (.aload_n 1, 1) := by decide +kernel
theorem dX3_become_42 : decode cX3_become 42 = .ok (.getfield 41, 3) := by decide +kernel
theorem dX3_become_45 : decode cX3_become 45 = .ok (.putfield 41, 3) := by decide +kernel
theorem dX3_become_48 : decode cX3_become 48 = .ok (.aload_n 0, 1) := by decide +kernel
theorem dX3_become_49 : decode cX3_become 49 = .ok (.aload_n 1, 1) := by decide +kernel
theorem dX3_become_50 : decode cX3_become 50 = .ok (.getfield 19, 3) := by decide +kernel
theorem dX3_become_53 : decode cX3_become 53 = .ok (.aload_n 1, 1) := by decide +kernel
theorem dX3_become_54 : decode cX3_become 54 = .ok (.getfield 22, 3) := by decide +kernel
theorem dX3_become_57 : decode cX3_become 57 = .ok (.aload_n 1, 1) := by decide +kernel
theorem dX3_become_58 : decode cX3_become 58 = .ok (.getfield 25, 3) := by decide +kernel
theorem dX3_become_61 : decode cX3_become 61 = .ok (.invokevirtual 54, 3) := by decide +kernel
theorem dX3_become_64 : decode cX3_become 64 = .ok (.aload_n 0, 1) := by decide +kernel
theorem dX3_become_65 : decode cX3_become 65 = .ok (.aload_n 1, 1) := by decide +kernel
theorem dX3_become_66 : decode cX3_become 66 = .ok (.getfield 28, 3) := by decide +kernel
theorem dX3_become_69 : decode cX3_become 69 = .ok (.putfield 28, 3) := by decide +kernel
theorem dX3_become_72 : decode cX3_become 72 = .ok (.aload_n 0, 1) := by decide +kernel
theorem dX3_become_73 : decode cX3_become 73 = .ok (.aload_n 1, 1) := by decide +kernel
theorem dX3_become_74 : decode cX3_become 74 = .ok (.getfield 32, 3) := by decide +kernel
theorem dX3_become_77 : decode cX3_become 77 = .ok (.putfield 32, 3) := by decide +kernel
theorem dX3_become_80 : decode cX3_become 80 = .ok (.aload_n 0, 1) := by decide +kernel
theorem dX3_become_81 : decode cX3_become 81 = .ok (.aload_n 1, 1) := by decide +kernel
theorem dX3_become_82 : decode cX3_become 82 = .ok (.getfield 35, 3) := by decide +kernel
theorem dX3_become_85 : decode cX3_become 85 = .ok (.putfield 35, 3) := by decide +kernel
theorem dX3_become_88 : decode cX3_become 88 = .ok (.return_, 1) := by decide +kernel
theorem dX4_init_0 : decode cX4_init 0 = .ok (.aload_n 0, 1) := by decide +kernel
theorem dX4_init_1 : decode cX4_init 1 = .ok (.invokespecial 1, 3) := by decide +kernel
theorem dX4_init_4 : decode cX4_init 4 = .ok (.return_, 1) := by decide +kernel
theorem dX4_become_0 : decode cX4_become 0 = .ok (.aload_n 0, 1) := by decide +kernel
theorem dX4_become_1 : decode cX4_become 1 = .ok (.iload_n 1, 1) := by decide +kernel
theorem dX4_become_2 : decode cX4_become 2 = .ok (.putfield 7, 3) := by decide +kernel
theorem dX4_become_5 : decode cX4_become 5 = .ok (.aload_n 0, 1) := by decide +kernel
theorem dX4_become_6 : decode cX4_become 6 = .ok (.iload_n 2, 1) := by decide +kernel
theorem dX4_become_7 : decode cX4_become 7 = .ok (.putfield 13, 3) := by decide +kernel
theorem dX4_become_10 : decode cX4_become 10 = .ok (.aload_n 0, 1) := by decide +kernel
theorem dX4_become_11 : decode cX4_become 11 = .ok (.iload_n 3, 1) := by decide +kernel
theorem dX4_become_12 : decode cX4_become 12 = .ok (.putfield 16, 3) := by decide +kernel
theorem dX4_become_15 : decode cX4_become 15 = .ok (.aload_n 0, 1) := by decide +kernel
theorem dX4_become_16 : decode cX4_become 16 = .ok (.iload 4, 2) := by decide +kernel
theorem dX4_become_18 : decode cX4_become 18 = .ok (.putfield 19, 3) := by decide +kernel
theorem dX4_become_21 : decode cX4_become 21 = .ok (.return_, 1) := by decide +kernel
theorem dX5_init_0 : decode cX5_init 0 = .ok (.aload_n 0, 1) := by decide +kernel
theorem dX5_init_1 : decode cX5_init 1 = .ok (.invokespecial 5, 3) := by decide +kernel
theorem dX5_init_4 : decode cX5_init 4 = .ok (.aload_n 0, 1) := by decide +kernel
theorem dX5_init_5 : decode cX5_init 5 = .ok (.bipush 76, 2) := by decide +kernel
theorem dX5_init_7 : decode cX5_init 7 = .ok (.anewarray 11, 3) := by decide +kernel
theorem dX5_init_10 : decode cX5_init 10 = .ok (.putfield 13, 3) := by decide +kernel
theorem dX5_init_13 : decode cX5_init 13 = .ok (.aload_n 0, 1) := by decide +kernel
theorem dX5_init_14 : decode cX5_init 14 = .ok (.sipush 14688, 3) := by decide +kernel
theorem dX5_init_17 : decode cX5_init 17 = .ok (.newarray .int, 2) := by decide +kernel
theorem dX5_init_19 : decode cX5_init 19 = .ok (.putfield 17, 3) := by decide +kernel
theorem dX5_init_22 : decode cX5_init 22 = .ok (.aload_n 0, 1) := by decide +kernel
theorem dX5_init_23 : decode cX5_init 23 = .ok (.iconst 0, 1) := by decide +kernel
theorem dX5_init_24 : decode cX5_init 24 = .ok (.putfield 21, 3) := by decide +kernel
theorem dX5_init_27 : decode cX5_init 27 = .ok (.iconst 0, 1) := by decide +kernel
theorem dX5_init_28 : decode cX5_init 28 = .ok (.istore_n 1, 1) := by decide +kernel
theorem dX5_init_29 : decode cX5_init 29 = .ok (.iload_n 1, 1) := by decide +kernel
theorem dX5_init_30 : decode cX5_init 30 = .ok (.bipush 76, 2) := by decide +kernel
theorem dX5_init_32 : decode cX5_init 32 = .ok (.if_icmp .ge 22, 3) := by decide +kernel
theorem dX5_init_35 : decode cX5_init 35 = .ok (.aload_n 0, 1) := by decide +kernel
theorem dX5_init_36 : decode cX5_init 36 = .ok (.getfield 13, 3) := by decide +kernel
theorem dX5_init_39 : decode cX5_init 39 = .ok (.iload_n 1, 1) := by decide +kernel
theorem dX5_init_40 : decode cX5_init 40 = .ok (.new 11, 3) := by decide +kernel
theorem dX5_init_43 : decode cX5_init 43 = .ok (.dup, 1) := by decide +kernel
theorem dX5_init_44 : decode cX5_init 44 = .ok (.invokespecial 25, 3) := by decide +kernel
theorem dX5_init_47 : decode cX5_init 47 = .ok (.aastore, 1) := by decide +kernel
theorem dX5_init_48 : decode cX5_init 48 = .ok (.iinc 1 1, 3) := by decide +kernel
theorem dX5_init_51 : decode cX5_init 51 = .ok (.goto (-22), 3) := by decide +kernel
theorem dX5_init_54 : decode cX5_init 54 = .ok (.return_, 1) := by decide +kernel
theorem dX5_startTrace_0 : decode cX5_startTrace 0 = .ok (.aload_n 0, 1) := by decide +kernel
theorem dX5_startTrace_1 : decode cX5_startTrace 1 = .ok (.iconst 0, 1) := by decide +kernel
theorem dX5_startTrace_2 : decode cX5_startTrace 2 = .ok (.putfield 21, 3) := by decide +kernel
theorem dX5_startTrace_5 : decode cX5_startTrace 5 = .ok (.return_, 1) := by decide +kernel
theorem dX5_notedAt_0 : decode cX5_notedAt 0 = .ok (.iload_n 1, 1) := by decide +kernel
theorem dX5_notedAt_1 : decode cX5_notedAt 1 = .ok (.ifCond .lt 20, 3) := by decide +kernel
theorem dX5_notedAt_4 : decode cX5_notedAt 4 = .ok (.iload_n 1, 1) := by decide +kernel
theorem dX5_notedAt_5 : decode cX5_notedAt 5 = .ok (.aload_n 0, 1) := by decide +kernel
theorem dX5_notedAt_6 : decode cX5_notedAt 6 = .ok (.getfield 21, 3) := by decide +kernel
theorem dX5_notedAt_9 : decode cX5_notedAt 9 = .ok (.if_icmp .ge 12, 3) := by decide +kernel
theorem dX5_notedAt_12 : decode cX5_notedAt 12 = .ok (.aload_n 0, 1) := by decide +kernel
theorem dX5_notedAt_13 : decode cX5_notedAt 13 = .ok (.getfield 17, 3) := by decide +kernel
theorem dX5_notedAt_16 : decode cX5_notedAt 16 = .ok (.iload_n 1, 1) := by decide +kernel
theorem dX5_notedAt_17 : decode cX5_notedAt 17 = .ok (.iaload, 1) := by decide +kernel
theorem dX5_notedAt_18 : decode cX5_notedAt 18 = .ok (.goto 4, 3) := by decide +kernel
theorem dX5_notedAt_21 : decode cX5_notedAt 21 = .ok (.iconst (-1), 1) := by decide +kernel
theorem dX5_notedAt_22 : decode cX5_notedAt 22 = .ok (.ireturn, 1) := by decide +kernel
theorem dX5_read_0 : decode cX5_read 0 = .ok (.aload_n 0, 1) := by decide +kernel
theorem dX5_read_1 : decode cX5_read 1 = .ok (.iconst 2, 1) := by decide +kernel
theorem dX5_read_2 : decode cX5_read 2 = .ok (.iload_n 1, 1) := by decide +kernel
theorem dX5_read_3 : decode cX5_read 3 = .ok (.imul, 1) := by decide +kernel
theorem dX5_read_4 : decode cX5_read 4 = .ok (.invokevirtual 26, 3) := by decide +kernel
theorem dX5_read_7 : decode cX5_read 7 = .ok (.aload_n 0, 1) := by decide +kernel
theorem dX5_read_8 : decode cX5_read 8 = .ok (.iload_n 1, 1) := by decide +kernel
theorem dX5_read_9 : decode cX5_read 9 = .ok (.invokevirtual 30, 3) := by decide +kernel
theorem dX5_read_12 : decode cX5_read 12 = .ok (.areturn, 1) := by decide +kernel
theorem dX5_write_0 : decode cX5_write 0 = .ok (.aload_n 0, 1) := by decide +kernel
theorem dX5_write_1 : decode cX5_write 1 = .ok (.iconst 2, 1) := by decide +kernel
theorem dX5_write_2 : decode cX5_write 2 = .ok (.iload_n 1, 1) := by decide +kernel
theorem dX5_write_3 : decode cX5_write 3 = .ok (.imul, 1) := by decide +kernel
theorem dX5_write_4 : decode cX5_write 4 = .ok (.iconst 1, 1) := by decide +kernel
theorem dX5_write_5 : decode cX5_write 5 = .ok (.iadd, 1) := by decide +kernel
theorem dX5_write_6 : decode cX5_write 6 = .ok (.invokevirtual 26, 3) := by decide +kernel
theorem dX5_write_9 : decode cX5_write 9 = .ok (.iload_n 1, 1) := by decide +kernel
theorem dX5_write_10 : decode cX5_write 10 = .ok (.ifCond .lt 16, 3) := by decide +kernel
theorem dX5_write_13 : decode cX5_write 13 = .ok (.iload_n 1, 1) := by decide +kernel
theorem dX5_write_14 : decode cX5_write 14 = .ok (.bipush 76, 2) := by decide +kernel
theorem dX5_write_16 : decode cX5_write 16 = .ok (.if_icmp .ge 10, 3) := by decide +kernel
theorem dX5_write_19 : decode cX5_write 19 = .ok (.aload_n 0, 1) := by decide +kernel
theorem dX5_write_20 : decode cX5_write 20 = .ok (.getfield 13, 3) := by decide +kernel
theorem dX5_write_23 : decode cX5_write 23 = .ok (.iload_n 1, 1) := by decide +kernel
theorem dX5_write_24 : decode cX5_write 24 = .ok (.aload_n 2, 1) := by decide +kernel
theorem dX5_write_25 : decode cX5_write 25 = .ok (.aastore, 1) := by decide +kernel
theorem dX5_write_26 : decode cX5_write 26 = .ok (.return_, 1) := by decide +kernel
theorem dX5_at_0 : decode cX5_at 0 = .ok (.aload_n 0, 1) := by decide +kernel
theorem dX5_at_1 : decode cX5_at 1 = .ok (.getfield 13, 3) := by decide +kernel
theorem dX5_at_4 : decode cX5_at 4 = .ok (.iload_n 1, 1) := by decide +kernel
theorem dX5_at_5 : decode cX5_at 5 = .ok (.ifCond .lt 13, 3) := by decide +kernel
theorem dX5_at_8 : decode cX5_at 8 = .ok (.iload_n 1, 1) := by decide +kernel
theorem dX5_at_9 : decode cX5_at 9 = .ok (.bipush 76, 2) := by decide +kernel
theorem dX5_at_11 : decode cX5_at 11 = .ok (.if_icmp .ge 7, 3) := by decide +kernel
theorem dX5_at_14 : decode cX5_at 14 = .ok (.iload_n 1, 1) := by decide +kernel
theorem dX5_at_15 : decode cX5_at 15 = .ok (.goto 4, 3) := by decide +kernel
theorem dX5_at_18 : decode cX5_at 18 = .ok (.iconst 0, 1) := by decide +kernel
theorem dX5_at_19 : decode cX5_at 19 = .ok (.aaload, 1) := by decide +kernel
theorem dX5_at_20 : decode cX5_at 20 = .ok (.areturn, 1) := by decide +kernel
theorem dX5_copy_0 : decode cX5_copy 0 = .ok (.aload_n 0, 1) := by decide +kernel
theorem dX5_copy_1 : decode cX5_copy 1 = .ok (.iload_n 1, 1) := by decide +kernel
theorem dX5_copy_2 : decode cX5_copy 2 = .ok (.invokevirtual 34, 3) := by decide +kernel
theorem dX5_copy_5 : decode cX5_copy 5 = .ok (.astore_n 3, 1) := by decide +kernel
theorem dX5_copy_6 : decode cX5_copy 6 = .ok (.aload_n 0, 1) := by decide +kernel
theorem dX5_copy_7 : decode cX5_copy 7 = .ok (.iload_n 2, 1) := by decide +kernel
theorem dX5_copy_8 : decode cX5_copy 8 = .ok (.invokevirtual 30, 3) := by decide +kernel
theorem dX5_copy_11 : decode cX5_copy 11 = .ok (.astore 4, 2) := by decide +kernel
theorem dX5_copy_13 : decode cX5_copy 13 = .ok (.aload 4, 2) := by decide +kernel
theorem dX5_copy_15 : decode cX5_copy 15 = .ok (.aload_n 3, 1) := by decide +kernel
theorem dX5_copy_16 : decode cX5_copy 16 = .ok (.invokevirtual 37, 3) := by decide +kernel
theorem dX5_copy_19 : decode cX5_copy 19 = .ok (.aload_n 0, 1) := by decide +kernel
theorem dX5_copy_20 : decode cX5_copy 20 = .ok (.iload_n 2, 1) := by decide +kernel
theorem dX5_copy_21 : decode cX5_copy 21 = .ok (.aload 4, 2) := by decide +kernel
theorem dX5_copy_23 : decode cX5_copy 23 = .ok (.invokevirtual 41, 3) := by decide +kernel
theorem dX5_copy_26 : decode cX5_copy 26 = .ok (.return_, 1) := by decide +kernel
theorem dX5_note_0 : decode cX5_note 0 = .ok (.aload_n 0, 1) := by decide +kernel
theorem dX5_note_1 : decode cX5_note 1 = .ok (.getfield 21, 3) := by decide +kernel
theorem dX5_note_4 : decode cX5_note 4 = .ok (.sipush 14688, 3) := by decide +kernel
theorem dX5_note_7 : decode cX5_note 7 = .ok (.if_icmp .ge 23, 3) := by decide +kernel
theorem dX5_note_10 : decode cX5_note 10 = .ok (.aload_n 0, 1) := by decide +kernel
theorem dX5_note_11 : decode cX5_note 11 = .ok (.getfield 17, 3) := by decide +kernel
theorem dX5_note_14 : decode cX5_note 14 = .ok (.aload_n 0, 1) := by decide +kernel
theorem dX5_note_15 : decode cX5_note 15 = .ok (.getfield 21, 3) := by decide +kernel
theorem dX5_note_18 : decode cX5_note 18 = .ok (.iload_n 1, 1) := by decide +kernel
theorem dX5_note_19 : decode cX5_note 19 = .ok (.iastore, 1) := by decide +kernel
theorem dX5_note_20 : decode cX5_note 20 = .ok (.aload_n 0, 1) := by decide +kernel
theorem dX5_note_21 : decode cX5_note 21 = .ok (.dup, 1) := by decide +kernel
theorem dX5_note_22 : decode cX5_note 22 = .ok (.getfield 21, 3) := by decide +kernel
theorem dX5_note_25 : decode cX5_note 25 = .ok (.iconst 1, 1) := by decide +kernel
theorem dX5_note_26 : decode cX5_note 26 = .ok (.iadd, 1) := by decide +kernel
theorem dX5_note_27 : decode cX5_note 27 = .ok (.putfield 21, 3) := by decide +kernel
theorem dX5_note_30 : decode cX5_note 30 = .ok (.return_, 1) := by decide +kernel
theorem dX5_lay_0 : decode cX5_lay 0 = .ok (.iconst 0, 1) := by decide +kernel
theorem dX5_lay_1 : decode cX5_lay 1 = .ok (.istore_n 2, 1) := by decide +kernel
theorem dX5_lay_2 : decode cX5_lay 2 = .ok (.iload_n 2, 1) := by decide +kernel
theorem dX5_lay_3 : decode cX5_lay 3 = .ok (.aload_n 1, 1) := by decide +kernel
theorem dX5_lay_4 : decode cX5_lay 4 = .ok (.getfield 45, 3) := by decide +kernel
theorem dX5_lay_7 : decode cX5_lay 7 = .ok (.if_icmp .ge 53, 3) := by decide +kernel
theorem dX5_lay_10 : decode cX5_lay 10 = .ok (.aload_n 0, 1) := by decide +kernel
theorem dX5_lay_11 : decode cX5_lay 11 = .ok (.iload_n 2, 1) := by decide +kernel
theorem dX5_lay_12 : decode cX5_lay 12 = .ok (.invokevirtual 30, 3) := by decide +kernel
theorem dX5_lay_15 : decode cX5_lay 15 = .ok (.astore_n 3, 1) := by decide +kernel
theorem dX5_lay_16 : decode cX5_lay 16 = .ok (.aload_n 3, 1) := by decide +kernel
theorem dX5_lay_17 : decode cX5_lay 17 = .ok (.aload_n 1, 1) := by decide +kernel
theorem dX5_lay_18 : decode cX5_lay 18 = .ok (.getfield 50, 3) := by decide +kernel
theorem dX5_lay_21 : decode cX5_lay 21 = .ok (.iload_n 2, 1) := by decide +kernel
theorem dX5_lay_22 : decode cX5_lay 22 = .ok (.iaload, 1) := by decide +kernel
theorem dX5_lay_23 : decode cX5_lay 23 = .ok (.aload_n 1, 1) := by decide +kernel
theorem dX5_lay_24 : decode cX5_lay 24 = .ok (.getfield 53, 3) := by decide +kernel
theorem dX5_lay_27 : decode cX5_lay 27 = .ok (.iload_n 2, 1) := by decide +kernel
theorem dX5_lay_28 : decode cX5_lay 28 = .ok (.iaload, 1) := by decide +kernel
theorem dX5_lay_29 : decode cX5_lay 29 = .ok (.aload_n 1, 1) := by decide +kernel
theorem dX5_lay_30 : decode cX5_lay 30 = .ok (.getfield 56, 3) := by decide +kernel
theorem dX5_lay_33 : decode cX5_lay 33 = .ok (.iload_n 2, 1) := by decide +kernel
theorem dX5_lay_34 : decode cX5_lay 34 = .ok (.iaload, 1) := by decide +kernel
theorem dX5_lay_35 : decode cX5_lay 35 = .ok (.invokevirtual 59, 3) := by decide +kernel
theorem dX5_lay_38 : decode cX5_lay 38 = .ok (.aload_n 3, 1) := by decide +kernel
theorem dX5_lay_39 : decode cX5_lay 39 = .ok (.aload_n 3, 1) := by decide +kernel
theorem dX5_lay_40 : decode cX5_lay 40 = .ok (.getfield 63, 3) := by decide +kernel
theorem dX5_lay_43 : decode cX5_lay 43 = .ok (.aload_n 3, 1) := by decide +kernel
theorem dX5_lay_44 : decode cX5_lay 44 = .ok (.getfield 66, 3) := by decide +kernel
theorem dX5_lay_47 : decode cX5_lay 47 = .ok (.aload_n 3, 1) := by decide +kernel
theorem dX5_lay_48 : decode cX5_lay 48 = .ok (.getfield 69, 3) := by decide +kernel
theorem dX5_lay_51 : decode cX5_lay 51 = .ok (.invokevirtual 72, 3) := by decide +kernel
theorem dX5_lay_54 : decode cX5_lay 54 = .ok (.iinc 2 1, 3) := by decide +kernel
theorem dX5_lay_57 : decode cX5_lay 57 = .ok (.goto (-55), 3) := by decide +kernel
theorem dX5_lay_60 : decode cX5_lay 60 = .ok (.aload_n 1, 1) := by decide +kernel
theorem dX5_lay_61 : decode cX5_lay 61 = .ok (.getfield 45, 3) := by decide +kernel
theorem dX5_lay_64 : decode cX5_lay 64 = .ok (.ireturn, 1) := by decide +kernel
theorem dX5_layByKey_0 : decode cX5_layByKey 0 = .ok (.iconst 0, 1) := by decide +kernel
theorem dX5_layByKey_1 : decode cX5_layByKey 1 = .ok (.istore 5, 2) := by decide +kernel
theorem dX5_layByKey_3 : decode cX5_layByKey 3 = .ok (.iload 5, 2) := by decide +kernel
theorem dX5_layByKey_5 : decode cX5_layByKey 5 = .ok (.aload_n 1, 1) := by decide +kernel
theorem dX5_layByKey_6 : decode cX5_layByKey 6 = .ok (.getfield 45, 3) := by decide +kernel
theorem dX5_layByKey_9 : decode cX5_layByKey 9 = .ok (.if_icmp .ge 76, 3) := by decide +kernel
theorem dX5_layByKey_12 : decode cX5_layByKey 12 = .ok (.aload_n 0, 1) := by decide +kernel
theorem dX5_layByKey_13 : decode cX5_layByKey 13 = .ok (.iload_n 2, 1) := by decide +kernel
theorem dX5_layByKey_14 : decode cX5_layByKey 14 = .ok (.iload 5, 2) := by decide +kernel
theorem dX5_layByKey_16 : decode cX5_layByKey 16 = .ok (.iadd, 1) := by decide +kernel
theorem dX5_layByKey_17 : decode cX5_layByKey 17 = .ok (.invokevirtual 30, 3) := by decide +kernel
theorem dX5_layByKey_20 : decode cX5_layByKey 20 = .ok (.astore 6, 2) := by decide +kernel
theorem dX5_layByKey_22 : decode cX5_layByKey 22 = .ok (.aload 6, 2) := by decide +kernel
theorem dX5_layByKey_24 : decode cX5_layByKey 24 = .ok (.aload_n 1, 1) := by decide +kernel
theorem dX5_layByKey_25 : decode cX5_layByKey 25 = .ok (.getfield 50, 3) := by decide +kernel
theorem dX5_layByKey_28 : decode cX5_layByKey 28 = .ok (.iload 5, 2) := by decide +kernel
theorem dX5_layByKey_30 : decode cX5_layByKey 30 = .ok (.iaload, 1) := by decide +kernel
theorem dX5_layByKey_31 : decode cX5_layByKey 31 = .ok (.aload_n 1, 1) := by decide +kernel
theorem dX5_layByKey_32 : decode cX5_layByKey 32 = .ok (.getfield 53, 3) := by decide +kernel
theorem dX5_layByKey_35 : decode cX5_layByKey 35 = .ok (.iload 5, 2) := by decide +kernel
theorem dX5_layByKey_37 : decode cX5_layByKey 37 = .ok (.iaload, 1) := by decide +kernel
theorem dX5_layByKey_38 : decode cX5_layByKey 38 = .ok (.aload_n 1, 1) := by decide +kernel
theorem dX5_layByKey_39 : decode cX5_layByKey 39 = .ok (.getfield 56, 3) := by decide +kernel
theorem dX5_layByKey_42 : decode cX5_layByKey 42 = .ok (.iload 5, 2) := by decide +kernel
theorem dX5_layByKey_44 : decode cX5_layByKey 44 = .ok (.iaload, 1) := by decide +kernel
theorem dX5_layByKey_45 : decode cX5_layByKey 45 = .ok (.invokevirtual 59, 3) := by decide +kernel
theorem dX5_layByKey_48 : decode cX5_layByKey 48 = .ok (.aload 6, 2) := by decide +kernel
theorem dX5_layByKey_50 : decode cX5_layByKey 50 = .ok (.aload 6, 2) := by decide +kernel
theorem dX5_layByKey_52 : decode cX5_layByKey 52 = .ok (.iload_n 3, 1) := by decide +kernel
theorem dX5_layByKey_53 : decode cX5_layByKey 53 = .ok (.invokevirtual 75, 3) := by decide +kernel
theorem dX5_layByKey_56 : decode cX5_layByKey 56 = .ok (.putfield 79, 3) := by decide +kernel
theorem dX5_layByKey_59 : decode cX5_layByKey 59 = .ok (.aload 6, 2) := by decide +kernel
theorem dX5_layByKey_61 : decode cX5_layByKey 61 = .ok (.iload 4, 2) := by decide +kernel
theorem dX5_layByKey_63 : decode cX5_layByKey 63 = .ok (.putfield 82, 3) := by decide +kernel
theorem dX5_layByKey_66 : decode cX5_layByKey 66 = .ok (.aload 6, 2) := by decide +kernel
theorem dX5_layByKey_68 : decode cX5_layByKey 68 = .ok (.aload 6, 2) := by decide +kernel
theorem dX5_layByKey_70 : decode cX5_layByKey 70 = .ok (.getfield 79, 3) := by decide +kernel
theorem dX5_layByKey_73 : decode cX5_layByKey 73 = .ok (.iload 4, 2) := by decide +kernel
theorem dX5_layByKey_75 : decode cX5_layByKey 75 = .ok (.iconst 0, 1) := by decide +kernel
theorem dX5_layByKey_76 : decode cX5_layByKey 76 = .ok (.invokevirtual 72, 3) := by decide +kernel
theorem dX5_layByKey_79 : decode cX5_layByKey 79 = .ok (.iinc 5 1, 3) := by decide +kernel
theorem dX5_layByKey_82 : decode cX5_layByKey 82 = .ok (.goto (-79), 3) := by decide +kernel
theorem dX5_layByKey_85 : decode cX5_layByKey 85 = .ok (.iload_n 2, 1) := by decide +kernel
theorem dX5_layByKey_86 : decode cX5_layByKey 86 = .ok (.aload_n 1, 1) := by decide +kernel
theorem dX5_layByKey_87 : decode cX5_layByKey 87 = .ok (.getfield 45, 3) := by decide +kernel
theorem dX5_layByKey_90 : decode cX5_layByKey 90 = .ok (.iadd, 1) := by decide +kernel
theorem dX5_layByKey_91 : decode cX5_layByKey 91 = .ok (.ireturn, 1) := by decide +kernel
theorem dX5_clear_0 : decode cX5_clear 0 = .ok (.iconst 0, 1) := by decide +kernel
theorem dX5_clear_1 : decode cX5_clear 1 = .ok (.istore_n 1, 1) := by decide +kernel
theorem dX5_clear_2 : decode cX5_clear 2 = .ok (.iload_n 1, 1) := by decide +kernel
theorem dX5_clear_3 : decode cX5_clear 3 = .ok (.bipush 76, 2) := by decide +kernel
theorem dX5_clear_5 : decode cX5_clear 5 = .ok (.if_icmp .ge 18, 3) := by decide +kernel
theorem dX5_clear_8 : decode cX5_clear 8 = .ok (.aload_n 0, 1) := by decide +kernel
theorem dX5_clear_9 : decode cX5_clear 9 = .ok (.getfield 13, 3) := by decide +kernel
theorem dX5_clear_12 : decode cX5_clear 12 = .ok (.iload_n 1, 1) := by decide +kernel
theorem dX5_clear_13 : decode cX5_clear 13 = .ok (.aaload, 1) := by decide +kernel
theorem dX5_clear_14 : decode cX5_clear 14 = .ok (.invokevirtual 85, 3) := by decide +kernel
theorem dX5_clear_17 : decode cX5_clear 17 = .ok (.iinc 1 1, 3) := by decide +kernel
theorem dX5_clear_20 : decode cX5_clear 20 = .ok (.goto (-18), 3) := by decide +kernel
theorem dX5_clear_23 : decode cX5_clear 23 = .ok (.return_, 1) := by decide +kernel
theorem dX5_takeAway_0 : decode cX5_takeAway 0 = .ok (.aload_n 1, 1) := by decide +kernel
theorem dX5_takeAway_1 : decode cX5_takeAway 1 = .ok (.invokevirtual 88, 3) := by decide +kernel
theorem dX5_takeAway_4 : decode cX5_takeAway 4 = .ok (.iconst 0, 1) := by decide +kernel
theorem dX5_takeAway_5 : decode cX5_takeAway 5 = .ok (.istore_n 3, 1) := by decide +kernel
theorem dX5_takeAway_6 : decode cX5_takeAway 6 = .ok (.iload_n 3, 1) := by decide +kernel
theorem dX5_takeAway_7 : decode cX5_takeAway 7 = .ok (.iload_n 2, 1) := by decide +kernel
theorem dX5_takeAway_8 : decode cX5_takeAway 8 = .ok (.if_icmp .ge 36, 3) := by decide +kernel
theorem dX5_takeAway_11 : decode cX5_takeAway 11 = .ok (.aload_n 0, 1) := by decide +kernel
theorem dX5_takeAway_12 : decode cX5_takeAway 12 = .ok (.iload_n 3, 1) := by decide +kernel
theorem dX5_takeAway_13 : decode cX5_takeAway 13 = .ok (.invokevirtual 30, 3) := by decide +kernel
theorem dX5_takeAway_16 : decode cX5_takeAway 16 = .ok (.astore 4, 2) := by decide +kernel
theorem dX5_takeAway_18 : decode cX5_takeAway 18 = .ok (.aload_n 1, 1) := by decide +kernel
theorem dX5_takeAway_19 : decode cX5_takeAway 19 = .ok (.aload 4, 2) := by decide +kernel
theorem dX5_takeAway_21 : decode cX5_takeAway 21 = .ok (.getfield 63, 3) := by decide +kernel
theorem dX5_takeAway_24 : decode cX5_takeAway 24 = .ok (.aload 4, 2) := by decide +kernel
theorem dX5_takeAway_26 : decode cX5_takeAway 26 = .ok (.getfield 66, 3) := by decide +kernel
theorem dX5_takeAway_29 : decode cX5_takeAway 29 = .ok (.aload 4, 2) := by decide +kernel
theorem dX5_takeAway_31 : decode cX5_takeAway 31 = .ok (.getfield 69, 3) := by decide +kernel
theorem dX5_takeAway_34 : decode cX5_takeAway 34 = .ok (.invokevirtual 91, 3) := by decide +kernel
theorem dX5_takeAway_37 : decode cX5_takeAway 37 = .ok (.pop, 1) := by decide +kernel
theorem dX5_takeAway_38 : decode cX5_takeAway 38 = .ok (.iinc 3 1, 3) := by decide +kernel
theorem dX5_takeAway_41 : decode cX5_takeAway 41 = .ok (.goto (-35), 3) := by decide +kernel
theorem dX5_takeAway_44 : decode cX5_takeAway 44 = .ok (.return_, 1) := by decide +kernel
theorem dX5_widest_0 : decode cX5_widest 0 = .ok (.iconst 1, 1) := by decide +kernel
theorem dX5_widest_1 : decode cX5_widest 1 = .ok (.istore_n 1, 1) := by decide +kernel
theorem dX5_widest_2 : decode cX5_widest 2 = .ok (.iload_n 1, 1) := by decide +kernel
theorem dX5_widest_3 : decode cX5_widest 3 = .ok (.bipush 76, 2) := by decide +kernel
theorem dX5_widest_5 : decode cX5_widest 5 = .ok (.if_icmp .ge 17, 3) := by decide +kernel
theorem dX5_widest_8 : decode cX5_widest 8 = .ok (.iconst 2, 1) := by decide +kernel
theorem dX5_widest_9 : decode cX5_widest 9 = .ok (.iload_n 1, 1) := by decide +kernel
theorem dX5_widest_10 : decode cX5_widest 10 = .ok (.imul, 1) := by decide +kernel
theorem dX5_widest_11 : decode cX5_widest 11 = .ok (.iload_n 0, 1) := by decide +kernel
theorem dX5_widest_12 : decode cX5_widest 12 = .ok (.if_icmp .ge 10, 3) := by decide +kernel
theorem dX5_widest_15 : decode cX5_widest 15 = .ok (.iload_n 1, 1) := by decide +kernel
theorem dX5_widest_16 : decode cX5_widest 16 = .ok (.iconst 2, 1) := by decide +kernel
theorem dX5_widest_17 : decode cX5_widest 17 = .ok (.imul, 1) := by decide +kernel
theorem dX5_widest_18 : decode cX5_widest 18 = .ok (.istore_n 1, 1) := by decide +kernel
theorem dX5_widest_19 : decode cX5_widest 19 = .ok (.goto (-17), 3) := by decide +kernel
theorem dX5_widest_22 : decode cX5_widest 22 = .ok (.iload_n 1, 1) := by decide +kernel
theorem dX5_widest_23 : decode cX5_widest 23 = .ok (.ireturn, 1) := by decide +kernel
theorem dX5_sort_0 : decode cX5_sort 0 = .ok (.iload_n 2, 1) := by decide +kernel
theorem dX5_sort_1 : decode cX5_sort 1 = .ok (.iconst 2, 1) := by decide +kernel
theorem dX5_sort_2 : decode cX5_sort 2 = .ok (.if_icmp .ge 4, 3) := by decide +kernel
theorem dX5_sort_5 : decode cX5_sort 5 = .ok (.return_, 1) := by decide +kernel
theorem dX5_sort_6 : decode cX5_sort 6 = .ok (.iload_n 2, 1) := by decide +kernel
theorem dX5_sort_7 : decode cX5_sort 7 = .ok (.invokestatic 95, 3) := by decide +kernel
theorem dX5_sort_10 : decode cX5_sort 10 = .ok (.istore_n 3, 1) := by decide +kernel
theorem dX5_sort_11 : decode cX5_sort 11 = .ok (.iload_n 3, 1) := by decide +kernel
theorem dX5_sort_12 : decode cX5_sort 12 = .ok (.istore 4, 2) := by decide +kernel
theorem dX5_sort_14 : decode cX5_sort 14 = .ok (.iload 4, 2) := by decide +kernel
theorem dX5_sort_16 : decode cX5_sort 16 = .ok (.ifCond .le 57, 3) := by decide +kernel
theorem dX5_sort_19 : decode cX5_sort 19 = .ok (.aload_n 0, 1) := by decide +kernel
theorem dX5_sort_20 : decode cX5_sort 20 = .ok (.iload_n 1, 1) := by decide +kernel
theorem dX5_sort_21 : decode cX5_sort 21 = .ok (.iload_n 2, 1) := by decide +kernel
theorem dX5_sort_22 : decode cX5_sort 22 = .ok (.iload 4, 2) := by decide +kernel
theorem dX5_sort_24 : decode cX5_sort 24 = .ok (.iconst 0, 1) := by decide +kernel
theorem dX5_sort_25 : decode cX5_sort 25 = .ok (.iload 4, 2) := by decide +kernel
theorem dX5_sort_27 : decode cX5_sort 27 = .ok (.invokevirtual 98, 3) := by decide +kernel
theorem dX5_sort_30 : decode cX5_sort 30 = .ok (.iload_n 3, 1) := by decide +kernel
theorem dX5_sort_31 : decode cX5_sort 31 = .ok (.istore 5, 2) := by decide +kernel
theorem dX5_sort_33 : decode cX5_sort 33 = .ok (.iload 5, 2) := by decide +kernel
theorem dX5_sort_35 : decode cX5_sort 35 = .ok (.iload 4, 2) := by decide +kernel
theorem dX5_sort_37 : decode cX5_sort 37 = .ok (.if_icmp .le 27, 3) := by decide +kernel
theorem dX5_sort_40 : decode cX5_sort 40 = .ok (.aload_n 0, 1) := by decide +kernel
theorem dX5_sort_41 : decode cX5_sort 41 = .ok (.iload_n 1, 1) := by decide +kernel
theorem dX5_sort_42 : decode cX5_sort 42 = .ok (.iload_n 2, 1) := by decide +kernel
theorem dX5_sort_43 : decode cX5_sort 43 = .ok (.iload 4, 2) := by decide +kernel
theorem dX5_sort_45 : decode cX5_sort 45 = .ok (.iload 4, 2) := by decide +kernel
theorem dX5_sort_47 : decode cX5_sort 47 = .ok (.iload 5, 2) := by decide +kernel
theorem dX5_sort_49 : decode cX5_sort 49 = .ok (.iload 4, 2) := by decide +kernel
theorem dX5_sort_51 : decode cX5_sort 51 = .ok (.isub, 1) := by decide +kernel
theorem dX5_sort_52 : decode cX5_sort 52 = .ok (.invokevirtual 98, 3) := by decide +kernel
theorem dX5_sort_55 : decode cX5_sort 55 = .ok (.iload 5, 2) := by decide +kernel
theorem dX5_sort_57 : decode cX5_sort 57 = .ok (.iconst 2, 1) := by decide +kernel
theorem dX5_sort_58 : decode cX5_sort 58 = .ok (.idiv, 1) := by decide +kernel
theorem dX5_sort_59 : decode cX5_sort 59 = .ok (.istore 5, 2) := by decide +kernel
theorem dX5_sort_61 : decode cX5_sort 61 = .ok (.goto (-28), 3) := by decide +kernel
theorem dX5_sort_64 : decode cX5_sort 64 = .ok (.iload 4, 2) := by decide +kernel
theorem dX5_sort_66 : decode cX5_sort 66 = .ok (.iconst 2, 1) := by decide +kernel
theorem dX5_sort_67 : decode cX5_sort 67 = .ok (.idiv, 1) := by decide +kernel
theorem dX5_sort_68 : decode cX5_sort 68 = .ok (.istore 4, 2) := by decide +kernel
theorem dX5_sort_70 : decode cX5_sort 70 = .ok (.goto (-56), 3) := by decide +kernel
theorem dX5_sort_73 : decode cX5_sort 73 = .ok (.return_, 1) := by decide +kernel
theorem dX5_sortPass_0 : decode cX5_sortPass 0 = .ok (.iconst 0, 1) := by decide +kernel
theorem dX5_sortPass_1 : decode cX5_sortPass 1 = .ok (.istore 6, 2) := by decide +kernel
theorem dX5_sortPass_3 : decode cX5_sortPass 3 = .ok (.iload 6, 2) := by decide +kernel
theorem dX5_sortPass_5 : decode cX5_sortPass 5 = .ok (.iload_n 2, 1) := by decide +kernel
theorem dX5_sortPass_6 : decode cX5_sortPass 6 = .ok (.iload 5, 2) := by decide +kernel
theorem dX5_sortPass_8 : decode cX5_sortPass 8 = .ok (.isub, 1) := by decide +kernel
theorem dX5_sortPass_9 : decode cX5_sortPass 9 = .ok (.if_icmp .ge 91, 3) := by decide +kernel
theorem dX5_sortPass_12 : decode cX5_sortPass 12 = .ok (.iload 6, 2) := by decide +kernel
theorem dX5_sortPass_14 : decode cX5_sortPass 14 = .ok (.iload_n 3, 1) := by decide +kernel
theorem dX5_sortPass_15 : decode cX5_sortPass 15 = .ok (.iand, 1) := by decide +kernel
theorem dX5_sortPass_16 : decode cX5_sortPass 16 = .ok (.iload 4, 2) := by decide +kernel
theorem dX5_sortPass_18 : decode cX5_sortPass 18 = .ok (.if_icmp .ne 76, 3) := by decide +kernel
theorem dX5_sortPass_21 : decode cX5_sortPass 21 = .ok (.iload_n 1, 1) := by decide +kernel
theorem dX5_sortPass_22 : decode cX5_sortPass 22 = .ok (.iload 6, 2) := by decide +kernel
theorem dX5_sortPass_24 : decode cX5_sortPass 24 = .ok (.iadd, 1) := by decide +kernel
theorem dX5_sortPass_25 : decode cX5_sortPass 25 = .ok (.istore 7, 2) := by decide +kernel
theorem dX5_sortPass_27 : decode cX5_sortPass 27 = .ok (.aload_n 0, 1) := by decide +kernel
theorem dX5_sortPass_28 : decode cX5_sortPass 28 = .ok (.iload 7, 2) := by decide +kernel
theorem dX5_sortPass_30 : decode cX5_sortPass 30 = .ok (.invokevirtual 34, 3) := by decide +kernel
theorem dX5_sortPass_33 : decode cX5_sortPass 33 = .ok (.astore 8, 2) := by decide +kernel
theorem dX5_sortPass_35 : decode cX5_sortPass 35 = .ok (.aload_n 0, 1) := by decide +kernel
theorem dX5_sortPass_36 : decode cX5_sortPass 36 = .ok (.iload 7, 2) := by decide +kernel
theorem dX5_sortPass_38 : decode cX5_sortPass 38 = .ok (.iload 5, 2) := by decide +kernel
theorem dX5_sortPass_40 : decode cX5_sortPass 40 = .ok (.iadd, 1) := by decide +kernel
theorem dX5_sortPass_41 : decode cX5_sortPass 41 = .ok (.invokevirtual 34, 3) := by decide +kernel
theorem dX5_sortPass_44 : decode cX5_sortPass 44 = .ok (.astore 9, 2) := by decide +kernel
theorem dX5_sortPass_46 : decode cX5_sortPass 46 = .ok (.aload 8, 2) := by decide +kernel
theorem dX5_sortPass_48 : decode cX5_sortPass 48 = .ok (.aload 9, 2) := by decide +kernel
theorem dX5_sortPass_50 : decode cX5_sortPass 50 = .ok (.invokevirtual 102, 3) := by decide +kernel
theorem dX5_sortPass_53 : decode cX5_sortPass 53 = .ok (.istore 10, 2) := by decide +kernel
theorem dX5_sortPass_55 : decode cX5_sortPass 55 = .ok (.aload_n 0, 1) := by decide +kernel
theorem dX5_sortPass_56 : decode cX5_sortPass 56 = .ok (.iload 7, 2) := by decide +kernel
theorem dX5_sortPass_58 : decode cX5_sortPass 58 = .ok (.iload 10, 2) := by decide +kernel
theorem dX5_sortPass_60 : decode cX5_sortPass 60 = .ok (.ifCond .eq 8, 3) := by decide +kernel
theorem dX5_sortPass_63 : decode cX5_sortPass 63 = .ok (.aload 9, 2) := by decide +kernel
theorem dX5_sortPass_65 : decode cX5_sortPass 65 = .ok (.goto 5, 3) := by decide +kernel
theorem dX5_sortPass_68 : decode cX5_sortPass 68 = .ok (.aload 8, 2) := by decide +kernel
theorem dX5_sortPass_70 : decode cX5_sortPass 70 = .ok (.invokevirtual 41, 3) := by decide +kernel
theorem dX5_sortPass_73 : decode cX5_sortPass 73 = .ok (.aload_n 0, 1) := by decide +kernel
theorem dX5_sortPass_74 : decode cX5_sortPass 74 = .ok (.iload 7, 2) := by decide +kernel
theorem dX5_sortPass_76 : decode cX5_sortPass 76 = .ok (.iload 5, 2) := by decide +kernel
theorem dX5_sortPass_78 : decode cX5_sortPass 78 = .ok (.iadd, 1) := by decide +kernel
theorem dX5_sortPass_79 : decode cX5_sortPass 79 = .ok (.iload 10, 2) := by decide +kernel
theorem dX5_sortPass_81 : decode cX5_sortPass 81 = .ok (.ifCond .eq 8, 3) := by decide +kernel
theorem dX5_sortPass_84 : decode cX5_sortPass 84 = .ok (.aload 8, 2) := by decide +kernel
theorem dX5_sortPass_86 : decode cX5_sortPass 86 = .ok (.goto 5, 3) := by decide +kernel
theorem dX5_sortPass_89 : decode cX5_sortPass 89 = .ok (.aload 9, 2) := by decide +kernel
theorem dX5_sortPass_91 : decode cX5_sortPass 91 = .ok (.invokevirtual 41, 3) := by decide +kernel
theorem dX5_sortPass_94 : decode cX5_sortPass 94 = .ok (.iinc 6 1, 3) := by decide +kernel
theorem dX5_sortPass_97 : decode cX5_sortPass 97 = .ok (.goto (-94), 3) := by decide +kernel
theorem dX5_sortPass_100 : decode cX5_sortPass 100 = .ok (.return_, 1) := by decide +kernel
theorem dX5_squeeze_0 : decode cX5_squeeze 0 = .ok (.iconst 1, 1) := by decide +kernel
theorem dX5_squeeze_1 : decode cX5_squeeze 1 = .ok (.istore_n 3, 1) := by decide +kernel
theorem dX5_squeeze_2 : decode cX5_squeeze 2 = .ok (.iload_n 3, 1) := by decide +kernel
theorem dX5_squeeze_3 : decode cX5_squeeze 3 = .ok (.iload_n 2, 1) := by decide +kernel
theorem dX5_squeeze_4 : decode cX5_squeeze 4 = .ok (.if_icmp .ge 110, 3) := by decide +kernel
theorem dX5_squeeze_7 : decode cX5_squeeze 7 = .ok (.iload_n 3, 1) := by decide +kernel
theorem dX5_squeeze_8 : decode cX5_squeeze 8 = .ok (.bipush 76, 2) := by decide +kernel
theorem dX5_squeeze_10 : decode cX5_squeeze 10 = .ok (.if_icmp .ge 104, 3) := by decide +kernel
theorem dX5_squeeze_13 : decode cX5_squeeze 13 = .ok (.iload_n 3, 1) := by decide +kernel
theorem dX5_squeeze_14 : decode cX5_squeeze 14 = .ok (.istore 4, 2) := by decide +kernel
theorem dX5_squeeze_16 : decode cX5_squeeze 16 = .ok (.iload 4, 2) := by decide +kernel
theorem dX5_squeeze_18 : decode cX5_squeeze 18 = .ok (.iload_n 2, 1) := by decide +kernel
theorem dX5_squeeze_19 : decode cX5_squeeze 19 = .ok (.if_icmp .ge 88, 3) := by decide +kernel
theorem dX5_squeeze_22 : decode cX5_squeeze 22 = .ok (.iload_n 1, 1) := by decide +kernel
theorem dX5_squeeze_23 : decode cX5_squeeze 23 = .ok (.iload 4, 2) := by decide +kernel
theorem dX5_squeeze_25 : decode cX5_squeeze 25 = .ok (.iadd, 1) := by decide +kernel
theorem dX5_squeeze_26 : decode cX5_squeeze 26 = .ok (.istore 5, 2) := by decide +kernel
theorem dX5_squeeze_28 : decode cX5_squeeze 28 = .ok (.aload_n 0, 1) := by decide +kernel
theorem dX5_squeeze_29 : decode cX5_squeeze 29 = .ok (.iload 5, 2) := by decide +kernel
theorem dX5_squeeze_31 : decode cX5_squeeze 31 = .ok (.iload_n 3, 1) := by decide +kernel
theorem dX5_squeeze_32 : decode cX5_squeeze 32 = .ok (.isub, 1) := by decide +kernel
theorem dX5_squeeze_33 : decode cX5_squeeze 33 = .ok (.invokevirtual 34, 3) := by decide +kernel
theorem dX5_squeeze_36 : decode cX5_squeeze 36 = .ok (.astore 6, 2) := by decide +kernel
theorem dX5_squeeze_38 : decode cX5_squeeze 38 = .ok (.aload_n 0, 1) := by decide +kernel
theorem dX5_squeeze_39 : decode cX5_squeeze 39 = .ok (.iload 5, 2) := by decide +kernel
theorem dX5_squeeze_41 : decode cX5_squeeze 41 = .ok (.invokevirtual 34, 3) := by decide +kernel
theorem dX5_squeeze_44 : decode cX5_squeeze 44 = .ok (.astore 7, 2) := by decide +kernel
theorem dX5_squeeze_46 : decode cX5_squeeze 46 = .ok (.aload 7, 2) := by decide +kernel
theorem dX5_squeeze_48 : decode cX5_squeeze 48 = .ok (.getfield 106, 3) := by decide +kernel
theorem dX5_squeeze_51 : decode cX5_squeeze 51 = .ok (.iload_n 3, 1) := by decide +kernel
theorem dX5_squeeze_52 : decode cX5_squeeze 52 = .ok (.iand, 1) := by decide +kernel
theorem dX5_squeeze_53 : decode cX5_squeeze 53 = .ok (.ifCond .eq 7, 3) := by decide +kernel
theorem dX5_squeeze_56 : decode cX5_squeeze 56 = .ok (.iconst 1, 1) := by decide +kernel
theorem dX5_squeeze_57 : decode cX5_squeeze 57 = .ok (.goto 4, 3) := by decide +kernel
theorem dX5_squeeze_60 : decode cX5_squeeze 60 = .ok (.iconst 0, 1) := by decide +kernel
theorem dX5_squeeze_61 : decode cX5_squeeze 61 = .ok (.istore 8, 2) := by decide +kernel
theorem dX5_squeeze_63 : decode cX5_squeeze 63 = .ok (.aload_n 0, 1) := by decide +kernel
theorem dX5_squeeze_64 : decode cX5_squeeze 64 = .ok (.iload 5, 2) := by decide +kernel
theorem dX5_squeeze_66 : decode cX5_squeeze 66 = .ok (.iload_n 3, 1) := by decide +kernel
theorem dX5_squeeze_67 : decode cX5_squeeze 67 = .ok (.isub, 1) := by decide +kernel
theorem dX5_squeeze_68 : decode cX5_squeeze 68 = .ok (.iload 8, 2) := by decide +kernel
theorem dX5_squeeze_70 : decode cX5_squeeze 70 = .ok (.ifCond .eq 8, 3) := by decide +kernel
theorem dX5_squeeze_73 : decode cX5_squeeze 73 = .ok (.aload 7, 2) := by decide +kernel
theorem dX5_squeeze_75 : decode cX5_squeeze 75 = .ok (.goto 5, 3) := by decide +kernel
theorem dX5_squeeze_78 : decode cX5_squeeze 78 = .ok (.aload 6, 2) := by decide +kernel
theorem dX5_squeeze_80 : decode cX5_squeeze 80 = .ok (.invokevirtual 41, 3) := by decide +kernel
theorem dX5_squeeze_83 : decode cX5_squeeze 83 = .ok (.aload_n 0, 1) := by decide +kernel
theorem dX5_squeeze_84 : decode cX5_squeeze 84 = .ok (.iload 5, 2) := by decide +kernel
theorem dX5_squeeze_86 : decode cX5_squeeze 86 = .ok (.iload 8, 2) := by decide +kernel
theorem dX5_squeeze_88 : decode cX5_squeeze 88 = .ok (.ifCond .eq 8, 3) := by decide +kernel
theorem dX5_squeeze_91 : decode cX5_squeeze 91 = .ok (.aload 6, 2) := by decide +kernel
theorem dX5_squeeze_93 : decode cX5_squeeze 93 = .ok (.goto 5, 3) := by decide +kernel
theorem dX5_squeeze_96 : decode cX5_squeeze 96 = .ok (.aload 7, 2) := by decide +kernel
theorem dX5_squeeze_98 : decode cX5_squeeze 98 = .ok (.invokevirtual 41, 3) := by decide +kernel
theorem dX5_squeeze_101 : decode cX5_squeeze 101 = .ok (.iinc 4 1, 3) := by decide +kernel
theorem dX5_squeeze_104 : decode cX5_squeeze 104 = .ok (.goto (-88), 3) := by decide +kernel
theorem dX5_squeeze_107 : decode cX5_squeeze 107 = .ok (.iload_n 3, 1) := by decide +kernel
theorem dX5_squeeze_108 : decode cX5_squeeze 108 = .ok (.iconst 2, 1) := by decide +kernel
theorem dX5_squeeze_109 : decode cX5_squeeze 109 = .ok (.imul, 1) := by decide +kernel
theorem dX5_squeeze_110 : decode cX5_squeeze 110 = .ok (.istore_n 3, 1) := by decide +kernel
theorem dX5_squeeze_111 : decode cX5_squeeze 111 = .ok (.goto (-109), 3) := by decide +kernel
theorem dX5_squeeze_114 : decode cX5_squeeze 114 = .ok (.return_, 1) := by decide +kernel
theorem dX5_spread_0 : decode cX5_spread 0 = .ok (.iload_n 2, 1) := by decide +kernel
theorem dX5_spread_1 : decode cX5_spread 1 = .ok (.invokestatic 95, 3) := by decide +kernel
theorem dX5_spread_4 : decode cX5_spread 4 = .ok (.istore_n 3, 1) := by decide +kernel
theorem dX5_spread_5 : decode cX5_spread 5 = .ok (.iload_n 3, 1) := by decide +kernel
theorem dX5_spread_6 : decode cX5_spread 6 = .ok (.ifCond .le 106, 3) := by decide +kernel
theorem dX5_spread_9 : decode cX5_spread 9 = .ok (.iload_n 2, 1) := by decide +kernel
theorem dX5_spread_10 : decode cX5_spread 10 = .ok (.iconst 1, 1) := by decide +kernel
theorem dX5_spread_11 : decode cX5_spread 11 = .ok (.isub, 1) := by decide +kernel
theorem dX5_spread_12 : decode cX5_spread 12 = .ok (.istore 4, 2) := by decide +kernel
theorem dX5_spread_14 : decode cX5_spread 14 = .ok (.iload 4, 2) := by decide +kernel
theorem dX5_spread_16 : decode cX5_spread 16 = .ok (.iload_n 3, 1) := by decide +kernel
theorem dX5_spread_17 : decode cX5_spread 17 = .ok (.if_icmp .lt 88, 3) := by decide +kernel
theorem dX5_spread_20 : decode cX5_spread 20 = .ok (.iload_n 1, 1) := by decide +kernel
theorem dX5_spread_21 : decode cX5_spread 21 = .ok (.iload 4, 2) := by decide +kernel
theorem dX5_spread_23 : decode cX5_spread 23 = .ok (.iadd, 1) := by decide +kernel
theorem dX5_spread_24 : decode cX5_spread 24 = .ok (.istore 5, 2) := by decide +kernel
theorem dX5_spread_26 : decode cX5_spread 26 = .ok (.aload_n 0, 1) := by decide +kernel
theorem dX5_spread_27 : decode cX5_spread 27 = .ok (.iload 5, 2) := by decide +kernel
theorem dX5_spread_29 : decode cX5_spread 29 = .ok (.iload_n 3, 1) := by decide +kernel
theorem dX5_spread_30 : decode cX5_spread 30 = .ok (.isub, 1) := by decide +kernel
theorem dX5_spread_31 : decode cX5_spread 31 = .ok (.invokevirtual 34, 3) := by decide +kernel
theorem dX5_spread_34 : decode cX5_spread 34 = .ok (.astore 6, 2) := by decide +kernel
theorem dX5_spread_36 : decode cX5_spread 36 = .ok (.aload_n 0, 1) := by decide +kernel
theorem dX5_spread_37 : decode cX5_spread 37 = .ok (.iload 5, 2) := by decide +kernel
theorem dX5_spread_39 : decode cX5_spread 39 = .ok (.invokevirtual 34, 3) := by decide +kernel
theorem dX5_spread_42 : decode cX5_spread 42 = .ok (.astore 7, 2) := by decide +kernel
theorem dX5_spread_44 : decode cX5_spread 44 = .ok (.aload 6, 2) := by decide +kernel
theorem dX5_spread_46 : decode cX5_spread 46 = .ok (.getfield 109, 3) := by decide +kernel
theorem dX5_spread_49 : decode cX5_spread 49 = .ok (.iload_n 3, 1) := by decide +kernel
theorem dX5_spread_50 : decode cX5_spread 50 = .ok (.iand, 1) := by decide +kernel
theorem dX5_spread_51 : decode cX5_spread 51 = .ok (.ifCond .eq 7, 3) := by decide +kernel
theorem dX5_spread_54 : decode cX5_spread 54 = .ok (.iconst 1, 1) := by decide +kernel
theorem dX5_spread_55 : decode cX5_spread 55 = .ok (.goto 4, 3) := by decide +kernel
theorem dX5_spread_58 : decode cX5_spread 58 = .ok (.iconst 0, 1) := by decide +kernel
theorem dX5_spread_59 : decode cX5_spread 59 = .ok (.istore 8, 2) := by decide +kernel
theorem dX5_spread_61 : decode cX5_spread 61 = .ok (.aload_n 0, 1) := by decide +kernel
theorem dX5_spread_62 : decode cX5_spread 62 = .ok (.iload 5, 2) := by decide +kernel
theorem dX5_spread_64 : decode cX5_spread 64 = .ok (.iload_n 3, 1) := by decide +kernel
theorem dX5_spread_65 : decode cX5_spread 65 = .ok (.isub, 1) := by decide +kernel
theorem dX5_spread_66 : decode cX5_spread 66 = .ok (.iload 8, 2) := by decide +kernel
theorem dX5_spread_68 : decode cX5_spread 68 = .ok (.ifCond .eq 8, 3) := by decide +kernel
theorem dX5_spread_71 : decode cX5_spread 71 = .ok (.aload 7, 2) := by decide +kernel
theorem dX5_spread_73 : decode cX5_spread 73 = .ok (.goto 5, 3) := by decide +kernel
theorem dX5_spread_76 : decode cX5_spread 76 = .ok (.aload 6, 2) := by decide +kernel
theorem dX5_spread_78 : decode cX5_spread 78 = .ok (.invokevirtual 41, 3) := by decide +kernel
theorem dX5_spread_81 : decode cX5_spread 81 = .ok (.aload_n 0, 1) := by decide +kernel
theorem dX5_spread_82 : decode cX5_spread 82 = .ok (.iload 5, 2) := by decide +kernel
theorem dX5_spread_84 : decode cX5_spread 84 = .ok (.iload 8, 2) := by decide +kernel
theorem dX5_spread_86 : decode cX5_spread 86 = .ok (.ifCond .eq 8, 3) := by decide +kernel
theorem dX5_spread_89 : decode cX5_spread 89 = .ok (.aload 6, 2) := by decide +kernel
theorem dX5_spread_91 : decode cX5_spread 91 = .ok (.goto 5, 3) := by decide +kernel
theorem dX5_spread_94 : decode cX5_spread 94 = .ok (.aload 7, 2) := by decide +kernel
theorem dX5_spread_96 : decode cX5_spread 96 = .ok (.invokevirtual 41, 3) := by decide +kernel
theorem dX5_spread_99 : decode cX5_spread 99 = .ok (.iinc 4 (-1), 3) := by decide +kernel
theorem dX5_spread_102 : decode cX5_spread 102 = .ok (.goto (-88), 3) := by decide +kernel
theorem dX5_spread_105 : decode cX5_spread 105 = .ok (.iload_n 3, 1) := by decide +kernel
theorem dX5_spread_106 : decode cX5_spread 106 = .ok (.iconst 2, 1) := by decide +kernel
theorem dX5_spread_107 : decode cX5_spread 107 = .ok (.idiv, 1) := by decide +kernel
theorem dX5_spread_108 : decode cX5_spread 108 = .ok (.istore_n 3, 1) := by decide +kernel
theorem dX5_spread_109 : decode cX5_spread 109 = .ok (.goto (-104), 3) := by decide +kernel
theorem dX5_spread_112 : decode cX5_spread 112 = .ok (.return_, 1) := by decide +kernel
