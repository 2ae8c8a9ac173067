theorem d_PQ_nearest_0 : decode b_PQ_nearest 0 = .ok (.iload_n 1, 1) := by decide +kernel
theorem d_PQ_nearest_1 : decode b_PQ_nearest 1 = .ok (.iload_n 2, 1) := by decide +kernel
theorem d_PQ_nearest_2 : decode b_PQ_nearest 2 = .ok (.iload_n 0, 1) := by decide +kernel
theorem d_PQ_nearest_3 : decode b_PQ_nearest 3 = .ok (.invokestatic 198, 3) := by decide +kernel
theorem d_PQ_nearest_6 : decode b_PQ_nearest 6 = .ok (.invokestatic 203, 3) := by decide +kernel
theorem d_PQ_nearest_9 : decode b_PQ_nearest 9 = .ok (.ireturn, 1) := by decide +kernel
theorem d_PQ_isUpTo_0 : decode b_PQ_isUpTo 0 = .ok (.iload_n 0, 1) := by decide +kernel
theorem d_PQ_isUpTo_1 : decode b_PQ_isUpTo 1 = .ok (.ifCond .lt 12, 3) := by decide +kernel
theorem d_PQ_isUpTo_4 : decode b_PQ_isUpTo 4 = .ok (.iload_n 0, 1) := by decide +kernel
theorem d_PQ_isUpTo_5 : decode b_PQ_isUpTo 5 = .ok (.iload_n 1, 1) := by decide +kernel
theorem d_PQ_isUpTo_6 : decode b_PQ_isUpTo 6 = .ok (.if_icmp .gt 7, 3) := by decide +kernel
theorem d_PQ_isUpTo_9 : decode b_PQ_isUpTo 9 = .ok (.iconst 1, 1) := by decide +kernel
theorem d_PQ_isUpTo_10 : decode b_PQ_isUpTo 10 = .ok (.goto 4, 3) := by decide +kernel
theorem d_PQ_isUpTo_13 : decode b_PQ_isUpTo 13 = .ok (.iconst 0, 1) := by decide +kernel
theorem d_PQ_isUpTo_14 : decode b_PQ_isUpTo 14 = .ok (.ireturn, 1) := by decide +kernel
theorem d_PQ_row_0 : decode b_PQ_row 0 = .ok (.aload_n 0, 1) := by decide +kernel
theorem d_PQ_row_1 : decode b_PQ_row 1 = .ok (.getfield 23, 3) := by decide +kernel
theorem d_PQ_row_4 : decode b_PQ_row 4 = .ok (.invokevirtual 85, 3) := by decide +kernel
theorem d_PQ_row_7 : decode b_PQ_row 7 = .ok (.bipush 60, 2) := by decide +kernel
theorem d_PQ_row_9 : decode b_PQ_row 9 = .ok (.if_icmp .lt 6, 3) := by decide +kernel
theorem d_PQ_row_12 : decode b_PQ_row 12 = .ok (.bipush (-106), 2) := by decide +kernel
theorem d_PQ_row_14 : decode b_PQ_row 14 = .ok (.ireturn, 1) := by decide +kernel
theorem d_PQ_row_15 : decode b_PQ_row 15 = .ok (.aload_n 0, 1) := by decide +kernel
theorem d_PQ_row_16 : decode b_PQ_row 16 = .ok (.getfield 23, 3) := by decide +kernel
theorem d_PQ_row_19 : decode b_PQ_row 19 = .ok (.iload_n 1, 1) := by decide +kernel
theorem d_PQ_row_20 : decode b_PQ_row 20 = .ok (.iload_n 2, 1) := by decide +kernel
theorem d_PQ_row_21 : decode b_PQ_row 21 = .ok (.iload_n 3, 1) := by decide +kernel
theorem d_PQ_row_22 : decode b_PQ_row 22 = .ok (.iload 4, 2) := by decide +kernel
theorem d_PQ_row_24 : decode b_PQ_row 24 = .ok (.iload 5, 2) := by decide +kernel
theorem d_PQ_row_26 : decode b_PQ_row 26 = .ok (.iload 6, 2) := by decide +kernel
theorem d_PQ_row_28 : decode b_PQ_row 28 = .ok (.invokevirtual 89, 3) := by decide +kernel
theorem d_PQ_row_31 : decode b_PQ_row 31 = .ok (.aload_n 0, 1) := by decide +kernel
theorem d_PQ_row_32 : decode b_PQ_row 32 = .ok (.getfield 23, 3) := by decide +kernel
theorem d_PQ_row_35 : decode b_PQ_row 35 = .ok (.invokevirtual 85, 3) := by decide +kernel
theorem d_PQ_row_38 : decode b_PQ_row 38 = .ok (.iconst 1, 1) := by decide +kernel
theorem d_PQ_row_39 : decode b_PQ_row 39 = .ok (.isub, 1) := by decide +kernel
theorem d_PQ_row_40 : decode b_PQ_row 40 = .ok (.ireturn, 1) := by decide +kernel
theorem d_PQ_drop_0 : decode b_PQ_drop 0 = .ok (.iload_n 1, 1) := by decide +kernel
theorem d_PQ_drop_1 : decode b_PQ_drop 1 = .ok (.ifCond .lt 14, 3) := by decide +kernel
theorem d_PQ_drop_4 : decode b_PQ_drop 4 = .ok (.iload_n 1, 1) := by decide +kernel
theorem d_PQ_drop_5 : decode b_PQ_drop 5 = .ok (.aload_n 0, 1) := by decide +kernel
theorem d_PQ_drop_6 : decode b_PQ_drop 6 = .ok (.getfield 23, 3) := by decide +kernel
theorem d_PQ_drop_9 : decode b_PQ_drop 9 = .ok (.invokevirtual 85, 3) := by decide +kernel
theorem d_PQ_drop_12 : decode b_PQ_drop 12 = .ok (.if_icmp .lt 6, 3) := by decide +kernel
theorem d_PQ_drop_15 : decode b_PQ_drop 15 = .ok (.bipush (-101), 2) := by decide +kernel
theorem d_PQ_drop_17 : decode b_PQ_drop 17 = .ok (.ireturn, 1) := by decide +kernel
theorem d_PQ_drop_18 : decode b_PQ_drop 18 = .ok (.aload_n 0, 1) := by decide +kernel
theorem d_PQ_drop_19 : decode b_PQ_drop 19 = .ok (.getfield 23, 3) := by decide +kernel
theorem d_PQ_drop_22 : decode b_PQ_drop 22 = .ok (.iload_n 1, 1) := by decide +kernel
theorem d_PQ_drop_23 : decode b_PQ_drop 23 = .ok (.invokevirtual 93, 3) := by decide +kernel
theorem d_PQ_drop_26 : decode b_PQ_drop 26 = .ok (.aload_n 0, 1) := by decide +kernel
theorem d_PQ_drop_27 : decode b_PQ_drop 27 = .ok (.getfield 23, 3) := by decide +kernel
theorem d_PQ_drop_30 : decode b_PQ_drop 30 = .ok (.invokevirtual 85, 3) := by decide +kernel
theorem d_PQ_drop_33 : decode b_PQ_drop 33 = .ok (.ireturn, 1) := by decide +kernel
theorem d_PQ_draws_0 : decode b_PQ_draws 0 = .ok (.iload_n 2, 1) := by decide +kernel
theorem d_PQ_draws_1 : decode b_PQ_draws 1 = .ok (.iconst (-1), 1) := by decide +kernel
theorem d_PQ_draws_2 : decode b_PQ_draws 2 = .ok (.if_icmp .eq 7, 3) := by decide +kernel
theorem d_PQ_draws_5 : decode b_PQ_draws 5 = .ok (.iconst 1, 1) := by decide +kernel
theorem d_PQ_draws_6 : decode b_PQ_draws 6 = .ok (.goto 4, 3) := by decide +kernel
theorem d_PQ_draws_9 : decode b_PQ_draws 9 = .ok (.iconst 0, 1) := by decide +kernel
theorem d_PQ_draws_10 : decode b_PQ_draws 10 = .ok (.istore_n 3, 1) := by decide +kernel
theorem d_PQ_draws_11 : decode b_PQ_draws 11 = .ok (.aload_n 0, 1) := by decide +kernel
theorem d_PQ_draws_12 : decode b_PQ_draws 12 = .ok (.getfield 32, 3) := by decide +kernel
theorem d_PQ_draws_15 : decode b_PQ_draws 15 = .ok (.iload_n 1, 1) := by decide +kernel
theorem d_PQ_draws_16 : decode b_PQ_draws 16 = .ok (.invokevirtual 97, 3) := by decide +kernel
theorem d_PQ_draws_19 : decode b_PQ_draws 19 = .ok (.ifCond .eq 18, 3) := by decide +kernel
theorem d_PQ_draws_22 : decode b_PQ_draws 22 = .ok (.iload_n 3, 1) := by decide +kernel
theorem d_PQ_draws_23 : decode b_PQ_draws 23 = .ok (.ifCond .eq 17, 3) := by decide +kernel
theorem d_PQ_draws_26 : decode b_PQ_draws 26 = .ok (.aload_n 0, 1) := by decide +kernel
theorem d_PQ_draws_27 : decode b_PQ_draws 27 = .ok (.getfield 32, 3) := by decide +kernel
theorem d_PQ_draws_30 : decode b_PQ_draws 30 = .ok (.iload_n 2, 1) := by decide +kernel
theorem d_PQ_draws_31 : decode b_PQ_draws 31 = .ok (.invokevirtual 97, 3) := by decide +kernel
theorem d_PQ_draws_34 : decode b_PQ_draws 34 = .ok (.ifCond .ne 6, 3) := by decide +kernel
theorem d_PQ_draws_37 : decode b_PQ_draws 37 = .ok (.bipush (-102), 2) := by decide +kernel
theorem d_PQ_draws_39 : decode b_PQ_draws 39 = .ok (.ireturn, 1) := by decide +kernel
theorem d_PQ_draws_40 : decode b_PQ_draws 40 = .ok (.aload_n 0, 1) := by decide +kernel
theorem d_PQ_draws_41 : decode b_PQ_draws 41 = .ok (.getfield 32, 3) := by decide +kernel
theorem d_PQ_draws_44 : decode b_PQ_draws 44 = .ok (.invokevirtual 101, 3) := by decide +kernel
theorem d_PQ_draws_47 : decode b_PQ_draws 47 = .ok (.iload_n 3, 1) := by decide +kernel
theorem d_PQ_draws_48 : decode b_PQ_draws 48 = .ok (.ifCond .eq 7, 3) := by decide +kernel
theorem d_PQ_draws_51 : decode b_PQ_draws 51 = .ok (.iconst 2, 1) := by decide +kernel
theorem d_PQ_draws_52 : decode b_PQ_draws 52 = .ok (.goto 4, 3) := by decide +kernel
theorem d_PQ_draws_55 : decode b_PQ_draws 55 = .ok (.iconst 1, 1) := by decide +kernel
theorem d_PQ_draws_56 : decode b_PQ_draws 56 = .ok (.iadd, 1) := by decide +kernel
theorem d_PQ_draws_57 : decode b_PQ_draws 57 = .ok (.sipush 3000, 3) := by decide +kernel
theorem d_PQ_draws_60 : decode b_PQ_draws 60 = .ok (.if_icmp .le 6, 3) := by decide +kernel
theorem d_PQ_draws_63 : decode b_PQ_draws 63 = .ok (.bipush (-106), 2) := by decide +kernel
theorem d_PQ_draws_65 : decode b_PQ_draws 65 = .ok (.ireturn, 1) := by decide +kernel
theorem d_PQ_draws_66 : decode b_PQ_draws 66 = .ok (.aload_n 0, 1) := by decide +kernel
theorem d_PQ_draws_67 : decode b_PQ_draws 67 = .ok (.getfield 32, 3) := by decide +kernel
theorem d_PQ_draws_70 : decode b_PQ_draws 70 = .ok (.iload_n 1, 1) := by decide +kernel
theorem d_PQ_draws_71 : decode b_PQ_draws 71 = .ok (.invokevirtual 102, 3) := by decide +kernel
theorem d_PQ_draws_74 : decode b_PQ_draws 74 = .ok (.iload_n 3, 1) := by decide +kernel
theorem d_PQ_draws_75 : decode b_PQ_draws 75 = .ok (.ifCond .eq 11, 3) := by decide +kernel
theorem d_PQ_draws_78 : decode b_PQ_draws 78 = .ok (.aload_n 0, 1) := by decide +kernel
theorem d_PQ_draws_79 : decode b_PQ_draws 79 = .ok (.getfield 32, 3) := by decide +kernel
theorem d_PQ_draws_82 : decode b_PQ_draws 82 = .ok (.iload_n 2, 1) := by decide +kernel
theorem d_PQ_draws_83 : decode b_PQ_draws 83 = .ok (.invokevirtual 102, 3) := by decide +kernel
theorem d_PQ_draws_86 : decode b_PQ_draws 86 = .ok (.aload_n 0, 1) := by decide +kernel
theorem d_PQ_draws_87 : decode b_PQ_draws 87 = .ok (.getfield 32, 3) := by decide +kernel
theorem d_PQ_draws_90 : decode b_PQ_draws 90 = .ok (.invokevirtual 101, 3) := by decide +kernel
theorem d_PQ_draws_93 : decode b_PQ_draws 93 = .ok (.ireturn, 1) := by decide +kernel
theorem d_PQ_count_0 : decode b_PQ_count 0 = .ok (.iload_n 1, 1) := by decide +kernel
theorem d_PQ_count_1 : decode b_PQ_count 1 = .ok (.tableswitch 106 0 5 #[39, 47, 55, 63, 82, 101], 39) := by decide +kernel
theorem d_PQ_count_40 : decode b_PQ_count 40 = .ok (.aload_n 0, 1) := by decide +kernel
theorem d_PQ_count_41 : decode b_PQ_count 41 = .ok (.getfield 23, 3) := by decide +kernel
theorem d_PQ_count_44 : decode b_PQ_count 44 = .ok (.invokevirtual 85, 3) := by decide +kernel
theorem d_PQ_count_47 : decode b_PQ_count 47 = .ok (.ireturn, 1) := by decide +kernel
theorem d_PQ_count_48 : decode b_PQ_count 48 = .ok (.aload_n 0, 1) := by decide +kernel
theorem d_PQ_count_49 : decode b_PQ_count 49 = .ok (.getfield 32, 3) := by decide +kernel
theorem d_PQ_count_52 : decode b_PQ_count 52 = .ok (.invokevirtual 101, 3) := by decide +kernel
theorem d_PQ_count_55 : decode b_PQ_count 55 = .ok (.ireturn, 1) := by decide +kernel
theorem d_PQ_count_56 : decode b_PQ_count 56 = .ok (.aload_n 0, 1) := by decide +kernel
theorem d_PQ_count_57 : decode b_PQ_count 57 = .ok (.getfield 46, 3) := by decide +kernel
theorem d_PQ_count_60 : decode b_PQ_count 60 = .ok (.invokevirtual 104, 3) := by decide +kernel
theorem d_PQ_count_63 : decode b_PQ_count 63 = .ok (.ireturn, 1) := by decide +kernel
theorem d_PQ_count_64 : decode b_PQ_count 64 = .ok (.aload_n 0, 1) := by decide +kernel
theorem d_PQ_count_65 : decode b_PQ_count 65 = .ok (.getfield 81, 3) := by decide +kernel
theorem d_PQ_count_68 : decode b_PQ_count 68 = .ok (.ifCond .eq 13, 3) := by decide +kernel
theorem d_PQ_count_71 : decode b_PQ_count 71 = .ok (.aload_n 0, 1) := by decide +kernel
theorem d_PQ_count_72 : decode b_PQ_count 72 = .ok (.getfield 74, 3) := by decide +kernel
theorem d_PQ_count_75 : decode b_PQ_count 75 = .ok (.invokevirtual 105, 3) := by decide +kernel
theorem d_PQ_count_78 : decode b_PQ_count 78 = .ok (.goto 4, 3) := by decide +kernel
theorem d_PQ_count_81 : decode b_PQ_count 81 = .ok (.iconst 0, 1) := by decide +kernel
theorem d_PQ_count_82 : decode b_PQ_count 82 = .ok (.ireturn, 1) := by decide +kernel
theorem d_PQ_count_83 : decode b_PQ_count 83 = .ok (.aload_n 0, 1) := by decide +kernel
theorem d_PQ_count_84 : decode b_PQ_count 84 = .ok (.getfield 81, 3) := by decide +kernel
theorem d_PQ_count_87 : decode b_PQ_count 87 = .ok (.ifCond .eq 13, 3) := by decide +kernel
theorem d_PQ_count_90 : decode b_PQ_count 90 = .ok (.aload_n 0, 1) := by decide +kernel
theorem d_PQ_count_91 : decode b_PQ_count 91 = .ok (.getfield 74, 3) := by decide +kernel
theorem d_PQ_count_94 : decode b_PQ_count 94 = .ok (.invokevirtual 108, 3) := by decide +kernel
theorem d_PQ_count_97 : decode b_PQ_count 97 = .ok (.goto 4, 3) := by decide +kernel
theorem d_PQ_count_100 : decode b_PQ_count 100 = .ok (.iconst 0, 1) := by decide +kernel
theorem d_PQ_count_101 : decode b_PQ_count 101 = .ok (.ireturn, 1) := by decide +kernel
theorem d_PQ_count_102 : decode b_PQ_count 102 = .ok (.aload_n 0, 1) := by decide +kernel
theorem d_PQ_count_103 : decode b_PQ_count 103 = .ok (.getfield 70, 3) := by decide +kernel
theorem d_PQ_count_106 : decode b_PQ_count 106 = .ok (.ireturn, 1) := by decide +kernel
theorem d_PQ_count_107 : decode b_PQ_count 107 = .ok (.bipush (-102), 2) := by decide +kernel
theorem d_PQ_count_109 : decode b_PQ_count 109 = .ok (.ireturn, 1) := by decide +kernel
theorem d_PQ_budget_0 : decode b_PQ_budget 0 = .ok (.iload_n 1, 1) := by decide +kernel
theorem d_PQ_budget_1 : decode b_PQ_budget 1 = .ok (.invokestatic 111, 3) := by decide +kernel
theorem d_PQ_budget_4 : decode b_PQ_budget 4 = .ok (.ifCond .ne 6, 3) := by decide +kernel
theorem d_PQ_budget_7 : decode b_PQ_budget 7 = .ok (.bipush (-101), 2) := by decide +kernel
theorem d_PQ_budget_9 : decode b_PQ_budget 9 = .ok (.ireturn, 1) := by decide +kernel
theorem d_PQ_budget_10 : decode b_PQ_budget 10 = .ok (.iload_n 2, 1) := by decide +kernel
theorem d_PQ_budget_11 : decode b_PQ_budget 11 = .ok (.ifCond .lt 9, 3) := by decide +kernel
theorem d_PQ_budget_14 : decode b_PQ_budget 14 = .ok (.iload_n 2, 1) := by decide +kernel
theorem d_PQ_budget_15 : decode b_PQ_budget 15 = .ok (.ldc 114, 2) := by decide +kernel
theorem d_PQ_budget_17 : decode b_PQ_budget 17 = .ok (.if_icmp .le 6, 3) := by decide +kernel
theorem d_PQ_budget_20 : decode b_PQ_budget 20 = .ok (.bipush (-102), 2) := by decide +kernel
theorem d_PQ_budget_22 : decode b_PQ_budget 22 = .ok (.ireturn, 1) := by decide +kernel
theorem d_PQ_budget_23 : decode b_PQ_budget 23 = .ok (.iload_n 2, 1) := by decide +kernel
theorem d_PQ_budget_24 : decode b_PQ_budget 24 = .ok (.aload_n 0, 1) := by decide +kernel
theorem d_PQ_budget_25 : decode b_PQ_budget 25 = .ok (.getfield 39, 3) := by decide +kernel
theorem d_PQ_budget_28 : decode b_PQ_budget 28 = .ok (.iload_n 1, 1) := by decide +kernel
theorem d_PQ_budget_29 : decode b_PQ_budget 29 = .ok (.invokevirtual 115, 3) := by decide +kernel
theorem d_PQ_budget_32 : decode b_PQ_budget 32 = .ok (.if_icmp .ge 6, 3) := by decide +kernel
theorem d_PQ_budget_35 : decode b_PQ_budget 35 = .ok (.bipush (-103), 2) := by decide +kernel
theorem d_PQ_budget_37 : decode b_PQ_budget 37 = .ok (.ireturn, 1) := by decide +kernel
theorem d_PQ_budget_38 : decode b_PQ_budget 38 = .ok (.aload_n 0, 1) := by decide +kernel
theorem d_PQ_budget_39 : decode b_PQ_budget 39 = .ok (.getfield 39, 3) := by decide +kernel
theorem d_PQ_budget_42 : decode b_PQ_budget 42 = .ok (.iload_n 1, 1) := by decide +kernel
theorem d_PQ_budget_43 : decode b_PQ_budget 43 = .ok (.invokevirtual 119, 3) := by decide +kernel
theorem d_PQ_budget_46 : decode b_PQ_budget 46 = .ok (.istore_n 3, 1) := by decide +kernel
theorem d_PQ_budget_47 : decode b_PQ_budget 47 = .ok (.aload_n 0, 1) := by decide +kernel
theorem d_PQ_budget_48 : decode b_PQ_budget 48 = .ok (.getfield 39, 3) := by decide +kernel
theorem d_PQ_budget_51 : decode b_PQ_budget 51 = .ok (.iload_n 1, 1) := by decide +kernel
theorem d_PQ_budget_52 : decode b_PQ_budget 52 = .ok (.iload_n 2, 1) := by decide +kernel
theorem d_PQ_budget_53 : decode b_PQ_budget 53 = .ok (.invokevirtual 122, 3) := by decide +kernel
theorem d_PQ_budget_56 : decode b_PQ_budget 56 = .ok (.iload_n 3, 1) := by decide +kernel
theorem d_PQ_budget_57 : decode b_PQ_budget 57 = .ok (.ireturn, 1) := by decide +kernel
theorem d_PQ_ledger_0 : decode b_PQ_ledger 0 = .ok (.iload_n 1, 1) := by decide +kernel
theorem d_PQ_ledger_1 : decode b_PQ_ledger 1 = .ok (.invokestatic 111, 3) := by decide +kernel
theorem d_PQ_ledger_4 : decode b_PQ_ledger 4 = .ok (.ifCond .ne 6, 3) := by decide +kernel
theorem d_PQ_ledger_7 : decode b_PQ_ledger 7 = .ok (.bipush (-101), 2) := by decide +kernel
theorem d_PQ_ledger_9 : decode b_PQ_ledger 9 = .ok (.ireturn, 1) := by decide +kernel
theorem d_PQ_ledger_10 : decode b_PQ_ledger 10 = .ok (.iload_n 2, 1) := by decide +kernel
theorem d_PQ_ledger_11 : decode b_PQ_ledger 11 = .ok (.ifCond .lt 8, 3) := by decide +kernel
theorem d_PQ_ledger_14 : decode b_PQ_ledger 14 = .ok (.iload_n 2, 1) := by decide +kernel
theorem d_PQ_ledger_15 : decode b_PQ_ledger 15 = .ok (.iconst 1, 1) := by decide +kernel
theorem d_PQ_ledger_16 : decode b_PQ_ledger 16 = .ok (.if_icmp .le 6, 3) := by decide +kernel
theorem d_PQ_ledger_19 : decode b_PQ_ledger 19 = .ok (.bipush (-102), 2) := by decide +kernel
theorem d_PQ_ledger_21 : decode b_PQ_ledger 21 = .ok (.ireturn, 1) := by decide +kernel
theorem d_PQ_ledger_22 : decode b_PQ_ledger 22 = .ok (.iload_n 2, 1) := by decide +kernel
theorem d_PQ_ledger_23 : decode b_PQ_ledger 23 = .ok (.ifCond .ne 14, 3) := by decide +kernel
theorem d_PQ_ledger_26 : decode b_PQ_ledger 26 = .ok (.aload_n 0, 1) := by decide +kernel
theorem d_PQ_ledger_27 : decode b_PQ_ledger 27 = .ok (.getfield 39, 3) := by decide +kernel
theorem d_PQ_ledger_30 : decode b_PQ_ledger 30 = .ok (.iload_n 1, 1) := by decide +kernel
theorem d_PQ_ledger_31 : decode b_PQ_ledger 31 = .ok (.invokevirtual 115, 3) := by decide +kernel
theorem d_PQ_ledger_34 : decode b_PQ_ledger 34 = .ok (.goto 11, 3) := by decide +kernel
theorem d_PQ_ledger_37 : decode b_PQ_ledger 37 = .ok (.aload_n 0, 1) := by decide +kernel
theorem d_PQ_ledger_38 : decode b_PQ_ledger 38 = .ok (.getfield 39, 3) := by decide +kernel
theorem d_PQ_ledger_41 : decode b_PQ_ledger 41 = .ok (.iload_n 1, 1) := by decide +kernel
theorem d_PQ_ledger_42 : decode b_PQ_ledger 42 = .ok (.invokevirtual 125, 3) := by decide +kernel
theorem d_PQ_ledger_45 : decode b_PQ_ledger 45 = .ok (.ireturn, 1) := by decide +kernel
theorem d_PQ_type_0 : decode b_PQ_type 0 = .ok (.iload_n 3, 1) := by decide +kernel
theorem d_PQ_type_1 : decode b_PQ_type 1 = .ok (.iconst 1, 1) := by decide +kernel
theorem d_PQ_type_2 : decode b_PQ_type 2 = .ok (.if_icmp .lt 17, 3) := by decide +kernel
theorem d_PQ_type_5 : decode b_PQ_type 5 = .ok (.iload_n 3, 1) := by decide +kernel
theorem d_PQ_type_6 : decode b_PQ_type 6 = .ok (.bipush 8, 2) := by decide +kernel
theorem d_PQ_type_8 : decode b_PQ_type 8 = .ok (.if_icmp .gt 11, 3) := by decide +kernel
theorem d_PQ_type_11 : decode b_PQ_type 11 = .ok (.lload_n 1, 1) := by decide +kernel
theorem d_PQ_type_12 : decode b_PQ_type 12 = .ok (.iload_n 3, 1) := by decide +kernel
theorem d_PQ_type_13 : decode b_PQ_type 13 = .ok (.invokestatic 128, 3) := by decide +kernel
theorem d_PQ_type_16 : decode b_PQ_type 16 = .ok (.ifCond .ne 6, 3) := by decide +kernel
theorem d_PQ_type_19 : decode b_PQ_type 19 = .ok (.bipush (-102), 2) := by decide +kernel
theorem d_PQ_type_21 : decode b_PQ_type 21 = .ok (.ireturn, 1) := by decide +kernel
theorem d_PQ_type_22 : decode b_PQ_type 22 = .ok (.aload_n 0, 1) := by decide +kernel
theorem d_PQ_type_23 : decode b_PQ_type 23 = .ok (.getfield 46, 3) := by decide +kernel
theorem d_PQ_type_26 : decode b_PQ_type 26 = .ok (.invokevirtual 104, 3) := by decide +kernel
theorem d_PQ_type_29 : decode b_PQ_type 29 = .ok (.iload_n 3, 1) := by decide +kernel
theorem d_PQ_type_30 : decode b_PQ_type 30 = .ok (.iadd, 1) := by decide +kernel
theorem d_PQ_type_31 : decode b_PQ_type 31 = .ok (.sipush 2000, 3) := by decide +kernel
theorem d_PQ_type_34 : decode b_PQ_type 34 = .ok (.if_icmp .le 6, 3) := by decide +kernel
theorem d_PQ_type_37 : decode b_PQ_type 37 = .ok (.bipush (-106), 2) := by decide +kernel
theorem d_PQ_type_39 : decode b_PQ_type 39 = .ok (.ireturn, 1) := by decide +kernel
theorem d_PQ_type_40 : decode b_PQ_type 40 = .ok (.aload_n 0, 1) := by decide +kernel
theorem d_PQ_type_41 : decode b_PQ_type 41 = .ok (.getfield 46, 3) := by decide +kernel
theorem d_PQ_type_44 : decode b_PQ_type 44 = .ok (.lload_n 1, 1) := by decide +kernel
theorem d_PQ_type_45 : decode b_PQ_type 45 = .ok (.iload_n 3, 1) := by decide +kernel
theorem d_PQ_type_46 : decode b_PQ_type 46 = .ok (.invokevirtual 132, 3) := by decide +kernel
theorem d_PQ_type_49 : decode b_PQ_type 49 = .ok (.aload_n 0, 1) := by decide +kernel
theorem d_PQ_type_50 : decode b_PQ_type 50 = .ok (.getfield 46, 3) := by decide +kernel
theorem d_PQ_type_53 : decode b_PQ_type 53 = .ok (.invokevirtual 104, 3) := by decide +kernel
theorem d_PQ_type_56 : decode b_PQ_type 56 = .ok (.ireturn, 1) := by decide +kernel
theorem d_PQ_told_0 : decode b_PQ_told 0 = .ok (.iload_n 1, 1) := by decide +kernel
theorem d_PQ_told_1 : decode b_PQ_told 1 = .ok (.ifCond .lt 29, 3) := by decide +kernel
theorem d_PQ_told_4 : decode b_PQ_told 4 = .ok (.iload_n 1, 1) := by decide +kernel
theorem d_PQ_told_5 : decode b_PQ_told 5 = .ok (.aload_n 0, 1) := by decide +kernel
theorem d_PQ_told_6 : decode b_PQ_told 6 = .ok (.getfield 70, 3) := by decide +kernel
theorem d_PQ_told_9 : decode b_PQ_told 9 = .ok (.if_icmp .ge 21, 3) := by decide +kernel
theorem d_PQ_told_12 : decode b_PQ_told 12 = .ok (.iload_n 1, 1) := by decide +kernel
theorem d_PQ_told_13 : decode b_PQ_told 13 = .ok (.aload_n 0, 1) := by decide +kernel
theorem d_PQ_told_14 : decode b_PQ_told 14 = .ok (.getfield 66, 3) := by decide +kernel
theorem d_PQ_told_17 : decode b_PQ_told 17 = .ok (.arraylength, 1) := by decide +kernel
theorem d_PQ_told_18 : decode b_PQ_told 18 = .ok (.if_icmp .ge 12, 3) := by decide +kernel
theorem d_PQ_told_21 : decode b_PQ_told 21 = .ok (.aload_n 0, 1) := by decide +kernel
theorem d_PQ_told_22 : decode b_PQ_told 22 = .ok (.getfield 66, 3) := by decide +kernel
theorem d_PQ_told_25 : decode b_PQ_told 25 = .ok (.iload_n 1, 1) := by decide +kernel
theorem d_PQ_told_26 : decode b_PQ_told 26 = .ok (.iaload, 1) := by decide +kernel
theorem d_PQ_told_27 : decode b_PQ_told 27 = .ok (.goto 4, 3) := by decide +kernel
theorem d_PQ_told_30 : decode b_PQ_told 30 = .ok (.iconst (-1), 1) := by decide +kernel
theorem d_PQ_told_31 : decode b_PQ_told 31 = .ok (.ireturn, 1) := by decide +kernel
theorem d_PQ_noise_0 : decode b_PQ_noise 0 = .ok (.iload_n 2, 1) := by decide +kernel
theorem d_PQ_noise_1 : decode b_PQ_noise 1 = .ok (.bipush 30, 2) := by decide +kernel
theorem d_PQ_noise_3 : decode b_PQ_noise 3 = .ok (.invokestatic 176, 3) := by decide +kernel
theorem d_PQ_noise_6 : decode b_PQ_noise 6 = .ok (.ifCond .eq 7, 3) := by decide +kernel
theorem d_PQ_noise_9 : decode b_PQ_noise 9 = .ok (.iload_n 1, 1) := by decide +kernel
theorem d_PQ_noise_10 : decode b_PQ_noise 10 = .ok (.ifCond .ge 6, 3) := by decide +kernel
theorem d_PQ_noise_13 : decode b_PQ_noise 13 = .ok (.bipush (-102), 2) := by decide +kernel
theorem d_PQ_noise_15 : decode b_PQ_noise 15 = .ok (.ireturn, 1) := by decide +kernel
theorem d_PQ_noise_16 : decode b_PQ_noise 16 = .ok (.iload_n 1, 1) := by decide +kernel
theorem d_PQ_noise_17 : decode b_PQ_noise 17 = .ok (.aload_n 0, 1) := by decide +kernel
theorem d_PQ_noise_18 : decode b_PQ_noise 18 = .ok (.getfield 32, 3) := by decide +kernel
theorem d_PQ_noise_21 : decode b_PQ_noise 21 = .ok (.invokevirtual 101, 3) := by decide +kernel
theorem d_PQ_noise_24 : decode b_PQ_noise 24 = .ok (.iload_n 2, 1) := by decide +kernel
theorem d_PQ_noise_25 : decode b_PQ_noise 25 = .ok (.iconst 1, 1) := by decide +kernel
theorem d_PQ_noise_26 : decode b_PQ_noise 26 = .ok (.iadd, 1) := by decide +kernel
theorem d_PQ_noise_27 : decode b_PQ_noise 27 = .ok (.isub, 1) := by decide +kernel
theorem d_PQ_noise_28 : decode b_PQ_noise 28 = .ok (.if_icmp .le 6, 3) := by decide +kernel
theorem d_PQ_noise_31 : decode b_PQ_noise 31 = .ok (.bipush (-105), 2) := by decide +kernel
theorem d_PQ_noise_33 : decode b_PQ_noise 33 = .ok (.ireturn, 1) := by decide +kernel
theorem d_PQ_noise_34 : decode b_PQ_noise 34 = .ok (.aload_n 0, 1) := by decide +kernel
theorem d_PQ_noise_35 : decode b_PQ_noise 35 = .ok (.getfield 32, 3) := by decide +kernel
theorem d_PQ_noise_38 : decode b_PQ_noise 38 = .ok (.iload_n 1, 1) := by decide +kernel
theorem d_PQ_noise_39 : decode b_PQ_noise 39 = .ok (.iload_n 2, 1) := by decide +kernel
theorem d_PQ_noise_40 : decode b_PQ_noise 40 = .ok (.invokevirtual 180, 3) := by decide +kernel
theorem d_PQ_noise_43 : decode b_PQ_noise 43 = .ok (.ireturn, 1) := by decide +kernel
theorem d_PQ_out_0 : decode b_PQ_out 0 = .ok (.aload_n 0, 1) := by decide +kernel
theorem d_PQ_out_1 : decode b_PQ_out 1 = .ok (.getfield 53, 3) := by decide +kernel
theorem d_PQ_out_4 : decode b_PQ_out 4 = .ok (.iload_n 1, 1) := by decide +kernel
theorem d_PQ_out_5 : decode b_PQ_out 5 = .ok (.invokevirtual 195, 3) := by decide +kernel
theorem d_PQ_out_8 : decode b_PQ_out 8 = .ok (.ireturn, 1) := by decide +kernel
theorem d_PQ_within_0 : decode b_PQ_within 0 = .ok (.iload_n 3, 1) := by decide +kernel
theorem d_PQ_within_1 : decode b_PQ_within 1 = .ok (.bipush 30, 2) := by decide +kernel
theorem d_PQ_within_3 : decode b_PQ_within 3 = .ok (.invokestatic 176, 3) := by decide +kernel
theorem d_PQ_within_6 : decode b_PQ_within 6 = .ok (.ifCond .eq 23, 3) := by decide +kernel
theorem d_PQ_within_9 : decode b_PQ_within 9 = .ok (.iload_n 1, 1) := by decide +kernel
theorem d_PQ_within_10 : decode b_PQ_within 10 = .ok (.iload_n 3, 1) := by decide +kernel
theorem d_PQ_within_11 : decode b_PQ_within 11 = .ok (.invokestatic 176, 3) := by decide +kernel
theorem d_PQ_within_14 : decode b_PQ_within 14 = .ok (.ifCond .eq 15, 3) := by decide +kernel
theorem d_PQ_within_17 : decode b_PQ_within 17 = .ok (.iload_n 2, 1) := by decide +kernel
theorem d_PQ_within_18 : decode b_PQ_within 18 = .ok (.iload_n 3, 1) := by decide +kernel
theorem d_PQ_within_19 : decode b_PQ_within 19 = .ok (.invokestatic 176, 3) := by decide +kernel
theorem d_PQ_within_22 : decode b_PQ_within 22 = .ok (.ifCond .eq 7, 3) := by decide +kernel
theorem d_PQ_within_25 : decode b_PQ_within 25 = .ok (.iconst 1, 1) := by decide +kernel
theorem d_PQ_within_26 : decode b_PQ_within 26 = .ok (.goto 4, 3) := by decide +kernel
theorem d_PQ_within_29 : decode b_PQ_within 29 = .ok (.iconst 0, 1) := by decide +kernel
theorem d_PQ_within_30 : decode b_PQ_within 30 = .ok (.ireturn, 1) := by decide +kernel
theorem d_PQ_workOutShare_0 : decode b_PQ_workOutShare 0 = .ok (.iload_n 1, 1) := by decide +kernel
theorem d_PQ_workOutShare_1 : decode b_PQ_workOutShare 1 = .ok (.iload_n 2, 1) := by decide +kernel
theorem d_PQ_workOutShare_2 : decode b_PQ_workOutShare 2 = .ok (.isub, 1) := by decide +kernel
theorem d_PQ_workOutShare_3 : decode b_PQ_workOutShare 3 = .ok (.invokestatic 212, 3) := by decide +kernel
theorem d_PQ_workOutShare_6 : decode b_PQ_workOutShare 6 = .ok (.istore 4, 2) := by decide +kernel
theorem d_PQ_workOutShare_8 : decode b_PQ_workOutShare 8 = .ok (.aload_n 0, 1) := by decide +kernel
theorem d_PQ_workOutShare_9 : decode b_PQ_workOutShare 9 = .ok (.getfield 60, 3) := by decide +kernel
theorem d_PQ_workOutShare_12 : decode b_PQ_workOutShare 12 = .ok (.invokevirtual 215, 3) := by decide +kernel
theorem d_PQ_workOutShare_15 : decode b_PQ_workOutShare 15 = .ok (.iload_n 3, 1) := by decide +kernel
theorem d_PQ_workOutShare_16 : decode b_PQ_workOutShare 16 = .ok (.ifCond .ne 21, 3) := by decide +kernel
theorem d_PQ_workOutShare_19 : decode b_PQ_workOutShare 19 = .ok (.aload_n 0, 1) := by decide +kernel
theorem d_PQ_workOutShare_20 : decode b_PQ_workOutShare 20 = .ok (.getfield 60, 3) := by decide +kernel
theorem d_PQ_workOutShare_23 : decode b_PQ_workOutShare 23 = .ok (.aload_n 0, 1) := by decide +kernel
theorem d_PQ_workOutShare_24 : decode b_PQ_workOutShare 24 = .ok (.getfield 13, 3) := by decide +kernel
theorem d_PQ_workOutShare_27 : decode b_PQ_workOutShare 27 = .ok (.aload_n 0, 1) := by decide +kernel
theorem d_PQ_workOutShare_28 : decode b_PQ_workOutShare 28 = .ok (.getfield 17, 3) := by decide +kernel
theorem d_PQ_workOutShare_31 : decode b_PQ_workOutShare 31 = .ok (.iadd, 1) := by decide +kernel
theorem d_PQ_workOutShare_32 : decode b_PQ_workOutShare 32 = .ok (.iconst 1, 1) := by decide +kernel
theorem d_PQ_workOutShare_33 : decode b_PQ_workOutShare 33 = .ok (.invokevirtual 218, 3) := by decide +kernel
theorem d_PQ_workOutShare_36 : decode b_PQ_workOutShare 36 = .ok (.return_, 1) := by decide +kernel
theorem d_PQ_workOutShare_37 : decode b_PQ_workOutShare 37 = .ok (.iload_n 2, 1) := by decide +kernel
theorem d_PQ_workOutShare_38 : decode b_PQ_workOutShare 38 = .ok (.ifCond .eq 8, 3) := by decide +kernel
theorem d_PQ_workOutShare_41 : decode b_PQ_workOutShare 41 = .ok (.iload_n 2, 1) := by decide +kernel
theorem d_PQ_workOutShare_42 : decode b_PQ_workOutShare 42 = .ok (.iload_n 3, 1) := by decide +kernel
theorem d_PQ_workOutShare_43 : decode b_PQ_workOutShare 43 = .ok (.if_icmp .ne 7, 3) := by decide +kernel
theorem d_PQ_workOutShare_46 : decode b_PQ_workOutShare 46 = .ok (.iconst 1, 1) := by decide +kernel
theorem d_PQ_workOutShare_47 : decode b_PQ_workOutShare 47 = .ok (.goto 4, 3) := by decide +kernel
theorem d_PQ_workOutShare_50 : decode b_PQ_workOutShare 50 = .ok (.iconst 0, 1) := by decide +kernel
theorem d_PQ_workOutShare_51 : decode b_PQ_workOutShare 51 = .ok (.istore 5, 2) := by decide +kernel
theorem d_PQ_workOutShare_53 : decode b_PQ_workOutShare 53 = .ok (.aload_n 0, 1) := by decide +kernel
theorem d_PQ_workOutShare_54 : decode b_PQ_workOutShare 54 = .ok (.getfield 60, 3) := by decide +kernel
theorem d_PQ_workOutShare_57 : decode b_PQ_workOutShare 57 = .ok (.iload 5, 2) := by decide +kernel
theorem d_PQ_workOutShare_59 : decode b_PQ_workOutShare 59 = .ok (.ifCond .eq 10, 3) := by decide +kernel
theorem d_PQ_workOutShare_62 : decode b_PQ_workOutShare 62 = .ok (.aload_n 0, 1) := by decide +kernel
theorem d_PQ_workOutShare_63 : decode b_PQ_workOutShare 63 = .ok (.getfield 17, 3) := by decide +kernel
theorem d_PQ_workOutShare_66 : decode b_PQ_workOutShare 66 = .ok (.goto 12, 3) := by decide +kernel
theorem d_PQ_workOutShare_69 : decode b_PQ_workOutShare 69 = .ok (.aload_n 0, 1) := by decide +kernel
theorem d_PQ_workOutShare_70 : decode b_PQ_workOutShare 70 = .ok (.getfield 17, 3) := by decide +kernel
theorem d_PQ_workOutShare_73 : decode b_PQ_workOutShare 73 = .ok (.aload_n 0, 1) := by decide +kernel
theorem d_PQ_workOutShare_74 : decode b_PQ_workOutShare 74 = .ok (.getfield 13, 3) := by decide +kernel
theorem d_PQ_workOutShare_77 : decode b_PQ_workOutShare 77 = .ok (.isub, 1) := by decide +kernel
theorem d_PQ_workOutShare_78 : decode b_PQ_workOutShare 78 = .ok (.iconst 1, 1) := by decide +kernel
theorem d_PQ_workOutShare_79 : decode b_PQ_workOutShare 79 = .ok (.invokevirtual 218, 3) := by decide +kernel
theorem d_PQ_workOutShare_82 : decode b_PQ_workOutShare 82 = .ok (.aload_n 0, 1) := by decide +kernel
theorem d_PQ_workOutShare_83 : decode b_PQ_workOutShare 83 = .ok (.getfield 60, 3) := by decide +kernel
theorem d_PQ_workOutShare_86 : decode b_PQ_workOutShare 86 = .ok (.aload_n 0, 1) := by decide +kernel
theorem d_PQ_workOutShare_87 : decode b_PQ_workOutShare 87 = .ok (.getfield 13, 3) := by decide +kernel
theorem d_PQ_workOutShare_90 : decode b_PQ_workOutShare 90 = .ok (.iload 4, 2) := by decide +kernel
theorem d_PQ_workOutShare_92 : decode b_PQ_workOutShare 92 = .ok (.invokevirtual 218, 3) := by decide +kernel
theorem d_PQ_workOutShare_95 : decode b_PQ_workOutShare 95 = .ok (.aload_n 0, 1) := by decide +kernel
theorem d_PQ_workOutShare_96 : decode b_PQ_workOutShare 96 = .ok (.getfield 60, 3) := by decide +kernel
theorem d_PQ_workOutShare_99 : decode b_PQ_workOutShare 99 = .ok (.aload_n 0, 1) := by decide +kernel
theorem d_PQ_workOutShare_100 : decode b_PQ_workOutShare 100 = .ok (.getfield 17, 3) := by decide +kernel
theorem d_PQ_workOutShare_103 : decode b_PQ_workOutShare 103 = .ok (.iload_n 3, 1) := by decide +kernel
theorem d_PQ_workOutShare_104 : decode b_PQ_workOutShare 104 = .ok (.iload 4, 2) := by decide +kernel
theorem d_PQ_workOutShare_106 : decode b_PQ_workOutShare 106 = .ok (.isub, 1) := by decide +kernel
theorem d_PQ_workOutShare_107 : decode b_PQ_workOutShare 107 = .ok (.invokevirtual 218, 3) := by decide +kernel
theorem d_PQ_workOutShare_110 : decode b_PQ_workOutShare 110 = .ok (.return_, 1) := by decide +kernel
theorem d_PQ_share_0 : decode b_PQ_share 0 = .ok (.iload_n 3, 1) := by decide +kernel
theorem d_PQ_share_1 : decode b_PQ_share 1 = .ok (.bipush 30, 2) := by decide +kernel
theorem d_PQ_share_3 : decode b_PQ_share 3 = .ok (.invokestatic 176, 3) := by decide +kernel
theorem d_PQ_share_6 : decode b_PQ_share 6 = .ok (.ifCond .eq 19, 3) := by decide +kernel
theorem d_PQ_share_9 : decode b_PQ_share 9 = .ok (.iload_n 1, 1) := by decide +kernel
theorem d_PQ_share_10 : decode b_PQ_share 10 = .ok (.iload_n 3, 1) := by decide +kernel
theorem d_PQ_share_11 : decode b_PQ_share 11 = .ok (.invokestatic 176, 3) := by decide +kernel
theorem d_PQ_share_14 : decode b_PQ_share 14 = .ok (.ifCond .eq 11, 3) := by decide +kernel
theorem d_PQ_share_17 : decode b_PQ_share 17 = .ok (.iload_n 2, 1) := by decide +kernel
theorem d_PQ_share_18 : decode b_PQ_share 18 = .ok (.iload_n 3, 1) := by decide +kernel
theorem d_PQ_share_19 : decode b_PQ_share 19 = .ok (.invokestatic 176, 3) := by decide +kernel
theorem d_PQ_share_22 : decode b_PQ_share 22 = .ok (.ifCond .ne 6, 3) := by decide +kernel
theorem d_PQ_share_25 : decode b_PQ_share 25 = .ok (.bipush (-102), 2) := by decide +kernel
theorem d_PQ_share_27 : decode b_PQ_share 27 = .ok (.ireturn, 1) := by decide +kernel
theorem d_PQ_share_28 : decode b_PQ_share 28 = .ok (.aload_n 0, 1) := by decide +kernel
theorem d_PQ_share_29 : decode b_PQ_share 29 = .ok (.iload_n 1, 1) := by decide +kernel
theorem d_PQ_share_30 : decode b_PQ_share 30 = .ok (.iload_n 2, 1) := by decide +kernel
theorem d_PQ_share_31 : decode b_PQ_share 31 = .ok (.iload_n 3, 1) := by decide +kernel
theorem d_PQ_share_32 : decode b_PQ_share 32 = .ok (.invokevirtual 190, 3) := by decide +kernel
theorem d_PQ_share_35 : decode b_PQ_share 35 = .ok (.aload_n 0, 1) := by decide +kernel
theorem d_PQ_share_36 : decode b_PQ_share 36 = .ok (.getfield 53, 3) := by decide +kernel
theorem d_PQ_share_39 : decode b_PQ_share 39 = .ok (.invokevirtual 184, 3) := by decide +kernel
theorem d_PQ_share_42 : decode b_PQ_share 42 = .ok (.aload_n 0, 1) := by decide +kernel
theorem d_PQ_share_43 : decode b_PQ_share 43 = .ok (.getfield 60, 3) := by decide +kernel
theorem d_PQ_share_46 : decode b_PQ_share 46 = .ok (.aload_n 0, 1) := by decide +kernel
theorem d_PQ_share_47 : decode b_PQ_share 47 = .ok (.getfield 53, 3) := by decide +kernel
theorem d_PQ_share_50 : decode b_PQ_share 50 = .ok (.invokevirtual 194, 3) := by decide +kernel
theorem d_PQ_share_53 : decode b_PQ_share 53 = .ok (.aload_n 0, 1) := by decide +kernel
theorem d_PQ_share_54 : decode b_PQ_share 54 = .ok (.getfield 53, 3) := by decide +kernel
theorem d_PQ_share_57 : decode b_PQ_share 57 = .ok (.invokevirtual 189, 3) := by decide +kernel
theorem d_PQ_share_60 : decode b_PQ_share 60 = .ok (.ireturn, 1) := by decide +kernel
theorem k_453 : (.methodLink R_PQ 198 Lib.Math.min.name : Cond) ∈ wG := wGm 116 (by decide +kernel) (by decide +kernel)
theorem k_454 : (.methodLink R_PQ 203 Lib.Math.max.name : Cond) ∈ wG := wGm 119 (by decide +kernel) (by decide +kernel)
theorem k_455 : (.fieldLink R_PQ 23 "PrivateQueries" "table" "LPrivateQueries$Table;" : Cond) ∈ wG := wGm 334 (by decide +kernel) (by decide +kernel)
theorem k_456 : (.methodLink R_PQ 85 y_Tab_size : Cond) ∈ wG := wGm 376 (by decide +kernel) (by decide +kernel)
theorem k_457 : (.instanceMethod y_Tab_size : Cond) ∈ wG := wGm 377 (by decide +kernel) (by decide +kernel)
theorem k_458 : (.selects R_Tab y_Tab_size y_Tab_size : Cond) ∈ wG := wGm 378 (by decide +kernel) (by decide +kernel)
theorem k_459 : (.code y_Tab_size b_Tab_size 1 (some .int) : Cond) ∈ wG := wGm 379 (by decide +kernel) (by decide +kernel)
theorem k_460 : (.methodLink R_PQ 89 y_Tab_add : Cond) ∈ wG := wGm 380 (by decide +kernel) (by decide +kernel)
theorem k_461 : (.instanceMethod y_Tab_add : Cond) ∈ wG := wGm 381 (by decide +kernel) (by decide +kernel)
theorem k_462 : (.selects R_Tab y_Tab_add y_Tab_add : Cond) ∈ wG := wGm 382 (by decide +kernel) (by decide +kernel)
theorem k_463 : (.code y_Tab_add b_Tab_add 8 none : Cond) ∈ wG := wGm 383 (by decide +kernel) (by decide +kernel)
theorem k_464 : (.methodLink R_PQ 93 y_Tab_remove : Cond) ∈ wG := wGm 388 (by decide +kernel) (by decide +kernel)
theorem k_465 : (.instanceMethod y_Tab_remove : Cond) ∈ wG := wGm 389 (by decide +kernel) (by decide +kernel)
theorem k_466 : (.selects R_Tab y_Tab_remove y_Tab_remove : Cond) ∈ wG := wGm 390 (by decide +kernel) (by decide +kernel)
theorem k_467 : (.code y_Tab_remove b_Tab_remove 3 none : Cond) ∈ wG := wGm 391 (by decide +kernel) (by decide +kernel)
theorem k_468 : (.fieldLink R_PQ 32 "PrivateQueries" "tape" "LPrivateQueries$Tape;" : Cond) ∈ wG := wGm 335 (by decide +kernel) (by decide +kernel)
theorem k_469 : (.methodLink R_PQ 97 y_Tape_isCell : Cond) ∈ wG := wGm 399 (by decide +kernel) (by decide +kernel)
theorem k_470 : (.instanceMethod y_Tape_isCell : Cond) ∈ wG := wGm 400 (by decide +kernel) (by decide +kernel)
theorem k_471 : (.selects R_Tape y_Tape_isCell y_Tape_isCell : Cond) ∈ wG := wGm 401 (by decide +kernel) (by decide +kernel)
theorem k_472 : (.code y_Tape_isCell b_Tape_isCell 2 (some .boolean) : Cond) ∈ wG := wGm 402 (by decide +kernel) (by decide +kernel)
theorem k_473 : (.methodLink R_PQ 101 y_Tape_size : Cond) ∈ wG := wGm 403 (by decide +kernel) (by decide +kernel)
theorem k_474 : (.instanceMethod y_Tape_size : Cond) ∈ wG := wGm 404 (by decide +kernel) (by decide +kernel)
theorem k_475 : (.selects R_Tape y_Tape_size y_Tape_size : Cond) ∈ wG := wGm 405 (by decide +kernel) (by decide +kernel)
theorem k_476 : (.code y_Tape_size b_Tape_size 1 (some .int) : Cond) ∈ wG := wGm 406 (by decide +kernel) (by decide +kernel)
theorem k_477 : (.methodLink R_PQ 102 y_Tape_add : Cond) ∈ wG := wGm 407 (by decide +kernel) (by decide +kernel)
theorem k_478 : (.instanceMethod y_Tape_add : Cond) ∈ wG := wGm 408 (by decide +kernel) (by decide +kernel)
theorem k_479 : (.selects R_Tape y_Tape_add y_Tape_add : Cond) ∈ wG := wGm 409 (by decide +kernel) (by decide +kernel)
theorem k_480 : (.code y_Tape_add b_Tape_add 2 none : Cond) ∈ wG := wGm 410 (by decide +kernel) (by decide +kernel)
theorem k_481 : (.fieldLink R_PQ 46 "PrivateQueries" "text" "LPrivateQueries$Text;" : Cond) ∈ wG := wGm 337 (by decide +kernel) (by decide +kernel)
theorem k_482 : (.methodLink R_PQ 104 y_Text_size : Cond) ∈ wG := wGm 415 (by decide +kernel) (by decide +kernel)
theorem k_483 : (.instanceMethod y_Text_size : Cond) ∈ wG := wGm 416 (by decide +kernel) (by decide +kernel)
theorem k_484 : (.selects R_Text y_Text_size y_Text_size : Cond) ∈ wG := wGm 417 (by decide +kernel) (by decide +kernel)
theorem k_485 : (.code y_Text_size b_Text_size 1 (some .int) : Cond) ∈ wG := wGm 418 (by decide +kernel) (by decide +kernel)
theorem k_486 : (.fieldLink R_PQ 81 "PrivateQueries" "hasScript" "Z" : Cond) ∈ wG := wGm 344 (by decide +kernel) (by decide +kernel)
theorem k_487 : (.fieldLink R_PQ 74 "PrivateQueries" "script" "LPrivateQueries$Script;" : Cond) ∈ wG := wGm 342 (by decide +kernel) (by decide +kernel)
theorem k_488 : (.methodLink R_PQ 105 y_Scr_asked : Cond) ∈ wG := wGm 419 (by decide +kernel) (by decide +kernel)
theorem k_489 : (.instanceMethod y_Scr_asked : Cond) ∈ wG := wGm 420 (by decide +kernel) (by decide +kernel)
theorem k_490 : (.selects R_Scr y_Scr_asked y_Scr_asked : Cond) ∈ wG := wGm 421 (by decide +kernel) (by decide +kernel)
theorem k_491 : (.initialized R_Scr : Cond) ∈ wG := wGm 93 (by decide +kernel) (by decide +kernel)
theorem k_492 : (.code y_Scr_asked b_Scr_asked 1 (some .int) : Cond) ∈ wG := wGm 422 (by decide +kernel) (by decide +kernel)
theorem k_493 : (.methodLink R_PQ 108 y_Scr_lets : Cond) ∈ wG := wGm 423 (by decide +kernel) (by decide +kernel)
theorem k_494 : (.instanceMethod y_Scr_lets : Cond) ∈ wG := wGm 424 (by decide +kernel) (by decide +kernel)
theorem k_495 : (.selects R_Scr y_Scr_lets y_Scr_lets : Cond) ∈ wG := wGm 425 (by decide +kernel) (by decide +kernel)
theorem k_496 : (.code y_Scr_lets b_Scr_lets 1 (some .int) : Cond) ∈ wG := wGm 426 (by decide +kernel) (by decide +kernel)
theorem k_497 : (.fieldLink R_PQ 70 "PrivateQueries" "toldSize" "I" : Cond) ∈ wG := wGm 341 (by decide +kernel) (by decide +kernel)
theorem k_498 : (.methodLink R_PQ 111 y_Pur_isKnown : Cond) ∈ wG := wGm 431 (by decide +kernel) (by decide +kernel)
theorem k_499 : (.constant R_PQ 114 1000000 : Cond) ∈ wG := wGm 434 (by decide +kernel) (by decide +kernel)
theorem k_500 : (.fieldLink R_PQ 39 "PrivateQueries" "purses" "LPrivateQueries$Purses;" : Cond) ∈ wG := wGm 336 (by decide +kernel) (by decide +kernel)
theorem k_501 : (.methodLink R_PQ 115 y_Pur_spentBy : Cond) ∈ wG := wGm 435 (by decide +kernel) (by decide +kernel)
theorem k_502 : (.methodLink R_PQ 119 y_Pur_grantedTo : Cond) ∈ wG := wGm 440 (by decide +kernel) (by decide +kernel)
theorem k_503 : (.methodLink R_PQ 122 y_Pur_grant : Cond) ∈ wG := wGm 444 (by decide +kernel) (by decide +kernel)
theorem k_504 : (.instanceMethod y_Pur_grant : Cond) ∈ wG := wGm 445 (by decide +kernel) (by decide +kernel)
theorem k_505 : (.selects R_Pur y_Pur_grant y_Pur_grant : Cond) ∈ wG := wGm 446 (by decide +kernel) (by decide +kernel)
theorem k_506 : (.code y_Pur_grant b_Pur_grant 3 none : Cond) ∈ wG := wGm 447 (by decide +kernel) (by decide +kernel)
theorem k_507 : (.methodLink R_PQ 125 y_Pur_leftTo : Cond) ∈ wG := wGm 452 (by decide +kernel) (by decide +kernel)
theorem k_508 : (.instanceMethod y_Pur_leftTo : Cond) ∈ wG := wGm 453 (by decide +kernel) (by decide +kernel)
theorem k_509 : (.selects R_Pur y_Pur_leftTo y_Pur_leftTo : Cond) ∈ wG := wGm 454 (by decide +kernel) (by decide +kernel)
theorem k_510 : (.code y_Pur_leftTo b_Pur_leftTo 2 (some .int) : Cond) ∈ wG := wGm 455 (by decide +kernel) (by decide +kernel)
theorem k_511 : (.code y_Text_areSigns b_Text_areSigns 5 (some .boolean) : Cond) ∈ wG := wGm 464 (by decide +kernel) (by decide +kernel)
theorem k_512 : (.methodLink R_PQ 128 y_Text_areSigns : Cond) ∈ wG := wGm 462 (by decide +kernel) (by decide +kernel)
theorem k_513 : (.static y_Text_areSigns : Cond) ∈ wG := wGm 463 (by decide +kernel) (by decide +kernel)
theorem k_514 : (.methodLink R_PQ 132 y_Text_add : Cond) ∈ wG := wGm 468 (by decide +kernel) (by decide +kernel)
theorem k_515 : (.instanceMethod y_Text_add : Cond) ∈ wG := wGm 469 (by decide +kernel) (by decide +kernel)
theorem k_516 : (.selects R_Text y_Text_add y_Text_add : Cond) ∈ wG := wGm 470 (by decide +kernel) (by decide +kernel)
theorem k_517 : (.code y_Text_add b_Text_add 5 none : Cond) ∈ wG := wGm 471 (by decide +kernel) (by decide +kernel)
theorem k_518 : (.fieldLink R_PQ 66 "PrivateQueries" "toldNumbers" "[I" : Cond) ∈ wG := wGm 340 (by decide +kernel) (by decide +kernel)
theorem k_519 : (.methodLink R_PQ 176 y_PQ_isUpTo : Cond) ∈ wG := wGm 860 (by decide +kernel) (by decide +kernel)
theorem k_520 : (.static y_PQ_isUpTo : Cond) ∈ wG := wGm 861 (by decide +kernel) (by decide +kernel)
theorem k_521 : (.initialized R_PQ : Cond) ∈ wG := wGm 85 (by decide +kernel) (by decide +kernel)
theorem k_522 : (.code y_PQ_isUpTo b_PQ_isUpTo 2 (some .boolean) : Cond) ∈ wG := wGm 862 (by decide +kernel) (by decide +kernel)
theorem k_523 : (.methodLink R_PQ 180 y_Tape_blockNoise : Cond) ∈ wG := wGm 839 (by decide +kernel) (by decide +kernel)
theorem k_524 : (.instanceMethod y_Tape_blockNoise : Cond) ∈ wG := wGm 840 (by decide +kernel) (by decide +kernel)
theorem k_525 : (.selects R_Tape y_Tape_blockNoise y_Tape_blockNoise : Cond) ∈ wG := wGm 841 (by decide +kernel) (by decide +kernel)
theorem k_526 : (.code y_Tape_blockNoise b_Tape_blockNoise 7 (some .int) : Cond) ∈ wG := wGm 842 (by decide +kernel) (by decide +kernel)
theorem k_527 : (.fieldLink R_PQ 53 "PrivateQueries" "written" "LPrivateQueries$Out;" : Cond) ∈ wG := wGm 338 (by decide +kernel) (by decide +kernel)
theorem k_528 : (.methodLink R_PQ 195 y_Out_signAt : Cond) ∈ wG := wGm 948 (by decide +kernel) (by decide +kernel)
theorem k_529 : (.instanceMethod y_Out_signAt : Cond) ∈ wG := wGm 949 (by decide +kernel) (by decide +kernel)
theorem k_530 : (.selects R_Out y_Out_signAt y_Out_signAt : Cond) ∈ wG := wGm 950 (by decide +kernel) (by decide +kernel)
theorem k_531 : (.code y_Out_signAt b_Out_signAt 2 (some .int) : Cond) ∈ wG := wGm 951 (by decide +kernel) (by decide +kernel)
theorem k_532 : (.methodLink R_PQ 212 Lib.Math.abs.name : Cond) ∈ wG := wGm 922 (by decide +kernel) (by decide +kernel)
theorem k_533 : (.static Lib.Math.abs.name : Cond) ∈ wG := wGm 923 (by decide +kernel) (by decide +kernel)
theorem k_534 : (.code Lib.Math.abs.name Lib.Math.abs.code 1 (some .int) : Cond) ∈ wG := wGm 924 (by decide +kernel) (by decide +kernel)
theorem k_535 : (.fieldLink R_PQ 60 "PrivateQueries" "product" "LPrivateQueries$Product;" : Cond) ∈ wG := wGm 339 (by decide +kernel) (by decide +kernel)
theorem k_536 : (.methodLink R_PQ 215 y_Prod_startAtOne : Cond) ∈ wG := wGm 925 (by decide +kernel) (by decide +kernel)
theorem k_537 : (.instanceMethod y_Prod_startAtOne : Cond) ∈ wG := wGm 926 (by decide +kernel) (by decide +kernel)
theorem k_538 : (.selects R_Prod y_Prod_startAtOne y_Prod_startAtOne : Cond) ∈ wG := wGm 927 (by decide +kernel) (by decide +kernel)
theorem k_539 : (.code y_Prod_startAtOne b_Prod_startAtOne 1 none : Cond) ∈ wG := wGm 928 (by decide +kernel) (by decide +kernel)
theorem k_540 : (.fieldLink R_PQ 17 "PrivateQueries" "q" "I" : Cond) ∈ wG := wGm 333 (by decide +kernel) (by decide +kernel)
theorem k_541 : (.methodLink R_PQ 218 y_Prod_times : Cond) ∈ wG := wGm 929 (by decide +kernel) (by decide +kernel)
theorem k_542 : (.instanceMethod y_Prod_times : Cond) ∈ wG := wGm 930 (by decide +kernel) (by decide +kernel)
theorem k_543 : (.selects R_Prod y_Prod_times y_Prod_times : Cond) ∈ wG := wGm 931 (by decide +kernel) (by decide +kernel)
theorem k_544 : (.code y_Prod_times b_Prod_times 4 none : Cond) ∈ wG := wGm 932 (by decide +kernel) (by decide +kernel)
theorem k_545 : (.fieldLink R_PQ 13 "PrivateQueries" "p" "I" : Cond) ∈ wG := wGm 332 (by decide +kernel) (by decide +kernel)
theorem k_546 : (.methodLink R_PQ 190 y_PQ_workOutShare : Cond) ∈ wG := wGm 918 (by decide +kernel) (by decide +kernel)
theorem k_547 : (.instanceMethod y_PQ_workOutShare : Cond) ∈ wG := wGm 920 (by decide +kernel) (by decide +kernel)
theorem k_548 : (.selects R_PQ y_PQ_workOutShare y_PQ_workOutShare : Cond) ∈ wG := wGm 32 (by decide +kernel) (by decide +kernel)
theorem k_549 : (.code y_PQ_workOutShare b_PQ_workOutShare 6 none : Cond) ∈ wG := wGm 921 (by decide +kernel) (by decide +kernel)
theorem k_550 : (.methodLink R_PQ 184 y_Out_clear : Cond) ∈ wG := wGm 867 (by decide +kernel) (by decide +kernel)
theorem k_551 : (.instanceMethod y_Out_clear : Cond) ∈ wG := wGm 868 (by decide +kernel) (by decide +kernel)
theorem k_552 : (.selects R_Out y_Out_clear y_Out_clear : Cond) ∈ wG := wGm 869 (by decide +kernel) (by decide +kernel)
theorem k_553 : (.code y_Out_clear b_Out_clear 1 none : Cond) ∈ wG := wGm 870 (by decide +kernel) (by decide +kernel)
theorem k_554 : (.methodLink R_PQ 194 y_Prod_writeInto : Cond) ∈ wG := wGm 938 (by decide +kernel) (by decide +kernel)
theorem k_555 : (.instanceMethod y_Prod_writeInto : Cond) ∈ wG := wGm 939 (by decide +kernel) (by decide +kernel)
theorem k_556 : (.selects R_Prod y_Prod_writeInto y_Prod_writeInto : Cond) ∈ wG := wGm 940 (by decide +kernel) (by decide +kernel)
theorem k_557 : (.code y_Prod_writeInto b_Prod_writeInto 3 none : Cond) ∈ wG := wGm 941 (by decide +kernel) (by decide +kernel)
theorem k_558 : (.methodLink R_PQ 189 y_Out_size : Cond) ∈ wG := wGm 910 (by decide +kernel) (by decide +kernel)
theorem k_559 : (.instanceMethod y_Out_size : Cond) ∈ wG := wGm 911 (by decide +kernel) (by decide +kernel)
theorem k_560 : (.selects R_Out y_Out_size y_Out_size : Cond) ∈ wG := wGm 912 (by decide +kernel) (by decide +kernel)
theorem k_561 : (.code y_Out_size b_Out_size 1 (some .int) : Cond) ∈ wG := wGm 913 (by decide +kernel) (by decide +kernel)
theorem g_PQ_85 : GoodIn wG (wsV R_PQ 85 R_Tab y_Tab_size w_Tab_size) := wGa (fun w hw => by
  rcases List.mem_cons.mp hw with e | hw
  · exact e ▸ k_456
  rcases List.mem_cons.mp hw with e | hw
  · exact e ▸ k_457
  rcases List.mem_cons.mp hw with e | hw
  · exact e ▸ k_458
  rcases List.mem_cons.mp hw with e | hw
  · exact e ▸ k_97
  · exact absurd hw List.not_mem_nil) (wGc k_459)
theorem g_PQ_89 : GoodIn wG (wsV R_PQ 89 R_Tab y_Tab_add w_Tab_add) := wGa (fun w hw => by
  rcases List.mem_cons.mp hw with e | hw
  · exact e ▸ k_460
  rcases List.mem_cons.mp hw with e | hw
  · exact e ▸ k_461
  rcases List.mem_cons.mp hw with e | hw
  · exact e ▸ k_462
  rcases List.mem_cons.mp hw with e | hw
  · exact e ▸ k_97
  · exact absurd hw List.not_mem_nil) (wGc k_463)
theorem g_PQ_93 : GoodIn wG (wsV R_PQ 93 R_Tab y_Tab_remove w_Tab_remove) := wGa (fun w hw => by
  rcases List.mem_cons.mp hw with e | hw
  · exact e ▸ k_464
  rcases List.mem_cons.mp hw with e | hw
  · exact e ▸ k_465
  rcases List.mem_cons.mp hw with e | hw
  · exact e ▸ k_466
  rcases List.mem_cons.mp hw with e | hw
  · exact e ▸ k_97
  · exact absurd hw List.not_mem_nil) (wGc k_467)
theorem g_PQ_97 : GoodIn wG (wsV R_PQ 97 R_Tape y_Tape_isCell w_Tape_isCell) := wGa (fun w hw => by
  rcases List.mem_cons.mp hw with e | hw
  · exact e ▸ k_469
  rcases List.mem_cons.mp hw with e | hw
  · exact e ▸ k_470
  rcases List.mem_cons.mp hw with e | hw
  · exact e ▸ k_471
  rcases List.mem_cons.mp hw with e | hw
  · exact e ▸ k_14
  · exact absurd hw List.not_mem_nil) (wGc k_472)
theorem g_PQ_101 : GoodIn wG (wsV R_PQ 101 R_Tape y_Tape_size w_Tape_size) := wGa (fun w hw => by
  rcases List.mem_cons.mp hw with e | hw
  · exact e ▸ k_473
  rcases List.mem_cons.mp hw with e | hw
  · exact e ▸ k_474
  rcases List.mem_cons.mp hw with e | hw
  · exact e ▸ k_475
  rcases List.mem_cons.mp hw with e | hw
  · exact e ▸ k_14
  · exact absurd hw List.not_mem_nil) (wGc k_476)
theorem g_PQ_102 : GoodIn wG (wsV R_PQ 102 R_Tape y_Tape_add w_Tape_add) := wGa (fun w hw => by
  rcases List.mem_cons.mp hw with e | hw
  · exact e ▸ k_477
  rcases List.mem_cons.mp hw with e | hw
  · exact e ▸ k_478
  rcases List.mem_cons.mp hw with e | hw
  · exact e ▸ k_479
  rcases List.mem_cons.mp hw with e | hw
  · exact e ▸ k_14
  · exact absurd hw List.not_mem_nil) (wGc k_480)
theorem g_PQ_104 : GoodIn wG (wsV R_PQ 104 R_Text y_Text_size w_Text_size) := wGa (fun w hw => by
  rcases List.mem_cons.mp hw with e | hw
  · exact e ▸ k_482
  rcases List.mem_cons.mp hw with e | hw
  · exact e ▸ k_483
  rcases List.mem_cons.mp hw with e | hw
  · exact e ▸ k_484
  rcases List.mem_cons.mp hw with e | hw
  · exact e ▸ k_35
  · exact absurd hw List.not_mem_nil) (wGc k_485)
theorem g_PQ_105 : GoodIn wG (wsV R_PQ 105 R_Scr y_Scr_asked w_Scr_asked) := wGa (fun w hw => by
  rcases List.mem_cons.mp hw with e | hw
  · exact e ▸ k_488
  rcases List.mem_cons.mp hw with e | hw
  · exact e ▸ k_489
  rcases List.mem_cons.mp hw with e | hw
  · exact e ▸ k_490
  rcases List.mem_cons.mp hw with e | hw
  · exact e ▸ k_491
  · exact absurd hw List.not_mem_nil) (wGc k_492)
theorem g_PQ_108 : GoodIn wG (wsV R_PQ 108 R_Scr y_Scr_lets w_Scr_lets) := wGa (fun w hw => by
  rcases List.mem_cons.mp hw with e | hw
  · exact e ▸ k_493
  rcases List.mem_cons.mp hw with e | hw
  · exact e ▸ k_494
  rcases List.mem_cons.mp hw with e | hw
  · exact e ▸ k_495
  rcases List.mem_cons.mp hw with e | hw
  · exact e ▸ k_491
  · exact absurd hw List.not_mem_nil) (wGc k_496)
theorem g_PQ_111 : GoodIn wG w_Pur_isKnown := wGc k_19
theorem g_PQ_115 : GoodIn wG (wsV R_PQ 115 R_Pur y_Pur_spentBy w_Pur_spentBy) := wGa (fun w hw => by
  rcases List.mem_cons.mp hw with e | hw
  · exact e ▸ k_501
  rcases List.mem_cons.mp hw with e | hw
  · exact e ▸ k_27
  rcases List.mem_cons.mp hw with e | hw
  · exact e ▸ k_28
  rcases List.mem_cons.mp hw with e | hw
  · exact e ▸ k_18
  · exact absurd hw List.not_mem_nil) (wGc k_29)
theorem g_PQ_119 : GoodIn wG (wsV R_PQ 119 R_Pur y_Pur_grantedTo w_Pur_grantedTo) := wGa (fun w hw => by
  rcases List.mem_cons.mp hw with e | hw
  · exact e ▸ k_502
  rcases List.mem_cons.mp hw with e | hw
  · exact e ▸ k_23
  rcases List.mem_cons.mp hw with e | hw
  · exact e ▸ k_24
  rcases List.mem_cons.mp hw with e | hw
  · exact e ▸ k_18
  · exact absurd hw List.not_mem_nil) (wGc k_25)
theorem g_PQ_122 : GoodIn wG (wsV R_PQ 122 R_Pur y_Pur_grant w_Pur_grant) := wGa (fun w hw => by
  rcases List.mem_cons.mp hw with e | hw
  · exact e ▸ k_503
  rcases List.mem_cons.mp hw with e | hw
  · exact e ▸ k_504
  rcases List.mem_cons.mp hw with e | hw
  · exact e ▸ k_505
  rcases List.mem_cons.mp hw with e | hw
  · exact e ▸ k_18
  · exact absurd hw List.not_mem_nil) (wGc k_506)
theorem g_PQ_125 : GoodIn wG (wsV R_PQ 125 R_Pur y_Pur_leftTo w_Pur_leftTo) := wGa (fun w hw => by
  rcases List.mem_cons.mp hw with e | hw
  · exact e ▸ k_507
  rcases List.mem_cons.mp hw with e | hw
  · exact e ▸ k_508
  rcases List.mem_cons.mp hw with e | hw
  · exact e ▸ k_509
  rcases List.mem_cons.mp hw with e | hw
  · exact e ▸ k_18
  · exact absurd hw List.not_mem_nil) (wGc k_510)
theorem g_PQ_128 : GoodIn wG w_Text_areSigns := wGc k_511
theorem g_PQ_132 : GoodIn wG (wsV R_PQ 132 R_Text y_Text_add w_Text_add) := wGa (fun w hw => by
  rcases List.mem_cons.mp hw with e | hw
  · exact e ▸ k_514
  rcases List.mem_cons.mp hw with e | hw
  · exact e ▸ k_515
  rcases List.mem_cons.mp hw with e | hw
  · exact e ▸ k_516
  rcases List.mem_cons.mp hw with e | hw
  · exact e ▸ k_35
  · exact absurd hw List.not_mem_nil) (wGc k_517)
theorem g_PQ_176 : GoodIn wG (wsS R_PQ 176 y_PQ_isUpTo w_PQ_isUpTo) := wGa (fun w hw => by
  rcases List.mem_cons.mp hw with e | hw
  · exact e ▸ k_519
  rcases List.mem_cons.mp hw with e | hw
  · exact e ▸ k_520
  rcases List.mem_cons.mp hw with e | hw
  · exact e ▸ k_521
  · exact absurd hw List.not_mem_nil) (wGc k_522)
theorem g_PQ_180 : GoodIn wG (wsV R_PQ 180 R_Tape y_Tape_blockNoise w_Tape_blockNoise) := wGa (fun w hw => by
  rcases List.mem_cons.mp hw with e | hw
  · exact e ▸ k_523
  rcases List.mem_cons.mp hw with e | hw
  · exact e ▸ k_524
  rcases List.mem_cons.mp hw with e | hw
  · exact e ▸ k_525
  rcases List.mem_cons.mp hw with e | hw
  · exact e ▸ k_14
  · exact absurd hw List.not_mem_nil) (wGc k_526)
theorem g_PQ_195 : GoodIn wG (wsV R_PQ 195 R_Out y_Out_signAt w_Out_signAt) := wGa (fun w hw => by
  rcases List.mem_cons.mp hw with e | hw
  · exact e ▸ k_528
  rcases List.mem_cons.mp hw with e | hw
  · exact e ▸ k_529
  rcases List.mem_cons.mp hw with e | hw
  · exact e ▸ k_530
  rcases List.mem_cons.mp hw with e | hw
  · exact e ▸ k_46
  · exact absurd hw List.not_mem_nil) (wGc k_531)
theorem g_PQ_215 : GoodIn wG (wsV R_PQ 215 R_Prod y_Prod_startAtOne w_Prod_startAtOne) := wGa (fun w hw => by
  rcases List.mem_cons.mp hw with e | hw
  · exact e ▸ k_536
  rcases List.mem_cons.mp hw with e | hw
  · exact e ▸ k_537
  rcases List.mem_cons.mp hw with e | hw
  · exact e ▸ k_538
  rcases List.mem_cons.mp hw with e | hw
  · exact e ▸ k_57
  · exact absurd hw List.not_mem_nil) (wGc k_539)
theorem g_PQ_218 : GoodIn wG (wsV R_PQ 218 R_Prod y_Prod_times w_Prod_times) := wGa (fun w hw => by
  rcases List.mem_cons.mp hw with e | hw
  · exact e ▸ k_541
  rcases List.mem_cons.mp hw with e | hw
  · exact e ▸ k_542
  rcases List.mem_cons.mp hw with e | hw
  · exact e ▸ k_543
  rcases List.mem_cons.mp hw with e | hw
  · exact e ▸ k_57
  · exact absurd hw List.not_mem_nil) (wGc k_544)
theorem g_PQ_190 : GoodIn wG (wsV R_PQ 190 R_PQ y_PQ_workOutShare w_PQ_workOutShare) := wGa (fun w hw => by
  rcases List.mem_cons.mp hw with e | hw
  · exact e ▸ k_546
  rcases List.mem_cons.mp hw with e | hw
  · exact e ▸ k_547
  rcases List.mem_cons.mp hw with e | hw
  · exact e ▸ k_548
  rcases List.mem_cons.mp hw with e | hw
  · exact e ▸ k_521
  · exact absurd hw List.not_mem_nil) (wGc k_549)
theorem g_PQ_184 : GoodIn wG (wsV R_PQ 184 R_Out y_Out_clear w_Out_clear) := wGa (fun w hw => by
  rcases List.mem_cons.mp hw with e | hw
  · exact e ▸ k_550
  rcases List.mem_cons.mp hw with e | hw
  · exact e ▸ k_551
  rcases List.mem_cons.mp hw with e | hw
  · exact e ▸ k_552
  rcases List.mem_cons.mp hw with e | hw
  · exact e ▸ k_46
  · exact absurd hw List.not_mem_nil) (wGc k_553)
theorem g_PQ_194 : GoodIn wG (wsV R_PQ 194 R_Prod y_Prod_writeInto w_Prod_writeInto) := wGa (fun w hw => by
  rcases List.mem_cons.mp hw with e | hw
  · exact e ▸ k_554
  rcases List.mem_cons.mp hw with e | hw
  · exact e ▸ k_555
  rcases List.mem_cons.mp hw with e | hw
  · exact e ▸ k_556
  rcases List.mem_cons.mp hw with e | hw
  · exact e ▸ k_57
  · exact absurd hw List.not_mem_nil) (wGc k_557)
theorem g_PQ_189 : GoodIn wG (wsV R_PQ 189 R_Out y_Out_size w_Out_size) := wGa (fun w hw => by
  rcases List.mem_cons.mp hw with e | hw
  · exact e ▸ k_558
  rcases List.mem_cons.mp hw with e | hw
  · exact e ▸ k_559
  rcases List.mem_cons.mp hw with e | hw
  · exact e ▸ k_560
  rcases List.mem_cons.mp hw with e | hw
  · exact e ▸ k_46
  · exact absurd hw List.not_mem_nil) (wGc k_561)
set_option maxHeartbeats 4000000 in
set_option maxRecDepth 100000 in
theorem c_PQ_nearest (l : Launch) (G : GG)  (x : Int32) (z : Int32) (v : Int32) : Det l G y_PQ_nearest w_PQ_nearest (rmD 1) 0 0 [.int x, .int z, .int v] [] (some (.int (s_PQ_nearest x z v))) [] := by
  refine Det.of (cc := b_PQ_nearest) (maxL := 3) (ret := (some .int)) (by decide) rfl (Nat.le_of_ble_eq_true rfl) ?_
  intro p e s m args below meth c A ls hx hb hr hml hown hts hlocks hin hA hK hZ hP hD hS hl
  have hts : ∀ w ∈ wG, w.before args s = true := fun w h => hts w (List.mem_cons_of_mem _ h)
  have hown : s.vm.findClass R_PQ = some m.cls := hown
  have hl : lv_has ls 3 [(0, .int x), (1, .int z), (2, .int v)] := hl
  refine lv_iload_n hx hb d_PQ_nearest_0 rfl (lv_at hl 1 rfl) ?_
  refine lv_iload_n hx hb d_PQ_nearest_1 rfl (lv_at hl 2 rfl) ?_
  refine lv_iload_n hx hb d_PQ_nearest_2 rfl (lv_at hl 0 rfl) ?_
  refine va_mmin hx hb (hml.trans hl.1.symm) hown (hts (.methodLink R_PQ 198 Lib.Math.min.name) k_453) (hts (.static Lib.Math.min.name) k_60) (hts (.initialized "java/lang/Math") k_52) (hts (.code Lib.Math.min.name Lib.Math.min.code 2 (some .int)) k_61) (Nat.le_of_ble_eq_true rfl) (Nat.le_of_ble_eq_true rfl) (Nat.zero_le _) (Nat.zero_le _) d_PQ_nearest_3 ?_
  refine va_mmax hx hb (hml.trans hl.1.symm) hown (hts (.methodLink R_PQ 203 Lib.Math.max.name) k_454) (hts (.static Lib.Math.max.name) k_51) (hts (.initialized "java/lang/Math") k_52) (hts (.code Lib.Math.max.name Lib.Math.max.code 2 (some .int)) k_53) (Nat.le_of_ble_eq_true rfl) (Nat.le_of_ble_eq_true rfl) (Nat.zero_le _) (Nat.zero_le _) d_PQ_nearest_6 ?_
  exact ly_iret hx hb hr hlocks hP hD hS d_PQ_nearest_9 (by rw [s_PQ_nearest]) rfl

theorem z_PQ_isUpTo {x : Int32} {z : Int32} : isB (s_PQ_isUpTo x z) := by
  rw [s_PQ_isUpTo]
  by_cases ct1 : x < 0
  · rw [if_pos ct1]
    first | exact isB_0 | exact isB_1 | assumption
  rw [if_neg ct1]
  by_cases ct2 : z < x
  · rw [if_pos ct2]
    first | exact isB_0 | exact isB_1 | assumption
  rw [if_neg ct2]
  first | exact isB_0 | exact isB_1 | assumption
set_option maxHeartbeats 4000000 in
set_option maxRecDepth 100000 in
theorem c_PQ_isUpTo (l : Launch) (G : GG)  (x : Int32) (z : Int32) : Det l G y_PQ_isUpTo w_PQ_isUpTo (rmD 0) 0 0 [.int x, .int z] [] (some (.int (s_PQ_isUpTo x z))) [] := by
  refine Det.of (cc := b_PQ_isUpTo) (maxL := 2) (ret := (some .boolean)) (by decide) rfl (Nat.le_of_ble_eq_true rfl) ?_
  intro p e s m args below meth c A ls hx hb hr hml hown hts hlocks hin hA hK hZ hP hD hS hl
  have hts : ∀ w ∈ wG, w.before args s = true := fun w h => hts w (List.mem_cons_of_mem _ h)
  have hown : s.vm.findClass R_PQ = some m.cls := hown
  have hl : lv_has ls 2 [(0, .int x), (1, .int z)] := hl
  refine lv_iload_n hx hb d_PQ_isUpTo_0 rfl (lv_at hl 0 rfl) ?_
  refine lv_if_lt (tgt := 13) hx hb d_PQ_isUpTo_1 (by decide) (fun c1 => ?_) (fun c1 => ?_)
  · skip
    refine lv_iconst (v := 0) hx hb d_PQ_isUpTo_13 (by decide) ?_
    exact ly_zret hx hb hr hlocks hP hD hS d_PQ_isUpTo_14 (by decide) (by rw [s_PQ_isUpTo, if_pos c1]) rfl
  refine lv_iload_n hx hb d_PQ_isUpTo_4 rfl (lv_at hl 0 rfl) ?_
  refine lv_iload_n hx hb d_PQ_isUpTo_5 rfl (lv_at hl 1 rfl) ?_
  refine lv_icmp_gt (tgt := 13) hx hb d_PQ_isUpTo_6 (by decide) (fun c2 => ?_) (fun c2 => ?_)
  · skip
    refine lv_iconst (v := 0) hx hb d_PQ_isUpTo_13 (by decide) ?_
    exact ly_zret hx hb hr hlocks hP hD hS d_PQ_isUpTo_14 (by decide) (by rw [s_PQ_isUpTo, if_neg c1, if_pos c2]) rfl
  refine lv_iconst (v := 1) hx hb d_PQ_isUpTo_9 (by decide) ?_
  refine lv_goto (tgt := 14) hx hb d_PQ_isUpTo_10 (by decide) ?_
  exact ly_zret hx hb hr hlocks hP hD hS d_PQ_isUpTo_14 (by decide) (by rw [s_PQ_isUpTo, if_neg c1, if_neg c2]) rfl

set_option maxHeartbeats 4000000 in
set_option maxRecDepth 100000 in
theorem c_PQ_row (l : Launch) (G : GG) (h : Nat) (table_h : Nat) (table_a_numbers : Nat) (tape_h : Nat) (purses_h : Nat) (text_h : Nat) (written_h : Nat) (product_h : Nat) (a_toldNumbers : Nat) (script_h : Nat) (spare_h : Nat) (v_p : Int32) (v_q : Int32) (table_f_numbers : Nat → Int32) (table__rows : Int32) (v_toldSize : Int32) (v_hasScript : Int32) (x1 : Int32) (x2 : Int32) (x3 : Int32) (x4 : Int32) (x5 : Int32) (x6 : Int32) : Det l G y_PQ_row w_PQ_row (rmD 1) 0 0 [.ref h, .int x1, .int x2, .int x3, .int x4, .int x5, .int x6] [(h, .inr (0, [.int v_p, .int v_q, .ref table_h, .ref tape_h, .ref purses_h, .ref text_h, .ref written_h, .ref product_h, .ref a_toldNumbers, .int v_toldSize, .ref script_h, .ref spare_h, .int v_hasScript])), (table_h, .inr (1, [.ref table_a_numbers, .int table__rows])), (table_a_numbers, .inl (gI G, 360, .inl table_f_numbers))] (some (.int (s_PQ_row table_f_numbers table__rows x1 x2 x3 x4 x5 x6).1)) [(h, .inr (0, [.int v_p, .int v_q, .ref table_h, .ref tape_h, .ref purses_h, .ref text_h, .ref written_h, .ref product_h, .ref a_toldNumbers, .int v_toldSize, .ref script_h, .ref spare_h, .int v_hasScript])), (table_h, .inr (1, [.ref table_a_numbers, .int (s_PQ_row table_f_numbers table__rows x1 x2 x3 x4 x5 x6).2.1])), (table_a_numbers, .inl (gI G, 360, .inl (s_PQ_row table_f_numbers table__rows x1 x2 x3 x4 x5 x6).2.2))] := by
  refine Det.of (cc := b_PQ_row) (maxL := 7) (ret := (some .int)) (by decide) rfl (Nat.le_of_ble_eq_true rfl) ?_
  intro p e s m args below meth c A ls hx hb hr hml hown hts hlocks hin hA hK hZ hP hD hS hl
  have hts : ∀ w ∈ wG, w.before args s = true := fun w h => hts w (List.mem_cons_of_mem _ h)
  have hown : s.vm.findClass R_PQ = some m.cls := hown
  have hl : lv_has ls 7 [(0, .ref h), (1, .int x1), (2, .int x2), (3, .int x3), (4, .int x4), (5, .int x5), (6, .int x6)] := hl
  refine lv_aload_n hx hb d_PQ_row_0 rfl (lv_at hl 0 rfl) ?_
  refine va_get (D := G.1) (ci := 0) (C := R_PQ) (T := F_PQ) (N := 13) (v := .ref table_h) hx hb hts i_PQ hown hK hP 0 rfl rfl 2 (by decide) (hts (.fieldLink R_PQ 23 "PrivateQueries" "table" "LPrivateQueries$Table;") k_455) (fun _ h9 => h9) rfl d_PQ_row_1 ?_
  refine ly_callV (rest := []) (wf := [(h, .inr (0, [.int v_p, .int v_q, .ref table_h, .ref tape_h, .ref purses_h, .ref text_h, .ref written_h, .ref product_h, .ref a_toldNumbers, .int v_toldSize, .ref script_h, .ref spare_h, .int v_hasScript])), (table_h, .inr (1, [.ref table_a_numbers, .int table__rows])), (table_a_numbers, .inl (gI G, 360, .inl table_f_numbers))]) ⟨hx, hb, hml, hown, hts⟩ hA hK hZ hP hD hS (c_Tab_size l G table_h table_a_numbers table__rows) (cwV 0 hts g_PQ_85 rfl rfl rfl (by decide +kernel) ⟨Nat.le_of_ble_eq_true rfl, Nat.le_of_ble_eq_true rfl⟩) (ci := 1) (q0 := 1) rfl rfl rfl [1] rfl (by decide) rfl rfl rfl hl.1 rfl (Nat.le_of_ble_eq_true rfl) d_PQ_row_4 ⟨Nat.le_of_ble_eq_true rfl, Nat.le_of_ble_eq_true rfl⟩ (st1 := [.int table__rows]) (c1 := 0) (s1 := 0) rfl rfl rfl (fun H locs hP hD hS => ?_)
  refine lv_bipush (v := 60) hx hb d_PQ_row_7 (by decide) ?_
  refine lv_icmp_lt (tgt := 15) hx hb d_PQ_row_9 (by decide) (fun c1 => ?_) (fun c1 => ?_)
  · skip
    refine lv_aload_n hx hb d_PQ_row_15 rfl (lv_at hl 0 rfl) ?_
    refine va_get (D := G.1) (ci := 0) (C := R_PQ) (T := F_PQ) (N := 13) (v := .ref table_h) hx hb hts i_PQ hown hK hP 0 rfl rfl 2 (by decide) (hts (.fieldLink R_PQ 23 "PrivateQueries" "table" "LPrivateQueries$Table;") k_455) (fun _ h9 => h9) rfl d_PQ_row_16 ?_
    refine lv_iload_n hx hb d_PQ_row_19 rfl (lv_at hl 1 rfl) ?_
    refine lv_iload_n hx hb d_PQ_row_20 rfl (lv_at hl 2 rfl) ?_
    refine lv_iload_n hx hb d_PQ_row_21 rfl (lv_at hl 3 rfl) ?_
    refine lv_iload hx hb d_PQ_row_22 (lv_at hl 4 rfl) ?_
    refine lv_iload hx hb d_PQ_row_24 (lv_at hl 5 rfl) ?_
    refine lv_iload hx hb d_PQ_row_26 (lv_at hl 6 rfl) ?_
    obtain ⟨r1, hr1⟩ : ∃ r, (s_Tab_add table_f_numbers table__rows x1 x2 x3 x4 x5 x6) = r := ⟨_, rfl⟩
    have hC_r1 := (c_Tab_add l G table_h table_a_numbers table_f_numbers table__rows x1 x2 x3 x4 x5 x6)
    rw [hr1] at hC_r1
    refine ly_callV (rest := []) (wf := [(h, .inr (0, [.int v_p, .int v_q, .ref table_h, .ref tape_h, .ref purses_h, .ref text_h, .ref written_h, .ref product_h, .ref a_toldNumbers, .int v_toldSize, .ref script_h, .ref spare_h, .int v_hasScript])), (table_h, .inr (1, [.ref table_a_numbers, .int r1.1])), (table_a_numbers, .inl (gI G, 360, .inl r1.2))]) ⟨hx, hb, hml, hown, hts⟩ hA hK hZ hP hD hS hC_r1 (cwV 6 hts g_PQ_89 rfl rfl rfl (by decide +kernel) ⟨Nat.le_of_ble_eq_true rfl, Nat.le_of_ble_eq_true rfl⟩) (ci := 1) (q0 := 1) rfl rfl rfl [1, 2] rfl (by decide) rfl rfl rfl hl.1 rfl (Nat.le_of_ble_eq_true rfl) d_PQ_row_28 ⟨Nat.le_of_ble_eq_true rfl, Nat.le_of_ble_eq_true rfl⟩ (st1 := []) (c1 := 0) (s1 := 0) rfl rfl rfl (fun H locs hP hD hS => ?_)
    refine lv_aload_n hx hb d_PQ_row_31 rfl (lv_at hl 0 rfl) ?_
    refine va_get (D := G.1) (ci := 0) (C := R_PQ) (T := F_PQ) (N := 13) (v := .ref table_h) hx hb hts i_PQ hown hK hP 0 rfl rfl 2 (by decide) (hts (.fieldLink R_PQ 23 "PrivateQueries" "table" "LPrivateQueries$Table;") k_455) (fun _ h9 => h9) rfl d_PQ_row_32 ?_
    refine ly_callV (rest := []) (wf := [(h, .inr (0, [.int v_p, .int v_q, .ref table_h, .ref tape_h, .ref purses_h, .ref text_h, .ref written_h, .ref product_h, .ref a_toldNumbers, .int v_toldSize, .ref script_h, .ref spare_h, .int v_hasScript])), (table_h, .inr (1, [.ref table_a_numbers, .int r1.1])), (table_a_numbers, .inl (gI G, 360, .inl r1.2))]) ⟨hx, hb, hml, hown, hts⟩ hA hK hZ hP hD hS (c_Tab_size l G table_h table_a_numbers r1.1) (cwV 0 hts g_PQ_85 rfl rfl rfl (by decide +kernel) ⟨Nat.le_of_ble_eq_true rfl, Nat.le_of_ble_eq_true rfl⟩) (ci := 1) (q0 := 1) rfl rfl rfl [1] rfl (by decide) rfl rfl rfl hl.1 rfl (Nat.le_of_ble_eq_true rfl) d_PQ_row_35 ⟨Nat.le_of_ble_eq_true rfl, Nat.le_of_ble_eq_true rfl⟩ (st1 := [.int r1.1]) (c1 := 0) (s1 := 0) rfl rfl rfl (fun H locs hP hD hS => ?_)
    refine lv_iconst (v := 1) hx hb d_PQ_row_38 (by decide) ?_
    refine lv_isub hx hb d_PQ_row_39 ?_
    exact ly_iret hx hb hr hlocks hP hD hS d_PQ_row_40 (by rw [s_PQ_row] <;> simp only [hr1] <;> rw [if_pos c1]) (by rw [s_PQ_row] <;> simp only [hr1] <;> rw [if_pos c1])
  refine lv_bipush (v := (-106)) hx hb d_PQ_row_12 (by decide) ?_
  exact ly_iret hx hb hr hlocks hP hD hS d_PQ_row_14 (by rw [s_PQ_row, if_neg c1]) (by rw [s_PQ_row, if_neg c1])

set_option maxHeartbeats 4000000 in
set_option maxRecDepth 100000 in
theorem c_PQ_drop (l : Launch) (G : GG) (h : Nat) (table_h : Nat) (table_a_numbers : Nat) (tape_h : Nat) (purses_h : Nat) (text_h : Nat) (written_h : Nat) (product_h : Nat) (a_toldNumbers : Nat) (script_h : Nat) (spare_h : Nat) (v_p : Int32) (v_q : Int32) (table_f_numbers : Nat → Int32) (table__rows : Int32) (v_toldSize : Int32) (v_hasScript : Int32) (x : Int32) (hok : ok_PQ_drop table_f_numbers table__rows x) : Det l G y_PQ_drop w_PQ_drop (rmD 2) 0 0 [.ref h, .int x] [(h, .inr (0, [.int v_p, .int v_q, .ref table_h, .ref tape_h, .ref purses_h, .ref text_h, .ref written_h, .ref product_h, .ref a_toldNumbers, .int v_toldSize, .ref script_h, .ref spare_h, .int v_hasScript])), (table_h, .inr (1, [.ref table_a_numbers, .int table__rows])), (table_a_numbers, .inl (gI G, 360, .inl table_f_numbers))] (some (.int (s_PQ_drop table_f_numbers table__rows x).1)) [(h, .inr (0, [.int v_p, .int v_q, .ref table_h, .ref tape_h, .ref purses_h, .ref text_h, .ref written_h, .ref product_h, .ref a_toldNumbers, .int v_toldSize, .ref script_h, .ref spare_h, .int v_hasScript])), (table_h, .inr (1, [.ref table_a_numbers, .int (s_PQ_drop table_f_numbers table__rows x).2.1])), (table_a_numbers, .inl (gI G, 360, .inl (s_PQ_drop table_f_numbers table__rows x).2.2))] := by
  refine Det.of (cc := b_PQ_drop) (maxL := 2) (ret := (some .int)) (by decide) rfl (Nat.le_of_ble_eq_true rfl) ?_
  intro p e s m args below meth c A ls hx hb hr hml hown hts hlocks hin hA hK hZ hP hD hS hl
  have hts : ∀ w ∈ wG, w.before args s = true := fun w h => hts w (List.mem_cons_of_mem _ h)
  have hown : s.vm.findClass R_PQ = some m.cls := hown
  have hl : lv_has ls 2 [(0, .ref h), (1, .int x)] := hl
  rw [ok_PQ_drop] at hok
  refine lv_iload_n hx hb d_PQ_drop_0 rfl (lv_at hl 1 rfl) ?_
  refine lv_if_lt (tgt := 15) hx hb d_PQ_drop_1 (by decide) (fun c1 => ?_) (fun c1 => ?_)
  · skip
    rw [if_pos c1] at hok
    refine lv_bipush (v := (-101)) hx hb d_PQ_drop_15 (by decide) ?_
    exact ly_iret hx hb hr hlocks hP hD hS d_PQ_drop_17 (by rw [s_PQ_drop, if_pos c1]) (by rw [s_PQ_drop, if_pos c1])
  rw [if_neg c1] at hok
  refine lv_iload_n hx hb d_PQ_drop_4 rfl (lv_at hl 1 rfl) ?_
  refine lv_aload_n hx hb d_PQ_drop_5 rfl (lv_at hl 0 rfl) ?_
  refine va_get (D := G.1) (ci := 0) (C := R_PQ) (T := F_PQ) (N := 13) (v := .ref table_h) hx hb hts i_PQ hown hK hP 0 rfl rfl 2 (by decide) (hts (.fieldLink R_PQ 23 "PrivateQueries" "table" "LPrivateQueries$Table;") k_455) (fun _ h9 => h9) rfl d_PQ_drop_6 ?_
  refine ly_callV (rest := [.int x]) (wf := [(h, .inr (0, [.int v_p, .int v_q, .ref table_h, .ref tape_h, .ref purses_h, .ref text_h, .ref written_h, .ref product_h, .ref a_toldNumbers, .int v_toldSize, .ref script_h, .ref spare_h, .int v_hasScript])), (table_h, .inr (1, [.ref table_a_numbers, .int table__rows])), (table_a_numbers, .inl (gI G, 360, .inl table_f_numbers))]) ⟨hx, hb, hml, hown, hts⟩ hA hK hZ hP hD hS (c_Tab_size l G table_h table_a_numbers table__rows) (cwV 0 hts g_PQ_85 rfl rfl rfl (by decide +kernel) ⟨Nat.le_of_ble_eq_true rfl, Nat.le_of_ble_eq_true rfl⟩) (ci := 1) (q0 := 1) rfl rfl rfl [1] rfl (by decide) rfl rfl rfl hl.1 rfl (Nat.le_of_ble_eq_true rfl) d_PQ_drop_9 ⟨Nat.le_of_ble_eq_true rfl, Nat.le_of_ble_eq_true rfl⟩ (st1 := [.int table__rows, .int x]) (c1 := 0) (s1 := 0) rfl rfl rfl (fun H locs hP hD hS => ?_)
  refine lv_icmp_lt (tgt := 18) hx hb d_PQ_drop_12 (by decide) (fun c2 => ?_) (fun c2 => ?_)
  · skip
    rw [if_pos c2] at hok
    refine lv_aload_n hx hb d_PQ_drop_18 rfl (lv_at hl 0 rfl) ?_
    refine va_get (D := G.1) (ci := 0) (C := R_PQ) (T := F_PQ) (N := 13) (v := .ref table_h) hx hb hts i_PQ hown hK hP 0 rfl rfl 2 (by decide) (hts (.fieldLink R_PQ 23 "PrivateQueries" "table" "LPrivateQueries$Table;") k_455) (fun _ h9 => h9) rfl d_PQ_drop_19 ?_
    refine lv_iload_n hx hb d_PQ_drop_22 rfl (lv_at hl 1 rfl) ?_
    obtain ⟨hv1, hok⟩ := hok
    obtain ⟨r1, hr1⟩ : ∃ r, (s_Tab_remove table_f_numbers table__rows x) = r := ⟨_, rfl⟩
    try simp only [hr1] at hok
    have hC_r1 := (c_Tab_remove l G table_h table_a_numbers table_f_numbers table__rows x hv1)
    rw [hr1] at hC_r1
    refine ly_callV (rest := []) (wf := [(h, .inr (0, [.int v_p, .int v_q, .ref table_h, .ref tape_h, .ref purses_h, .ref text_h, .ref written_h, .ref product_h, .ref a_toldNumbers, .int v_toldSize, .ref script_h, .ref spare_h, .int v_hasScript])), (table_h, .inr (1, [.ref table_a_numbers, .int r1.1])), (table_a_numbers, .inl (gI G, 360, .inl r1.2))]) ⟨hx, hb, hml, hown, hts⟩ hA hK hZ hP hD hS hC_r1 (cwV 1 hts g_PQ_93 rfl rfl rfl (by decide +kernel) ⟨Nat.le_of_ble_eq_true rfl, Nat.le_of_ble_eq_true rfl⟩) (ci := 1) (q0 := 1) rfl rfl rfl [1, 2] rfl (by decide) rfl rfl rfl hl.1 rfl (Nat.le_of_ble_eq_true rfl) d_PQ_drop_23 ⟨Nat.le_of_ble_eq_true rfl, Nat.le_of_ble_eq_true rfl⟩ (st1 := []) (c1 := 0) (s1 := 0) rfl rfl rfl (fun H locs hP hD hS => ?_)
    refine lv_aload_n hx hb d_PQ_drop_26 rfl (lv_at hl 0 rfl) ?_
    refine va_get (D := G.1) (ci := 0) (C := R_PQ) (T := F_PQ) (N := 13) (v := .ref table_h) hx hb hts i_PQ hown hK hP 0 rfl rfl 2 (by decide) (hts (.fieldLink R_PQ 23 "PrivateQueries" "table" "LPrivateQueries$Table;") k_455) (fun _ h9 => h9) rfl d_PQ_drop_27 ?_
    refine ly_callV (rest := []) (wf := [(h, .inr (0, [.int v_p, .int v_q, .ref table_h, .ref tape_h, .ref purses_h, .ref text_h, .ref written_h, .ref product_h, .ref a_toldNumbers, .int v_toldSize, .ref script_h, .ref spare_h, .int v_hasScript])), (table_h, .inr (1, [.ref table_a_numbers, .int r1.1])), (table_a_numbers, .inl (gI G, 360, .inl r1.2))]) ⟨hx, hb, hml, hown, hts⟩ hA hK hZ hP hD hS (c_Tab_size l G table_h table_a_numbers r1.1) (cwV 0 hts g_PQ_85 rfl rfl rfl (by decide +kernel) ⟨Nat.le_of_ble_eq_true rfl, Nat.le_of_ble_eq_true rfl⟩) (ci := 1) (q0 := 1) rfl rfl rfl [1] rfl (by decide) rfl rfl rfl hl.1 rfl (Nat.le_of_ble_eq_true rfl) d_PQ_drop_30 ⟨Nat.le_of_ble_eq_true rfl, Nat.le_of_ble_eq_true rfl⟩ (st1 := [.int r1.1]) (c1 := 0) (s1 := 0) rfl rfl rfl (fun H locs hP hD hS => ?_)
    exact ly_iret hx hb hr hlocks hP hD hS d_PQ_drop_33 (by rw [s_PQ_drop] <;> simp only [hr1] <;> rw [if_neg c1, if_pos c2]) (by rw [s_PQ_drop] <;> simp only [hr1] <;> rw [if_neg c1, if_pos c2])
  rw [if_neg c2] at hok
  refine lv_bipush (v := (-101)) hx hb d_PQ_drop_15 (by decide) ?_
  exact ly_iret hx hb hr hlocks hP hD hS d_PQ_drop_17 (by rw [s_PQ_drop, if_neg c1, if_neg c2]) (by rw [s_PQ_drop, if_neg c1, if_neg c2])

set_option maxHeartbeats 4000000 in
set_option maxRecDepth 100000 in
theorem c_PQ_draws (l : Launch) (G : GG) (h : Nat) (table_h : Nat) (tape_h : Nat) (tape_a_cells : Nat) (purses_h : Nat) (text_h : Nat) (written_h : Nat) (product_h : Nat) (a_toldNumbers : Nat) (script_h : Nat) (spare_h : Nat) (v_p : Int32) (v_q : Int32) (tape__p : Int32) (tape__q : Int32) (tape_f_cells : Nat → Int32) (tape__size : Int32) (v_toldSize : Int32) (v_hasScript : Int32) (x : Int32) (z : Int32) (hok : ok_PQ_draws tape__p tape__q tape_f_cells tape__size x z) : Det l G y_PQ_draws w_PQ_draws (rmD 1) 0 0 [.ref h, .int x, .int z] [(h, .inr (0, [.int v_p, .int v_q, .ref table_h, .ref tape_h, .ref purses_h, .ref text_h, .ref written_h, .ref product_h, .ref a_toldNumbers, .int v_toldSize, .ref script_h, .ref spare_h, .int v_hasScript])), (tape_h, .inr (2, [.int tape__p, .int tape__q, .ref tape_a_cells, .int tape__size])), (tape_a_cells, .inl (gI G, 3000, .inl tape_f_cells))] (some (.int (s_PQ_draws tape__p tape__q tape_f_cells tape__size x z).1)) [(h, .inr (0, [.int v_p, .int v_q, .ref table_h, .ref tape_h, .ref purses_h, .ref text_h, .ref written_h, .ref product_h, .ref a_toldNumbers, .int v_toldSize, .ref script_h, .ref spare_h, .int v_hasScript])), (tape_h, .inr (2, [.int tape__p, .int tape__q, .ref tape_a_cells, .int (s_PQ_draws tape__p tape__q tape_f_cells tape__size x z).2.1])), (tape_a_cells, .inl (gI G, 3000, .inl (s_PQ_draws tape__p tape__q tape_f_cells tape__size x z).2.2))] := by
  refine Det.of (cc := b_PQ_draws) (maxL := 4) (ret := (some .int)) (by decide) rfl (Nat.le_of_ble_eq_true rfl) ?_
  intro p e s m args below meth c A ls hx hb hr hml hown hts hlocks hin hA hK hZ hP hD hS hl
  have hts : ∀ w ∈ wG, w.before args s = true := fun w h => hts w (List.mem_cons_of_mem _ h)
  have hown : s.vm.findClass R_PQ = some m.cls := hown
  have hl : lv_has ls 4 [(0, .ref h), (1, .int x), (2, .int z)] := hl
  rw [ok_PQ_draws] at hok
  refine lv_iload_n hx hb d_PQ_draws_0 rfl (lv_at hl 2 rfl) ?_
  refine lv_iconst (v := -1) hx hb d_PQ_draws_1 (by decide) ?_
  refine lv_icmp_eq (tgt := 9) hx hb d_PQ_draws_2 (by decide) (fun c1 => ?_) (fun c1 => ?_)
  · skip
    rw [if_pos c1] at hok
    refine lv_iconst (v := 0) hx hb d_PQ_draws_9 (by decide) ?_
    refine lv_istore_n (lv' := [(3, .int 0), (0, .ref h), (1, .int x), (2, .int z)]) hx hb d_PQ_draws_10 rfl hl (by decide) rfl (fun ls hl => ?_)
    refine lv_aload_n hx hb d_PQ_draws_11 rfl (lv_at hl 1 rfl) ?_
    refine va_get (D := G.1) (ci := 0) (C := R_PQ) (T := F_PQ) (N := 13) (v := .ref tape_h) hx hb hts i_PQ hown hK hP 0 rfl rfl 3 (by decide) (hts (.fieldLink R_PQ 32 "PrivateQueries" "tape" "LPrivateQueries$Tape;") k_468) (fun _ h9 => h9) rfl d_PQ_draws_12 ?_
    refine lv_iload_n hx hb d_PQ_draws_15 rfl (lv_at hl 2 rfl) ?_
    obtain ⟨r1, hr1⟩ : ∃ r, (s_Tape_isCell tape__p tape__q x) = r := ⟨_, rfl⟩
    try simp only [hr1] at hok
    have hC_r1 := (c_Tape_isCell l G tape_h tape_a_cells tape__p tape__q tape__size x)
    rw [hr1] at hC_r1
    have hf_r1_1 : isB r1 := by rw [← hr1]; exact z_Tape_isCell
    refine ly_callV (rest := []) (wf := [(h, .inr (0, [.int v_p, .int v_q, .ref table_h, .ref tape_h, .ref purses_h, .ref text_h, .ref written_h, .ref product_h, .ref a_toldNumbers, .int v_toldSize, .ref script_h, .ref spare_h, .int v_hasScript])), (tape_h, .inr (2, [.int tape__p, .int tape__q, .ref tape_a_cells, .int tape__size])), (tape_a_cells, .inl (gI G, 3000, .inl tape_f_cells))]) ⟨hx, hb, hml, hown, hts⟩ hA hK hZ hP hD hS hC_r1 (cwV 1 hts g_PQ_97 rfl rfl rfl (by decide +kernel) ⟨Nat.le_of_ble_eq_true rfl, Nat.le_of_ble_eq_true rfl⟩) (ci := 2) (q0 := 1) rfl rfl rfl [1] rfl (by decide) rfl rfl rfl hl.1 rfl (Nat.le_of_ble_eq_true rfl) d_PQ_draws_16 ⟨Nat.le_of_ble_eq_true rfl, Nat.le_of_ble_eq_true rfl⟩ (st1 := [.int r1]) (c1 := 0) (s1 := 0) rfl rfl rfl (fun H locs hP hD hS => ?_)
    refine lv_if_eq (tgt := 37) hx hb d_PQ_draws_19 (by decide) (fun c2 => ?_) (fun c2 => ?_)
    · skip
      rw [if_pos c2] at hok
      refine lv_bipush (v := (-102)) hx hb d_PQ_draws_37 (by decide) ?_
      exact ly_iret hx hb hr hlocks hP hD hS d_PQ_draws_39 (by rw [s_PQ_draws] <;> simp only [hr1] <;> rw [if_pos c1, if_pos c2]) (by rw [s_PQ_draws] <;> simp only [hr1] <;> rw [if_pos c1, if_pos c2])
    rw [if_neg c2] at hok
    refine lv_iload_n hx hb d_PQ_draws_22 rfl (lv_at hl 0 rfl) ?_
    refine lv_if_eq (tgt := 40) hx hb d_PQ_draws_23 (by decide) (fun c3 => ?_) (fun c3 => ?_)
    rotate_left 1
    · exact absurd (by decide) c3
    refine lv_aload_n hx hb d_PQ_draws_40 rfl (lv_at hl 1 rfl) ?_
    refine va_get (D := G.1) (ci := 0) (C := R_PQ) (T := F_PQ) (N := 13) (v := .ref tape_h) hx hb hts i_PQ hown hK hP 0 rfl rfl 3 (by decide) (hts (.fieldLink R_PQ 32 "PrivateQueries" "tape" "LPrivateQueries$Tape;") k_468) (fun _ h9 => h9) rfl d_PQ_draws_41 ?_
    refine ly_callV (rest := []) (wf := [(h, .inr (0, [.int v_p, .int v_q, .ref table_h, .ref tape_h, .ref purses_h, .ref text_h, .ref written_h, .ref product_h, .ref a_toldNumbers, .int v_toldSize, .ref script_h, .ref spare_h, .int v_hasScript])), (tape_h, .inr (2, [.int tape__p, .int tape__q, .ref tape_a_cells, .int tape__size])), (tape_a_cells, .inl (gI G, 3000, .inl tape_f_cells))]) ⟨hx, hb, hml, hown, hts⟩ hA hK hZ hP hD hS (c_Tape_size l G tape_h tape_a_cells tape__p tape__q tape__size) (cwV 0 hts g_PQ_101 rfl rfl rfl (by decide +kernel) ⟨Nat.le_of_ble_eq_true rfl, Nat.le_of_ble_eq_true rfl⟩) (ci := 2) (q0 := 1) rfl rfl rfl [1] rfl (by decide) rfl rfl rfl hl.1 rfl (Nat.le_of_ble_eq_true rfl) d_PQ_draws_44 ⟨Nat.le_of_ble_eq_true rfl, Nat.le_of_ble_eq_true rfl⟩ (st1 := [.int tape__size]) (c1 := 0) (s1 := 0) rfl rfl rfl (fun H locs hP hD hS => ?_)
    refine lv_iload_n hx hb d_PQ_draws_47 rfl (lv_at hl 0 rfl) ?_
    refine lv_if_eq (tgt := 55) hx hb d_PQ_draws_48 (by decide) (fun c4 => ?_) (fun c4 => ?_)
    rotate_left 1
    · exact absurd (by decide) c4
    refine lv_iconst (v := 1) hx hb d_PQ_draws_55 (by decide) ?_
    refine lv_iadd hx hb d_PQ_draws_56 ?_
    refine lv_sipush (v := 3000) hx hb d_PQ_draws_57 (by decide) ?_
    refine lv_icmp_le (tgt := 66) hx hb d_PQ_draws_60 (by decide) (fun c5 => ?_) (fun c5 => ?_)
    · skip
      rw [if_pos c5] at hok
      refine lv_aload_n hx hb d_PQ_draws_66 rfl (lv_at hl 1 rfl) ?_
      refine va_get (D := G.1) (ci := 0) (C := R_PQ) (T := F_PQ) (N := 13) (v := .ref tape_h) hx hb hts i_PQ hown hK hP 0 rfl rfl 3 (by decide) (hts (.fieldLink R_PQ 32 "PrivateQueries" "tape" "LPrivateQueries$Tape;") k_468) (fun _ h9 => h9) rfl d_PQ_draws_67 ?_
      refine lv_iload_n hx hb d_PQ_draws_70 rfl (lv_at hl 2 rfl) ?_
      obtain ⟨hv1, hok⟩ := hok
      obtain ⟨r2, hr2⟩ : ∃ r, (s_Tape_add tape_f_cells tape__size x) = r := ⟨_, rfl⟩
      try simp only [hr2] at hok
      have hC_r2 := (c_Tape_add l G tape_h tape_a_cells tape__p tape__q tape_f_cells tape__size x hv1)
      rw [hr2] at hC_r2
      refine ly_callV (rest := []) (wf := [(h, .inr (0, [.int v_p, .int v_q, .ref table_h, .ref tape_h, .ref purses_h, .ref text_h, .ref written_h, .ref product_h, .ref a_toldNumbers, .int v_toldSize, .ref script_h, .ref spare_h, .int v_hasScript])), (tape_h, .inr (2, [.int tape__p, .int tape__q, .ref tape_a_cells, .int r2.1])), (tape_a_cells, .inl (gI G, 3000, .inl r2.2))]) ⟨hx, hb, hml, hown, hts⟩ hA hK hZ hP hD hS hC_r2 (cwV 1 hts g_PQ_102 rfl rfl rfl (by decide +kernel) ⟨Nat.le_of_ble_eq_true rfl, Nat.le_of_ble_eq_true rfl⟩) (ci := 2) (q0 := 1) rfl rfl rfl [1, 2] rfl (by decide) rfl rfl rfl hl.1 rfl (Nat.le_of_ble_eq_true rfl) d_PQ_draws_71 ⟨Nat.le_of_ble_eq_true rfl, Nat.le_of_ble_eq_true rfl⟩ (st1 := []) (c1 := 0) (s1 := 0) rfl rfl rfl (fun H locs hP hD hS => ?_)
      refine lv_iload_n hx hb d_PQ_draws_74 rfl (lv_at hl 0 rfl) ?_
      refine lv_if_eq (tgt := 86) hx hb d_PQ_draws_75 (by decide) (fun c6 => ?_) (fun c6 => ?_)
      rotate_left 1
      · exact absurd (by decide) c6
      refine lv_aload_n hx hb d_PQ_draws_86 rfl (lv_at hl 1 rfl) ?_
      refine va_get (D := G.1) (ci := 0) (C := R_PQ) (T := F_PQ) (N := 13) (v := .ref tape_h) hx hb hts i_PQ hown hK hP 0 rfl rfl 3 (by decide) (hts (.fieldLink R_PQ 32 "PrivateQueries" "tape" "LPrivateQueries$Tape;") k_468) (fun _ h9 => h9) rfl d_PQ_draws_87 ?_
      refine ly_callV (rest := []) (wf := [(h, .inr (0, [.int v_p, .int v_q, .ref table_h, .ref tape_h, .ref purses_h, .ref text_h, .ref written_h, .ref product_h, .ref a_toldNumbers, .int v_toldSize, .ref script_h, .ref spare_h, .int v_hasScript])), (tape_h, .inr (2, [.int tape__p, .int tape__q, .ref tape_a_cells, .int r2.1])), (tape_a_cells, .inl (gI G, 3000, .inl r2.2))]) ⟨hx, hb, hml, hown, hts⟩ hA hK hZ hP hD hS (c_Tape_size l G tape_h tape_a_cells tape__p tape__q r2.1) (cwV 0 hts g_PQ_101 rfl rfl rfl (by decide +kernel) ⟨Nat.le_of_ble_eq_true rfl, Nat.le_of_ble_eq_true rfl⟩) (ci := 2) (q0 := 1) rfl rfl rfl [1] rfl (by decide) rfl rfl rfl hl.1 rfl (Nat.le_of_ble_eq_true rfl) d_PQ_draws_90 ⟨Nat.le_of_ble_eq_true rfl, Nat.le_of_ble_eq_true rfl⟩ (st1 := [.int r2.1]) (c1 := 0) (s1 := 0) rfl rfl rfl (fun H locs hP hD hS => ?_)
      exact ly_iret hx hb hr hlocks hP hD hS d_PQ_draws_93 (by rw [s_PQ_draws] <;> simp only [hr1, hr2] <;> rw [if_pos c1, if_neg c2, if_pos c5]) (by rw [s_PQ_draws] <;> simp only [hr1, hr2] <;> rw [if_pos c1, if_neg c2, if_pos c5])
    rw [if_neg c5] at hok
    refine lv_bipush (v := (-106)) hx hb d_PQ_draws_63 (by decide) ?_
    exact ly_iret hx hb hr hlocks hP hD hS d_PQ_draws_65 (by rw [s_PQ_draws] <;> simp only [hr1] <;> rw [if_pos c1, if_neg c2, if_neg c5]) (by rw [s_PQ_draws] <;> simp only [hr1] <;> rw [if_pos c1, if_neg c2, if_neg c5])
  rw [if_neg c1] at hok
  refine lv_iconst (v := 1) hx hb d_PQ_draws_5 (by decide) ?_
  refine lv_goto (tgt := 10) hx hb d_PQ_draws_6 (by decide) ?_
  refine lv_istore_n (lv' := [(3, .int 1), (0, .ref h), (1, .int x), (2, .int z)]) hx hb d_PQ_draws_10 rfl hl (by decide) rfl (fun ls hl => ?_)
  refine lv_aload_n hx hb d_PQ_draws_11 rfl (lv_at hl 1 rfl) ?_
  refine va_get (D := G.1) (ci := 0) (C := R_PQ) (T := F_PQ) (N := 13) (v := .ref tape_h) hx hb hts i_PQ hown hK hP 0 rfl rfl 3 (by decide) (hts (.fieldLink R_PQ 32 "PrivateQueries" "tape" "LPrivateQueries$Tape;") k_468) (fun _ h9 => h9) rfl d_PQ_draws_12 ?_
  refine lv_iload_n hx hb d_PQ_draws_15 rfl (lv_at hl 2 rfl) ?_
  obtain ⟨r3, hr3⟩ : ∃ r, (s_Tape_isCell tape__p tape__q x) = r := ⟨_, rfl⟩
  try simp only [hr3] at hok
  have hC_r3 := (c_Tape_isCell l G tape_h tape_a_cells tape__p tape__q tape__size x)
  rw [hr3] at hC_r3
  have hf_r3_1 : isB r3 := by rw [← hr3]; exact z_Tape_isCell
  refine ly_callV (rest := []) (wf := [(h, .inr (0, [.int v_p, .int v_q, .ref table_h, .ref tape_h, .ref purses_h, .ref text_h, .ref written_h, .ref product_h, .ref a_toldNumbers, .int v_toldSize, .ref script_h, .ref spare_h, .int v_hasScript])), (tape_h, .inr (2, [.int tape__p, .int tape__q, .ref tape_a_cells, .int tape__size])), (tape_a_cells, .inl (gI G, 3000, .inl tape_f_cells))]) ⟨hx, hb, hml, hown, hts⟩ hA hK hZ hP hD hS hC_r3 (cwV 1 hts g_PQ_97 rfl rfl rfl (by decide +kernel) ⟨Nat.le_of_ble_eq_true rfl, Nat.le_of_ble_eq_true rfl⟩) (ci := 2) (q0 := 1) rfl rfl rfl [1] rfl (by decide) rfl rfl rfl hl.1 rfl (Nat.le_of_ble_eq_true rfl) d_PQ_draws_16 ⟨Nat.le_of_ble_eq_true rfl, Nat.le_of_ble_eq_true rfl⟩ (st1 := [.int r3]) (c1 := 0) (s1 := 0) rfl rfl rfl (fun H locs hP hD hS => ?_)
  refine lv_if_eq (tgt := 37) hx hb d_PQ_draws_19 (by decide) (fun c7 => ?_) (fun c7 => ?_)
  · skip
    rw [if_pos c7] at hok
    refine lv_bipush (v := (-102)) hx hb d_PQ_draws_37 (by decide) ?_
    exact ly_iret hx hb hr hlocks hP hD hS d_PQ_draws_39 (by rw [s_PQ_draws] <;> simp only [hr3] <;> rw [if_neg c1, if_pos c7]) (by rw [s_PQ_draws] <;> simp only [hr3] <;> rw [if_neg c1, if_pos c7])
  rw [if_neg c7] at hok
  refine lv_iload_n hx hb d_PQ_draws_22 rfl (lv_at hl 0 rfl) ?_
  refine lv_if_eq (tgt := 40) hx hb d_PQ_draws_23 (by decide) (fun c8 => ?_) (fun c8 => ?_)
  · exact absurd c8 (by decide)
  refine lv_aload_n hx hb d_PQ_draws_26 rfl (lv_at hl 1 rfl) ?_
  refine va_get (D := G.1) (ci := 0) (C := R_PQ) (T := F_PQ) (N := 13) (v := .ref tape_h) hx hb hts i_PQ hown hK hP 0 rfl rfl 3 (by decide) (hts (.fieldLink R_PQ 32 "PrivateQueries" "tape" "LPrivateQueries$Tape;") k_468) (fun _ h9 => h9) rfl d_PQ_draws_27 ?_
  refine lv_iload_n hx hb d_PQ_draws_30 rfl (lv_at hl 3 rfl) ?_
  obtain ⟨r4, hr4⟩ : ∃ r, (s_Tape_isCell tape__p tape__q z) = r := ⟨_, rfl⟩
  try simp only [hr4] at hok
  have hC_r4 := (c_Tape_isCell l G tape_h tape_a_cells tape__p tape__q tape__size z)
  rw [hr4] at hC_r4
  have hf_r4_1 : isB r4 := by rw [← hr4]; exact z_Tape_isCell
  refine ly_callV (rest := []) (wf := [(h, .inr (0, [.int v_p, .int v_q, .ref table_h, .ref tape_h, .ref purses_h, .ref text_h, .ref written_h, .ref product_h, .ref a_toldNumbers, .int v_toldSize, .ref script_h, .ref spare_h, .int v_hasScript])), (tape_h, .inr (2, [.int tape__p, .int tape__q, .ref tape_a_cells, .int tape__size])), (tape_a_cells, .inl (gI G, 3000, .inl tape_f_cells))]) ⟨hx, hb, hml, hown, hts⟩ hA hK hZ hP hD hS hC_r4 (cwV 1 hts g_PQ_97 rfl rfl rfl (by decide +kernel) ⟨Nat.le_of_ble_eq_true rfl, Nat.le_of_ble_eq_true rfl⟩) (ci := 2) (q0 := 1) rfl rfl rfl [1] rfl (by decide) rfl rfl rfl hl.1 rfl (Nat.le_of_ble_eq_true rfl) d_PQ_draws_31 ⟨Nat.le_of_ble_eq_true rfl, Nat.le_of_ble_eq_true rfl⟩ (st1 := [.int r4]) (c1 := 0) (s1 := 0) rfl rfl rfl (fun H locs hP hD hS => ?_)
  refine lv_if_ne (tgt := 40) hx hb d_PQ_draws_34 (by decide) (fun c9 => ?_) (fun c9 => ?_)
  · skip
    rw [if_neg c9] at hok
    refine lv_aload_n hx hb d_PQ_draws_40 rfl (lv_at hl 1 rfl) ?_
    refine va_get (D := G.1) (ci := 0) (C := R_PQ) (T := F_PQ) (N := 13) (v := .ref tape_h) hx hb hts i_PQ hown hK hP 0 rfl rfl 3 (by decide) (hts (.fieldLink R_PQ 32 "PrivateQueries" "tape" "LPrivateQueries$Tape;") k_468) (fun _ h9 => h9) rfl d_PQ_draws_41 ?_
    refine ly_callV (rest := []) (wf := [(h, .inr (0, [.int v_p, .int v_q, .ref table_h, .ref tape_h, .ref purses_h, .ref text_h, .ref written_h, .ref product_h, .ref a_toldNumbers, .int v_toldSize, .ref script_h, .ref spare_h, .int v_hasScript])), (tape_h, .inr (2, [.int tape__p, .int tape__q, .ref tape_a_cells, .int tape__size])), (tape_a_cells, .inl (gI G, 3000, .inl tape_f_cells))]) ⟨hx, hb, hml, hown, hts⟩ hA hK hZ hP hD hS (c_Tape_size l G tape_h tape_a_cells tape__p tape__q tape__size) (cwV 0 hts g_PQ_101 rfl rfl rfl (by decide +kernel) ⟨Nat.le_of_ble_eq_true rfl, Nat.le_of_ble_eq_true rfl⟩) (ci := 2) (q0 := 1) rfl rfl rfl [1] rfl (by decide) rfl rfl rfl hl.1 rfl (Nat.le_of_ble_eq_true rfl) d_PQ_draws_44 ⟨Nat.le_of_ble_eq_true rfl, Nat.le_of_ble_eq_true rfl⟩ (st1 := [.int tape__size]) (c1 := 0) (s1 := 0) rfl rfl rfl (fun H locs hP hD hS => ?_)
    refine lv_iload_n hx hb d_PQ_draws_47 rfl (lv_at hl 0 rfl) ?_
    refine lv_if_eq (tgt := 55) hx hb d_PQ_draws_48 (by decide) (fun c10 => ?_) (fun c10 => ?_)
    · exact absurd c10 (by decide)
    refine lv_iconst (v := 2) hx hb d_PQ_draws_51 (by decide) ?_
    refine lv_goto (tgt := 56) hx hb d_PQ_draws_52 (by decide) ?_
    refine lv_iadd hx hb d_PQ_draws_56 ?_
    refine lv_sipush (v := 3000) hx hb d_PQ_draws_57 (by decide) ?_
    refine lv_icmp_le (tgt := 66) hx hb d_PQ_draws_60 (by decide) (fun c11 => ?_) (fun c11 => ?_)
    · skip
      rw [if_pos c11] at hok
      refine lv_aload_n hx hb d_PQ_draws_66 rfl (lv_at hl 1 rfl) ?_
      refine va_get (D := G.1) (ci := 0) (C := R_PQ) (T := F_PQ) (N := 13) (v := .ref tape_h) hx hb hts i_PQ hown hK hP 0 rfl rfl 3 (by decide) (hts (.fieldLink R_PQ 32 "PrivateQueries" "tape" "LPrivateQueries$Tape;") k_468) (fun _ h9 => h9) rfl d_PQ_draws_67 ?_
      refine lv_iload_n hx hb d_PQ_draws_70 rfl (lv_at hl 2 rfl) ?_
      obtain ⟨hv2, hok⟩ := hok
      obtain ⟨r5, hr5⟩ : ∃ r, (s_Tape_add tape_f_cells tape__size x) = r := ⟨_, rfl⟩
      try simp only [hr5] at hok
      have hC_r5 := (c_Tape_add l G tape_h tape_a_cells tape__p tape__q tape_f_cells tape__size x hv2)
      rw [hr5] at hC_r5
      refine ly_callV (rest := []) (wf := [(h, .inr (0, [.int v_p, .int v_q, .ref table_h, .ref tape_h, .ref purses_h, .ref text_h, .ref written_h, .ref product_h, .ref a_toldNumbers, .int v_toldSize, .ref script_h, .ref spare_h, .int v_hasScript])), (tape_h, .inr (2, [.int tape__p, .int tape__q, .ref tape_a_cells, .int r5.1])), (tape_a_cells, .inl (gI G, 3000, .inl r5.2))]) ⟨hx, hb, hml, hown, hts⟩ hA hK hZ hP hD hS hC_r5 (cwV 1 hts g_PQ_102 rfl rfl rfl (by decide +kernel) ⟨Nat.le_of_ble_eq_true rfl, Nat.le_of_ble_eq_true rfl⟩) (ci := 2) (q0 := 1) rfl rfl rfl [1, 2] rfl (by decide) rfl rfl rfl hl.1 rfl (Nat.le_of_ble_eq_true rfl) d_PQ_draws_71 ⟨Nat.le_of_ble_eq_true rfl, Nat.le_of_ble_eq_true rfl⟩ (st1 := []) (c1 := 0) (s1 := 0) rfl rfl rfl (fun H locs hP hD hS => ?_)
      refine lv_iload_n hx hb d_PQ_draws_74 rfl (lv_at hl 0 rfl) ?_
      refine lv_if_eq (tgt := 86) hx hb d_PQ_draws_75 (by decide) (fun c12 => ?_) (fun c12 => ?_)
      · exact absurd c12 (by decide)
      refine lv_aload_n hx hb d_PQ_draws_78 rfl (lv_at hl 1 rfl) ?_
      refine va_get (D := G.1) (ci := 0) (C := R_PQ) (T := F_PQ) (N := 13) (v := .ref tape_h) hx hb hts i_PQ hown hK hP 0 rfl rfl 3 (by decide) (hts (.fieldLink R_PQ 32 "PrivateQueries" "tape" "LPrivateQueries$Tape;") k_468) (fun _ h9 => h9) rfl d_PQ_draws_79 ?_
      refine lv_iload_n hx hb d_PQ_draws_82 rfl (lv_at hl 3 rfl) ?_
      obtain ⟨hv3, hok⟩ := hok
      obtain ⟨r6, hr6⟩ : ∃ r, (s_Tape_add r5.2 r5.1 z) = r := ⟨_, rfl⟩
      try simp only [hr6] at hok
      have hC_r6 := (c_Tape_add l G tape_h tape_a_cells tape__p tape__q r5.2 r5.1 z hv3)
      rw [hr6] at hC_r6
      refine ly_callV (rest := []) (wf := [(h, .inr (0, [.int v_p, .int v_q, .ref table_h, .ref tape_h, .ref purses_h, .ref text_h, .ref written_h, .ref product_h, .ref a_toldNumbers, .int v_toldSize, .ref script_h, .ref spare_h, .int v_hasScript])), (tape_h, .inr (2, [.int tape__p, .int tape__q, .ref tape_a_cells, .int r6.1])), (tape_a_cells, .inl (gI G, 3000, .inl r6.2))]) ⟨hx, hb, hml, hown, hts⟩ hA hK hZ hP hD hS hC_r6 (cwV 1 hts g_PQ_102 rfl rfl rfl (by decide +kernel) ⟨Nat.le_of_ble_eq_true rfl, Nat.le_of_ble_eq_true rfl⟩) (ci := 2) (q0 := 1) rfl rfl rfl [1, 2] rfl (by decide) rfl rfl rfl hl.1 rfl (Nat.le_of_ble_eq_true rfl) d_PQ_draws_83 ⟨Nat.le_of_ble_eq_true rfl, Nat.le_of_ble_eq_true rfl⟩ (st1 := []) (c1 := 0) (s1 := 0) rfl rfl rfl (fun H locs hP hD hS => ?_)
      refine lv_aload_n hx hb d_PQ_draws_86 rfl (lv_at hl 1 rfl) ?_
      refine va_get (D := G.1) (ci := 0) (C := R_PQ) (T := F_PQ) (N := 13) (v := .ref tape_h) hx hb hts i_PQ hown hK hP 0 rfl rfl 3 (by decide) (hts (.fieldLink R_PQ 32 "PrivateQueries" "tape" "LPrivateQueries$Tape;") k_468) (fun _ h9 => h9) rfl d_PQ_draws_87 ?_
      refine ly_callV (rest := []) (wf := [(h, .inr (0, [.int v_p, .int v_q, .ref table_h, .ref tape_h, .ref purses_h, .ref text_h, .ref written_h, .ref product_h, .ref a_toldNumbers, .int v_toldSize, .ref script_h, .ref spare_h, .int v_hasScript])), (tape_h, .inr (2, [.int tape__p, .int tape__q, .ref tape_a_cells, .int r6.1])), (tape_a_cells, .inl (gI G, 3000, .inl r6.2))]) ⟨hx, hb, hml, hown, hts⟩ hA hK hZ hP hD hS (c_Tape_size l G tape_h tape_a_cells tape__p tape__q r6.1) (cwV 0 hts g_PQ_101 rfl rfl rfl (by decide +kernel) ⟨Nat.le_of_ble_eq_true rfl, Nat.le_of_ble_eq_true rfl⟩) (ci := 2) (q0 := 1) rfl rfl rfl [1] rfl (by decide) rfl rfl rfl hl.1 rfl (Nat.le_of_ble_eq_true rfl) d_PQ_draws_90 ⟨Nat.le_of_ble_eq_true rfl, Nat.le_of_ble_eq_true rfl⟩ (st1 := [.int r6.1]) (c1 := 0) (s1 := 0) rfl rfl rfl (fun H locs hP hD hS => ?_)
      exact ly_iret hx hb hr hlocks hP hD hS d_PQ_draws_93 (by rw [s_PQ_draws] <;> simp only [hr3, hr4, hr5, hr6] <;> rw [if_neg c1, if_neg c7, if_neg c9, if_pos c11]) (by rw [s_PQ_draws] <;> simp only [hr3, hr4, hr5, hr6] <;> rw [if_neg c1, if_neg c7, if_neg c9, if_pos c11])
    rw [if_neg c11] at hok
    refine lv_bipush (v := (-106)) hx hb d_PQ_draws_63 (by decide) ?_
    exact ly_iret hx hb hr hlocks hP hD hS d_PQ_draws_65 (by rw [s_PQ_draws] <;> simp only [hr3, hr4] <;> rw [if_neg c1, if_neg c7, if_neg c9, if_neg c11]) (by rw [s_PQ_draws] <;> simp only [hr3, hr4] <;> rw [if_neg c1, if_neg c7, if_neg c9, if_neg c11])
  rw [if_pos c9] at hok
  refine lv_bipush (v := (-102)) hx hb d_PQ_draws_37 (by decide) ?_
  exact ly_iret hx hb hr hlocks hP hD hS d_PQ_draws_39 (by rw [s_PQ_draws] <;> simp only [hr3, hr4] <;> rw [if_neg c1, if_neg c7, if_pos c9]) (by rw [s_PQ_draws] <;> simp only [hr3, hr4] <;> rw [if_neg c1, if_neg c7, if_pos c9])

set_option maxHeartbeats 4000000 in
set_option maxRecDepth 100000 in
theorem c_PQ_count (l : Launch) (G : GG) (h : Nat) (table_h : Nat) (table_a_numbers : Nat) (tape_h : Nat) (tape_a_cells : Nat) (purses_h : Nat) (text_h : Nat) (text_a_signs : Nat) (written_h : Nat) (product_h : Nat) (a_toldNumbers : Nat) (script_h : Nat) (script_tokens_h : Nat) (script_conditions_h : Nat) (script_a_questions : Nat) (script_a_letStarts : Nat) (script_a_letEnds : Nat) (script_a_letOfLetter : Nat) (spare_h : Nat) (v_p : Int32) (v_q : Int32) (table__rows : Int32) (tape__p : Int32) (tape__q : Int32) (tape__size : Int32) (text__size : Int32) (v_toldSize : Int32) (script__asked : Int32) (script__lets : Int32) (v_hasScript : Int32) (x : Int32) : Det l G y_PQ_count w_PQ_count (rmD 1) 0 0 [.ref h, .int x] [(h, .inr (0, [.int v_p, .int v_q, .ref table_h, .ref tape_h, .ref purses_h, .ref text_h, .ref written_h, .ref product_h, .ref a_toldNumbers, .int v_toldSize, .ref script_h, .ref spare_h, .int v_hasScript])), (table_h, .inr (1, [.ref table_a_numbers, .int table__rows])), (tape_h, .inr (2, [.int tape__p, .int tape__q, .ref tape_a_cells, .int tape__size])), (text_h, .inr (4, [.ref text_a_signs, .int text__size])), (script_h, .inr (10, [.ref script_tokens_h, .ref script_conditions_h, .ref script_a_questions, .int script__asked, .ref script_a_letStarts, .ref script_a_letEnds, .ref script_a_letOfLetter, .int script__lets]))] (some (.int (s_PQ_count table__rows tape__size text__size v_toldSize script__asked script__lets v_hasScript x))) [(h, .inr (0, [.int v_p, .int v_q, .ref table_h, .ref tape_h, .ref purses_h, .ref text_h, .ref written_h, .ref product_h, .ref a_toldNumbers, .int v_toldSize, .ref script_h, .ref spare_h, .int v_hasScript])), (table_h, .inr (1, [.ref table_a_numbers, .int table__rows])), (tape_h, .inr (2, [.int tape__p, .int tape__q, .ref tape_a_cells, .int tape__size])), (text_h, .inr (4, [.ref text_a_signs, .int text__size])), (script_h, .inr (10, [.ref script_tokens_h, .ref script_conditions_h, .ref script_a_questions, .int script__asked, .ref script_a_letStarts, .ref script_a_letEnds, .ref script_a_letOfLetter, .int script__lets]))] := by
  refine Det.of (cc := b_PQ_count) (maxL := 2) (ret := (some .int)) (by decide) rfl (Nat.le_of_ble_eq_true rfl) ?_
  intro p e s m args below meth c A ls hx hb hr hml hown hts hlocks hin hA hK hZ hP hD hS hl
  have hts : ∀ w ∈ wG, w.before args s = true := fun w h => hts w (List.mem_cons_of_mem _ h)
  have hown : s.vm.findClass R_PQ = some m.cls := hown
  have hl : lv_has ls 2 [(0, .ref h), (1, .int x)] := hl
  refine lv_iload_n hx hb d_PQ_count_0 rfl (lv_at hl 1 rfl) ?_
  by_cases c1 : x = 0
  · skip
    refine lv_tableIn (off := 39) (tgt := 40) hx hb d_PQ_count_1 (by rw [c1]; decide) (by rw [c1]; decide) (by first | (rw [c1]; done) | (rw [c1]; rfl)) (by decide) ?_
    refine lv_aload_n hx hb d_PQ_count_40 rfl (lv_at hl 0 rfl) ?_
    refine va_get (D := G.1) (ci := 0) (C := R_PQ) (T := F_PQ) (N := 13) (v := .ref table_h) hx hb hts i_PQ hown hK hP 0 rfl rfl 2 (by decide) (hts (.fieldLink R_PQ 23 "PrivateQueries" "table" "LPrivateQueries$Table;") k_455) (fun _ h9 => h9) rfl d_PQ_count_41 ?_
    refine ly_callV (rest := []) (wf := [(h, .inr (0, [.int v_p, .int v_q, .ref table_h, .ref tape_h, .ref purses_h, .ref text_h, .ref written_h, .ref product_h, .ref a_toldNumbers, .int v_toldSize, .ref script_h, .ref spare_h, .int v_hasScript])), (table_h, .inr (1, [.ref table_a_numbers, .int table__rows])), (tape_h, .inr (2, [.int tape__p, .int tape__q, .ref tape_a_cells, .int tape__size])), (text_h, .inr (4, [.ref text_a_signs, .int text__size])), (script_h, .inr (10, [.ref script_tokens_h, .ref script_conditions_h, .ref script_a_questions, .int script__asked, .ref script_a_letStarts, .ref script_a_letEnds, .ref script_a_letOfLetter, .int script__lets]))]) ⟨hx, hb, hml, hown, hts⟩ hA hK hZ hP hD hS (c_Tab_size l G table_h table_a_numbers table__rows) (cwV 0 hts g_PQ_85 rfl rfl rfl (by decide +kernel) ⟨Nat.le_of_ble_eq_true rfl, Nat.le_of_ble_eq_true rfl⟩) (ci := 1) (q0 := 1) rfl rfl rfl [1] rfl (by decide) rfl rfl rfl hl.1 rfl (Nat.le_of_ble_eq_true rfl) d_PQ_count_44 ⟨Nat.le_of_ble_eq_true rfl, Nat.le_of_ble_eq_true rfl⟩ (st1 := [.int table__rows]) (c1 := 0) (s1 := 0) rfl rfl rfl (fun H locs hP hD hS => ?_)
    exact ly_iret hx hb hr hlocks hP hD hS d_PQ_count_47 (by rw [s_PQ_count, if_pos c1]) rfl
  by_cases c2 : x = 1
  · skip
    refine lv_tableIn (off := 47) (tgt := 48) hx hb d_PQ_count_1 (by rw [c2]; decide) (by rw [c2]; decide) (by first | (rw [c2]; done) | (rw [c2]; rfl)) (by decide) ?_
    refine lv_aload_n hx hb d_PQ_count_48 rfl (lv_at hl 0 rfl) ?_
    refine va_get (D := G.1) (ci := 0) (C := R_PQ) (T := F_PQ) (N := 13) (v := .ref tape_h) hx hb hts i_PQ hown hK hP 0 rfl rfl 3 (by decide) (hts (.fieldLink R_PQ 32 "PrivateQueries" "tape" "LPrivateQueries$Tape;") k_468) (fun _ h9 => h9) rfl d_PQ_count_49 ?_
    refine ly_callV (rest := []) (wf := [(h, .inr (0, [.int v_p, .int v_q, .ref table_h, .ref tape_h, .ref purses_h, .ref text_h, .ref written_h, .ref product_h, .ref a_toldNumbers, .int v_toldSize, .ref script_h, .ref spare_h, .int v_hasScript])), (table_h, .inr (1, [.ref table_a_numbers, .int table__rows])), (tape_h, .inr (2, [.int tape__p, .int tape__q, .ref tape_a_cells, .int tape__size])), (text_h, .inr (4, [.ref text_a_signs, .int text__size])), (script_h, .inr (10, [.ref script_tokens_h, .ref script_conditions_h, .ref script_a_questions, .int script__asked, .ref script_a_letStarts, .ref script_a_letEnds, .ref script_a_letOfLetter, .int script__lets]))]) ⟨hx, hb, hml, hown, hts⟩ hA hK hZ hP hD hS (c_Tape_size l G tape_h tape_a_cells tape__p tape__q tape__size) (cwV 0 hts g_PQ_101 rfl rfl rfl (by decide +kernel) ⟨Nat.le_of_ble_eq_true rfl, Nat.le_of_ble_eq_true rfl⟩) (ci := 2) (q0 := 2) rfl rfl rfl [2] rfl (by decide) rfl rfl rfl hl.1 rfl (Nat.le_of_ble_eq_true rfl) d_PQ_count_52 ⟨Nat.le_of_ble_eq_true rfl, Nat.le_of_ble_eq_true rfl⟩ (st1 := [.int tape__size]) (c1 := 0) (s1 := 0) rfl rfl rfl (fun H locs hP hD hS => ?_)
    exact ly_iret hx hb hr hlocks hP hD hS d_PQ_count_55 (by rw [s_PQ_count, if_neg c1, if_pos c2]) rfl
  by_cases c3 : x = 2
  · skip
    refine lv_tableIn (off := 55) (tgt := 56) hx hb d_PQ_count_1 (by rw [c3]; decide) (by rw [c3]; decide) (by first | (rw [c3]; done) | (rw [c3]; rfl)) (by decide) ?_
    refine lv_aload_n hx hb d_PQ_count_56 rfl (lv_at hl 0 rfl) ?_
    refine va_get (D := G.1) (ci := 0) (C := R_PQ) (T := F_PQ) (N := 13) (v := .ref text_h) hx hb hts i_PQ hown hK hP 0 rfl rfl 5 (by decide) (hts (.fieldLink R_PQ 46 "PrivateQueries" "text" "LPrivateQueries$Text;") k_481) (fun _ h9 => h9) rfl d_PQ_count_57 ?_
    refine ly_callV (rest := []) (wf := [(h, .inr (0, [.int v_p, .int v_q, .ref table_h, .ref tape_h, .ref purses_h, .ref text_h, .ref written_h, .ref product_h, .ref a_toldNumbers, .int v_toldSize, .ref script_h, .ref spare_h, .int v_hasScript])), (table_h, .inr (1, [.ref table_a_numbers, .int table__rows])), (tape_h, .inr (2, [.int tape__p, .int tape__q, .ref tape_a_cells, .int tape__size])), (text_h, .inr (4, [.ref text_a_signs, .int text__size])), (script_h, .inr (10, [.ref script_tokens_h, .ref script_conditions_h, .ref script_a_questions, .int script__asked, .ref script_a_letStarts, .ref script_a_letEnds, .ref script_a_letOfLetter, .int script__lets]))]) ⟨hx, hb, hml, hown, hts⟩ hA hK hZ hP hD hS (c_Text_size l G text_h text_a_signs text__size) (cwV 0 hts g_PQ_104 rfl rfl rfl (by decide +kernel) ⟨Nat.le_of_ble_eq_true rfl, Nat.le_of_ble_eq_true rfl⟩) (ci := 4) (q0 := 3) rfl rfl rfl [3] rfl (by decide) rfl rfl rfl hl.1 rfl (Nat.le_of_ble_eq_true rfl) d_PQ_count_60 ⟨Nat.le_of_ble_eq_true rfl, Nat.le_of_ble_eq_true rfl⟩ (st1 := [.int text__size]) (c1 := 0) (s1 := 0) rfl rfl rfl (fun H locs hP hD hS => ?_)
    exact ly_iret hx hb hr hlocks hP hD hS d_PQ_count_63 (by rw [s_PQ_count, if_neg c1, if_neg c2, if_pos c3]) rfl
  by_cases c4 : x = 3
  · skip
    refine lv_tableIn (off := 63) (tgt := 64) hx hb d_PQ_count_1 (by rw [c4]; decide) (by rw [c4]; decide) (by first | (rw [c4]; done) | (rw [c4]; rfl)) (by decide) ?_
    refine lv_aload_n hx hb d_PQ_count_64 rfl (lv_at hl 0 rfl) ?_
    refine va_get (D := G.1) (ci := 0) (C := R_PQ) (T := F_PQ) (N := 13) (v := .int v_hasScript) hx hb hts i_PQ hown hK hP 0 rfl rfl 12 (by decide) (hts (.fieldLink R_PQ 81 "PrivateQueries" "hasScript" "Z") k_486) (fun _ h9 => h9) rfl d_PQ_count_65 ?_
    refine lv_if_eq (tgt := 81) hx hb d_PQ_count_68 (by decide) (fun c5 => ?_) (fun c5 => ?_)
    · skip
      refine lv_iconst (v := 0) hx hb d_PQ_count_81 (by decide) ?_
      exact ly_iret hx hb hr hlocks hP hD hS d_PQ_count_82 (by rw [s_PQ_count, if_neg c1, if_neg c2, if_neg c3, if_pos c4, if_pos c5]) rfl
    refine lv_aload_n hx hb d_PQ_count_71 rfl (lv_at hl 0 rfl) ?_
    refine va_get (D := G.1) (ci := 0) (C := R_PQ) (T := F_PQ) (N := 13) (v := .ref script_h) hx hb hts i_PQ hown hK hP 0 rfl rfl 10 (by decide) (hts (.fieldLink R_PQ 74 "PrivateQueries" "script" "LPrivateQueries$Script;") k_487) (fun _ h9 => h9) rfl d_PQ_count_72 ?_
    refine ly_callV (rest := []) (wf := [(h, .inr (0, [.int v_p, .int v_q, .ref table_h, .ref tape_h, .ref purses_h, .ref text_h, .ref written_h, .ref product_h, .ref a_toldNumbers, .int v_toldSize, .ref script_h, .ref spare_h, .int v_hasScript])), (table_h, .inr (1, [.ref table_a_numbers, .int table__rows])), (tape_h, .inr (2, [.int tape__p, .int tape__q, .ref tape_a_cells, .int tape__size])), (text_h, .inr (4, [.ref text_a_signs, .int text__size])), (script_h, .inr (10, [.ref script_tokens_h, .ref script_conditions_h, .ref script_a_questions, .int script__asked, .ref script_a_letStarts, .ref script_a_letEnds, .ref script_a_letOfLetter, .int script__lets]))]) ⟨hx, hb, hml, hown, hts⟩ hA hK hZ hP hD hS (c_Scr_asked l G script_h script_tokens_h script_conditions_h script_a_questions script_a_letStarts script_a_letEnds script_a_letOfLetter script__asked script__lets) (cwV 0 hts g_PQ_105 rfl rfl rfl (by decide +kernel) ⟨Nat.le_of_ble_eq_true rfl, Nat.le_of_ble_eq_true rfl⟩) (ci := 10) (q0 := 4) rfl rfl rfl [4] rfl (by decide) rfl rfl rfl hl.1 rfl (Nat.le_of_ble_eq_true rfl) d_PQ_count_75 ⟨Nat.le_of_ble_eq_true rfl, Nat.le_of_ble_eq_true rfl⟩ (st1 := [.int script__asked]) (c1 := 0) (s1 := 0) rfl rfl rfl (fun H locs hP hD hS => ?_)
    refine lv_goto (tgt := 82) hx hb d_PQ_count_78 (by decide) ?_
    exact ly_iret hx hb hr hlocks hP hD hS d_PQ_count_82 (by rw [s_PQ_count, if_neg c1, if_neg c2, if_neg c3, if_pos c4, if_neg c5]) rfl
  by_cases c6 : x = 4
  · skip
    refine lv_tableIn (off := 82) (tgt := 83) hx hb d_PQ_count_1 (by rw [c6]; decide) (by rw [c6]; decide) (by first | (rw [c6]; done) | (rw [c6]; rfl)) (by decide) ?_
    refine lv_aload_n hx hb d_PQ_count_83 rfl (lv_at hl 0 rfl) ?_
    refine va_get (D := G.1) (ci := 0) (C := R_PQ) (T := F_PQ) (N := 13) (v := .int v_hasScript) hx hb hts i_PQ hown hK hP 0 rfl rfl 12 (by decide) (hts (.fieldLink R_PQ 81 "PrivateQueries" "hasScript" "Z") k_486) (fun _ h9 => h9) rfl d_PQ_count_84 ?_
    refine lv_if_eq (tgt := 100) hx hb d_PQ_count_87 (by decide) (fun c7 => ?_) (fun c7 => ?_)
    · skip
      refine lv_iconst (v := 0) hx hb d_PQ_count_100 (by decide) ?_
      exact ly_iret hx hb hr hlocks hP hD hS d_PQ_count_101 (by rw [s_PQ_count, if_neg c1, if_neg c2, if_neg c3, if_neg c4, if_pos c6, if_pos c7]) rfl
    refine lv_aload_n hx hb d_PQ_count_90 rfl (lv_at hl 0 rfl) ?_
    refine va_get (D := G.1) (ci := 0) (C := R_PQ) (T := F_PQ) (N := 13) (v := .ref script_h) hx hb hts i_PQ hown hK hP 0 rfl rfl 10 (by decide) (hts (.fieldLink R_PQ 74 "PrivateQueries" "script" "LPrivateQueries$Script;") k_487) (fun _ h9 => h9) rfl d_PQ_count_91 ?_
    refine ly_callV (rest := []) (wf := [(h, .inr (0, [.int v_p, .int v_q, .ref table_h, .ref tape_h, .ref purses_h, .ref text_h, .ref written_h, .ref product_h, .ref a_toldNumbers, .int v_toldSize, .ref script_h, .ref spare_h, .int v_hasScript])), (table_h, .inr (1, [.ref table_a_numbers, .int table__rows])), (tape_h, .inr (2, [.int tape__p, .int tape__q, .ref tape_a_cells, .int tape__size])), (text_h, .inr (4, [.ref text_a_signs, .int text__size])), (script_h, .inr (10, [.ref script_tokens_h, .ref script_conditions_h, .ref script_a_questions, .int script__asked, .ref script_a_letStarts, .ref script_a_letEnds, .ref script_a_letOfLetter, .int script__lets]))]) ⟨hx, hb, hml, hown, hts⟩ hA hK hZ hP hD hS (c_Scr_lets l G script_h script_tokens_h script_conditions_h script_a_questions script_a_letStarts script_a_letEnds script_a_letOfLetter script__asked script__lets) (cwV 0 hts g_PQ_108 rfl rfl rfl (by decide +kernel) ⟨Nat.le_of_ble_eq_true rfl, Nat.le_of_ble_eq_true rfl⟩) (ci := 10) (q0 := 4) rfl rfl rfl [4] rfl (by decide) rfl rfl rfl hl.1 rfl (Nat.le_of_ble_eq_true rfl) d_PQ_count_94 ⟨Nat.le_of_ble_eq_true rfl, Nat.le_of_ble_eq_true rfl⟩ (st1 := [.int script__lets]) (c1 := 0) (s1 := 0) rfl rfl rfl (fun H locs hP hD hS => ?_)
    refine lv_goto (tgt := 101) hx hb d_PQ_count_97 (by decide) ?_
    exact ly_iret hx hb hr hlocks hP hD hS d_PQ_count_101 (by rw [s_PQ_count, if_neg c1, if_neg c2, if_neg c3, if_neg c4, if_pos c6, if_neg c7]) rfl
  by_cases c8 : x = 5
  · skip
    refine lv_tableIn (off := 101) (tgt := 102) hx hb d_PQ_count_1 (by rw [c8]; decide) (by rw [c8]; decide) (by first | (rw [c8]; done) | (rw [c8]; rfl)) (by decide) ?_
    refine lv_aload_n hx hb d_PQ_count_102 rfl (lv_at hl 0 rfl) ?_
    refine va_get (D := G.1) (ci := 0) (C := R_PQ) (T := F_PQ) (N := 13) (v := .int v_toldSize) hx hb hts i_PQ hown hK hP 0 rfl rfl 9 (by decide) (hts (.fieldLink R_PQ 70 "PrivateQueries" "toldSize" "I") k_497) (fun _ h9 => h9) rfl d_PQ_count_103 ?_
    exact ly_iret hx hb hr hlocks hP hD hS d_PQ_count_106 (by rw [s_PQ_count, if_neg c1, if_neg c2, if_neg c3, if_neg c4, if_neg c6, if_pos c8]) rfl
  refine lv_tableOut (tgt := 107) hx hb d_PQ_count_1 (by have gc1 := ly_ne c1 (by decide : (0 : Int32).toInt = 0); have gc2 := ly_ne c2 (by decide : (1 : Int32).toInt = 1); have gc3 := ly_ne c3 (by decide : (2 : Int32).toInt = 2); have gc4 := ly_ne c4 (by decide : (3 : Int32).toInt = 3); have gc6 := ly_ne c6 (by decide : (4 : Int32).toInt = 4); have gc8 := ly_ne c8 (by decide : (5 : Int32).toInt = 5); omega) (by decide) ?_
  refine lv_bipush (v := (-102)) hx hb d_PQ_count_107 (by decide) ?_
  exact ly_iret hx hb hr hlocks hP hD hS d_PQ_count_109 (by rw [s_PQ_count, if_neg c1, if_neg c2, if_neg c3, if_neg c4, if_neg c6, if_neg c8]) rfl

set_option maxHeartbeats 4000000 in
set_option maxRecDepth 100000 in
theorem c_PQ_budget (l : Launch) (G : GG) (h : Nat) (table_h : Nat) (tape_h : Nat) (purses_h : Nat) (purses_a_granted : Nat) (purses_a_spent : Nat) (text_h : Nat) (written_h : Nat) (product_h : Nat) (a_toldNumbers : Nat) (script_h : Nat) (spare_h : Nat) (v_p : Int32) (v_q : Int32) (purses_f_granted : Nat → Int32) (purses_f_spent : Nat → Int32) (v_toldSize : Int32) (v_hasScript : Int32) (x : Int32) (z : Int32) : Det l G y_PQ_budget w_PQ_budget (rmD 2) 0 0 [.ref h, .int x, .int z] [(h, .inr (0, [.int v_p, .int v_q, .ref table_h, .ref tape_h, .ref purses_h, .ref text_h, .ref written_h, .ref product_h, .ref a_toldNumbers, .int v_toldSize, .ref script_h, .ref spare_h, .int v_hasScript])), (purses_h, .inr (3, [.ref purses_a_granted, .ref purses_a_spent])), (purses_a_granted, .inl (gI G, 5, .inl purses_f_granted)), (purses_a_spent, .inl (gI G, 5, .inl purses_f_spent))] (some (.int (s_PQ_budget purses_f_granted purses_f_spent x z).1)) [(h, .inr (0, [.int v_p, .int v_q, .ref table_h, .ref tape_h, .ref purses_h, .ref text_h, .ref written_h, .ref product_h, .ref a_toldNumbers, .int v_toldSize, .ref script_h, .ref spare_h, .int v_hasScript])), (purses_h, .inr (3, [.ref purses_a_granted, .ref purses_a_spent])), (purses_a_granted, .inl (gI G, 5, .inl (s_PQ_budget purses_f_granted purses_f_spent x z).2)), (purses_a_spent, .inl (gI G, 5, .inl purses_f_spent))] := by
  refine Det.of (cc := b_PQ_budget) (maxL := 4) (ret := (some .int)) (by decide) rfl (Nat.le_of_ble_eq_true rfl) ?_
  intro p e s m args below meth c A ls hx hb hr hml hown hts hlocks hin hA hK hZ hP hD hS hl
  have hts : ∀ w ∈ wG, w.before args s = true := fun w h => hts w (List.mem_cons_of_mem _ h)
  have hown : s.vm.findClass R_PQ = some m.cls := hown
  have hl : lv_has ls 4 [(0, .ref h), (1, .int x), (2, .int z)] := hl
  refine lv_iload_n hx hb d_PQ_budget_0 rfl (lv_at hl 1 rfl) ?_
  obtain ⟨r1, hr1⟩ : ∃ r, (s_Pur_isKnown x) = r := ⟨_, rfl⟩
  have hC_r1 := (c_Pur_isKnown l G x)
  rw [hr1] at hC_r1
  have hf_r1_1 : isB r1 := by rw [← hr1]; exact z_Pur_isKnown
  refine ly_callS (rest := []) (wf := [(h, .inr (0, [.int v_p, .int v_q, .ref table_h, .ref tape_h, .ref purses_h, .ref text_h, .ref written_h, .ref product_h, .ref a_toldNumbers, .int v_toldSize, .ref script_h, .ref spare_h, .int v_hasScript])), (purses_h, .inr (3, [.ref purses_a_granted, .ref purses_a_spent])), (purses_a_granted, .inl (gI G, 5, .inl purses_f_granted)), (purses_a_spent, .inl (gI G, 5, .inl purses_f_spent))]) ⟨hx, hb, hml, hown, hts⟩ hA hK hZ hP hD hS hC_r1 ⟨callB_of 1 hts g_PQ_111 rfl rfl rfl (hts (.initialized R_Pur) k_18) (hts (.methodLink R_PQ 111 y_Pur_isKnown) k_498) (by decide +kernel) ⟨Nat.le_of_ble_eq_true rfl, Nat.le_of_ble_eq_true rfl⟩, hts (.static y_Pur_isKnown) k_17⟩ [] rfl (by decide) rfl rfl rfl hl.1 rfl (Nat.le_of_ble_eq_true rfl) d_PQ_budget_1 ⟨Nat.le_of_ble_eq_true rfl, Nat.le_of_ble_eq_true rfl⟩ (st1 := [.int r1]) (c1 := 0) (s1 := 0) rfl rfl rfl (fun H locs hP hD hS => ?_)
  refine lv_if_ne (tgt := 10) hx hb d_PQ_budget_4 (by decide) (fun c1 => ?_) (fun c1 => ?_)
  · skip
    refine lv_iload_n hx hb d_PQ_budget_10 rfl (lv_at hl 2 rfl) ?_
    refine lv_if_lt (tgt := 20) hx hb d_PQ_budget_11 (by decide) (fun c2 => ?_) (fun c2 => ?_)
    · skip
      refine lv_bipush (v := (-102)) hx hb d_PQ_budget_20 (by decide) ?_
      exact ly_iret hx hb hr hlocks hP hD hS d_PQ_budget_22 (by rw [s_PQ_budget] <;> simp only [hr1] <;> rw [if_neg c1, if_pos c2]) (by rw [s_PQ_budget] <;> simp only [hr1] <;> rw [if_neg c1, if_pos c2])
    refine lv_iload_n hx hb d_PQ_budget_14 rfl (lv_at hl 2 rfl) ?_
    refine lv_ldc (v := 1000000) hx hb hown (hts (.constant R_PQ 114 1000000) k_499) d_PQ_budget_15 ?_
    refine lv_icmp_le (tgt := 23) hx hb d_PQ_budget_17 (by decide) (fun c3 => ?_) (fun c3 => ?_)
    · skip
      refine lv_iload_n hx hb d_PQ_budget_23 rfl (lv_at hl 2 rfl) ?_
      refine lv_aload_n hx hb d_PQ_budget_24 rfl (lv_at hl 0 rfl) ?_
      refine va_get (D := G.1) (ci := 0) (C := R_PQ) (T := F_PQ) (N := 13) (v := .ref purses_h) hx hb hts i_PQ hown hK hP 0 rfl rfl 4 (by decide) (hts (.fieldLink R_PQ 39 "PrivateQueries" "purses" "LPrivateQueries$Purses;") k_500) (fun _ h9 => h9) rfl d_PQ_budget_25 ?_
      refine lv_iload_n hx hb d_PQ_budget_28 rfl (lv_at hl 1 rfl) ?_
      obtain ⟨r2, hr2⟩ : ∃ r, (s_Pur_spentBy purses_f_spent x) = r := ⟨_, rfl⟩
      have hC_r2 := (c_Pur_spentBy l G purses_h purses_a_granted purses_a_spent purses_f_spent x)
      rw [hr2] at hC_r2
      refine ly_callV (rest := [.int z]) (wf := [(h, .inr (0, [.int v_p, .int v_q, .ref table_h, .ref tape_h, .ref purses_h, .ref text_h, .ref written_h, .ref product_h, .ref a_toldNumbers, .int v_toldSize, .ref script_h, .ref spare_h, .int v_hasScript])), (purses_h, .inr (3, [.ref purses_a_granted, .ref purses_a_spent])), (purses_a_granted, .inl (gI G, 5, .inl purses_f_granted)), (purses_a_spent, .inl (gI G, 5, .inl purses_f_spent))]) ⟨hx, hb, hml, hown, hts⟩ hA hK hZ hP hD hS hC_r2 (cwV 1 hts g_PQ_115 rfl rfl rfl (by decide +kernel) ⟨Nat.le_of_ble_eq_true rfl, Nat.le_of_ble_eq_true rfl⟩) (ci := 3) (q0 := 1) rfl rfl rfl [1, 3] rfl (by decide) rfl rfl rfl hl.1 rfl (Nat.le_of_ble_eq_true rfl) d_PQ_budget_29 ⟨Nat.le_of_ble_eq_true rfl, Nat.le_of_ble_eq_true rfl⟩ (st1 := [.int r2, .int z]) (c1 := 0) (s1 := 0) rfl rfl rfl (fun H locs hP hD hS => ?_)
      refine lv_icmp_ge (tgt := 38) hx hb d_PQ_budget_32 (by decide) (fun c4 => ?_) (fun c4 => ?_)
      · skip
        refine lv_aload_n hx hb d_PQ_budget_38 rfl (lv_at hl 0 rfl) ?_
        refine va_get (D := G.1) (ci := 0) (C := R_PQ) (T := F_PQ) (N := 13) (v := .ref purses_h) hx hb hts i_PQ hown hK hP 0 rfl rfl 4 (by decide) (hts (.fieldLink R_PQ 39 "PrivateQueries" "purses" "LPrivateQueries$Purses;") k_500) (fun _ h9 => h9) rfl d_PQ_budget_39 ?_
        refine lv_iload_n hx hb d_PQ_budget_42 rfl (lv_at hl 1 rfl) ?_
        obtain ⟨r3, hr3⟩ : ∃ r, (s_Pur_grantedTo purses_f_granted x) = r := ⟨_, rfl⟩
        have hC_r3 := (c_Pur_grantedTo l G purses_h purses_a_granted purses_a_spent purses_f_granted x)
        rw [hr3] at hC_r3
        refine ly_callV (rest := []) (wf := [(h, .inr (0, [.int v_p, .int v_q, .ref table_h, .ref tape_h, .ref purses_h, .ref text_h, .ref written_h, .ref product_h, .ref a_toldNumbers, .int v_toldSize, .ref script_h, .ref spare_h, .int v_hasScript])), (purses_h, .inr (3, [.ref purses_a_granted, .ref purses_a_spent])), (purses_a_granted, .inl (gI G, 5, .inl purses_f_granted)), (purses_a_spent, .inl (gI G, 5, .inl purses_f_spent))]) ⟨hx, hb, hml, hown, hts⟩ hA hK hZ hP hD hS hC_r3 (cwV 1 hts g_PQ_119 rfl rfl rfl (by decide +kernel) ⟨Nat.le_of_ble_eq_true rfl, Nat.le_of_ble_eq_true rfl⟩) (ci := 3) (q0 := 1) rfl rfl rfl [1, 2] rfl (by decide) rfl rfl rfl hl.1 rfl (Nat.le_of_ble_eq_true rfl) d_PQ_budget_43 ⟨Nat.le_of_ble_eq_true rfl, Nat.le_of_ble_eq_true rfl⟩ (st1 := [.int r3]) (c1 := 0) (s1 := 0) rfl rfl rfl (fun H locs hP hD hS => ?_)
        refine lv_istore_n (lv' := [(3, .int r3), (0, .ref h), (1, .int x), (2, .int z)]) hx hb d_PQ_budget_46 rfl hl (by decide) rfl (fun ls hl => ?_)
        refine lv_aload_n hx hb d_PQ_budget_47 rfl (lv_at hl 1 rfl) ?_
        refine va_get (D := G.1) (ci := 0) (C := R_PQ) (T := F_PQ) (N := 13) (v := .ref purses_h) hx hb hts i_PQ hown hK hP 0 rfl rfl 4 (by decide) (hts (.fieldLink R_PQ 39 "PrivateQueries" "purses" "LPrivateQueries$Purses;") k_500) (fun _ h9 => h9) rfl d_PQ_budget_48 ?_
        refine lv_iload_n hx hb d_PQ_budget_51 rfl (lv_at hl 2 rfl) ?_
        refine lv_iload_n hx hb d_PQ_budget_52 rfl (lv_at hl 3 rfl) ?_
        obtain ⟨r4, hr4⟩ : ∃ r, (s_Pur_grant purses_f_granted x z) = r := ⟨_, rfl⟩
        have hC_r4 := (c_Pur_grant l G purses_h purses_a_granted purses_a_spent purses_f_granted x z)
        rw [hr4] at hC_r4
        refine ly_callV (rest := []) (wf := [(h, .inr (0, [.int v_p, .int v_q, .ref table_h, .ref tape_h, .ref purses_h, .ref text_h, .ref written_h, .ref product_h, .ref a_toldNumbers, .int v_toldSize, .ref script_h, .ref spare_h, .int v_hasScript])), (purses_h, .inr (3, [.ref purses_a_granted, .ref purses_a_spent])), (purses_a_granted, .inl (gI G, 5, .inl r4)), (purses_a_spent, .inl (gI G, 5, .inl purses_f_spent))]) ⟨hx, hb, hml, hown, hts⟩ hA hK hZ hP hD hS hC_r4 (cwV 2 hts g_PQ_122 rfl rfl rfl (by decide +kernel) ⟨Nat.le_of_ble_eq_true rfl, Nat.le_of_ble_eq_true rfl⟩) (ci := 3) (q0 := 1) rfl rfl rfl [1, 2] rfl (by decide) rfl rfl rfl hl.1 rfl (Nat.le_of_ble_eq_true rfl) d_PQ_budget_53 ⟨Nat.le_of_ble_eq_true rfl, Nat.le_of_ble_eq_true rfl⟩ (st1 := []) (c1 := 0) (s1 := 0) rfl rfl rfl (fun H locs hP hD hS => ?_)
        refine lv_iload_n hx hb d_PQ_budget_56 rfl (lv_at hl 0 rfl) ?_
        exact ly_iret hx hb hr hlocks hP hD hS d_PQ_budget_57 (by rw [s_PQ_budget] <;> simp only [hr1, hr2, hr3, hr4] <;> rw [if_neg c1, if_neg c2, if_pos c3, if_pos c4]) (by rw [s_PQ_budget] <;> simp only [hr1, hr2, hr3, hr4] <;> rw [if_neg c1, if_neg c2, if_pos c3, if_pos c4])
      refine lv_bipush (v := (-103)) hx hb d_PQ_budget_35 (by decide) ?_
      exact ly_iret hx hb hr hlocks hP hD hS d_PQ_budget_37 (by rw [s_PQ_budget] <;> simp only [hr1, hr2] <;> rw [if_neg c1, if_neg c2, if_pos c3, if_neg c4]) (by rw [s_PQ_budget] <;> simp only [hr1, hr2] <;> rw [if_neg c1, if_neg c2, if_pos c3, if_neg c4])
    refine lv_bipush (v := (-102)) hx hb d_PQ_budget_20 (by decide) ?_
    exact ly_iret hx hb hr hlocks hP hD hS d_PQ_budget_22 (by rw [s_PQ_budget] <;> simp only [hr1] <;> rw [if_neg c1, if_neg c2, if_neg c3]) (by rw [s_PQ_budget] <;> simp only [hr1] <;> rw [if_neg c1, if_neg c2, if_neg c3])
  refine lv_bipush (v := (-101)) hx hb d_PQ_budget_7 (by decide) ?_
  exact ly_iret hx hb hr hlocks hP hD hS d_PQ_budget_9 (by rw [s_PQ_budget] <;> simp only [hr1] <;> rw [if_pos c1]) (by rw [s_PQ_budget] <;> simp only [hr1] <;> rw [if_pos c1])

set_option maxHeartbeats 4000000 in
set_option maxRecDepth 100000 in
theorem c_PQ_ledger (l : Launch) (G : GG) (h : Nat) (table_h : Nat) (tape_h : Nat) (purses_h : Nat) (purses_a_granted : Nat) (purses_a_spent : Nat) (text_h : Nat) (written_h : Nat) (product_h : Nat) (a_toldNumbers : Nat) (script_h : Nat) (spare_h : Nat) (v_p : Int32) (v_q : Int32) (purses_f_granted : Nat → Int32) (purses_f_spent : Nat → Int32) (v_toldSize : Int32) (v_hasScript : Int32) (x : Int32) (z : Int32) : Det l G y_PQ_ledger w_PQ_ledger (rmD 3) 0 0 [.ref h, .int x, .int z] [(h, .inr (0, [.int v_p, .int v_q, .ref table_h, .ref tape_h, .ref purses_h, .ref text_h, .ref written_h, .ref product_h, .ref a_toldNumbers, .int v_toldSize, .ref script_h, .ref spare_h, .int v_hasScript])), (purses_h, .inr (3, [.ref purses_a_granted, .ref purses_a_spent])), (purses_a_granted, .inl (gI G, 5, .inl purses_f_granted)), (purses_a_spent, .inl (gI G, 5, .inl purses_f_spent))] (some (.int (s_PQ_ledger purses_f_granted purses_f_spent x z))) [(h, .inr (0, [.int v_p, .int v_q, .ref table_h, .ref tape_h, .ref purses_h, .ref text_h, .ref written_h, .ref product_h, .ref a_toldNumbers, .int v_toldSize, .ref script_h, .ref spare_h, .int v_hasScript])), (purses_h, .inr (3, [.ref purses_a_granted, .ref purses_a_spent])), (purses_a_granted, .inl (gI G, 5, .inl purses_f_granted)), (purses_a_spent, .inl (gI G, 5, .inl purses_f_spent))] := by
  refine Det.of (cc := b_PQ_ledger) (maxL := 3) (ret := (some .int)) (by decide) rfl (Nat.le_of_ble_eq_true rfl) ?_
  intro p e s m args below meth c A ls hx hb hr hml hown hts hlocks hin hA hK hZ hP hD hS hl
  have hts : ∀ w ∈ wG, w.before args s = true := fun w h => hts w (List.mem_cons_of_mem _ h)
  have hown : s.vm.findClass R_PQ = some m.cls := hown
  have hl : lv_has ls 3 [(0, .ref h), (1, .int x), (2, .int z)] := hl
  refine lv_iload_n hx hb d_PQ_ledger_0 rfl (lv_at hl 1 rfl) ?_
  obtain ⟨r1, hr1⟩ : ∃ r, (s_Pur_isKnown x) = r := ⟨_, rfl⟩
  have hC_r1 := (c_Pur_isKnown l G x)
  rw [hr1] at hC_r1
  have hf_r1_1 : isB r1 := by rw [← hr1]; exact z_Pur_isKnown
  refine ly_callS (rest := []) (wf := [(h, .inr (0, [.int v_p, .int v_q, .ref table_h, .ref tape_h, .ref purses_h, .ref text_h, .ref written_h, .ref product_h, .ref a_toldNumbers, .int v_toldSize, .ref script_h, .ref spare_h, .int v_hasScript])), (purses_h, .inr (3, [.ref purses_a_granted, .ref purses_a_spent])), (purses_a_granted, .inl (gI G, 5, .inl purses_f_granted)), (purses_a_spent, .inl (gI G, 5, .inl purses_f_spent))]) ⟨hx, hb, hml, hown, hts⟩ hA hK hZ hP hD hS hC_r1 ⟨callB_of 1 hts g_PQ_111 rfl rfl rfl (hts (.initialized R_Pur) k_18) (hts (.methodLink R_PQ 111 y_Pur_isKnown) k_498) (by decide +kernel) ⟨Nat.le_of_ble_eq_true rfl, Nat.le_of_ble_eq_true rfl⟩, hts (.static y_Pur_isKnown) k_17⟩ [] rfl (by decide) rfl rfl rfl hl.1 rfl (Nat.le_of_ble_eq_true rfl) d_PQ_ledger_1 ⟨Nat.le_of_ble_eq_true rfl, Nat.le_of_ble_eq_true rfl⟩ (st1 := [.int r1]) (c1 := 0) (s1 := 0) rfl rfl rfl (fun H locs hP hD hS => ?_)
  refine lv_if_ne (tgt := 10) hx hb d_PQ_ledger_4 (by decide) (fun c1 => ?_) (fun c1 => ?_)
  · skip
    refine lv_iload_n hx hb d_PQ_ledger_10 rfl (lv_at hl 2 rfl) ?_
    refine lv_if_lt (tgt := 19) hx hb d_PQ_ledger_11 (by decide) (fun c2 => ?_) (fun c2 => ?_)
    · skip
      refine lv_bipush (v := (-102)) hx hb d_PQ_ledger_19 (by decide) ?_
      exact ly_iret hx hb hr hlocks hP hD hS d_PQ_ledger_21 (by rw [s_PQ_ledger] <;> simp only [hr1] <;> rw [if_neg c1, if_pos c2]) rfl
    refine lv_iload_n hx hb d_PQ_ledger_14 rfl (lv_at hl 2 rfl) ?_
    refine lv_iconst (v := 1) hx hb d_PQ_ledger_15 (by decide) ?_
    refine lv_icmp_le (tgt := 22) hx hb d_PQ_ledger_16 (by decide) (fun c3 => ?_) (fun c3 => ?_)
    · skip
      refine lv_iload_n hx hb d_PQ_ledger_22 rfl (lv_at hl 2 rfl) ?_
      refine lv_if_ne (tgt := 37) hx hb d_PQ_ledger_23 (by decide) (fun c4 => ?_) (fun c4 => ?_)
      · skip
        refine lv_aload_n hx hb d_PQ_ledger_37 rfl (lv_at hl 0 rfl) ?_
        refine va_get (D := G.1) (ci := 0) (C := R_PQ) (T := F_PQ) (N := 13) (v := .ref purses_h) hx hb hts i_PQ hown hK hP 0 rfl rfl 4 (by decide) (hts (.fieldLink R_PQ 39 "PrivateQueries" "purses" "LPrivateQueries$Purses;") k_500) (fun _ h9 => h9) rfl d_PQ_ledger_38 ?_
        refine lv_iload_n hx hb d_PQ_ledger_41 rfl (lv_at hl 1 rfl) ?_
        obtain ⟨r2, hr2⟩ : ∃ r, (s_Pur_leftTo purses_f_granted purses_f_spent x) = r := ⟨_, rfl⟩
        have hC_r2 := (c_Pur_leftTo l G purses_h purses_a_granted purses_a_spent purses_f_granted purses_f_spent x)
        rw [hr2] at hC_r2
        refine ly_callV (rest := []) (wf := [(h, .inr (0, [.int v_p, .int v_q, .ref table_h, .ref tape_h, .ref purses_h, .ref text_h, .ref written_h, .ref product_h, .ref a_toldNumbers, .int v_toldSize, .ref script_h, .ref spare_h, .int v_hasScript])), (purses_h, .inr (3, [.ref purses_a_granted, .ref purses_a_spent])), (purses_a_granted, .inl (gI G, 5, .inl purses_f_granted)), (purses_a_spent, .inl (gI G, 5, .inl purses_f_spent))]) ⟨hx, hb, hml, hown, hts⟩ hA hK hZ hP hD hS hC_r2 (cwV 1 hts g_PQ_125 rfl rfl rfl (by decide +kernel) ⟨Nat.le_of_ble_eq_true rfl, Nat.le_of_ble_eq_true rfl⟩) (ci := 3) (q0 := 1) rfl rfl rfl [1, 2, 3] rfl (by decide) rfl rfl rfl hl.1 rfl (Nat.le_of_ble_eq_true rfl) d_PQ_ledger_42 ⟨Nat.le_of_ble_eq_true rfl, Nat.le_of_ble_eq_true rfl⟩ (st1 := [.int r2]) (c1 := 0) (s1 := 0) rfl rfl rfl (fun H locs hP hD hS => ?_)
        exact ly_iret hx hb hr hlocks hP hD hS d_PQ_ledger_45 (by rw [s_PQ_ledger] <;> simp only [hr1, hr2] <;> rw [if_neg c1, if_neg c2, if_pos c3, if_neg c4]) rfl
      refine lv_aload_n hx hb d_PQ_ledger_26 rfl (lv_at hl 0 rfl) ?_
      refine va_get (D := G.1) (ci := 0) (C := R_PQ) (T := F_PQ) (N := 13) (v := .ref purses_h) hx hb hts i_PQ hown hK hP 0 rfl rfl 4 (by decide) (hts (.fieldLink R_PQ 39 "PrivateQueries" "purses" "LPrivateQueries$Purses;") k_500) (fun _ h9 => h9) rfl d_PQ_ledger_27 ?_
      refine lv_iload_n hx hb d_PQ_ledger_30 rfl (lv_at hl 1 rfl) ?_
      obtain ⟨r3, hr3⟩ : ∃ r, (s_Pur_spentBy purses_f_spent x) = r := ⟨_, rfl⟩
      have hC_r3 := (c_Pur_spentBy l G purses_h purses_a_granted purses_a_spent purses_f_spent x)
      rw [hr3] at hC_r3
      refine ly_callV (rest := []) (wf := [(h, .inr (0, [.int v_p, .int v_q, .ref table_h, .ref tape_h, .ref purses_h, .ref text_h, .ref written_h, .ref product_h, .ref a_toldNumbers, .int v_toldSize, .ref script_h, .ref spare_h, .int v_hasScript])), (purses_h, .inr (3, [.ref purses_a_granted, .ref purses_a_spent])), (purses_a_granted, .inl (gI G, 5, .inl purses_f_granted)), (purses_a_spent, .inl (gI G, 5, .inl purses_f_spent))]) ⟨hx, hb, hml, hown, hts⟩ hA hK hZ hP hD hS hC_r3 (cwV 1 hts g_PQ_115 rfl rfl rfl (by decide +kernel) ⟨Nat.le_of_ble_eq_true rfl, Nat.le_of_ble_eq_true rfl⟩) (ci := 3) (q0 := 1) rfl rfl rfl [1, 3] rfl (by decide) rfl rfl rfl hl.1 rfl (Nat.le_of_ble_eq_true rfl) d_PQ_ledger_31 ⟨Nat.le_of_ble_eq_true rfl, Nat.le_of_ble_eq_true rfl⟩ (st1 := [.int r3]) (c1 := 0) (s1 := 0) rfl rfl rfl (fun H locs hP hD hS => ?_)
      refine lv_goto (tgt := 45) hx hb d_PQ_ledger_34 (by decide) ?_
      exact ly_iret hx hb hr hlocks hP hD hS d_PQ_ledger_45 (by rw [s_PQ_ledger] <;> simp only [hr1, hr3] <;> rw [if_neg c1, if_neg c2, if_pos c3, if_pos c4]) rfl
    refine lv_bipush (v := (-102)) hx hb d_PQ_ledger_19 (by decide) ?_
    exact ly_iret hx hb hr hlocks hP hD hS d_PQ_ledger_21 (by rw [s_PQ_ledger] <;> simp only [hr1] <;> rw [if_neg c1, if_neg c2, if_neg c3]) rfl
  refine lv_bipush (v := (-101)) hx hb d_PQ_ledger_7 (by decide) ?_
  exact ly_iret hx hb hr hlocks hP hD hS d_PQ_ledger_9 (by rw [s_PQ_ledger] <;> simp only [hr1] <;> rw [if_pos c1]) rfl

set_option maxHeartbeats 4000000 in
set_option maxRecDepth 100000 in
theorem c_PQ_type (l : Launch) (G : GG) (h : Nat) (table_h : Nat) (tape_h : Nat) (purses_h : Nat) (text_h : Nat) (text_a_signs : Nat) (written_h : Nat) (product_h : Nat) (a_toldNumbers : Nat) (script_h : Nat) (spare_h : Nat) (v_p : Int32) (v_q : Int32) (text_f_signs : Nat → Int32) (text__size : Int32) (v_toldSize : Int32) (v_hasScript : Int32) (x : Int64) (z : Int32) (hok : ok_PQ_type text_f_signs text__size x z) : Det l G y_PQ_type w_PQ_type (rmD 2) 0 0 [.ref h, .long x, .int z] [(h, .inr (0, [.int v_p, .int v_q, .ref table_h, .ref tape_h, .ref purses_h, .ref text_h, .ref written_h, .ref product_h, .ref a_toldNumbers, .int v_toldSize, .ref script_h, .ref spare_h, .int v_hasScript])), (text_h, .inr (4, [.ref text_a_signs, .int text__size])), (text_a_signs, .inl (gC G, 2000, .inl text_f_signs))] (some (.int (s_PQ_type text_f_signs text__size x z).1)) [(h, .inr (0, [.int v_p, .int v_q, .ref table_h, .ref tape_h, .ref purses_h, .ref text_h, .ref written_h, .ref product_h, .ref a_toldNumbers, .int v_toldSize, .ref script_h, .ref spare_h, .int v_hasScript])), (text_h, .inr (4, [.ref text_a_signs, .int (s_PQ_type text_f_signs text__size x z).2.1])), (text_a_signs, .inl (gC G, 2000, .inl (s_PQ_type text_f_signs text__size x z).2.2))] := by
  refine Det.of (cc := b_PQ_type) (maxL := 4) (ret := (some .int)) (by decide) rfl (Nat.le_of_ble_eq_true rfl) ?_
  intro p e s m args below meth c A ls hx hb hr hml hown hts hlocks hin hA hK hZ hP hD hS hl
  have hts : ∀ w ∈ wG, w.before args s = true := fun w h => hts w (List.mem_cons_of_mem _ h)
  have hown : s.vm.findClass R_PQ = some m.cls := hown
  have hl : lv_has ls 4 [(0, .ref h), (1, .long x), (3, .int z)] := hl
  rw [ok_PQ_type] at hok
  refine lv_iload_n hx hb d_PQ_type_0 rfl (lv_at hl 2 rfl) ?_
  refine lv_iconst (v := 1) hx hb d_PQ_type_1 (by decide) ?_
  refine lv_icmp_lt (tgt := 19) hx hb d_PQ_type_2 (by decide) (fun c1 => ?_) (fun c1 => ?_)
  · skip
    rw [if_pos c1] at hok
    refine lv_bipush (v := (-102)) hx hb d_PQ_type_19 (by decide) ?_
    exact ly_iret hx hb hr hlocks hP hD hS d_PQ_type_21 (by rw [s_PQ_type, if_pos c1]) (by rw [s_PQ_type, if_pos c1])
  rw [if_neg c1] at hok
  refine lv_iload_n hx hb d_PQ_type_5 rfl (lv_at hl 2 rfl) ?_
  refine lv_bipush (v := 8) hx hb d_PQ_type_6 (by decide) ?_
  refine lv_icmp_gt (tgt := 19) hx hb d_PQ_type_8 (by decide) (fun c2 => ?_) (fun c2 => ?_)
  · skip
    rw [if_pos c2] at hok
    refine lv_bipush (v := (-102)) hx hb d_PQ_type_19 (by decide) ?_
    exact ly_iret hx hb hr hlocks hP hD hS d_PQ_type_21 (by rw [s_PQ_type, if_neg c1, if_pos c2]) (by rw [s_PQ_type, if_neg c1, if_pos c2])
  rw [if_neg c2] at hok
  refine lv_lload_n hx hb d_PQ_type_11 rfl (lv_at hl 1 rfl) ?_
  refine lv_iload_n hx hb d_PQ_type_12 rfl (lv_at hl 2 rfl) ?_
  obtain ⟨r1, hr1⟩ : ∃ r, (lp_Text_areSigns x z (((z.toInt - (0 : Int32).toInt).toNat) + 1) (0 : Int32)) = r := ⟨_, rfl⟩
  try simp only [hr1] at hok
  have hC_r1 := (c_Text_areSigns l G x z)
  rw [hr1] at hC_r1
  have hf_r1_1 : isB r1 := by rw [← hr1]; exact zl_Text_areSigns
  refine ly_callS (rest := []) (wf := [(h, .inr (0, [.int v_p, .int v_q, .ref table_h, .ref tape_h, .ref purses_h, .ref text_h, .ref written_h, .ref product_h, .ref a_toldNumbers, .int v_toldSize, .ref script_h, .ref spare_h, .int v_hasScript])), (text_h, .inr (4, [.ref text_a_signs, .int text__size])), (text_a_signs, .inl (gC G, 2000, .inl text_f_signs))]) ⟨hx, hb, hml, hown, hts⟩ hA hK hZ hP hD hS hC_r1 ⟨callB_of 2 hts g_PQ_128 rfl rfl rfl (hts (.initialized R_Text) k_35) (hts (.methodLink R_PQ 128 y_Text_areSigns) k_512) (by decide +kernel) ⟨Nat.le_of_ble_eq_true rfl, Nat.le_of_ble_eq_true rfl⟩, hts (.static y_Text_areSigns) k_513⟩ [] rfl (by decide) rfl rfl rfl hl.1 rfl (Nat.le_of_ble_eq_true rfl) d_PQ_type_13 ⟨Nat.le_of_ble_eq_true rfl, Nat.le_of_ble_eq_true rfl⟩ (st1 := [.int r1]) (c1 := 0) (s1 := 0) rfl rfl rfl (fun H locs hP hD hS => ?_)
  refine lv_if_ne (tgt := 22) hx hb d_PQ_type_16 (by decide) (fun c3 => ?_) (fun c3 => ?_)
  · skip
    rw [if_neg c3] at hok
    refine lv_aload_n hx hb d_PQ_type_22 rfl (lv_at hl 0 rfl) ?_
    refine va_get (D := G.1) (ci := 0) (C := R_PQ) (T := F_PQ) (N := 13) (v := .ref text_h) hx hb hts i_PQ hown hK hP 0 rfl rfl 5 (by decide) (hts (.fieldLink R_PQ 46 "PrivateQueries" "text" "LPrivateQueries$Text;") k_481) (fun _ h9 => h9) rfl d_PQ_type_23 ?_
    refine ly_callV (rest := []) (wf := [(h, .inr (0, [.int v_p, .int v_q, .ref table_h, .ref tape_h, .ref purses_h, .ref text_h, .ref written_h, .ref product_h, .ref a_toldNumbers, .int v_toldSize, .ref script_h, .ref spare_h, .int v_hasScript])), (text_h, .inr (4, [.ref text_a_signs, .int text__size])), (text_a_signs, .inl (gC G, 2000, .inl text_f_signs))]) ⟨hx, hb, hml, hown, hts⟩ hA hK hZ hP hD hS (c_Text_size l G text_h text_a_signs text__size) (cwV 0 hts g_PQ_104 rfl rfl rfl (by decide +kernel) ⟨Nat.le_of_ble_eq_true rfl, Nat.le_of_ble_eq_true rfl⟩) (ci := 4) (q0 := 1) rfl rfl rfl [1] rfl (by decide) rfl rfl rfl hl.1 rfl (Nat.le_of_ble_eq_true rfl) d_PQ_type_26 ⟨Nat.le_of_ble_eq_true rfl, Nat.le_of_ble_eq_true rfl⟩ (st1 := [.int text__size]) (c1 := 0) (s1 := 0) rfl rfl rfl (fun H locs hP hD hS => ?_)
    refine lv_iload_n hx hb d_PQ_type_29 rfl (lv_at hl 2 rfl) ?_
    refine lv_iadd hx hb d_PQ_type_30 ?_
    refine lv_sipush (v := 2000) hx hb d_PQ_type_31 (by decide) ?_
    refine lv_icmp_le (tgt := 40) hx hb d_PQ_type_34 (by decide) (fun c4 => ?_) (fun c4 => ?_)
    · skip
      rw [if_pos c4] at hok
      refine lv_aload_n hx hb d_PQ_type_40 rfl (lv_at hl 0 rfl) ?_
      refine va_get (D := G.1) (ci := 0) (C := R_PQ) (T := F_PQ) (N := 13) (v := .ref text_h) hx hb hts i_PQ hown hK hP 0 rfl rfl 5 (by decide) (hts (.fieldLink R_PQ 46 "PrivateQueries" "text" "LPrivateQueries$Text;") k_481) (fun _ h9 => h9) rfl d_PQ_type_41 ?_
      refine lv_lload_n hx hb d_PQ_type_44 rfl (lv_at hl 1 rfl) ?_
      refine lv_iload_n hx hb d_PQ_type_45 rfl (lv_at hl 2 rfl) ?_
      obtain ⟨hv1, hok⟩ := hok
      obtain ⟨r2, hr2⟩ : ∃ r, (lp_Text_add x ((((z - 1).toInt + 1).toNat) + 1) (z - 1) text_f_signs text__size) = r := ⟨_, rfl⟩
      try simp only [hr2] at hok
      have hC_r2 := (c_Text_add l G text_h text_a_signs text_f_signs text__size x z hv1)
      rw [hr2] at hC_r2
      refine ly_callV (rest := []) (wf := [(h, .inr (0, [.int v_p, .int v_q, .ref table_h, .ref tape_h, .ref purses_h, .ref text_h, .ref written_h, .ref product_h, .ref a_toldNumbers, .int v_toldSize, .ref script_h, .ref spare_h, .int v_hasScript])), (text_h, .inr (4, [.ref text_a_signs, .int r2.1])), (text_a_signs, .inl (gC G, 2000, .inl r2.2))]) ⟨hx, hb, hml, hown, hts⟩ hA hK hZ hP hD hS hC_r2 (cwV 2 hts g_PQ_132 rfl rfl rfl (by decide +kernel) ⟨Nat.le_of_ble_eq_true rfl, Nat.le_of_ble_eq_true rfl⟩) (ci := 4) (q0 := 1) rfl rfl rfl [1, 2] rfl (by decide) rfl rfl rfl hl.1 rfl (Nat.le_of_ble_eq_true rfl) d_PQ_type_46 ⟨Nat.le_of_ble_eq_true rfl, Nat.le_of_ble_eq_true rfl⟩ (st1 := []) (c1 := 0) (s1 := 0) rfl rfl rfl (fun H locs hP hD hS => ?_)
      refine lv_aload_n hx hb d_PQ_type_49 rfl (lv_at hl 0 rfl) ?_
      refine va_get (D := G.1) (ci := 0) (C := R_PQ) (T := F_PQ) (N := 13) (v := .ref text_h) hx hb hts i_PQ hown hK hP 0 rfl rfl 5 (by decide) (hts (.fieldLink R_PQ 46 "PrivateQueries" "text" "LPrivateQueries$Text;") k_481) (fun _ h9 => h9) rfl d_PQ_type_50 ?_
      refine ly_callV (rest := []) (wf := [(h, .inr (0, [.int v_p, .int v_q, .ref table_h, .ref tape_h, .ref purses_h, .ref text_h, .ref written_h, .ref product_h, .ref a_toldNumbers, .int v_toldSize, .ref script_h, .ref spare_h, .int v_hasScript])), (text_h, .inr (4, [.ref text_a_signs, .int r2.1])), (text_a_signs, .inl (gC G, 2000, .inl r2.2))]) ⟨hx, hb, hml, hown, hts⟩ hA hK hZ hP hD hS (c_Text_size l G text_h text_a_signs r2.1) (cwV 0 hts g_PQ_104 rfl rfl rfl (by decide +kernel) ⟨Nat.le_of_ble_eq_true rfl, Nat.le_of_ble_eq_true rfl⟩) (ci := 4) (q0 := 1) rfl rfl rfl [1] rfl (by decide) rfl rfl rfl hl.1 rfl (Nat.le_of_ble_eq_true rfl) d_PQ_type_53 ⟨Nat.le_of_ble_eq_true rfl, Nat.le_of_ble_eq_true rfl⟩ (st1 := [.int r2.1]) (c1 := 0) (s1 := 0) rfl rfl rfl (fun H locs hP hD hS => ?_)
      exact ly_iret hx hb hr hlocks hP hD hS d_PQ_type_56 (by rw [s_PQ_type] <;> simp only [hr1, hr2] <;> rw [if_neg c1, if_neg c2, if_neg c3, if_pos c4]) (by rw [s_PQ_type] <;> simp only [hr1, hr2] <;> rw [if_neg c1, if_neg c2, if_neg c3, if_pos c4])
    rw [if_neg c4] at hok
    refine lv_bipush (v := (-106)) hx hb d_PQ_type_37 (by decide) ?_
    exact ly_iret hx hb hr hlocks hP hD hS d_PQ_type_39 (by rw [s_PQ_type] <;> simp only [hr1] <;> rw [if_neg c1, if_neg c2, if_neg c3, if_neg c4]) (by rw [s_PQ_type] <;> simp only [hr1] <;> rw [if_neg c1, if_neg c2, if_neg c3, if_neg c4])
  rw [if_pos c3] at hok
  refine lv_bipush (v := (-102)) hx hb d_PQ_type_19 (by decide) ?_
  exact ly_iret hx hb hr hlocks hP hD hS d_PQ_type_21 (by rw [s_PQ_type] <;> simp only [hr1] <;> rw [if_neg c1, if_neg c2, if_pos c3]) (by rw [s_PQ_type] <;> simp only [hr1] <;> rw [if_neg c1, if_neg c2, if_pos c3])

set_option maxHeartbeats 4000000 in
set_option maxRecDepth 100000 in
theorem c_PQ_told (l : Launch) (G : GG) (h : Nat) (table_h : Nat) (tape_h : Nat) (purses_h : Nat) (text_h : Nat) (written_h : Nat) (product_h : Nat) (a_toldNumbers : Nat) (script_h : Nat) (spare_h : Nat) (v_p : Int32) (v_q : Int32) (f_toldNumbers : Nat → Int32) (v_toldSize : Int32) (v_hasScript : Int32) (x : Int32) : Det l G y_PQ_told w_PQ_told (rmD 0) 0 0 [.ref h, .int x] [(h, .inr (0, [.int v_p, .int v_q, .ref table_h, .ref tape_h, .ref purses_h, .ref text_h, .ref written_h, .ref product_h, .ref a_toldNumbers, .int v_toldSize, .ref script_h, .ref spare_h, .int v_hasScript])), (a_toldNumbers, .inl (gI G, 240, .inl f_toldNumbers))] (some (.int (s_PQ_told f_toldNumbers v_toldSize x))) [(h, .inr (0, [.int v_p, .int v_q, .ref table_h, .ref tape_h, .ref purses_h, .ref text_h, .ref written_h, .ref product_h, .ref a_toldNumbers, .int v_toldSize, .ref script_h, .ref spare_h, .int v_hasScript])), (a_toldNumbers, .inl (gI G, 240, .inl f_toldNumbers))] := by
  refine Det.of (cc := b_PQ_told) (maxL := 2) (ret := (some .int)) (by decide) rfl (Nat.le_of_ble_eq_true rfl) ?_
  intro p e s m args below meth c A ls hx hb hr hml hown hts hlocks hin hA hK hZ hP hD hS hl
  have hts : ∀ w ∈ wG, w.before args s = true := fun w h => hts w (List.mem_cons_of_mem _ h)
  have hown : s.vm.findClass R_PQ = some m.cls := hown
  have hl : lv_has ls 2 [(0, .ref h), (1, .int x)] := hl
  refine lv_iload_n hx hb d_PQ_told_0 rfl (lv_at hl 1 rfl) ?_
  refine lv_if_lt (tgt := 30) hx hb d_PQ_told_1 (by decide) (fun c1 => ?_) (fun c1 => ?_)
  · skip
    refine lv_iconst (v := -1) hx hb d_PQ_told_30 (by decide) ?_
    exact ly_iret hx hb hr hlocks hP hD hS d_PQ_told_31 (by rw [s_PQ_told, if_pos c1]) rfl
  refine lv_iload_n hx hb d_PQ_told_4 rfl (lv_at hl 1 rfl) ?_
  refine lv_aload_n hx hb d_PQ_told_5 rfl (lv_at hl 0 rfl) ?_
  refine va_get (D := G.1) (ci := 0) (C := R_PQ) (T := F_PQ) (N := 13) (v := .int v_toldSize) hx hb hts i_PQ hown hK hP 0 rfl rfl 9 (by decide) (hts (.fieldLink R_PQ 70 "PrivateQueries" "toldSize" "I") k_497) (fun _ h9 => h9) rfl d_PQ_told_6 ?_
  refine lv_icmp_ge (tgt := 30) hx hb d_PQ_told_9 (by decide) (fun c2 => ?_) (fun c2 => ?_)
  · skip
    refine lv_iconst (v := -1) hx hb d_PQ_told_30 (by decide) ?_
    exact ly_iret hx hb hr hlocks hP hD hS d_PQ_told_31 (by rw [s_PQ_told, if_neg c1, if_pos c2]) rfl
  refine lv_iload_n hx hb d_PQ_told_12 rfl (lv_at hl 1 rfl) ?_
  refine lv_aload_n hx hb d_PQ_told_13 rfl (lv_at hl 0 rfl) ?_
  refine va_get (D := G.1) (ci := 0) (C := R_PQ) (T := F_PQ) (N := 13) (v := .ref a_toldNumbers) hx hb hts i_PQ hown hK hP 0 rfl rfl 8 (by decide) (hts (.fieldLink R_PQ 66 "PrivateQueries" "toldNumbers" "[I") k_518) (fun _ h9 => h9) rfl d_PQ_told_14 ?_
  refine va_alen (v := 240) hx hb hK hP 1 0 rfl rfl (show Int32.ofNat 240 = 240 by decide) d_PQ_told_17 ?_
  refine lv_icmp_ge (tgt := 30) hx hb d_PQ_told_18 (by decide) (fun c3 => ?_) (fun c3 => ?_)
  · skip
    refine lv_iconst (v := -1) hx hb d_PQ_told_30 (by decide) ?_
    exact ly_iret hx hb hr hlocks hP hD hS d_PQ_told_31 (by rw [s_PQ_told, if_neg c1, if_neg c2, if_pos c3]) rfl
  refine lv_aload_n hx hb d_PQ_told_21 rfl (lv_at hl 0 rfl) ?_
  refine va_get (D := G.1) (ci := 0) (C := R_PQ) (T := F_PQ) (N := 13) (v := .ref a_toldNumbers) hx hb hts i_PQ hown hK hP 0 rfl rfl 8 (by decide) (hts (.fieldLink R_PQ 66 "PrivateQueries" "toldNumbers" "[I") k_518) (fun _ h9 => h9) rfl d_PQ_told_22 ?_
  refine lv_iload_n hx hb d_PQ_told_25 rfl (lv_at hl 1 rfl) ?_
  refine va_iald hx hb hK hP 1 0 rfl rfl (ly_mk (ly_lo c1) (ly_hi (by decide) c3)) d_PQ_told_26 ?_
  refine lv_goto (tgt := 31) hx hb d_PQ_told_27 (by decide) ?_
  exact ly_iret hx hb hr hlocks hP hD hS d_PQ_told_31 (by rw [s_PQ_told, if_neg c1, if_neg c2, if_neg c3]) rfl

set_option maxHeartbeats 4000000 in
set_option maxRecDepth 100000 in
theorem c_PQ_noise (l : Launch) (G : GG) (h : Nat) (table_h : Nat) (tape_h : Nat) (tape_a_cells : Nat) (purses_h : Nat) (text_h : Nat) (written_h : Nat) (product_h : Nat) (a_toldNumbers : Nat) (script_h : Nat) (spare_h : Nat) (v_p : Int32) (v_q : Int32) (tape__p : Int32) (tape__q : Int32) (tape_f_cells : Nat → Int32) (tape__size : Int32) (v_toldSize : Int32) (v_hasScript : Int32) (x : Int32) (z : Int32) (hok : ok_PQ_noise tape__p tape__q tape_f_cells tape__size x z) : Det l G y_PQ_noise w_PQ_noise (rmD 2) 0 0 [.ref h, .int x, .int z] [(h, .inr (0, [.int v_p, .int v_q, .ref table_h, .ref tape_h, .ref purses_h, .ref text_h, .ref written_h, .ref product_h, .ref a_toldNumbers, .int v_toldSize, .ref script_h, .ref spare_h, .int v_hasScript])), (tape_h, .inr (2, [.int tape__p, .int tape__q, .ref tape_a_cells, .int tape__size])), (tape_a_cells, .inl (gI G, 3000, .inl tape_f_cells))] (some (.int (s_PQ_noise tape__p tape__q tape_f_cells tape__size x z))) [(h, .inr (0, [.int v_p, .int v_q, .ref table_h, .ref tape_h, .ref purses_h, .ref text_h, .ref written_h, .ref product_h, .ref a_toldNumbers, .int v_toldSize, .ref script_h, .ref spare_h, .int v_hasScript])), (tape_h, .inr (2, [.int tape__p, .int tape__q, .ref tape_a_cells, .int tape__size])), (tape_a_cells, .inl (gI G, 3000, .inl tape_f_cells))] := by
  refine Det.of (cc := b_PQ_noise) (maxL := 3) (ret := (some .int)) (by decide) rfl (Nat.le_of_ble_eq_true rfl) ?_
  intro p e s m args below meth c A ls hx hb hr hml hown hts hlocks hin hA hK hZ hP hD hS hl
  have hts : ∀ w ∈ wG, w.before args s = true := fun w h => hts w (List.mem_cons_of_mem _ h)
  have hown : s.vm.findClass R_PQ = some m.cls := hown
  have hl : lv_has ls 3 [(0, .ref h), (1, .int x), (2, .int z)] := hl
  rw [ok_PQ_noise] at hok
  refine lv_iload_n hx hb d_PQ_noise_0 rfl (lv_at hl 2 rfl) ?_
  refine lv_bipush (v := 30) hx hb d_PQ_noise_1 (by decide) ?_
  obtain ⟨r1, hr1⟩ : ∃ r, (s_PQ_isUpTo z 30) = r := ⟨_, rfl⟩
  try simp only [hr1] at hok
  have hC_r1 := (c_PQ_isUpTo l G z 30)
  rw [hr1] at hC_r1
  have hf_r1_1 : isB r1 := by rw [← hr1]; exact z_PQ_isUpTo
  refine ly_callS (rest := []) (wf := [(h, .inr (0, [.int v_p, .int v_q, .ref table_h, .ref tape_h, .ref purses_h, .ref text_h, .ref written_h, .ref product_h, .ref a_toldNumbers, .int v_toldSize, .ref script_h, .ref spare_h, .int v_hasScript])), (tape_h, .inr (2, [.int tape__p, .int tape__q, .ref tape_a_cells, .int tape__size])), (tape_a_cells, .inl (gI G, 3000, .inl tape_f_cells))]) ⟨hx, hb, hml, hown, hts⟩ hA hK hZ hP hD hS hC_r1 (cwS 2 hts g_PQ_176 rfl rfl rfl (by decide +kernel) ⟨Nat.le_of_ble_eq_true rfl, Nat.le_of_ble_eq_true rfl⟩) [] rfl (by decide) rfl rfl rfl hl.1 rfl (Nat.le_of_ble_eq_true rfl) d_PQ_noise_3 ⟨Nat.le_of_ble_eq_true rfl, Nat.le_of_ble_eq_true rfl⟩ (st1 := [.int r1]) (c1 := 0) (s1 := 0) rfl rfl rfl (fun H locs hP hD hS => ?_)
  refine lv_if_eq (tgt := 13) hx hb d_PQ_noise_6 (by decide) (fun c1 => ?_) (fun c1 => ?_)
  · skip
    rw [if_pos c1] at hok
    refine lv_bipush (v := (-102)) hx hb d_PQ_noise_13 (by decide) ?_
    exact ly_iret hx hb hr hlocks hP hD hS d_PQ_noise_15 (by rw [s_PQ_noise] <;> simp only [hr1] <;> rw [if_pos c1]) rfl
  rw [if_neg c1] at hok
  refine lv_iload_n hx hb d_PQ_noise_9 rfl (lv_at hl 1 rfl) ?_
  refine lv_if_ge (tgt := 16) hx hb d_PQ_noise_10 (by decide) (fun c2 => ?_) (fun c2 => ?_)
  · skip
    rw [if_pos c2] at hok
    refine lv_iload_n hx hb d_PQ_noise_16 rfl (lv_at hl 1 rfl) ?_
    refine lv_aload_n hx hb d_PQ_noise_17 rfl (lv_at hl 0 rfl) ?_
    refine va_get (D := G.1) (ci := 0) (C := R_PQ) (T := F_PQ) (N := 13) (v := .ref tape_h) hx hb hts i_PQ hown hK hP 0 rfl rfl 3 (by decide) (hts (.fieldLink R_PQ 32 "PrivateQueries" "tape" "LPrivateQueries$Tape;") k_468) (fun _ h9 => h9) rfl d_PQ_noise_18 ?_
    refine ly_callV (rest := [.int x]) (wf := [(h, .inr (0, [.int v_p, .int v_q, .ref table_h, .ref tape_h, .ref purses_h, .ref text_h, .ref written_h, .ref product_h, .ref a_toldNumbers, .int v_toldSize, .ref script_h, .ref spare_h, .int v_hasScript])), (tape_h, .inr (2, [.int tape__p, .int tape__q, .ref tape_a_cells, .int tape__size])), (tape_a_cells, .inl (gI G, 3000, .inl tape_f_cells))]) ⟨hx, hb, hml, hown, hts⟩ hA hK hZ hP hD hS (c_Tape_size l G tape_h tape_a_cells tape__p tape__q tape__size) (cwV 0 hts g_PQ_101 rfl rfl rfl (by decide +kernel) ⟨Nat.le_of_ble_eq_true rfl, Nat.le_of_ble_eq_true rfl⟩) (ci := 2) (q0 := 1) rfl rfl rfl [1] rfl (by decide) rfl rfl rfl hl.1 rfl (Nat.le_of_ble_eq_true rfl) d_PQ_noise_21 ⟨Nat.le_of_ble_eq_true rfl, Nat.le_of_ble_eq_true rfl⟩ (st1 := [.int tape__size, .int x]) (c1 := 0) (s1 := 0) rfl rfl rfl (fun H locs hP hD hS => ?_)
    refine lv_iload_n hx hb d_PQ_noise_24 rfl (lv_at hl 2 rfl) ?_
    refine lv_iconst (v := 1) hx hb d_PQ_noise_25 (by decide) ?_
    refine lv_iadd hx hb d_PQ_noise_26 ?_
    refine lv_isub hx hb d_PQ_noise_27 ?_
    refine lv_icmp_le (tgt := 34) hx hb d_PQ_noise_28 (by decide) (fun c3 => ?_) (fun c3 => ?_)
    · skip
      rw [if_pos c3] at hok
      refine lv_aload_n hx hb d_PQ_noise_34 rfl (lv_at hl 0 rfl) ?_
      refine va_get (D := G.1) (ci := 0) (C := R_PQ) (T := F_PQ) (N := 13) (v := .ref tape_h) hx hb hts i_PQ hown hK hP 0 rfl rfl 3 (by decide) (hts (.fieldLink R_PQ 32 "PrivateQueries" "tape" "LPrivateQueries$Tape;") k_468) (fun _ h9 => h9) rfl d_PQ_noise_35 ?_
      refine lv_iload_n hx hb d_PQ_noise_38 rfl (lv_at hl 1 rfl) ?_
      refine lv_iload_n hx hb d_PQ_noise_39 rfl (lv_at hl 2 rfl) ?_
      obtain ⟨hv1, hok⟩ := hok
      obtain ⟨hv2, hok⟩ := hok
      obtain ⟨r2, hr2⟩ : ∃ r, (s_Tape_blockNoise tape__p tape__q tape_f_cells tape__size x z) = r := ⟨_, rfl⟩
      try simp only [hr2] at hok
      have hC_r2 := (c_Tape_blockNoise l G tape_h tape_a_cells tape__p tape__q tape_f_cells tape__size x z hv1 hv2)
      rw [hr2] at hC_r2
      refine ly_callV (rest := []) (wf := [(h, .inr (0, [.int v_p, .int v_q, .ref table_h, .ref tape_h, .ref purses_h, .ref text_h, .ref written_h, .ref product_h, .ref a_toldNumbers, .int v_toldSize, .ref script_h, .ref spare_h, .int v_hasScript])), (tape_h, .inr (2, [.int tape__p, .int tape__q, .ref tape_a_cells, .int tape__size])), (tape_a_cells, .inl (gI G, 3000, .inl tape_f_cells))]) ⟨hx, hb, hml, hown, hts⟩ hA hK hZ hP hD hS hC_r2 (cwV 2 hts g_PQ_180 rfl rfl rfl (by decide +kernel) ⟨Nat.le_of_ble_eq_true rfl, Nat.le_of_ble_eq_true rfl⟩) (ci := 2) (q0 := 1) rfl rfl rfl [1, 2] rfl (by decide) rfl rfl rfl hl.1 rfl (Nat.le_of_ble_eq_true rfl) d_PQ_noise_40 ⟨Nat.le_of_ble_eq_true rfl, Nat.le_of_ble_eq_true rfl⟩ (st1 := [.int r2]) (c1 := 0) (s1 := 0) rfl rfl rfl (fun H locs hP hD hS => ?_)
      exact ly_iret hx hb hr hlocks hP hD hS d_PQ_noise_43 (by rw [s_PQ_noise] <;> simp only [hr1, hr2] <;> rw [if_neg c1, if_pos c2, if_pos c3]) rfl
    rw [if_neg c3] at hok
    refine lv_bipush (v := (-105)) hx hb d_PQ_noise_31 (by decide) ?_
    exact ly_iret hx hb hr hlocks hP hD hS d_PQ_noise_33 (by rw [s_PQ_noise] <;> simp only [hr1] <;> rw [if_neg c1, if_pos c2, if_neg c3]) rfl
  rw [if_neg c2] at hok
  refine lv_bipush (v := (-102)) hx hb d_PQ_noise_13 (by decide) ?_
  exact ly_iret hx hb hr hlocks hP hD hS d_PQ_noise_15 (by rw [s_PQ_noise] <;> simp only [hr1] <;> rw [if_neg c1, if_neg c2]) rfl

set_option maxHeartbeats 4000000 in
set_option maxRecDepth 100000 in
theorem c_PQ_out (l : Launch) (G : GG) (h : Nat) (table_h : Nat) (tape_h : Nat) (purses_h : Nat) (text_h : Nat) (written_h : Nat) (written_a_signs : Nat) (product_h : Nat) (a_toldNumbers : Nat) (script_h : Nat) (spare_h : Nat) (v_p : Int32) (v_q : Int32) (written_f_signs : Nat → Int32) (written__size : Int32) (v_toldSize : Int32) (v_hasScript : Int32) (x : Int32) (hok : ok_PQ_out written_f_signs written__size x) : Det l G y_PQ_out w_PQ_out (rmD 1) 0 0 [.ref h, .int x] [(h, .inr (0, [.int v_p, .int v_q, .ref table_h, .ref tape_h, .ref purses_h, .ref text_h, .ref written_h, .ref product_h, .ref a_toldNumbers, .int v_toldSize, .ref script_h, .ref spare_h, .int v_hasScript])), (written_h, .inr (5, [.ref written_a_signs, .int written__size])), (written_a_signs, .inl (gC G, 4000, .inl written_f_signs))] (some (.int (s_PQ_out written_f_signs written__size x))) [(h, .inr (0, [.int v_p, .int v_q, .ref table_h, .ref tape_h, .ref purses_h, .ref text_h, .ref written_h, .ref product_h, .ref a_toldNumbers, .int v_toldSize, .ref script_h, .ref spare_h, .int v_hasScript])), (written_h, .inr (5, [.ref written_a_signs, .int written__size])), (written_a_signs, .inl (gC G, 4000, .inl written_f_signs))] := by
  refine Det.of (cc := b_PQ_out) (maxL := 2) (ret := (some .int)) (by decide) rfl (Nat.le_of_ble_eq_true rfl) ?_
  intro p e s m args below meth c A ls hx hb hr hml hown hts hlocks hin hA hK hZ hP hD hS hl
  have hts : ∀ w ∈ wG, w.before args s = true := fun w h => hts w (List.mem_cons_of_mem _ h)
  have hown : s.vm.findClass R_PQ = some m.cls := hown
  have hl : lv_has ls 2 [(0, .ref h), (1, .int x)] := hl
  rw [ok_PQ_out] at hok
  refine lv_aload_n hx hb d_PQ_out_0 rfl (lv_at hl 0 rfl) ?_
  refine va_get (D := G.1) (ci := 0) (C := R_PQ) (T := F_PQ) (N := 13) (v := .ref written_h) hx hb hts i_PQ hown hK hP 0 rfl rfl 6 (by decide) (hts (.fieldLink R_PQ 53 "PrivateQueries" "written" "LPrivateQueries$Out;") k_527) (fun _ h9 => h9) rfl d_PQ_out_1 ?_
  refine lv_iload_n hx hb d_PQ_out_4 rfl (lv_at hl 1 rfl) ?_
  obtain ⟨hv1, hok⟩ := hok
  obtain ⟨r1, hr1⟩ : ∃ r, (s_Out_signAt written_f_signs written__size x) = r := ⟨_, rfl⟩
  try simp only [hr1] at hok
  have hC_r1 := (c_Out_signAt l G written_h written_a_signs written_f_signs written__size x hv1)
  rw [hr1] at hC_r1
  refine ly_callV (rest := []) (wf := [(h, .inr (0, [.int v_p, .int v_q, .ref table_h, .ref tape_h, .ref purses_h, .ref text_h, .ref written_h, .ref product_h, .ref a_toldNumbers, .int v_toldSize, .ref script_h, .ref spare_h, .int v_hasScript])), (written_h, .inr (5, [.ref written_a_signs, .int written__size])), (written_a_signs, .inl (gC G, 4000, .inl written_f_signs))]) ⟨hx, hb, hml, hown, hts⟩ hA hK hZ hP hD hS hC_r1 (cwV 1 hts g_PQ_195 rfl rfl rfl (by decide +kernel) ⟨Nat.le_of_ble_eq_true rfl, Nat.le_of_ble_eq_true rfl⟩) (ci := 5) (q0 := 1) rfl rfl rfl [1, 2] rfl (by decide) rfl rfl rfl hl.1 rfl (Nat.le_of_ble_eq_true rfl) d_PQ_out_5 ⟨Nat.le_of_ble_eq_true rfl, Nat.le_of_ble_eq_true rfl⟩ (st1 := [.int r1]) (c1 := 0) (s1 := 0) rfl rfl rfl (fun H locs hP hD hS => ?_)
  exact ly_iret hx hb hr hlocks hP hD hS d_PQ_out_8 (by rw [s_PQ_out] <;> simp only [hr1]) rfl

theorem z_PQ_within {x : Int32} {z : Int32} {v : Int32} : isB (s_PQ_within x z v) := by
  obtain ⟨r1, hr1⟩ : ∃ r, (s_PQ_isUpTo v 30) = r := ⟨_, rfl⟩
  have zb_r1 : isB r1 := by rw [← hr1]; exact z_PQ_isUpTo
  obtain ⟨r2, hr2⟩ : ∃ r, (s_PQ_isUpTo x v) = r := ⟨_, rfl⟩
  have zb_r2 : isB r2 := by rw [← hr2]; exact z_PQ_isUpTo
  obtain ⟨r3, hr3⟩ : ∃ r, (s_PQ_isUpTo z v) = r := ⟨_, rfl⟩
  have zb_r3 : isB r3 := by rw [← hr3]; exact z_PQ_isUpTo
  rw [s_PQ_within]
  simp only [hr1, hr2, hr3]
  by_cases ct1 : r1 = 0
  · rw [if_pos ct1]
    first | exact isB_0 | exact isB_1 | assumption
  rw [if_neg ct1]
  by_cases ct2 : r2 = 0
  · rw [if_pos ct2]
    first | exact isB_0 | exact isB_1 | assumption
  rw [if_neg ct2]
  by_cases ct3 : r3 = 0
  · rw [if_pos ct3]
    first | exact isB_0 | exact isB_1 | assumption
  rw [if_neg ct3]
  first | exact isB_0 | exact isB_1 | assumption
set_option maxHeartbeats 4000000 in
set_option maxRecDepth 100000 in
theorem c_PQ_within (l : Launch) (G : GG) (h : Nat) (x : Int32) (z : Int32) (v : Int32) : Det l G y_PQ_within w_PQ_within (rmD 1) 0 0 [.ref h, .int x, .int z, .int v] [] (some (.int (s_PQ_within x z v))) [] := by
  refine Det.of (cc := b_PQ_within) (maxL := 4) (ret := (some .boolean)) (by decide) rfl (Nat.le_of_ble_eq_true rfl) ?_
  intro p e s m args below meth c A ls hx hb hr hml hown hts hlocks hin hA hK hZ hP hD hS hl
  have hts : ∀ w ∈ wG, w.before args s = true := fun w h => hts w (List.mem_cons_of_mem _ h)
  have hown : s.vm.findClass R_PQ = some m.cls := hown
  have hl : lv_has ls 4 [(0, .ref h), (1, .int x), (2, .int z), (3, .int v)] := hl
  refine lv_iload_n hx hb d_PQ_within_0 rfl (lv_at hl 3 rfl) ?_
  refine lv_bipush (v := 30) hx hb d_PQ_within_1 (by decide) ?_
  obtain ⟨r1, hr1⟩ : ∃ r, (s_PQ_isUpTo v 30) = r := ⟨_, rfl⟩
  have hC_r1 := (c_PQ_isUpTo l G v 30)
  rw [hr1] at hC_r1
  have hf_r1_1 : isB r1 := by rw [← hr1]; exact z_PQ_isUpTo
  refine ly_callS (rest := []) (wf := []) ⟨hx, hb, hml, hown, hts⟩ hA hK hZ hP hD hS hC_r1 (cwS 2 hts g_PQ_176 rfl rfl rfl (by decide +kernel) ⟨Nat.le_of_ble_eq_true rfl, Nat.le_of_ble_eq_true rfl⟩) [] rfl (by decide) rfl rfl rfl hl.1 rfl (Nat.le_of_ble_eq_true rfl) d_PQ_within_3 ⟨Nat.le_of_ble_eq_true rfl, Nat.le_of_ble_eq_true rfl⟩ (st1 := [.int r1]) (c1 := 0) (s1 := 0) rfl rfl rfl (fun H locs hP hD hS => ?_)
  refine lv_if_eq (tgt := 29) hx hb d_PQ_within_6 (by decide) (fun c1 => ?_) (fun c1 => ?_)
  · skip
    refine lv_iconst (v := 0) hx hb d_PQ_within_29 (by decide) ?_
    exact ly_zret hx hb hr hlocks hP hD hS d_PQ_within_30 (by decide) (by rw [s_PQ_within] <;> simp only [hr1] <;> rw [if_pos c1]) rfl
  refine lv_iload_n hx hb d_PQ_within_9 rfl (lv_at hl 1 rfl) ?_
  refine lv_iload_n hx hb d_PQ_within_10 rfl (lv_at hl 3 rfl) ?_
  obtain ⟨r2, hr2⟩ : ∃ r, (s_PQ_isUpTo x v) = r := ⟨_, rfl⟩
  have hC_r2 := (c_PQ_isUpTo l G x v)
  rw [hr2] at hC_r2
  have hf_r2_1 : isB r2 := by rw [← hr2]; exact z_PQ_isUpTo
  refine ly_callS (rest := []) (wf := []) ⟨hx, hb, hml, hown, hts⟩ hA hK hZ hP hD hS hC_r2 (cwS 2 hts g_PQ_176 rfl rfl rfl (by decide +kernel) ⟨Nat.le_of_ble_eq_true rfl, Nat.le_of_ble_eq_true rfl⟩) [] rfl (by decide) rfl rfl rfl hl.1 rfl (Nat.le_of_ble_eq_true rfl) d_PQ_within_11 ⟨Nat.le_of_ble_eq_true rfl, Nat.le_of_ble_eq_true rfl⟩ (st1 := [.int r2]) (c1 := 0) (s1 := 0) rfl rfl rfl (fun H locs hP hD hS => ?_)
  refine lv_if_eq (tgt := 29) hx hb d_PQ_within_14 (by decide) (fun c2 => ?_) (fun c2 => ?_)
  · skip
    refine lv_iconst (v := 0) hx hb d_PQ_within_29 (by decide) ?_
    exact ly_zret hx hb hr hlocks hP hD hS d_PQ_within_30 (by decide) (by rw [s_PQ_within] <;> simp only [hr1, hr2] <;> rw [if_neg c1, if_pos c2]) rfl
  refine lv_iload_n hx hb d_PQ_within_17 rfl (lv_at hl 2 rfl) ?_
  refine lv_iload_n hx hb d_PQ_within_18 rfl (lv_at hl 3 rfl) ?_
  obtain ⟨r3, hr3⟩ : ∃ r, (s_PQ_isUpTo z v) = r := ⟨_, rfl⟩
  have hC_r3 := (c_PQ_isUpTo l G z v)
  rw [hr3] at hC_r3
  have hf_r3_1 : isB r3 := by rw [← hr3]; exact z_PQ_isUpTo
  refine ly_callS (rest := []) (wf := []) ⟨hx, hb, hml, hown, hts⟩ hA hK hZ hP hD hS hC_r3 (cwS 2 hts g_PQ_176 rfl rfl rfl (by decide +kernel) ⟨Nat.le_of_ble_eq_true rfl, Nat.le_of_ble_eq_true rfl⟩) [] rfl (by decide) rfl rfl rfl hl.1 rfl (Nat.le_of_ble_eq_true rfl) d_PQ_within_19 ⟨Nat.le_of_ble_eq_true rfl, Nat.le_of_ble_eq_true rfl⟩ (st1 := [.int r3]) (c1 := 0) (s1 := 0) rfl rfl rfl (fun H locs hP hD hS => ?_)
  refine lv_if_eq (tgt := 29) hx hb d_PQ_within_22 (by decide) (fun c3 => ?_) (fun c3 => ?_)
  · skip
    refine lv_iconst (v := 0) hx hb d_PQ_within_29 (by decide) ?_
    exact ly_zret hx hb hr hlocks hP hD hS d_PQ_within_30 (by decide) (by rw [s_PQ_within] <;> simp only [hr1, hr2, hr3] <;> rw [if_neg c1, if_neg c2, if_pos c3]) rfl
  refine lv_iconst (v := 1) hx hb d_PQ_within_25 (by decide) ?_
  refine lv_goto (tgt := 30) hx hb d_PQ_within_26 (by decide) ?_
  exact ly_zret hx hb hr hlocks hP hD hS d_PQ_within_30 (by decide) (by rw [s_PQ_within] <;> simp only [hr1, hr2, hr3] <;> rw [if_neg c1, if_neg c2, if_neg c3]) rfl

set_option maxHeartbeats 4000000 in
set_option maxRecDepth 100000 in
theorem c_PQ_workOutShare (l : Launch) (G : GG) (h : Nat) (table_h : Nat) (tape_h : Nat) (purses_h : Nat) (text_h : Nat) (written_h : Nat) (product_h : Nat) (product_a_digits : Nat) (a_toldNumbers : Nat) (script_h : Nat) (spare_h : Nat) (v_p : Int32) (v_q : Int32) (product_f_digits : Nat → Int32) (product__size : Int32) (v_toldSize : Int32) (v_hasScript : Int32) (x : Int32) (z : Int32) (v : Int32) : Det l G y_PQ_workOutShare w_PQ_workOutShare (rmD 3) 0 0 [.ref h, .int x, .int z, .int v] [(h, .inr (0, [.int v_p, .int v_q, .ref table_h, .ref tape_h, .ref purses_h, .ref text_h, .ref written_h, .ref product_h, .ref a_toldNumbers, .int v_toldSize, .ref script_h, .ref spare_h, .int v_hasScript])), (product_h, .inr (6, [.ref product_a_digits, .int product__size])), (product_a_digits, .inl (gI G, 96, .inl product_f_digits))] none [(h, .inr (0, [.int v_p, .int v_q, .ref table_h, .ref tape_h, .ref purses_h, .ref text_h, .ref written_h, .ref product_h, .ref a_toldNumbers, .int v_toldSize, .ref script_h, .ref spare_h, .int v_hasScript])), (product_h, .inr (6, [.ref product_a_digits, .int (s_PQ_workOutShare v_p v_q product_f_digits x z v).1])), (product_a_digits, .inl (gI G, 96, .inl (s_PQ_workOutShare v_p v_q product_f_digits x z v).2))] := by
  refine Det.of (cc := b_PQ_workOutShare) (maxL := 6) (ret := none) (by decide) rfl (Nat.le_of_ble_eq_true rfl) ?_
  intro p e s m args below meth c A ls hx hb hr hml hown hts hlocks hin hA hK hZ hP hD hS hl
  have hts : ∀ w ∈ wG, w.before args s = true := fun w h => hts w (List.mem_cons_of_mem _ h)
  have hown : s.vm.findClass R_PQ = some m.cls := hown
  have hl : lv_has ls 6 [(0, .ref h), (1, .int x), (2, .int z), (3, .int v)] := hl
  refine lv_iload_n hx hb d_PQ_workOutShare_0 rfl (lv_at hl 1 rfl) ?_
  refine lv_iload_n hx hb d_PQ_workOutShare_1 rfl (lv_at hl 2 rfl) ?_
  refine lv_isub hx hb d_PQ_workOutShare_2 ?_
  refine va_mabs hx hb (hml.trans hl.1.symm) hown (hts (.methodLink R_PQ 212 Lib.Math.abs.name) k_532) (hts (.static Lib.Math.abs.name) k_533) (hts (.initialized "java/lang/Math") k_52) (hts (.code Lib.Math.abs.name Lib.Math.abs.code 1 (some .int)) k_534) (Nat.le_of_ble_eq_true rfl) (Nat.le_of_ble_eq_true rfl) (Nat.zero_le _) (Nat.zero_le _) d_PQ_workOutShare_3 ?_
  refine lv_istore (lv' := [(4, .int (if 0 ≤ (x - z) then x - z else 0 - (x - z))), (0, .ref h), (1, .int x), (2, .int z), (3, .int v)]) hx hb d_PQ_workOutShare_6 hl (by decide) rfl (fun ls hl => ?_)
  refine lv_aload_n hx hb d_PQ_workOutShare_8 rfl (lv_at hl 1 rfl) ?_
  refine va_get (D := G.1) (ci := 0) (C := R_PQ) (T := F_PQ) (N := 13) (v := .ref product_h) hx hb hts i_PQ hown hK hP 0 rfl rfl 7 (by decide) (hts (.fieldLink R_PQ 60 "PrivateQueries" "product" "LPrivateQueries$Product;") k_535) (fun _ h9 => h9) rfl d_PQ_workOutShare_9 ?_
  refine ly_callV (rest := []) (wf := [(h, .inr (0, [.int v_p, .int v_q, .ref table_h, .ref tape_h, .ref purses_h, .ref text_h, .ref written_h, .ref product_h, .ref a_toldNumbers, .int v_toldSize, .ref script_h, .ref spare_h, .int v_hasScript])), (product_h, .inr (6, [.ref product_a_digits, .int 1])), (product_a_digits, .inl (gI G, 96, .inl (upd product_f_digits (0 : Int32).toNatClampNeg 1)))]) ⟨hx, hb, hml, hown, hts⟩ hA hK hZ hP hD hS (c_Prod_startAtOne l G product_h product_a_digits product_f_digits product__size) (cwV 0 hts g_PQ_215 rfl rfl rfl (by decide +kernel) ⟨Nat.le_of_ble_eq_true rfl, Nat.le_of_ble_eq_true rfl⟩) (ci := 6) (q0 := 1) rfl rfl rfl [1, 2] rfl (by decide) rfl rfl rfl hl.1 rfl (Nat.le_of_ble_eq_true rfl) d_PQ_workOutShare_12 ⟨Nat.le_of_ble_eq_true rfl, Nat.le_of_ble_eq_true rfl⟩ (st1 := []) (c1 := 0) (s1 := 0) rfl rfl rfl (fun H locs hP hD hS => ?_)
  refine lv_iload_n hx hb d_PQ_workOutShare_15 rfl (lv_at hl 4 rfl) ?_
  refine lv_if_ne (tgt := 37) hx hb d_PQ_workOutShare_16 (by decide) (fun c1 => ?_) (fun c1 => ?_)
  · skip
    refine lv_iload_n hx hb d_PQ_workOutShare_37 rfl (lv_at hl 3 rfl) ?_
    refine lv_if_eq (tgt := 46) hx hb d_PQ_workOutShare_38 (by decide) (fun c2 => ?_) (fun c2 => ?_)
    · skip
      refine lv_iconst (v := 1) hx hb d_PQ_workOutShare_46 (by decide) ?_
      refine lv_goto (tgt := 51) hx hb d_PQ_workOutShare_47 (by decide) ?_
      refine lv_istore (lv' := [(5, .int 1), (4, .int (if 0 ≤ (x - z) then x - z else 0 - (x - z))), (0, .ref h), (1, .int x), (2, .int z), (3, .int v)]) hx hb d_PQ_workOutShare_51 hl (by decide) rfl (fun ls hl => ?_)
      refine lv_aload_n hx hb d_PQ_workOutShare_53 rfl (lv_at hl 2 rfl) ?_
      refine va_get (D := G.1) (ci := 0) (C := R_PQ) (T := F_PQ) (N := 13) (v := .ref product_h) hx hb hts i_PQ hown hK hP 0 rfl rfl 7 (by decide) (hts (.fieldLink R_PQ 60 "PrivateQueries" "product" "LPrivateQueries$Product;") k_535) (fun _ h9 => h9) rfl d_PQ_workOutShare_54 ?_
      refine lv_iload hx hb d_PQ_workOutShare_57 (lv_at hl 0 rfl) ?_
      refine lv_if_eq (tgt := 69) hx hb d_PQ_workOutShare_59 (by decide) (fun c3 => ?_) (fun c3 => ?_)
      · exact absurd c3 (by decide)
      refine lv_aload_n hx hb d_PQ_workOutShare_62 rfl (lv_at hl 2 rfl) ?_
      refine va_get (D := G.1) (ci := 0) (C := R_PQ) (T := F_PQ) (N := 13) (v := .int v_q) hx hb hts i_PQ hown hK hP 0 rfl rfl 1 (by decide) (hts (.fieldLink R_PQ 17 "PrivateQueries" "q" "I") k_540) (fun _ h9 => h9) rfl d_PQ_workOutShare_63 ?_
      refine lv_goto (tgt := 78) hx hb d_PQ_workOutShare_66 (by decide) ?_
      refine lv_iconst (v := 1) hx hb d_PQ_workOutShare_78 (by decide) ?_
      obtain ⟨r1, hr1⟩ : ∃ r, (lp_Prod_times v_q 1 ((((1 : Int32).toInt - (0 : Int32).toInt).toNat) + 1) (0 : Int32) (upd product_f_digits (0 : Int32).toNatClampNeg 1) 1) = r := ⟨_, rfl⟩
      have hC_r1 := (c_Prod_times l G product_h product_a_digits (upd product_f_digits (0 : Int32).toNatClampNeg 1) 1 v_q 1)
      rw [hr1] at hC_r1
      refine ly_callV (rest := []) (wf := [(h, .inr (0, [.int v_p, .int v_q, .ref table_h, .ref tape_h, .ref purses_h, .ref text_h, .ref written_h, .ref product_h, .ref a_toldNumbers, .int v_toldSize, .ref script_h, .ref spare_h, .int v_hasScript])), (product_h, .inr (6, [.ref product_a_digits, .int r1.1])), (product_a_digits, .inl (gI G, 96, .inl r1.2))]) ⟨hx, hb, hml, hown, hts⟩ hA hK hZ hP hD hS hC_r1 (cwV 2 hts g_PQ_218 rfl rfl rfl (by decide +kernel) ⟨Nat.le_of_ble_eq_true rfl, Nat.le_of_ble_eq_true rfl⟩) (ci := 6) (q0 := 1) rfl rfl rfl [1, 2] rfl (by decide) rfl rfl rfl hl.1 rfl (Nat.le_of_ble_eq_true rfl) d_PQ_workOutShare_79 ⟨Nat.le_of_ble_eq_true rfl, Nat.le_of_ble_eq_true rfl⟩ (st1 := []) (c1 := 0) (s1 := 0) rfl rfl rfl (fun H locs hP hD hS => ?_)
      refine lv_aload_n hx hb d_PQ_workOutShare_82 rfl (lv_at hl 2 rfl) ?_
      refine va_get (D := G.1) (ci := 0) (C := R_PQ) (T := F_PQ) (N := 13) (v := .ref product_h) hx hb hts i_PQ hown hK hP 0 rfl rfl 7 (by decide) (hts (.fieldLink R_PQ 60 "PrivateQueries" "product" "LPrivateQueries$Product;") k_535) (fun _ h9 => h9) rfl d_PQ_workOutShare_83 ?_
      refine lv_aload_n hx hb d_PQ_workOutShare_86 rfl (lv_at hl 2 rfl) ?_
      refine va_get (D := G.1) (ci := 0) (C := R_PQ) (T := F_PQ) (N := 13) (v := .int v_p) hx hb hts i_PQ hown hK hP 0 rfl rfl 0 (by decide) (hts (.fieldLink R_PQ 13 "PrivateQueries" "p" "I") k_545) (fun _ h9 => h9) rfl d_PQ_workOutShare_87 ?_
      refine lv_iload hx hb d_PQ_workOutShare_90 (lv_at hl 1 rfl) ?_
      obtain ⟨r2, hr2⟩ : ∃ r, (lp_Prod_times v_p (if 0 ≤ (x - z) then x - z else 0 - (x - z)) ((((if 0 ≤ (x - z) then x - z else 0 - (x - z)).toInt - (0 : Int32).toInt).toNat) + 1) (0 : Int32) r1.2 r1.1) = r := ⟨_, rfl⟩
      have hC_r2 := (c_Prod_times l G product_h product_a_digits r1.2 r1.1 v_p (if 0 ≤ (x - z) then x - z else 0 - (x - z)))
      rw [hr2] at hC_r2
      refine ly_callV (rest := []) (wf := [(h, .inr (0, [.int v_p, .int v_q, .ref table_h, .ref tape_h, .ref purses_h, .ref text_h, .ref written_h, .ref product_h, .ref a_toldNumbers, .int v_toldSize, .ref script_h, .ref spare_h, .int v_hasScript])), (product_h, .inr (6, [.ref product_a_digits, .int r2.1])), (product_a_digits, .inl (gI G, 96, .inl r2.2))]) ⟨hx, hb, hml, hown, hts⟩ hA hK hZ hP hD hS hC_r2 (cwV 2 hts g_PQ_218 rfl rfl rfl (by decide +kernel) ⟨Nat.le_of_ble_eq_true rfl, Nat.le_of_ble_eq_true rfl⟩) (ci := 6) (q0 := 1) rfl rfl rfl [1, 2] rfl (by decide) rfl rfl rfl hl.1 rfl (Nat.le_of_ble_eq_true rfl) d_PQ_workOutShare_92 ⟨Nat.le_of_ble_eq_true rfl, Nat.le_of_ble_eq_true rfl⟩ (st1 := []) (c1 := 0) (s1 := 0) rfl rfl rfl (fun H locs hP hD hS => ?_)
      refine lv_aload_n hx hb d_PQ_workOutShare_95 rfl (lv_at hl 2 rfl) ?_
      refine va_get (D := G.1) (ci := 0) (C := R_PQ) (T := F_PQ) (N := 13) (v := .ref product_h) hx hb hts i_PQ hown hK hP 0 rfl rfl 7 (by decide) (hts (.fieldLink R_PQ 60 "PrivateQueries" "product" "LPrivateQueries$Product;") k_535) (fun _ h9 => h9) rfl d_PQ_workOutShare_96 ?_
      refine lv_aload_n hx hb d_PQ_workOutShare_99 rfl (lv_at hl 2 rfl) ?_
      refine va_get (D := G.1) (ci := 0) (C := R_PQ) (T := F_PQ) (N := 13) (v := .int v_q) hx hb hts i_PQ hown hK hP 0 rfl rfl 1 (by decide) (hts (.fieldLink R_PQ 17 "PrivateQueries" "q" "I") k_540) (fun _ h9 => h9) rfl d_PQ_workOutShare_100 ?_
      refine lv_iload_n hx hb d_PQ_workOutShare_103 rfl (lv_at hl 5 rfl) ?_
      refine lv_iload hx hb d_PQ_workOutShare_104 (lv_at hl 1 rfl) ?_
      refine lv_isub hx hb d_PQ_workOutShare_106 ?_
      obtain ⟨r3, hr3⟩ : ∃ r, (lp_Prod_times v_q (v - (if 0 ≤ (x - z) then x - z else 0 - (x - z))) ((((v - (if 0 ≤ (x - z) then x - z else 0 - (x - z))).toInt - (0 : Int32).toInt).toNat) + 1) (0 : Int32) r2.2 r2.1) = r := ⟨_, rfl⟩
      have hC_r3 := (c_Prod_times l G product_h product_a_digits r2.2 r2.1 v_q (v - (if 0 ≤ (x - z) then x - z else 0 - (x - z))))
      rw [hr3] at hC_r3
      refine ly_callV (rest := []) (wf := [(h, .inr (0, [.int v_p, .int v_q, .ref table_h, .ref tape_h, .ref purses_h, .ref text_h, .ref written_h, .ref product_h, .ref a_toldNumbers, .int v_toldSize, .ref script_h, .ref spare_h, .int v_hasScript])), (product_h, .inr (6, [.ref product_a_digits, .int r3.1])), (product_a_digits, .inl (gI G, 96, .inl r3.2))]) ⟨hx, hb, hml, hown, hts⟩ hA hK hZ hP hD hS hC_r3 (cwV 2 hts g_PQ_218 rfl rfl rfl (by decide +kernel) ⟨Nat.le_of_ble_eq_true rfl, Nat.le_of_ble_eq_true rfl⟩) (ci := 6) (q0 := 1) rfl rfl rfl [1, 2] rfl (by decide) rfl rfl rfl hl.1 rfl (Nat.le_of_ble_eq_true rfl) d_PQ_workOutShare_107 ⟨Nat.le_of_ble_eq_true rfl, Nat.le_of_ble_eq_true rfl⟩ (st1 := []) (c1 := 0) (s1 := 0) rfl rfl rfl (fun H locs hP hD hS => ?_)
      exact ly_vret hx hb hr hlocks hP hD hS d_PQ_workOutShare_110 rfl (by rw [s_PQ_workOutShare] <;> simp only [hr1, hr2, hr3] <;> rw [if_neg c1, if_pos c2])
    refine lv_iload_n hx hb d_PQ_workOutShare_41 rfl (lv_at hl 3 rfl) ?_
    refine lv_iload_n hx hb d_PQ_workOutShare_42 rfl (lv_at hl 4 rfl) ?_
    refine lv_icmp_ne (tgt := 50) hx hb d_PQ_workOutShare_43 (by decide) (fun c4 => ?_) (fun c4 => ?_)
    · skip
      refine lv_iconst (v := 0) hx hb d_PQ_workOutShare_50 (by decide) ?_
      refine lv_istore (lv' := [(5, .int 0), (4, .int (if 0 ≤ (x - z) then x - z else 0 - (x - z))), (0, .ref h), (1, .int x), (2, .int z), (3, .int v)]) hx hb d_PQ_workOutShare_51 hl (by decide) rfl (fun ls hl => ?_)
      refine lv_aload_n hx hb d_PQ_workOutShare_53 rfl (lv_at hl 2 rfl) ?_
      refine va_get (D := G.1) (ci := 0) (C := R_PQ) (T := F_PQ) (N := 13) (v := .ref product_h) hx hb hts i_PQ hown hK hP 0 rfl rfl 7 (by decide) (hts (.fieldLink R_PQ 60 "PrivateQueries" "product" "LPrivateQueries$Product;") k_535) (fun _ h9 => h9) rfl d_PQ_workOutShare_54 ?_
      refine lv_iload hx hb d_PQ_workOutShare_57 (lv_at hl 0 rfl) ?_
      refine lv_if_eq (tgt := 69) hx hb d_PQ_workOutShare_59 (by decide) (fun c5 => ?_) (fun c5 => ?_)
      rotate_left 1
      · exact absurd (by decide) c5
      refine lv_aload_n hx hb d_PQ_workOutShare_69 rfl (lv_at hl 2 rfl) ?_
      refine va_get (D := G.1) (ci := 0) (C := R_PQ) (T := F_PQ) (N := 13) (v := .int v_q) hx hb hts i_PQ hown hK hP 0 rfl rfl 1 (by decide) (hts (.fieldLink R_PQ 17 "PrivateQueries" "q" "I") k_540) (fun _ h9 => h9) rfl d_PQ_workOutShare_70 ?_
      refine lv_aload_n hx hb d_PQ_workOutShare_73 rfl (lv_at hl 2 rfl) ?_
      refine va_get (D := G.1) (ci := 0) (C := R_PQ) (T := F_PQ) (N := 13) (v := .int v_p) hx hb hts i_PQ hown hK hP 0 rfl rfl 0 (by decide) (hts (.fieldLink R_PQ 13 "PrivateQueries" "p" "I") k_545) (fun _ h9 => h9) rfl d_PQ_workOutShare_74 ?_
      refine lv_isub hx hb d_PQ_workOutShare_77 ?_
      refine lv_iconst (v := 1) hx hb d_PQ_workOutShare_78 (by decide) ?_
      obtain ⟨r4, hr4⟩ : ∃ r, (lp_Prod_times (v_q - v_p) 1 ((((1 : Int32).toInt - (0 : Int32).toInt).toNat) + 1) (0 : Int32) (upd product_f_digits (0 : Int32).toNatClampNeg 1) 1) = r := ⟨_, rfl⟩
      have hC_r4 := (c_Prod_times l G product_h product_a_digits (upd product_f_digits (0 : Int32).toNatClampNeg 1) 1 (v_q - v_p) 1)
      rw [hr4] at hC_r4
      refine ly_callV (rest := []) (wf := [(h, .inr (0, [.int v_p, .int v_q, .ref table_h, .ref tape_h, .ref purses_h, .ref text_h, .ref written_h, .ref product_h, .ref a_toldNumbers, .int v_toldSize, .ref script_h, .ref spare_h, .int v_hasScript])), (product_h, .inr (6, [.ref product_a_digits, .int r4.1])), (product_a_digits, .inl (gI G, 96, .inl r4.2))]) ⟨hx, hb, hml, hown, hts⟩ hA hK hZ hP hD hS hC_r4 (cwV 2 hts g_PQ_218 rfl rfl rfl (by decide +kernel) ⟨Nat.le_of_ble_eq_true rfl, Nat.le_of_ble_eq_true rfl⟩) (ci := 6) (q0 := 1) rfl rfl rfl [1, 2] rfl (by decide) rfl rfl rfl hl.1 rfl (Nat.le_of_ble_eq_true rfl) d_PQ_workOutShare_79 ⟨Nat.le_of_ble_eq_true rfl, Nat.le_of_ble_eq_true rfl⟩ (st1 := []) (c1 := 0) (s1 := 0) rfl rfl rfl (fun H locs hP hD hS => ?_)
      refine lv_aload_n hx hb d_PQ_workOutShare_82 rfl (lv_at hl 2 rfl) ?_
      refine va_get (D := G.1) (ci := 0) (C := R_PQ) (T := F_PQ) (N := 13) (v := .ref product_h) hx hb hts i_PQ hown hK hP 0 rfl rfl 7 (by decide) (hts (.fieldLink R_PQ 60 "PrivateQueries" "product" "LPrivateQueries$Product;") k_535) (fun _ h9 => h9) rfl d_PQ_workOutShare_83 ?_
      refine lv_aload_n hx hb d_PQ_workOutShare_86 rfl (lv_at hl 2 rfl) ?_
      refine va_get (D := G.1) (ci := 0) (C := R_PQ) (T := F_PQ) (N := 13) (v := .int v_p) hx hb hts i_PQ hown hK hP 0 rfl rfl 0 (by decide) (hts (.fieldLink R_PQ 13 "PrivateQueries" "p" "I") k_545) (fun _ h9 => h9) rfl d_PQ_workOutShare_87 ?_
      refine lv_iload hx hb d_PQ_workOutShare_90 (lv_at hl 1 rfl) ?_
      obtain ⟨r5, hr5⟩ : ∃ r, (lp_Prod_times v_p (if 0 ≤ (x - z) then x - z else 0 - (x - z)) ((((if 0 ≤ (x - z) then x - z else 0 - (x - z)).toInt - (0 : Int32).toInt).toNat) + 1) (0 : Int32) r4.2 r4.1) = r := ⟨_, rfl⟩
      have hC_r5 := (c_Prod_times l G product_h product_a_digits r4.2 r4.1 v_p (if 0 ≤ (x - z) then x - z else 0 - (x - z)))
      rw [hr5] at hC_r5
      refine ly_callV (rest := []) (wf := [(h, .inr (0, [.int v_p, .int v_q, .ref table_h, .ref tape_h, .ref purses_h, .ref text_h, .ref written_h, .ref product_h, .ref a_toldNumbers, .int v_toldSize, .ref script_h, .ref spare_h, .int v_hasScript])), (product_h, .inr (6, [.ref product_a_digits, .int r5.1])), (product_a_digits, .inl (gI G, 96, .inl r5.2))]) ⟨hx, hb, hml, hown, hts⟩ hA hK hZ hP hD hS hC_r5 (cwV 2 hts g_PQ_218 rfl rfl rfl (by decide +kernel) ⟨Nat.le_of_ble_eq_true rfl, Nat.le_of_ble_eq_true rfl⟩) (ci := 6) (q0 := 1) rfl rfl rfl [1, 2] rfl (by decide) rfl rfl rfl hl.1 rfl (Nat.le_of_ble_eq_true rfl) d_PQ_workOutShare_92 ⟨Nat.le_of_ble_eq_true rfl, Nat.le_of_ble_eq_true rfl⟩ (st1 := []) (c1 := 0) (s1 := 0) rfl rfl rfl (fun H locs hP hD hS => ?_)
      refine lv_aload_n hx hb d_PQ_workOutShare_95 rfl (lv_at hl 2 rfl) ?_
      refine va_get (D := G.1) (ci := 0) (C := R_PQ) (T := F_PQ) (N := 13) (v := .ref product_h) hx hb hts i_PQ hown hK hP 0 rfl rfl 7 (by decide) (hts (.fieldLink R_PQ 60 "PrivateQueries" "product" "LPrivateQueries$Product;") k_535) (fun _ h9 => h9) rfl d_PQ_workOutShare_96 ?_
      refine lv_aload_n hx hb d_PQ_workOutShare_99 rfl (lv_at hl 2 rfl) ?_
      refine va_get (D := G.1) (ci := 0) (C := R_PQ) (T := F_PQ) (N := 13) (v := .int v_q) hx hb hts i_PQ hown hK hP 0 rfl rfl 1 (by decide) (hts (.fieldLink R_PQ 17 "PrivateQueries" "q" "I") k_540) (fun _ h9 => h9) rfl d_PQ_workOutShare_100 ?_
      refine lv_iload_n hx hb d_PQ_workOutShare_103 rfl (lv_at hl 5 rfl) ?_
      refine lv_iload hx hb d_PQ_workOutShare_104 (lv_at hl 1 rfl) ?_
      refine lv_isub hx hb d_PQ_workOutShare_106 ?_
      obtain ⟨r6, hr6⟩ : ∃ r, (lp_Prod_times v_q (v - (if 0 ≤ (x - z) then x - z else 0 - (x - z))) ((((v - (if 0 ≤ (x - z) then x - z else 0 - (x - z))).toInt - (0 : Int32).toInt).toNat) + 1) (0 : Int32) r5.2 r5.1) = r := ⟨_, rfl⟩
      have hC_r6 := (c_Prod_times l G product_h product_a_digits r5.2 r5.1 v_q (v - (if 0 ≤ (x - z) then x - z else 0 - (x - z))))
      rw [hr6] at hC_r6
      refine ly_callV (rest := []) (wf := [(h, .inr (0, [.int v_p, .int v_q, .ref table_h, .ref tape_h, .ref purses_h, .ref text_h, .ref written_h, .ref product_h, .ref a_toldNumbers, .int v_toldSize, .ref script_h, .ref spare_h, .int v_hasScript])), (product_h, .inr (6, [.ref product_a_digits, .int r6.1])), (product_a_digits, .inl (gI G, 96, .inl r6.2))]) ⟨hx, hb, hml, hown, hts⟩ hA hK hZ hP hD hS hC_r6 (cwV 2 hts g_PQ_218 rfl rfl rfl (by decide +kernel) ⟨Nat.le_of_ble_eq_true rfl, Nat.le_of_ble_eq_true rfl⟩) (ci := 6) (q0 := 1) rfl rfl rfl [1, 2] rfl (by decide) rfl rfl rfl hl.1 rfl (Nat.le_of_ble_eq_true rfl) d_PQ_workOutShare_107 ⟨Nat.le_of_ble_eq_true rfl, Nat.le_of_ble_eq_true rfl⟩ (st1 := []) (c1 := 0) (s1 := 0) rfl rfl rfl (fun H locs hP hD hS => ?_)
      exact ly_vret hx hb hr hlocks hP hD hS d_PQ_workOutShare_110 rfl (by rw [s_PQ_workOutShare] <;> simp only [hr4, hr5, hr6] <;> rw [if_neg c1, if_neg c2, if_neg c4])
    refine lv_iconst (v := 1) hx hb d_PQ_workOutShare_46 (by decide) ?_
    refine lv_goto (tgt := 51) hx hb d_PQ_workOutShare_47 (by decide) ?_
    refine lv_istore (lv' := [(5, .int 1), (4, .int (if 0 ≤ (x - z) then x - z else 0 - (x - z))), (0, .ref h), (1, .int x), (2, .int z), (3, .int v)]) hx hb d_PQ_workOutShare_51 hl (by decide) rfl (fun ls hl => ?_)
    refine lv_aload_n hx hb d_PQ_workOutShare_53 rfl (lv_at hl 2 rfl) ?_
    refine va_get (D := G.1) (ci := 0) (C := R_PQ) (T := F_PQ) (N := 13) (v := .ref product_h) hx hb hts i_PQ hown hK hP 0 rfl rfl 7 (by decide) (hts (.fieldLink R_PQ 60 "PrivateQueries" "product" "LPrivateQueries$Product;") k_535) (fun _ h9 => h9) rfl d_PQ_workOutShare_54 ?_
    refine lv_iload hx hb d_PQ_workOutShare_57 (lv_at hl 0 rfl) ?_
    refine lv_if_eq (tgt := 69) hx hb d_PQ_workOutShare_59 (by decide) (fun c6 => ?_) (fun c6 => ?_)
    · exact absurd c6 (by decide)
    refine lv_aload_n hx hb d_PQ_workOutShare_62 rfl (lv_at hl 2 rfl) ?_
    refine va_get (D := G.1) (ci := 0) (C := R_PQ) (T := F_PQ) (N := 13) (v := .int v_q) hx hb hts i_PQ hown hK hP 0 rfl rfl 1 (by decide) (hts (.fieldLink R_PQ 17 "PrivateQueries" "q" "I") k_540) (fun _ h9 => h9) rfl d_PQ_workOutShare_63 ?_
    refine lv_goto (tgt := 78) hx hb d_PQ_workOutShare_66 (by decide) ?_
    refine lv_iconst (v := 1) hx hb d_PQ_workOutShare_78 (by decide) ?_
    obtain ⟨r7, hr7⟩ : ∃ r, (lp_Prod_times v_q 1 ((((1 : Int32).toInt - (0 : Int32).toInt).toNat) + 1) (0 : Int32) (upd product_f_digits (0 : Int32).toNatClampNeg 1) 1) = r := ⟨_, rfl⟩
    have hC_r7 := (c_Prod_times l G product_h product_a_digits (upd product_f_digits (0 : Int32).toNatClampNeg 1) 1 v_q 1)
    rw [hr7] at hC_r7
    refine ly_callV (rest := []) (wf := [(h, .inr (0, [.int v_p, .int v_q, .ref table_h, .ref tape_h, .ref purses_h, .ref text_h, .ref written_h, .ref product_h, .ref a_toldNumbers, .int v_toldSize, .ref script_h, .ref spare_h, .int v_hasScript])), (product_h, .inr (6, [.ref product_a_digits, .int r7.1])), (product_a_digits, .inl (gI G, 96, .inl r7.2))]) ⟨hx, hb, hml, hown, hts⟩ hA hK hZ hP hD hS hC_r7 (cwV 2 hts g_PQ_218 rfl rfl rfl (by decide +kernel) ⟨Nat.le_of_ble_eq_true rfl, Nat.le_of_ble_eq_true rfl⟩) (ci := 6) (q0 := 1) rfl rfl rfl [1, 2] rfl (by decide) rfl rfl rfl hl.1 rfl (Nat.le_of_ble_eq_true rfl) d_PQ_workOutShare_79 ⟨Nat.le_of_ble_eq_true rfl, Nat.le_of_ble_eq_true rfl⟩ (st1 := []) (c1 := 0) (s1 := 0) rfl rfl rfl (fun H locs hP hD hS => ?_)
    refine lv_aload_n hx hb d_PQ_workOutShare_82 rfl (lv_at hl 2 rfl) ?_
    refine va_get (D := G.1) (ci := 0) (C := R_PQ) (T := F_PQ) (N := 13) (v := .ref product_h) hx hb hts i_PQ hown hK hP 0 rfl rfl 7 (by decide) (hts (.fieldLink R_PQ 60 "PrivateQueries" "product" "LPrivateQueries$Product;") k_535) (fun _ h9 => h9) rfl d_PQ_workOutShare_83 ?_
    refine lv_aload_n hx hb d_PQ_workOutShare_86 rfl (lv_at hl 2 rfl) ?_
    refine va_get (D := G.1) (ci := 0) (C := R_PQ) (T := F_PQ) (N := 13) (v := .int v_p) hx hb hts i_PQ hown hK hP 0 rfl rfl 0 (by decide) (hts (.fieldLink R_PQ 13 "PrivateQueries" "p" "I") k_545) (fun _ h9 => h9) rfl d_PQ_workOutShare_87 ?_
    refine lv_iload hx hb d_PQ_workOutShare_90 (lv_at hl 1 rfl) ?_
    obtain ⟨r8, hr8⟩ : ∃ r, (lp_Prod_times v_p (if 0 ≤ (x - z) then x - z else 0 - (x - z)) ((((if 0 ≤ (x - z) then x - z else 0 - (x - z)).toInt - (0 : Int32).toInt).toNat) + 1) (0 : Int32) r7.2 r7.1) = r := ⟨_, rfl⟩
    have hC_r8 := (c_Prod_times l G product_h product_a_digits r7.2 r7.1 v_p (if 0 ≤ (x - z) then x - z else 0 - (x - z)))
    rw [hr8] at hC_r8
    refine ly_callV (rest := []) (wf := [(h, .inr (0, [.int v_p, .int v_q, .ref table_h, .ref tape_h, .ref purses_h, .ref text_h, .ref written_h, .ref product_h, .ref a_toldNumbers, .int v_toldSize, .ref script_h, .ref spare_h, .int v_hasScript])), (product_h, .inr (6, [.ref product_a_digits, .int r8.1])), (product_a_digits, .inl (gI G, 96, .inl r8.2))]) ⟨hx, hb, hml, hown, hts⟩ hA hK hZ hP hD hS hC_r8 (cwV 2 hts g_PQ_218 rfl rfl rfl (by decide +kernel) ⟨Nat.le_of_ble_eq_true rfl, Nat.le_of_ble_eq_true rfl⟩) (ci := 6) (q0 := 1) rfl rfl rfl [1, 2] rfl (by decide) rfl rfl rfl hl.1 rfl (Nat.le_of_ble_eq_true rfl) d_PQ_workOutShare_92 ⟨Nat.le_of_ble_eq_true rfl, Nat.le_of_ble_eq_true rfl⟩ (st1 := []) (c1 := 0) (s1 := 0) rfl rfl rfl (fun H locs hP hD hS => ?_)
    refine lv_aload_n hx hb d_PQ_workOutShare_95 rfl (lv_at hl 2 rfl) ?_
    refine va_get (D := G.1) (ci := 0) (C := R_PQ) (T := F_PQ) (N := 13) (v := .ref product_h) hx hb hts i_PQ hown hK hP 0 rfl rfl 7 (by decide) (hts (.fieldLink R_PQ 60 "PrivateQueries" "product" "LPrivateQueries$Product;") k_535) (fun _ h9 => h9) rfl d_PQ_workOutShare_96 ?_
    refine lv_aload_n hx hb d_PQ_workOutShare_99 rfl (lv_at hl 2 rfl) ?_
    refine va_get (D := G.1) (ci := 0) (C := R_PQ) (T := F_PQ) (N := 13) (v := .int v_q) hx hb hts i_PQ hown hK hP 0 rfl rfl 1 (by decide) (hts (.fieldLink R_PQ 17 "PrivateQueries" "q" "I") k_540) (fun _ h9 => h9) rfl d_PQ_workOutShare_100 ?_
    refine lv_iload_n hx hb d_PQ_workOutShare_103 rfl (lv_at hl 5 rfl) ?_
    refine lv_iload hx hb d_PQ_workOutShare_104 (lv_at hl 1 rfl) ?_
    refine lv_isub hx hb d_PQ_workOutShare_106 ?_
    obtain ⟨r9, hr9⟩ : ∃ r, (lp_Prod_times v_q (v - (if 0 ≤ (x - z) then x - z else 0 - (x - z))) ((((v - (if 0 ≤ (x - z) then x - z else 0 - (x - z))).toInt - (0 : Int32).toInt).toNat) + 1) (0 : Int32) r8.2 r8.1) = r := ⟨_, rfl⟩
    have hC_r9 := (c_Prod_times l G product_h product_a_digits r8.2 r8.1 v_q (v - (if 0 ≤ (x - z) then x - z else 0 - (x - z))))
    rw [hr9] at hC_r9
    refine ly_callV (rest := []) (wf := [(h, .inr (0, [.int v_p, .int v_q, .ref table_h, .ref tape_h, .ref purses_h, .ref text_h, .ref written_h, .ref product_h, .ref a_toldNumbers, .int v_toldSize, .ref script_h, .ref spare_h, .int v_hasScript])), (product_h, .inr (6, [.ref product_a_digits, .int r9.1])), (product_a_digits, .inl (gI G, 96, .inl r9.2))]) ⟨hx, hb, hml, hown, hts⟩ hA hK hZ hP hD hS hC_r9 (cwV 2 hts g_PQ_218 rfl rfl rfl (by decide +kernel) ⟨Nat.le_of_ble_eq_true rfl, Nat.le_of_ble_eq_true rfl⟩) (ci := 6) (q0 := 1) rfl rfl rfl [1, 2] rfl (by decide) rfl rfl rfl hl.1 rfl (Nat.le_of_ble_eq_true rfl) d_PQ_workOutShare_107 ⟨Nat.le_of_ble_eq_true rfl, Nat.le_of_ble_eq_true rfl⟩ (st1 := []) (c1 := 0) (s1 := 0) rfl rfl rfl (fun H locs hP hD hS => ?_)
    exact ly_vret hx hb hr hlocks hP hD hS d_PQ_workOutShare_110 rfl (by rw [s_PQ_workOutShare] <;> simp only [hr7, hr8, hr9] <;> rw [if_neg c1, if_neg c2, if_pos c4])
  refine lv_aload_n hx hb d_PQ_workOutShare_19 rfl (lv_at hl 1 rfl) ?_
  refine va_get (D := G.1) (ci := 0) (C := R_PQ) (T := F_PQ) (N := 13) (v := .ref product_h) hx hb hts i_PQ hown hK hP 0 rfl rfl 7 (by decide) (hts (.fieldLink R_PQ 60 "PrivateQueries" "product" "LPrivateQueries$Product;") k_535) (fun _ h9 => h9) rfl d_PQ_workOutShare_20 ?_
  refine lv_aload_n hx hb d_PQ_workOutShare_23 rfl (lv_at hl 1 rfl) ?_
  refine va_get (D := G.1) (ci := 0) (C := R_PQ) (T := F_PQ) (N := 13) (v := .int v_p) hx hb hts i_PQ hown hK hP 0 rfl rfl 0 (by decide) (hts (.fieldLink R_PQ 13 "PrivateQueries" "p" "I") k_545) (fun _ h9 => h9) rfl d_PQ_workOutShare_24 ?_
  refine lv_aload_n hx hb d_PQ_workOutShare_27 rfl (lv_at hl 1 rfl) ?_
  refine va_get (D := G.1) (ci := 0) (C := R_PQ) (T := F_PQ) (N := 13) (v := .int v_q) hx hb hts i_PQ hown hK hP 0 rfl rfl 1 (by decide) (hts (.fieldLink R_PQ 17 "PrivateQueries" "q" "I") k_540) (fun _ h9 => h9) rfl d_PQ_workOutShare_28 ?_
  refine lv_iadd hx hb d_PQ_workOutShare_31 ?_
  refine lv_iconst (v := 1) hx hb d_PQ_workOutShare_32 (by decide) ?_
  obtain ⟨r10, hr10⟩ : ∃ r, (lp_Prod_times (v_p + v_q) 1 ((((1 : Int32).toInt - (0 : Int32).toInt).toNat) + 1) (0 : Int32) (upd product_f_digits (0 : Int32).toNatClampNeg 1) 1) = r := ⟨_, rfl⟩
  have hC_r10 := (c_Prod_times l G product_h product_a_digits (upd product_f_digits (0 : Int32).toNatClampNeg 1) 1 (v_p + v_q) 1)
  rw [hr10] at hC_r10
  refine ly_callV (rest := []) (wf := [(h, .inr (0, [.int v_p, .int v_q, .ref table_h, .ref tape_h, .ref purses_h, .ref text_h, .ref written_h, .ref product_h, .ref a_toldNumbers, .int v_toldSize, .ref script_h, .ref spare_h, .int v_hasScript])), (product_h, .inr (6, [.ref product_a_digits, .int r10.1])), (product_a_digits, .inl (gI G, 96, .inl r10.2))]) ⟨hx, hb, hml, hown, hts⟩ hA hK hZ hP hD hS hC_r10 (cwV 2 hts g_PQ_218 rfl rfl rfl (by decide +kernel) ⟨Nat.le_of_ble_eq_true rfl, Nat.le_of_ble_eq_true rfl⟩) (ci := 6) (q0 := 1) rfl rfl rfl [1, 2] rfl (by decide) rfl rfl rfl hl.1 rfl (Nat.le_of_ble_eq_true rfl) d_PQ_workOutShare_33 ⟨Nat.le_of_ble_eq_true rfl, Nat.le_of_ble_eq_true rfl⟩ (st1 := []) (c1 := 0) (s1 := 0) rfl rfl rfl (fun H locs hP hD hS => ?_)
  exact ly_vret hx hb hr hlocks hP hD hS d_PQ_workOutShare_36 rfl (by rw [s_PQ_workOutShare] <;> simp only [hr10] <;> rw [if_pos c1])

set_option maxHeartbeats 4000000 in
set_option maxRecDepth 100000 in
theorem c_PQ_share (l : Launch) (G : GG) (h : Nat) (table_h : Nat) (tape_h : Nat) (purses_h : Nat) (text_h : Nat) (written_h : Nat) (written_a_signs : Nat) (product_h : Nat) (product_a_digits : Nat) (a_toldNumbers : Nat) (script_h : Nat) (spare_h : Nat) (v_p : Int32) (v_q : Int32) (written_f_signs : Nat → Int32) (written__size : Int32) (product_f_digits : Nat → Int32) (product__size : Int32) (v_toldSize : Int32) (v_hasScript : Int32) (x : Int32) (z : Int32) (v : Int32) (hok : ok_PQ_share v_p v_q written_f_signs product_f_digits x z v) : Det l G y_PQ_share w_PQ_share (rmD 4) 0 0 [.ref h, .int x, .int z, .int v] [(h, .inr (0, [.int v_p, .int v_q, .ref table_h, .ref tape_h, .ref purses_h, .ref text_h, .ref written_h, .ref product_h, .ref a_toldNumbers, .int v_toldSize, .ref script_h, .ref spare_h, .int v_hasScript])), (written_h, .inr (5, [.ref written_a_signs, .int written__size])), (written_a_signs, .inl (gC G, 4000, .inl written_f_signs)), (product_h, .inr (6, [.ref product_a_digits, .int product__size])), (product_a_digits, .inl (gI G, 96, .inl product_f_digits))] (some (.int (s_PQ_share v_p v_q written_f_signs written__size product_f_digits product__size x z v).1)) [(h, .inr (0, [.int v_p, .int v_q, .ref table_h, .ref tape_h, .ref purses_h, .ref text_h, .ref written_h, .ref product_h, .ref a_toldNumbers, .int v_toldSize, .ref script_h, .ref spare_h, .int v_hasScript])), (written_h, .inr (5, [.ref written_a_signs, .int (s_PQ_share v_p v_q written_f_signs written__size product_f_digits product__size x z v).2.1])), (written_a_signs, .inl (gC G, 4000, .inl (s_PQ_share v_p v_q written_f_signs written__size product_f_digits product__size x z v).2.2.1)), (product_h, .inr (6, [.ref product_a_digits, .int (s_PQ_share v_p v_q written_f_signs written__size product_f_digits product__size x z v).2.2.2.1])), (product_a_digits, .inl (gI G, 96, .inl (s_PQ_share v_p v_q written_f_signs written__size product_f_digits product__size x z v).2.2.2.2))] := by
  refine Det.of (cc := b_PQ_share) (maxL := 4) (ret := (some .int)) (by decide) rfl (Nat.le_of_ble_eq_true rfl) ?_
  intro p e s m args below meth c A ls hx hb hr hml hown hts hlocks hin hA hK hZ hP hD hS hl
  have hts : ∀ w ∈ wG, w.before args s = true := fun w h => hts w (List.mem_cons_of_mem _ h)
  have hown : s.vm.findClass R_PQ = some m.cls := hown
  have hl : lv_has ls 4 [(0, .ref h), (1, .int x), (2, .int z), (3, .int v)] := hl
  rw [ok_PQ_share] at hok
  refine lv_iload_n hx hb d_PQ_share_0 rfl (lv_at hl 3 rfl) ?_
  refine lv_bipush (v := 30) hx hb d_PQ_share_1 (by decide) ?_
  obtain ⟨r1, hr1⟩ : ∃ r, (s_PQ_isUpTo v 30) = r := ⟨_, rfl⟩
  try simp only [hr1] at hok
  have hC_r1 := (c_PQ_isUpTo l G v 30)
  rw [hr1] at hC_r1
  have hf_r1_1 : isB r1 := by rw [← hr1]; exact z_PQ_isUpTo
  refine ly_callS (rest := []) (wf := [(h, .inr (0, [.int v_p, .int v_q, .ref table_h, .ref tape_h, .ref purses_h, .ref text_h, .ref written_h, .ref product_h, .ref a_toldNumbers, .int v_toldSize, .ref script_h, .ref spare_h, .int v_hasScript])), (written_h, .inr (5, [.ref written_a_signs, .int written__size])), (written_a_signs, .inl (gC G, 4000, .inl written_f_signs)), (product_h, .inr (6, [.ref product_a_digits, .int product__size])), (product_a_digits, .inl (gI G, 96, .inl product_f_digits))]) ⟨hx, hb, hml, hown, hts⟩ hA hK hZ hP hD hS hC_r1 (cwS 2 hts g_PQ_176 rfl rfl rfl (by decide +kernel) ⟨Nat.le_of_ble_eq_true rfl, Nat.le_of_ble_eq_true rfl⟩) [] rfl (by decide) rfl rfl rfl hl.1 rfl (Nat.le_of_ble_eq_true rfl) d_PQ_share_3 ⟨Nat.le_of_ble_eq_true rfl, Nat.le_of_ble_eq_true rfl⟩ (st1 := [.int r1]) (c1 := 0) (s1 := 0) rfl rfl rfl (fun H locs hP hD hS => ?_)
  refine lv_if_eq (tgt := 25) hx hb d_PQ_share_6 (by decide) (fun c1 => ?_) (fun c1 => ?_)
  · skip
    rw [if_pos c1] at hok
    refine lv_bipush (v := (-102)) hx hb d_PQ_share_25 (by decide) ?_
    exact ly_iret hx hb hr hlocks hP hD hS d_PQ_share_27 (by rw [s_PQ_share] <;> simp only [hr1] <;> rw [if_pos c1]) (by rw [s_PQ_share] <;> simp only [hr1] <;> rw [if_pos c1])
  rw [if_neg c1] at hok
  refine lv_iload_n hx hb d_PQ_share_9 rfl (lv_at hl 1 rfl) ?_
  refine lv_iload_n hx hb d_PQ_share_10 rfl (lv_at hl 3 rfl) ?_
  obtain ⟨r2, hr2⟩ : ∃ r, (s_PQ_isUpTo x v) = r := ⟨_, rfl⟩
  try simp only [hr2] at hok
  have hC_r2 := (c_PQ_isUpTo l G x v)
  rw [hr2] at hC_r2
  have hf_r2_1 : isB r2 := by rw [← hr2]; exact z_PQ_isUpTo
  refine ly_callS (rest := []) (wf := [(h, .inr (0, [.int v_p, .int v_q, .ref table_h, .ref tape_h, .ref purses_h, .ref text_h, .ref written_h, .ref product_h, .ref a_toldNumbers, .int v_toldSize, .ref script_h, .ref spare_h, .int v_hasScript])), (written_h, .inr (5, [.ref written_a_signs, .int written__size])), (written_a_signs, .inl (gC G, 4000, .inl written_f_signs)), (product_h, .inr (6, [.ref product_a_digits, .int product__size])), (product_a_digits, .inl (gI G, 96, .inl product_f_digits))]) ⟨hx, hb, hml, hown, hts⟩ hA hK hZ hP hD hS hC_r2 (cwS 2 hts g_PQ_176 rfl rfl rfl (by decide +kernel) ⟨Nat.le_of_ble_eq_true rfl, Nat.le_of_ble_eq_true rfl⟩) [] rfl (by decide) rfl rfl rfl hl.1 rfl (Nat.le_of_ble_eq_true rfl) d_PQ_share_11 ⟨Nat.le_of_ble_eq_true rfl, Nat.le_of_ble_eq_true rfl⟩ (st1 := [.int r2]) (c1 := 0) (s1 := 0) rfl rfl rfl (fun H locs hP hD hS => ?_)
  refine lv_if_eq (tgt := 25) hx hb d_PQ_share_14 (by decide) (fun c2 => ?_) (fun c2 => ?_)
  · skip
    rw [if_pos c2] at hok
    refine lv_bipush (v := (-102)) hx hb d_PQ_share_25 (by decide) ?_
    exact ly_iret hx hb hr hlocks hP hD hS d_PQ_share_27 (by rw [s_PQ_share] <;> simp only [hr1, hr2] <;> rw [if_neg c1, if_pos c2]) (by rw [s_PQ_share] <;> simp only [hr1, hr2] <;> rw [if_neg c1, if_pos c2])
  rw [if_neg c2] at hok
  refine lv_iload_n hx hb d_PQ_share_17 rfl (lv_at hl 2 rfl) ?_
  refine lv_iload_n hx hb d_PQ_share_18 rfl (lv_at hl 3 rfl) ?_
  obtain ⟨r3, hr3⟩ : ∃ r, (s_PQ_isUpTo z v) = r := ⟨_, rfl⟩
  try simp only [hr3] at hok
  have hC_r3 := (c_PQ_isUpTo l G z v)
  rw [hr3] at hC_r3
  have hf_r3_1 : isB r3 := by rw [← hr3]; exact z_PQ_isUpTo
  refine ly_callS (rest := []) (wf := [(h, .inr (0, [.int v_p, .int v_q, .ref table_h, .ref tape_h, .ref purses_h, .ref text_h, .ref written_h, .ref product_h, .ref a_toldNumbers, .int v_toldSize, .ref script_h, .ref spare_h, .int v_hasScript])), (written_h, .inr (5, [.ref written_a_signs, .int written__size])), (written_a_signs, .inl (gC G, 4000, .inl written_f_signs)), (product_h, .inr (6, [.ref product_a_digits, .int product__size])), (product_a_digits, .inl (gI G, 96, .inl product_f_digits))]) ⟨hx, hb, hml, hown, hts⟩ hA hK hZ hP hD hS hC_r3 (cwS 2 hts g_PQ_176 rfl rfl rfl (by decide +kernel) ⟨Nat.le_of_ble_eq_true rfl, Nat.le_of_ble_eq_true rfl⟩) [] rfl (by decide) rfl rfl rfl hl.1 rfl (Nat.le_of_ble_eq_true rfl) d_PQ_share_19 ⟨Nat.le_of_ble_eq_true rfl, Nat.le_of_ble_eq_true rfl⟩ (st1 := [.int r3]) (c1 := 0) (s1 := 0) rfl rfl rfl (fun H locs hP hD hS => ?_)
  refine lv_if_ne (tgt := 28) hx hb d_PQ_share_22 (by decide) (fun c3 => ?_) (fun c3 => ?_)
  · skip
    rw [if_neg c3] at hok
    refine lv_aload_n hx hb d_PQ_share_28 rfl (lv_at hl 0 rfl) ?_
    refine lv_iload_n hx hb d_PQ_share_29 rfl (lv_at hl 1 rfl) ?_
    refine lv_iload_n hx hb d_PQ_share_30 rfl (lv_at hl 2 rfl) ?_
    refine lv_iload_n hx hb d_PQ_share_31 rfl (lv_at hl 3 rfl) ?_
    obtain ⟨r4, hr4⟩ : ∃ r, (s_PQ_workOutShare v_p v_q product_f_digits x z v) = r := ⟨_, rfl⟩
    try simp only [hr4] at hok
    have hC_r4 := (c_PQ_workOutShare l G h table_h tape_h purses_h text_h written_h product_h product_a_digits a_toldNumbers script_h spare_h v_p v_q product_f_digits product__size v_toldSize v_hasScript x z v)
    rw [hr4] at hC_r4
    refine ly_callV (rest := []) (wf := [(h, .inr (0, [.int v_p, .int v_q, .ref table_h, .ref tape_h, .ref purses_h, .ref text_h, .ref written_h, .ref product_h, .ref a_toldNumbers, .int v_toldSize, .ref script_h, .ref spare_h, .int v_hasScript])), (written_h, .inr (5, [.ref written_a_signs, .int written__size])), (written_a_signs, .inl (gC G, 4000, .inl written_f_signs)), (product_h, .inr (6, [.ref product_a_digits, .int r4.1])), (product_a_digits, .inl (gI G, 96, .inl r4.2))]) ⟨hx, hb, hml, hown, hts⟩ hA hK hZ hP hD hS hC_r4 (cwV 3 hts g_PQ_190 rfl rfl rfl (by decide +kernel) ⟨Nat.le_of_ble_eq_true rfl, Nat.le_of_ble_eq_true rfl⟩) (ci := 0) (q0 := 0) rfl rfl rfl [0, 3, 4] rfl (by decide) rfl rfl rfl hl.1 rfl (Nat.le_of_ble_eq_true rfl) d_PQ_share_32 ⟨Nat.le_of_ble_eq_true rfl, Nat.le_of_ble_eq_true rfl⟩ (st1 := []) (c1 := 0) (s1 := 0) rfl rfl rfl (fun H locs hP hD hS => ?_)
    refine lv_aload_n hx hb d_PQ_share_35 rfl (lv_at hl 0 rfl) ?_
    refine va_get (D := G.1) (ci := 0) (C := R_PQ) (T := F_PQ) (N := 13) (v := .ref written_h) hx hb hts i_PQ hown hK hP 0 rfl rfl 6 (by decide) (hts (.fieldLink R_PQ 53 "PrivateQueries" "written" "LPrivateQueries$Out;") k_527) (fun _ h9 => h9) rfl d_PQ_share_36 ?_
    refine ly_callV (rest := []) (wf := [(h, .inr (0, [.int v_p, .int v_q, .ref table_h, .ref tape_h, .ref purses_h, .ref text_h, .ref written_h, .ref product_h, .ref a_toldNumbers, .int v_toldSize, .ref script_h, .ref spare_h, .int v_hasScript])), (written_h, .inr (5, [.ref written_a_signs, .int 0])), (written_a_signs, .inl (gC G, 4000, .inl written_f_signs)), (product_h, .inr (6, [.ref product_a_digits, .int r4.1])), (product_a_digits, .inl (gI G, 96, .inl r4.2))]) ⟨hx, hb, hml, hown, hts⟩ hA hK hZ hP hD hS (c_Out_clear l G written_h written_a_signs written__size) (cwV 0 hts g_PQ_184 rfl rfl rfl (by decide +kernel) ⟨Nat.le_of_ble_eq_true rfl, Nat.le_of_ble_eq_true rfl⟩) (ci := 5) (q0 := 1) rfl rfl rfl [1] rfl (by decide) rfl rfl rfl hl.1 rfl (Nat.le_of_ble_eq_true rfl) d_PQ_share_39 ⟨Nat.le_of_ble_eq_true rfl, Nat.le_of_ble_eq_true rfl⟩ (st1 := []) (c1 := 0) (s1 := 0) rfl rfl rfl (fun H locs hP hD hS => ?_)
    refine lv_aload_n hx hb d_PQ_share_42 rfl (lv_at hl 0 rfl) ?_
    refine va_get (D := G.1) (ci := 0) (C := R_PQ) (T := F_PQ) (N := 13) (v := .ref product_h) hx hb hts i_PQ hown hK hP 0 rfl rfl 7 (by decide) (hts (.fieldLink R_PQ 60 "PrivateQueries" "product" "LPrivateQueries$Product;") k_535) (fun _ h9 => h9) rfl d_PQ_share_43 ?_
    refine lv_aload_n hx hb d_PQ_share_46 rfl (lv_at hl 0 rfl) ?_
    refine va_get (D := G.1) (ci := 0) (C := R_PQ) (T := F_PQ) (N := 13) (v := .ref written_h) hx hb hts i_PQ hown hK hP 0 rfl rfl 6 (by decide) (hts (.fieldLink R_PQ 53 "PrivateQueries" "written" "LPrivateQueries$Out;") k_527) (fun _ h9 => h9) rfl d_PQ_share_47 ?_
    obtain ⟨hv1, hok⟩ := hok
    obtain ⟨hv2, hok⟩ := hok
    obtain ⟨r5, hr5⟩ : ∃ r, (lp_Prod_writeInto r4.2 (((((if 96 < r4.1 then 96 else r4.1) - 1).toInt + 1).toNat) + 1) ((if 96 < r4.1 then 96 else r4.1) - 1) written_f_signs 0) = r := ⟨_, rfl⟩
    try simp only [hr5] at hok
    have hC_r5 := (c_Prod_writeInto l G product_h product_a_digits written_h written_a_signs r4.2 r4.1 written_f_signs 0 hv1 hv2)
    rw [hr5] at hC_r5
    refine ly_callV (rest := []) (wf := [(h, .inr (0, [.int v_p, .int v_q, .ref table_h, .ref tape_h, .ref purses_h, .ref text_h, .ref written_h, .ref product_h, .ref a_toldNumbers, .int v_toldSize, .ref script_h, .ref spare_h, .int v_hasScript])), (written_h, .inr (5, [.ref written_a_signs, .int r5.1])), (written_a_signs, .inl (gC G, 4000, .inl r5.2)), (product_h, .inr (6, [.ref product_a_digits, .int r4.1])), (product_a_digits, .inl (gI G, 96, .inl r4.2))]) ⟨hx, hb, hml, hown, hts⟩ hA hK hZ hP hD hS hC_r5 (cwV 1 hts g_PQ_194 rfl rfl rfl (by decide +kernel) ⟨Nat.le_of_ble_eq_true rfl, Nat.le_of_ble_eq_true rfl⟩) (ci := 6) (q0 := 3) rfl rfl rfl [3, 4, 1, 2] rfl (by decide) rfl rfl rfl hl.1 rfl (Nat.le_of_ble_eq_true rfl) d_PQ_share_50 ⟨Nat.le_of_ble_eq_true rfl, Nat.le_of_ble_eq_true rfl⟩ (st1 := []) (c1 := 0) (s1 := 0) rfl rfl rfl (fun H locs hP hD hS => ?_)
    refine lv_aload_n hx hb d_PQ_share_53 rfl (lv_at hl 0 rfl) ?_
    refine va_get (D := G.1) (ci := 0) (C := R_PQ) (T := F_PQ) (N := 13) (v := .ref written_h) hx hb hts i_PQ hown hK hP 0 rfl rfl 6 (by decide) (hts (.fieldLink R_PQ 53 "PrivateQueries" "written" "LPrivateQueries$Out;") k_527) (fun _ h9 => h9) rfl d_PQ_share_54 ?_
    refine ly_callV (rest := []) (wf := [(h, .inr (0, [.int v_p, .int v_q, .ref table_h, .ref tape_h, .ref purses_h, .ref text_h, .ref written_h, .ref product_h, .ref a_toldNumbers, .int v_toldSize, .ref script_h, .ref spare_h, .int v_hasScript])), (written_h, .inr (5, [.ref written_a_signs, .int r5.1])), (written_a_signs, .inl (gC G, 4000, .inl r5.2)), (product_h, .inr (6, [.ref product_a_digits, .int r4.1])), (product_a_digits, .inl (gI G, 96, .inl r4.2))]) ⟨hx, hb, hml, hown, hts⟩ hA hK hZ hP hD hS (c_Out_size l G written_h written_a_signs r5.1) (cwV 0 hts g_PQ_189 rfl rfl rfl (by decide +kernel) ⟨Nat.le_of_ble_eq_true rfl, Nat.le_of_ble_eq_true rfl⟩) (ci := 5) (q0 := 1) rfl rfl rfl [1] rfl (by decide) rfl rfl rfl hl.1 rfl (Nat.le_of_ble_eq_true rfl) d_PQ_share_57 ⟨Nat.le_of_ble_eq_true rfl, Nat.le_of_ble_eq_true rfl⟩ (st1 := [.int r5.1]) (c1 := 0) (s1 := 0) rfl rfl rfl (fun H locs hP hD hS => ?_)
    exact ly_iret hx hb hr hlocks hP hD hS d_PQ_share_60 (by rw [s_PQ_share] <;> simp only [hr1, hr2, hr3, hr4, hr5] <;> rw [if_neg c1, if_neg c2, if_neg c3]) (by rw [s_PQ_share] <;> simp only [hr1, hr2, hr3, hr4, hr5] <;> rw [if_neg c1, if_neg c2, if_neg c3])
  rw [if_pos c3] at hok
  refine lv_bipush (v := (-102)) hx hb d_PQ_share_25 (by decide) ?_
  exact ly_iret hx hb hr hlocks hP hD hS d_PQ_share_27 (by rw [s_PQ_share] <;> simp only [hr1, hr2, hr3] <;> rw [if_neg c1, if_neg c2, if_pos c3]) (by rw [s_PQ_share] <;> simp only [hr1, hr2, hr3] <;> rw [if_neg c1, if_neg c2, if_pos c3])
