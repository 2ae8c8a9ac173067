theorem d_Mo_in_0 : decode b_Mo_in 0 = .ok (.iload_n 0, 1) := by decide +kernel
theorem d_Mo_in_1 : decode b_Mo_in 1 = .ok (.iload_n 1, 1) := by decide +kernel
theorem d_Mo_in_2 : decode b_Mo_in 2 = .ok (.if_icmp .lt 12, 3) := by decide +kernel
theorem d_Mo_in_5 : decode b_Mo_in 5 = .ok (.iload_n 0, 1) := by decide +kernel
theorem d_Mo_in_6 : decode b_Mo_in 6 = .ok (.iload_n 2, 1) := by decide +kernel
theorem d_Mo_in_7 : decode b_Mo_in 7 = .ok (.if_icmp .gt 7, 3) := by decide +kernel
theorem d_Mo_in_10 : decode b_Mo_in 10 = .ok (.iconst 1, 1) := by decide +kernel
theorem d_Mo_in_11 : decode b_Mo_in 11 = .ok (.goto 4, 3) := by decide +kernel
theorem d_Mo_in_14 : decode b_Mo_in 14 = .ok (.iconst 0, 1) := by decide +kernel
theorem d_Mo_in_15 : decode b_Mo_in 15 = .ok (.ireturn, 1) := by decide +kernel
theorem d_Mo_row_0 : decode b_Mo_row 0 = .ok (.aload_n 0, 1) := by decide +kernel
theorem d_Mo_row_1 : decode b_Mo_row 1 = .ok (.getfield 141, 3) := by decide +kernel
theorem d_Mo_row_4 : decode b_Mo_row 4 = .ok (.bipush 60, 2) := by decide +kernel
theorem d_Mo_row_6 : decode b_Mo_row 6 = .ok (.if_icmp .ne 6, 3) := by decide +kernel
theorem d_Mo_row_9 : decode b_Mo_row 9 = .ok (.bipush (-106), 2) := by decide +kernel
theorem d_Mo_row_11 : decode b_Mo_row 11 = .ok (.ireturn, 1) := by decide +kernel
theorem d_Mo_row_12 : decode b_Mo_row 12 = .ok (.bipush 6, 2) := by decide +kernel
theorem d_Mo_row_14 : decode b_Mo_row 14 = .ok (.aload_n 0, 1) := by decide +kernel
theorem d_Mo_row_15 : decode b_Mo_row 15 = .ok (.getfield 141, 3) := by decide +kernel
theorem d_Mo_row_18 : decode b_Mo_row 18 = .ok (.imul, 1) := by decide +kernel
theorem d_Mo_row_19 : decode b_Mo_row 19 = .ok (.istore 7, 2) := by decide +kernel
theorem d_Mo_row_21 : decode b_Mo_row 21 = .ok (.aload_n 0, 1) := by decide +kernel
theorem d_Mo_row_22 : decode b_Mo_row 22 = .ok (.getfield 7, 3) := by decide +kernel
theorem d_Mo_row_25 : decode b_Mo_row 25 = .ok (.iload 7, 2) := by decide +kernel
theorem d_Mo_row_27 : decode b_Mo_row 27 = .ok (.iload_n 1, 1) := by decide +kernel
theorem d_Mo_row_28 : decode b_Mo_row 28 = .ok (.iastore, 1) := by decide +kernel
theorem d_Mo_row_29 : decode b_Mo_row 29 = .ok (.aload_n 0, 1) := by decide +kernel
theorem d_Mo_row_30 : decode b_Mo_row 30 = .ok (.getfield 7, 3) := by decide +kernel
theorem d_Mo_row_33 : decode b_Mo_row 33 = .ok (.iload 7, 2) := by decide +kernel
theorem d_Mo_row_35 : decode b_Mo_row 35 = .ok (.iconst 1, 1) := by decide +kernel
theorem d_Mo_row_36 : decode b_Mo_row 36 = .ok (.iadd, 1) := by decide +kernel
theorem d_Mo_row_37 : decode b_Mo_row 37 = .ok (.iload_n 2, 1) := by decide +kernel
theorem d_Mo_row_38 : decode b_Mo_row 38 = .ok (.iastore, 1) := by decide +kernel
theorem d_Mo_row_39 : decode b_Mo_row 39 = .ok (.aload_n 0, 1) := by decide +kernel
theorem d_Mo_row_40 : decode b_Mo_row 40 = .ok (.getfield 7, 3) := by decide +kernel
theorem d_Mo_row_43 : decode b_Mo_row 43 = .ok (.iload 7, 2) := by decide +kernel
theorem d_Mo_row_45 : decode b_Mo_row 45 = .ok (.iconst 2, 1) := by decide +kernel
theorem d_Mo_row_46 : decode b_Mo_row 46 = .ok (.iadd, 1) := by decide +kernel
theorem d_Mo_row_47 : decode b_Mo_row 47 = .ok (.iload_n 3, 1) := by decide +kernel
theorem d_Mo_row_48 : decode b_Mo_row 48 = .ok (.iastore, 1) := by decide +kernel
theorem d_Mo_row_49 : decode b_Mo_row 49 = .ok (.aload_n 0, 1) := by decide +kernel
theorem d_Mo_row_50 : decode b_Mo_row 50 = .ok (.getfield 7, 3) := by decide +kernel
theorem d_Mo_row_53 : decode b_Mo_row 53 = .ok (.iload 7, 2) := by decide +kernel
theorem d_Mo_row_55 : decode b_Mo_row 55 = .ok (.iconst 3, 1) := by decide +kernel
theorem d_Mo_row_56 : decode b_Mo_row 56 = .ok (.iadd, 1) := by decide +kernel
theorem d_Mo_row_57 : decode b_Mo_row 57 = .ok (.iload 4, 2) := by decide +kernel
theorem d_Mo_row_59 : decode b_Mo_row 59 = .ok (.iastore, 1) := by decide +kernel
theorem d_Mo_row_60 : decode b_Mo_row 60 = .ok (.aload_n 0, 1) := by decide +kernel
theorem d_Mo_row_61 : decode b_Mo_row 61 = .ok (.getfield 7, 3) := by decide +kernel
theorem d_Mo_row_64 : decode b_Mo_row 64 = .ok (.iload 7, 2) := by decide +kernel
theorem d_Mo_row_66 : decode b_Mo_row 66 = .ok (.iconst 4, 1) := by decide +kernel
theorem d_Mo_row_67 : decode b_Mo_row 67 = .ok (.iadd, 1) := by decide +kernel
theorem d_Mo_row_68 : decode b_Mo_row 68 = .ok (.iload 5, 2) := by decide +kernel
theorem d_Mo_row_70 : decode b_Mo_row 70 = .ok (.iastore, 1) := by decide +kernel
theorem d_Mo_row_71 : decode b_Mo_row 71 = .ok (.aload_n 0, 1) := by decide +kernel
theorem d_Mo_row_72 : decode b_Mo_row 72 = .ok (.getfield 7, 3) := by decide +kernel
theorem d_Mo_row_75 : decode b_Mo_row 75 = .ok (.iload 7, 2) := by decide +kernel
theorem d_Mo_row_77 : decode b_Mo_row 77 = .ok (.iconst 5, 1) := by decide +kernel
theorem d_Mo_row_78 : decode b_Mo_row 78 = .ok (.iadd, 1) := by decide +kernel
theorem d_Mo_row_79 : decode b_Mo_row 79 = .ok (.iload 6, 2) := by decide +kernel
theorem d_Mo_row_81 : decode b_Mo_row 81 = .ok (.iastore, 1) := by decide +kernel
theorem d_Mo_row_82 : decode b_Mo_row 82 = .ok (.aload_n 0, 1) := by decide +kernel
theorem d_Mo_row_83 : decode b_Mo_row 83 = .ok (.dup, 1) := by decide +kernel
theorem d_Mo_row_84 : decode b_Mo_row 84 = .ok (.getfield 141, 3) := by decide +kernel
theorem d_Mo_row_87 : decode b_Mo_row 87 = .ok (.iconst 1, 1) := by decide +kernel
theorem d_Mo_row_88 : decode b_Mo_row 88 = .ok (.iadd, 1) := by decide +kernel
theorem d_Mo_row_89 : decode b_Mo_row 89 = .ok (.putfield 141, 3) := by decide +kernel
theorem d_Mo_row_92 : decode b_Mo_row 92 = .ok (.aload_n 0, 1) := by decide +kernel
theorem d_Mo_row_93 : decode b_Mo_row 93 = .ok (.getfield 141, 3) := by decide +kernel
theorem d_Mo_row_96 : decode b_Mo_row 96 = .ok (.iconst 1, 1) := by decide +kernel
theorem d_Mo_row_97 : decode b_Mo_row 97 = .ok (.isub, 1) := by decide +kernel
theorem d_Mo_row_98 : decode b_Mo_row 98 = .ok (.ireturn, 1) := by decide +kernel
theorem d_Mo_isCell_0 : decode b_Mo_isCell 0 = .ok (.iload_n 1, 1) := by decide +kernel
theorem d_Mo_isCell_1 : decode b_Mo_isCell 1 = .ok (.ifCond .lt 25, 3) := by decide +kernel
theorem d_Mo_isCell_4 : decode b_Mo_isCell 4 = .ok (.iload_n 1, 1) := by decide +kernel
theorem d_Mo_isCell_5 : decode b_Mo_isCell 5 = .ok (.aload_n 0, 1) := by decide +kernel
theorem d_Mo_isCell_6 : decode b_Mo_isCell 6 = .ok (.getfield 138, 3) := by decide +kernel
theorem d_Mo_isCell_9 : decode b_Mo_isCell 9 = .ok (.aload_n 0, 1) := by decide +kernel
theorem d_Mo_isCell_10 : decode b_Mo_isCell 10 = .ok (.getfield 134, 3) := by decide +kernel
theorem d_Mo_isCell_13 : decode b_Mo_isCell 13 = .ok (.aload_n 0, 1) := by decide +kernel
theorem d_Mo_isCell_14 : decode b_Mo_isCell 14 = .ok (.getfield 138, 3) := by decide +kernel
theorem d_Mo_isCell_17 : decode b_Mo_isCell 17 = .ok (.iadd, 1) := by decide +kernel
theorem d_Mo_isCell_18 : decode b_Mo_isCell 18 = .ok (.imul, 1) := by decide +kernel
theorem d_Mo_isCell_19 : decode b_Mo_isCell 19 = .ok (.if_icmp .ge 7, 3) := by decide +kernel
theorem d_Mo_isCell_22 : decode b_Mo_isCell 22 = .ok (.iconst 1, 1) := by decide +kernel
theorem d_Mo_isCell_23 : decode b_Mo_isCell 23 = .ok (.goto 4, 3) := by decide +kernel
theorem d_Mo_isCell_26 : decode b_Mo_isCell 26 = .ok (.iconst 0, 1) := by decide +kernel
theorem d_Mo_isCell_27 : decode b_Mo_isCell 27 = .ok (.ireturn, 1) := by decide +kernel
theorem d_Mo_count_0 : decode b_Mo_count 0 = .ok (.iload_n 1, 1) := by decide +kernel
theorem d_Mo_count_1 : decode b_Mo_count 1 = .ok (.tableswitch 69 0 5 #[39, 44, 49, 54, 59, 64], 39) := by decide +kernel
theorem d_Mo_count_40 : decode b_Mo_count 40 = .ok (.aload_n 0, 1) := by decide +kernel
theorem d_Mo_count_41 : decode b_Mo_count 41 = .ok (.getfield 141, 3) := by decide +kernel
theorem d_Mo_count_44 : decode b_Mo_count 44 = .ok (.ireturn, 1) := by decide +kernel
theorem d_Mo_count_45 : decode b_Mo_count 45 = .ok (.aload_n 0, 1) := by decide +kernel
theorem d_Mo_count_46 : decode b_Mo_count 46 = .ok (.getfield 152, 3) := by decide +kernel
theorem d_Mo_count_49 : decode b_Mo_count 49 = .ok (.ireturn, 1) := by decide +kernel
theorem d_Mo_count_50 : decode b_Mo_count 50 = .ok (.aload_n 0, 1) := by decide +kernel
theorem d_Mo_count_51 : decode b_Mo_count 51 = .ok (.getfield 155, 3) := by decide +kernel
theorem d_Mo_count_54 : decode b_Mo_count 54 = .ok (.ireturn, 1) := by decide +kernel
theorem d_Mo_count_55 : decode b_Mo_count 55 = .ok (.aload_n 0, 1) := by decide +kernel
theorem d_Mo_count_56 : decode b_Mo_count 56 = .ok (.getfield 158, 3) := by decide +kernel
theorem d_Mo_count_59 : decode b_Mo_count 59 = .ok (.ireturn, 1) := by decide +kernel
theorem d_Mo_count_60 : decode b_Mo_count 60 = .ok (.aload_n 0, 1) := by decide +kernel
theorem d_Mo_count_61 : decode b_Mo_count 61 = .ok (.getfield 161, 3) := by decide +kernel
theorem d_Mo_count_64 : decode b_Mo_count 64 = .ok (.ireturn, 1) := by decide +kernel
theorem d_Mo_count_65 : decode b_Mo_count 65 = .ok (.aload_n 0, 1) := by decide +kernel
theorem d_Mo_count_66 : decode b_Mo_count 66 = .ok (.getfield 164, 3) := by decide +kernel
theorem d_Mo_count_69 : decode b_Mo_count 69 = .ok (.ireturn, 1) := by decide +kernel
theorem d_Mo_count_70 : decode b_Mo_count 70 = .ok (.bipush (-102), 2) := by decide +kernel
theorem d_Mo_count_72 : decode b_Mo_count 72 = .ok (.ireturn, 1) := by decide +kernel
theorem d_Mo_isSmall_0 : decode b_Mo_isSmall 0 = .ok (.iload_n 0, 1) := by decide +kernel
theorem d_Mo_isSmall_1 : decode b_Mo_isSmall 1 = .ok (.bipush 97, 2) := by decide +kernel
theorem d_Mo_isSmall_3 : decode b_Mo_isSmall 3 = .ok (.if_icmp .lt 13, 3) := by decide +kernel
theorem d_Mo_isSmall_6 : decode b_Mo_isSmall 6 = .ok (.iload_n 0, 1) := by decide +kernel
theorem d_Mo_isSmall_7 : decode b_Mo_isSmall 7 = .ok (.bipush 122, 2) := by decide +kernel
theorem d_Mo_isSmall_9 : decode b_Mo_isSmall 9 = .ok (.if_icmp .gt 7, 3) := by decide +kernel
theorem d_Mo_isSmall_12 : decode b_Mo_isSmall 12 = .ok (.iconst 1, 1) := by decide +kernel
theorem d_Mo_isSmall_13 : decode b_Mo_isSmall 13 = .ok (.goto 4, 3) := by decide +kernel
theorem d_Mo_isSmall_16 : decode b_Mo_isSmall 16 = .ok (.iconst 0, 1) := by decide +kernel
theorem d_Mo_isSmall_17 : decode b_Mo_isSmall 17 = .ok (.ireturn, 1) := by decide +kernel
theorem d_Mo_isDigit_0 : decode b_Mo_isDigit 0 = .ok (.iload_n 0, 1) := by decide +kernel
theorem d_Mo_isDigit_1 : decode b_Mo_isDigit 1 = .ok (.bipush 48, 2) := by decide +kernel
theorem d_Mo_isDigit_3 : decode b_Mo_isDigit 3 = .ok (.if_icmp .lt 13, 3) := by decide +kernel
theorem d_Mo_isDigit_6 : decode b_Mo_isDigit 6 = .ok (.iload_n 0, 1) := by decide +kernel
theorem d_Mo_isDigit_7 : decode b_Mo_isDigit 7 = .ok (.bipush 57, 2) := by decide +kernel
theorem d_Mo_isDigit_9 : decode b_Mo_isDigit 9 = .ok (.if_icmp .gt 7, 3) := by decide +kernel
theorem d_Mo_isDigit_12 : decode b_Mo_isDigit 12 = .ok (.iconst 1, 1) := by decide +kernel
theorem d_Mo_isDigit_13 : decode b_Mo_isDigit 13 = .ok (.goto 4, 3) := by decide +kernel
theorem d_Mo_isDigit_16 : decode b_Mo_isDigit 16 = .ok (.iconst 0, 1) := by decide +kernel
theorem d_Mo_isDigit_17 : decode b_Mo_isDigit 17 = .ok (.ireturn, 1) := by decide +kernel
theorem d_Mo_signKind_0 : decode b_Mo_signKind 0 = .ok (.iload_n 1, 1) := by decide +kernel
theorem d_Mo_signKind_1 : decode b_Mo_signKind 1 = .ok (.bipush 59, 2) := by decide +kernel
theorem d_Mo_signKind_3 : decode b_Mo_signKind 3 = .ok (.if_icmp .ne 8, 3) := by decide +kernel
theorem d_Mo_signKind_6 : decode b_Mo_signKind 6 = .ok (.bipush 16, 2) := by decide +kernel
theorem d_Mo_signKind_8 : decode b_Mo_signKind 8 = .ok (.goto 93, 3) := by decide +kernel
theorem d_Mo_signKind_11 : decode b_Mo_signKind 11 = .ok (.iload_n 1, 1) := by decide +kernel
theorem d_Mo_signKind_12 : decode b_Mo_signKind 12 = .ok (.bipush 61, 2) := by decide +kernel
theorem d_Mo_signKind_14 : decode b_Mo_signKind 14 = .ok (.if_icmp .ne 8, 3) := by decide +kernel
theorem d_Mo_signKind_17 : decode b_Mo_signKind 17 = .ok (.bipush 17, 2) := by decide +kernel
theorem d_Mo_signKind_19 : decode b_Mo_signKind 19 = .ok (.goto 82, 3) := by decide +kernel
theorem d_Mo_signKind_22 : decode b_Mo_signKind 22 = .ok (.iload_n 1, 1) := by decide +kernel
theorem d_Mo_signKind_23 : decode b_Mo_signKind 23 = .ok (.bipush 43, 2) := by decide +kernel
theorem d_Mo_signKind_25 : decode b_Mo_signKind 25 = .ok (.if_icmp .ne 8, 3) := by decide +kernel
theorem d_Mo_signKind_28 : decode b_Mo_signKind 28 = .ok (.bipush 23, 2) := by decide +kernel
theorem d_Mo_signKind_30 : decode b_Mo_signKind 30 = .ok (.goto 71, 3) := by decide +kernel
theorem d_Mo_signKind_33 : decode b_Mo_signKind 33 = .ok (.iload_n 1, 1) := by decide +kernel
theorem d_Mo_signKind_34 : decode b_Mo_signKind 34 = .ok (.bipush 45, 2) := by decide +kernel
theorem d_Mo_signKind_36 : decode b_Mo_signKind 36 = .ok (.if_icmp .ne 8, 3) := by decide +kernel
theorem d_Mo_signKind_39 : decode b_Mo_signKind 39 = .ok (.bipush 24, 2) := by decide +kernel
theorem d_Mo_signKind_41 : decode b_Mo_signKind 41 = .ok (.goto 60, 3) := by decide +kernel
theorem d_Mo_signKind_44 : decode b_Mo_signKind 44 = .ok (.iload_n 1, 1) := by decide +kernel
theorem d_Mo_signKind_45 : decode b_Mo_signKind 45 = .ok (.bipush 42, 2) := by decide +kernel
theorem d_Mo_signKind_47 : decode b_Mo_signKind 47 = .ok (.if_icmp .ne 8, 3) := by decide +kernel
theorem d_Mo_signKind_50 : decode b_Mo_signKind 50 = .ok (.bipush 25, 2) := by decide +kernel
theorem d_Mo_signKind_52 : decode b_Mo_signKind 52 = .ok (.goto 49, 3) := by decide +kernel
theorem d_Mo_signKind_55 : decode b_Mo_signKind 55 = .ok (.iload_n 1, 1) := by decide +kernel
theorem d_Mo_signKind_56 : decode b_Mo_signKind 56 = .ok (.bipush 40, 2) := by decide +kernel
theorem d_Mo_signKind_58 : decode b_Mo_signKind 58 = .ok (.if_icmp .ne 8, 3) := by decide +kernel
theorem d_Mo_signKind_61 : decode b_Mo_signKind 61 = .ok (.bipush 26, 2) := by decide +kernel
theorem d_Mo_signKind_63 : decode b_Mo_signKind 63 = .ok (.goto 38, 3) := by decide +kernel
theorem d_Mo_signKind_66 : decode b_Mo_signKind 66 = .ok (.iload_n 1, 1) := by decide +kernel
theorem d_Mo_signKind_67 : decode b_Mo_signKind 67 = .ok (.bipush 41, 2) := by decide +kernel
theorem d_Mo_signKind_69 : decode b_Mo_signKind 69 = .ok (.if_icmp .ne 8, 3) := by decide +kernel
theorem d_Mo_signKind_72 : decode b_Mo_signKind 72 = .ok (.bipush 27, 2) := by decide +kernel
theorem d_Mo_signKind_74 : decode b_Mo_signKind 74 = .ok (.goto 27, 3) := by decide +kernel
theorem d_Mo_signKind_77 : decode b_Mo_signKind 77 = .ok (.iload_n 1, 1) := by decide +kernel
theorem d_Mo_signKind_78 : decode b_Mo_signKind 78 = .ok (.bipush 91, 2) := by decide +kernel
theorem d_Mo_signKind_80 : decode b_Mo_signKind 80 = .ok (.if_icmp .ne 8, 3) := by decide +kernel
theorem d_Mo_signKind_83 : decode b_Mo_signKind 83 = .ok (.bipush 28, 2) := by decide +kernel
theorem d_Mo_signKind_85 : decode b_Mo_signKind 85 = .ok (.goto 16, 3) := by decide +kernel
theorem d_Mo_signKind_88 : decode b_Mo_signKind 88 = .ok (.iload_n 1, 1) := by decide +kernel
theorem d_Mo_signKind_89 : decode b_Mo_signKind 89 = .ok (.bipush 93, 2) := by decide +kernel
theorem d_Mo_signKind_91 : decode b_Mo_signKind 91 = .ok (.if_icmp .ne 8, 3) := by decide +kernel
theorem d_Mo_signKind_94 : decode b_Mo_signKind 94 = .ok (.bipush 29, 2) := by decide +kernel
theorem d_Mo_signKind_96 : decode b_Mo_signKind 96 = .ok (.goto 5, 3) := by decide +kernel
theorem d_Mo_signKind_99 : decode b_Mo_signKind 99 = .ok (.bipush 31, 2) := by decide +kernel
theorem d_Mo_signKind_101 : decode b_Mo_signKind 101 = .ok (.ireturn, 1) := by decide +kernel
theorem d_Mo_bring_0 : decode b_Mo_bring 0 = .ok (.iload_n 0, 1) := by decide +kernel
theorem d_Mo_bring_1 : decode b_Mo_bring 1 = .ok (.ifCond .ge 7, 3) := by decide +kernel
theorem d_Mo_bring_4 : decode b_Mo_bring 4 = .ok (.iconst 0, 1) := by decide +kernel
theorem d_Mo_bring_5 : decode b_Mo_bring 5 = .ok (.goto 13, 3) := by decide +kernel
theorem d_Mo_bring_8 : decode b_Mo_bring 8 = .ok (.iload_n 0, 1) := by decide +kernel
theorem d_Mo_bring_9 : decode b_Mo_bring 9 = .ok (.iload_n 1, 1) := by decide +kernel
theorem d_Mo_bring_10 : decode b_Mo_bring 10 = .ok (.if_icmp .le 7, 3) := by decide +kernel
theorem d_Mo_bring_13 : decode b_Mo_bring 13 = .ok (.iload_n 1, 1) := by decide +kernel
theorem d_Mo_bring_14 : decode b_Mo_bring 14 = .ok (.goto 4, 3) := by decide +kernel
theorem d_Mo_bring_17 : decode b_Mo_bring 17 = .ok (.iload_n 0, 1) := by decide +kernel
theorem d_Mo_bring_18 : decode b_Mo_bring 18 = .ok (.ireturn, 1) := by decide +kernel
theorem d_Mo_judge_0 : decode b_Mo_judge 0 = .ok (.iload_n 0, 1) := by decide +kernel
theorem d_Mo_judge_1 : decode b_Mo_judge 1 = .ok (.bipush 17, 2) := by decide +kernel
theorem d_Mo_judge_3 : decode b_Mo_judge 3 = .ok (.if_icmp .ne 16, 3) := by decide +kernel
theorem d_Mo_judge_6 : decode b_Mo_judge 6 = .ok (.iload_n 1, 1) := by decide +kernel
theorem d_Mo_judge_7 : decode b_Mo_judge 7 = .ok (.iload_n 2, 1) := by decide +kernel
theorem d_Mo_judge_8 : decode b_Mo_judge 8 = .ok (.if_icmp .ne 7, 3) := by decide +kernel
theorem d_Mo_judge_11 : decode b_Mo_judge 11 = .ok (.iconst 1, 1) := by decide +kernel
theorem d_Mo_judge_12 : decode b_Mo_judge 12 = .ok (.goto 93, 3) := by decide +kernel
theorem d_Mo_judge_15 : decode b_Mo_judge 15 = .ok (.iconst 0, 1) := by decide +kernel
theorem d_Mo_judge_16 : decode b_Mo_judge 16 = .ok (.goto 89, 3) := by decide +kernel
theorem d_Mo_judge_19 : decode b_Mo_judge 19 = .ok (.iload_n 0, 1) := by decide +kernel
theorem d_Mo_judge_20 : decode b_Mo_judge 20 = .ok (.bipush 18, 2) := by decide +kernel
theorem d_Mo_judge_22 : decode b_Mo_judge 22 = .ok (.if_icmp .ne 16, 3) := by decide +kernel
theorem d_Mo_judge_25 : decode b_Mo_judge 25 = .ok (.iload_n 1, 1) := by decide +kernel
theorem d_Mo_judge_26 : decode b_Mo_judge 26 = .ok (.iload_n 2, 1) := by decide +kernel
theorem d_Mo_judge_27 : decode b_Mo_judge 27 = .ok (.if_icmp .ge 7, 3) := by decide +kernel
theorem d_Mo_judge_30 : decode b_Mo_judge 30 = .ok (.iconst 1, 1) := by decide +kernel
theorem d_Mo_judge_31 : decode b_Mo_judge 31 = .ok (.goto 74, 3) := by decide +kernel
theorem d_Mo_judge_34 : decode b_Mo_judge 34 = .ok (.iconst 0, 1) := by decide +kernel
theorem d_Mo_judge_35 : decode b_Mo_judge 35 = .ok (.goto 70, 3) := by decide +kernel
theorem d_Mo_judge_38 : decode b_Mo_judge 38 = .ok (.iload_n 0, 1) := by decide +kernel
theorem d_Mo_judge_39 : decode b_Mo_judge 39 = .ok (.bipush 19, 2) := by decide +kernel
theorem d_Mo_judge_41 : decode b_Mo_judge 41 = .ok (.if_icmp .ne 16, 3) := by decide +kernel
theorem d_Mo_judge_44 : decode b_Mo_judge 44 = .ok (.iload_n 1, 1) := by decide +kernel
theorem d_Mo_judge_45 : decode b_Mo_judge 45 = .ok (.iload_n 2, 1) := by decide +kernel
theorem d_Mo_judge_46 : decode b_Mo_judge 46 = .ok (.if_icmp .le 7, 3) := by decide +kernel
theorem d_Mo_judge_49 : decode b_Mo_judge 49 = .ok (.iconst 1, 1) := by decide +kernel
theorem d_Mo_judge_50 : decode b_Mo_judge 50 = .ok (.goto 55, 3) := by decide +kernel
theorem d_Mo_judge_53 : decode b_Mo_judge 53 = .ok (.iconst 0, 1) := by decide +kernel
theorem d_Mo_judge_54 : decode b_Mo_judge 54 = .ok (.goto 51, 3) := by decide +kernel
theorem d_Mo_judge_57 : decode b_Mo_judge 57 = .ok (.iload_n 0, 1) := by decide +kernel
theorem d_Mo_judge_58 : decode b_Mo_judge 58 = .ok (.bipush 20, 2) := by decide +kernel
theorem d_Mo_judge_60 : decode b_Mo_judge 60 = .ok (.if_icmp .ne 16, 3) := by decide +kernel
theorem d_Mo_judge_63 : decode b_Mo_judge 63 = .ok (.iload_n 1, 1) := by decide +kernel
theorem d_Mo_judge_64 : decode b_Mo_judge 64 = .ok (.iload_n 2, 1) := by decide +kernel
theorem d_Mo_judge_65 : decode b_Mo_judge 65 = .ok (.if_icmp .gt 7, 3) := by decide +kernel
theorem d_Mo_judge_68 : decode b_Mo_judge 68 = .ok (.iconst 1, 1) := by decide +kernel
theorem d_Mo_judge_69 : decode b_Mo_judge 69 = .ok (.goto 36, 3) := by decide +kernel
theorem d_Mo_judge_72 : decode b_Mo_judge 72 = .ok (.iconst 0, 1) := by decide +kernel
theorem d_Mo_judge_73 : decode b_Mo_judge 73 = .ok (.goto 32, 3) := by decide +kernel
theorem d_Mo_judge_76 : decode b_Mo_judge 76 = .ok (.iload_n 0, 1) := by decide +kernel
theorem d_Mo_judge_77 : decode b_Mo_judge 77 = .ok (.bipush 21, 2) := by decide +kernel
theorem d_Mo_judge_79 : decode b_Mo_judge 79 = .ok (.if_icmp .ne 16, 3) := by decide +kernel
theorem d_Mo_judge_82 : decode b_Mo_judge 82 = .ok (.iload_n 1, 1) := by decide +kernel
theorem d_Mo_judge_83 : decode b_Mo_judge 83 = .ok (.iload_n 2, 1) := by decide +kernel
theorem d_Mo_judge_84 : decode b_Mo_judge 84 = .ok (.if_icmp .lt 7, 3) := by decide +kernel
theorem d_Mo_judge_87 : decode b_Mo_judge 87 = .ok (.iconst 1, 1) := by decide +kernel
theorem d_Mo_judge_88 : decode b_Mo_judge 88 = .ok (.goto 17, 3) := by decide +kernel
theorem d_Mo_judge_91 : decode b_Mo_judge 91 = .ok (.iconst 0, 1) := by decide +kernel
theorem d_Mo_judge_92 : decode b_Mo_judge 92 = .ok (.goto 13, 3) := by decide +kernel
theorem d_Mo_judge_95 : decode b_Mo_judge 95 = .ok (.iload_n 1, 1) := by decide +kernel
theorem d_Mo_judge_96 : decode b_Mo_judge 96 = .ok (.iload_n 2, 1) := by decide +kernel
theorem d_Mo_judge_97 : decode b_Mo_judge 97 = .ok (.if_icmp .eq 7, 3) := by decide +kernel
theorem d_Mo_judge_100 : decode b_Mo_judge 100 = .ok (.iconst 1, 1) := by decide +kernel
theorem d_Mo_judge_101 : decode b_Mo_judge 101 = .ok (.goto 4, 3) := by decide +kernel
theorem d_Mo_judge_104 : decode b_Mo_judge 104 = .ok (.iconst 0, 1) := by decide +kernel
theorem d_Mo_judge_105 : decode b_Mo_judge 105 = .ok (.istore_n 3, 1) := by decide +kernel
theorem d_Mo_judge_106 : decode b_Mo_judge 106 = .ok (.iload_n 3, 1) := by decide +kernel
theorem d_Mo_judge_107 : decode b_Mo_judge 107 = .ok (.ifCond .eq 7, 3) := by decide +kernel
theorem d_Mo_judge_110 : decode b_Mo_judge 110 = .ok (.iconst 1, 1) := by decide +kernel
theorem d_Mo_judge_111 : decode b_Mo_judge 111 = .ok (.goto 4, 3) := by decide +kernel
theorem d_Mo_judge_114 : decode b_Mo_judge 114 = .ok (.iconst 0, 1) := by decide +kernel
theorem d_Mo_judge_115 : decode b_Mo_judge 115 = .ok (.ireturn, 1) := by decide +kernel
theorem d_Mo_isSumStart_0 : decode b_Mo_isSumStart 0 = .ok (.aload_n 0, 1) := by decide +kernel
theorem d_Mo_isSumStart_1 : decode b_Mo_isSumStart 1 = .ok (.getfield 188, 3) := by decide +kernel
theorem d_Mo_isSumStart_4 : decode b_Mo_isSumStart 4 = .ok (.bipush 15, 2) := by decide +kernel
theorem d_Mo_isSumStart_6 : decode b_Mo_isSumStart 6 = .ok (.if_icmp .eq 30, 3) := by decide +kernel
theorem d_Mo_isSumStart_9 : decode b_Mo_isSumStart 9 = .ok (.aload_n 0, 1) := by decide +kernel
theorem d_Mo_isSumStart_10 : decode b_Mo_isSumStart 10 = .ok (.getfield 188, 3) := by decide +kernel
theorem d_Mo_isSumStart_13 : decode b_Mo_isSumStart 13 = .ok (.bipush 13, 2) := by decide +kernel
theorem d_Mo_isSumStart_15 : decode b_Mo_isSumStart 15 = .ok (.if_icmp .eq 21, 3) := by decide +kernel
theorem d_Mo_isSumStart_18 : decode b_Mo_isSumStart 18 = .ok (.aload_n 0, 1) := by decide +kernel
theorem d_Mo_isSumStart_19 : decode b_Mo_isSumStart 19 = .ok (.getfield 188, 3) := by decide +kernel
theorem d_Mo_isSumStart_22 : decode b_Mo_isSumStart 22 = .ok (.bipush 24, 2) := by decide +kernel
theorem d_Mo_isSumStart_24 : decode b_Mo_isSumStart 24 = .ok (.if_icmp .eq 12, 3) := by decide +kernel
theorem d_Mo_isSumStart_27 : decode b_Mo_isSumStart 27 = .ok (.aload_n 0, 1) := by decide +kernel
theorem d_Mo_isSumStart_28 : decode b_Mo_isSumStart 28 = .ok (.getfield 188, 3) := by decide +kernel
theorem d_Mo_isSumStart_31 : decode b_Mo_isSumStart 31 = .ok (.bipush 26, 2) := by decide +kernel
theorem d_Mo_isSumStart_33 : decode b_Mo_isSumStart 33 = .ok (.if_icmp .ne 7, 3) := by decide +kernel
theorem d_Mo_isSumStart_36 : decode b_Mo_isSumStart 36 = .ok (.iconst 1, 1) := by decide +kernel
theorem d_Mo_isSumStart_37 : decode b_Mo_isSumStart 37 = .ok (.goto 4, 3) := by decide +kernel
theorem d_Mo_isSumStart_40 : decode b_Mo_isSumStart 40 = .ok (.iconst 0, 1) := by decide +kernel
theorem d_Mo_isSumStart_41 : decode b_Mo_isSumStart 41 = .ok (.ireturn, 1) := by decide +kernel
theorem k_172 : (.fieldLink R_Mo 141 "PrivateQueriesModel" "rows" "I" : Cond) ∈ wG := wGm 968 (by decide +kernel) (by decide +kernel)
theorem k_173 : (.fieldLink R_Mo 7 "PrivateQueriesModel" "table" "[I" : Cond) ∈ wG := wGm 967 (by decide +kernel) (by decide +kernel)
theorem k_174 : (.fieldLink R_Mo 138 "PrivateQueriesModel" "q" "I" : Cond) ∈ wG := wGm 966 (by decide +kernel) (by decide +kernel)
theorem k_175 : (.fieldLink R_Mo 134 "PrivateQueriesModel" "p" "I" : Cond) ∈ wG := wGm 965 (by decide +kernel) (by decide +kernel)
theorem k_176 : (.fieldLink R_Mo 152 "PrivateQueriesModel" "cells" "I" : Cond) ∈ wG := wGm 970 (by decide +kernel) (by decide +kernel)
theorem k_177 : (.fieldLink R_Mo 155 "PrivateQueriesModel" "signs" "I" : Cond) ∈ wG := wGm 974 (by decide +kernel) (by decide +kernel)
theorem k_178 : (.fieldLink R_Mo 158 "PrivateQueriesModel" "scriptQuestions" "I" : Cond) ∈ wG := wGm 1006 (by decide +kernel) (by decide +kernel)
theorem k_179 : (.fieldLink R_Mo 161 "PrivateQueriesModel" "scriptLets" "I" : Cond) ∈ wG := wGm 1005 (by decide +kernel) (by decide +kernel)
theorem k_180 : (.fieldLink R_Mo 164 "PrivateQueriesModel" "toldCount" "I" : Cond) ∈ wG := wGm 1019 (by decide +kernel) (by decide +kernel)
theorem k_181 : (.fieldLink R_Mo 188 "PrivateQueriesModel" "kind" "I" : Cond) ∈ wG := wGm 983 (by decide +kernel) (by decide +kernel)
theorem z_Mo_in {x : Int32} {z : Int32} {v : Int32} : isB (s_Mo_in x z v) := by
  rw [s_Mo_in]
  by_cases ct1 : x < z
  · rw [if_pos ct1]
    first | exact isB_0 | exact isB_1 | assumption
  rw [if_neg ct1]
  by_cases ct2 : v < x
  · rw [if_pos ct2]
    first | exact isB_0 | exact isB_1 | assumption
  rw [if_neg ct2]
  first | exact isB_0 | exact isB_1 | assumption
set_option maxHeartbeats 4000000 in
set_option maxRecDepth 100000 in
theorem c_Mo_in (l : Launch) (G : GG)  (x : Int32) (z : Int32) (v : Int32) : Det l G y_Mo_in w_Mo_in (rmD 0) 0 0 [.int x, .int z, .int v] [] (some (.int (s_Mo_in x z v))) [] := by
  refine Det.of (cc := b_Mo_in) (maxL := 3) (ret := (some .boolean)) (by decide) rfl (Nat.le_of_ble_eq_true rfl) ?_
  intro p e s m args below meth c A ls hx hb hr hml hown hts hlocks hin hA hK hZ hP hD hS hl
  have hts : ∀ w ∈ wG, w.before args s = true := fun w h => hts w (List.mem_cons_of_mem _ h)
  have hown : s.vm.findClass R_Mo = some m.cls := hown
  have hl : lv_has ls 3 [(0, .int x), (1, .int z), (2, .int v)] := hl
  refine lv_iload_n hx hb d_Mo_in_0 rfl (lv_at hl 0 rfl) ?_
  refine lv_iload_n hx hb d_Mo_in_1 rfl (lv_at hl 1 rfl) ?_
  refine lv_icmp_lt (tgt := 14) hx hb d_Mo_in_2 (by decide) (fun c1 => ?_) (fun c1 => ?_)
  · skip
    refine lv_iconst (v := 0) hx hb d_Mo_in_14 (by decide) ?_
    exact ly_zret hx hb hr hlocks hP hD hS d_Mo_in_15 (by decide) (by rw [s_Mo_in, if_pos c1]) rfl
  refine lv_iload_n hx hb d_Mo_in_5 rfl (lv_at hl 0 rfl) ?_
  refine lv_iload_n hx hb d_Mo_in_6 rfl (lv_at hl 2 rfl) ?_
  refine lv_icmp_gt (tgt := 14) hx hb d_Mo_in_7 (by decide) (fun c2 => ?_) (fun c2 => ?_)
  · skip
    refine lv_iconst (v := 0) hx hb d_Mo_in_14 (by decide) ?_
    exact ly_zret hx hb hr hlocks hP hD hS d_Mo_in_15 (by decide) (by rw [s_Mo_in, if_neg c1, if_pos c2]) rfl
  refine lv_iconst (v := 1) hx hb d_Mo_in_10 (by decide) ?_
  refine lv_goto (tgt := 15) hx hb d_Mo_in_11 (by decide) ?_
  exact ly_zret hx hb hr hlocks hP hD hS d_Mo_in_15 (by decide) (by rw [s_Mo_in, if_neg c1, if_neg c2]) rfl

theorem mo_row {v : Int32} (hz : up v 60) (k : Nat) (hk : k < 6) : vp_in (6 * v + nI k) 366 := by
  obtain ⟨n, hn, hn2, rfl⟩ := up_nI hz
  rw [mo_6, nI_add]
  exact vp_in_nI (by omega) (by omega)
theorem mo_row0 {v : Int32} (hz : up v 60) : vp_in (6 * v) 366 := by
  obtain ⟨n, hn, hn2, rfl⟩ := up_nI hz
  rw [mo_6]
  exact vp_in_nI (by omega) (by omega)
set_option maxHeartbeats 4000000 in
set_option maxRecDepth 100000 in
theorem c_Mo_row (l : Launch) (G : GG) (h : Nat) (a_table : Nat) (a_tape : Nat) (a_budget : Nat) (a_spent : Nat) (a_text : Nat) (a_kinds : Nat) (a_values : Nat) (a_scriptKinds : Nat) (a_scriptValues : Nat) (a_isTold : Nat) (a_letOf : Nat) (a_code : Nat) (a_letEnd : Nat) (a_letBegin : Nat) (a_sort : Nat) (a_column : Nat) (a_low : Nat) (a_high : Nat) (a_by : Nat) (a_top : Nat) (a_begins : Nat) (a_ends : Nat) (a_scriptCode : Nat) (a_scriptLetBegin : Nat) (a_scriptLetEnd : Nat) (a_aSort : Nat) (a_aColumn : Nat) (a_aLow : Nat) (a_aHigh : Nat) (a_aBy : Nat) (a_aTop : Nat) (a_aBegin : Nat) (a_anEnd : Nat) (a_told : Nat) (a_out : Nat) (a_goals : Nat) (a_withs : Nat) (a_pile : Nat) (a_letValue : Nat) (a_one : Nat) (a_two : Nat) (v_p : Int32) (v_q : Int32) (f_table : Nat → Int32) (v_rows : Int32) (v_cells : Int32) (v_signs : Int32) (v_tokens : Int32) (v_scriptTokens : Int32) (v_at : Int32) (v_place : Int32) (v_kind : Int32) (v_value : Int32) (v_depth : Int32) (v_asked : Int32) (v_lets : Int32) (v_questions : Int32) (v_statements : Int32) (v_size : Int32) (v_hasScript : Int32) (v_scriptLets : Int32) (v_scriptQuestions : Int32) (v_toldCount : Int32) (v_outs : Int32) (v_goalCount : Int32) (x1 : Int32) (x2 : Int32) (x3 : Int32) (x4 : Int32) (x5 : Int32) (x6 : Int32) (hz_v_rows : up v_rows 60) : Det l G y_Mo_row w_Mo_row (rmD 0) 0 0 [.ref h, .int x1, .int x2, .int x3, .int x4, .int x5, .int x6] [(h, .inr (12, .int v_p :: .int v_q :: .ref a_table :: .int v_rows :: .ref a_tape :: .int v_cells :: .ref a_budget :: .ref a_spent :: .ref a_text :: .int v_signs :: .ref a_kinds :: .ref a_values :: .int v_tokens :: .ref a_scriptKinds :: .ref a_scriptValues :: .int v_scriptTokens :: .int v_at :: .int v_place :: .int v_kind :: .int v_value :: .int v_depth :: .int v_asked :: .int v_lets :: .int v_questions :: .int v_statements :: .ref a_isTold :: .ref a_letOf :: .ref a_code :: .int v_size :: .ref a_letEnd :: .ref a_letBegin :: .ref a_sort :: .ref a_column :: .ref a_low :: .ref a_high :: .ref a_by :: .ref a_top :: .ref a_begins :: .ref a_ends :: .int v_hasScript :: .int v_scriptLets :: .int v_scriptQuestions :: .ref a_scriptCode :: .ref a_scriptLetBegin :: .ref a_scriptLetEnd :: .ref a_aSort :: .ref a_aColumn :: .ref a_aLow :: .ref a_aHigh :: .ref a_aBy :: .ref a_aTop :: .ref a_aBegin :: .ref a_anEnd :: .ref a_told :: .int v_toldCount :: .ref a_out :: .int v_outs :: .ref a_goals :: .ref a_withs :: .int v_goalCount :: .ref a_pile :: .ref a_letValue :: .ref a_one :: .ref a_two :: [])), (a_table, .inl (gI G, 366, .inl f_table))] (some (.int (s_Mo_row f_table v_rows x1 x2 x3 x4 x5 x6).1)) [(h, .inr (12, .int v_p :: .int v_q :: .ref a_table :: .int (s_Mo_row f_table v_rows x1 x2 x3 x4 x5 x6).2.1 :: .ref a_tape :: .int v_cells :: .ref a_budget :: .ref a_spent :: .ref a_text :: .int v_signs :: .ref a_kinds :: .ref a_values :: .int v_tokens :: .ref a_scriptKinds :: .ref a_scriptValues :: .int v_scriptTokens :: .int v_at :: .int v_place :: .int v_kind :: .int v_value :: .int v_depth :: .int v_asked :: .int v_lets :: .int v_questions :: .int v_statements :: .ref a_isTold :: .ref a_letOf :: .ref a_code :: .int v_size :: .ref a_letEnd :: .ref a_letBegin :: .ref a_sort :: .ref a_column :: .ref a_low :: .ref a_high :: .ref a_by :: .ref a_top :: .ref a_begins :: .ref a_ends :: .int v_hasScript :: .int v_scriptLets :: .int v_scriptQuestions :: .ref a_scriptCode :: .ref a_scriptLetBegin :: .ref a_scriptLetEnd :: .ref a_aSort :: .ref a_aColumn :: .ref a_aLow :: .ref a_aHigh :: .ref a_aBy :: .ref a_aTop :: .ref a_aBegin :: .ref a_anEnd :: .ref a_told :: .int v_toldCount :: .ref a_out :: .int v_outs :: .ref a_goals :: .ref a_withs :: .int v_goalCount :: .ref a_pile :: .ref a_letValue :: .ref a_one :: .ref a_two :: [])), (a_table, .inl (gI G, 366, .inl (s_Mo_row f_table v_rows x1 x2 x3 x4 x5 x6).2.2))] := by
  refine Det.of (cc := b_Mo_row) (maxL := 8) (ret := (some .int)) (by decide) rfl (Nat.le_of_ble_eq_true rfl) ?_
  intro p e s m args below meth c A ls hx hb hr hml hown hts hlocks hin hA hK hZ hP hD hS hl
  have hts : ∀ w ∈ wG, w.before args s = true := fun w h => hts w (List.mem_cons_of_mem _ h)
  have hown : s.vm.findClass R_Mo = some m.cls := hown
  have hl : lv_has ls 8 [(0, .ref h), (1, .int x1), (2, .int x2), (3, .int x3), (4, .int x4), (5, .int x5), (6, .int x6)] := hl
  refine lv_aload_n hx hb d_Mo_row_0 rfl (lv_at hl 0 rfl) ?_
  refine va_get (D := G.1) (ci := 12) (C := R_Mo) (T := F_Mo) (N := 64) (v := .int v_rows) hx hb hts i_Mo hown hK hP 0 rfl rfl 3 (by decide) (hts (.fieldLink R_Mo 141 "PrivateQueriesModel" "rows" "I") k_172) (fun _ h9 => h9) rfl d_Mo_row_1 ?_
  refine lv_bipush (v := 60) hx hb d_Mo_row_4 (by decide) ?_
  refine lv_icmp_ne (tgt := 12) hx hb d_Mo_row_6 (by decide) (fun c1 => ?_) (fun c1 => ?_)
  · skip
    refine lv_bipush (v := 6) hx hb d_Mo_row_12 (by decide) ?_
    refine lv_aload_n hx hb d_Mo_row_14 rfl (lv_at hl 0 rfl) ?_
    refine va_get (D := G.1) (ci := 12) (C := R_Mo) (T := F_Mo) (N := 64) (v := .int v_rows) hx hb hts i_Mo hown hK hP 0 rfl rfl 3 (by decide) (hts (.fieldLink R_Mo 141 "PrivateQueriesModel" "rows" "I") k_172) (fun _ h9 => h9) rfl d_Mo_row_15 ?_
    refine lv_imul hx hb d_Mo_row_18 ?_
    refine lv_istore (lv' := [(7, .int (6 * v_rows)), (0, .ref h), (1, .int x1), (2, .int x2), (3, .int x3), (4, .int x4), (5, .int x5), (6, .int x6)]) hx hb d_Mo_row_19 hl (by decide) rfl (fun ls hl => ?_)
    refine lv_aload_n hx hb d_Mo_row_21 rfl (lv_at hl 1 rfl) ?_
    refine va_get (D := G.1) (ci := 12) (C := R_Mo) (T := F_Mo) (N := 64) (v := .ref a_table) hx hb hts i_Mo hown hK hP 0 rfl rfl 2 (by decide) (hts (.fieldLink R_Mo 7 "PrivateQueriesModel" "table" "[I") k_173) (fun _ h9 => h9) rfl d_Mo_row_22 ?_
    refine lv_iload hx hb d_Mo_row_25 (lv_at hl 0 rfl) ?_
    refine lv_iload_n hx hb d_Mo_row_27 rfl (lv_at hl 2 rfl) ?_
    refine va_iast hx hb hK hP hD hS 1 0 rfl rfl (mo_row0 hz_v_rows) d_Mo_row_28 (fun H locs hP hD hS => ?_)
    have hP : va_P G.1 classes [(h, .inr (12, .int v_p :: .int v_q :: .ref a_table :: .int v_rows :: .ref a_tape :: .int v_cells :: .ref a_budget :: .ref a_spent :: .ref a_text :: .int v_signs :: .ref a_kinds :: .ref a_values :: .int v_tokens :: .ref a_scriptKinds :: .ref a_scriptValues :: .int v_scriptTokens :: .int v_at :: .int v_place :: .int v_kind :: .int v_value :: .int v_depth :: .int v_asked :: .int v_lets :: .int v_questions :: .int v_statements :: .ref a_isTold :: .ref a_letOf :: .ref a_code :: .int v_size :: .ref a_letEnd :: .ref a_letBegin :: .ref a_sort :: .ref a_column :: .ref a_low :: .ref a_high :: .ref a_by :: .ref a_top :: .ref a_begins :: .ref a_ends :: .int v_hasScript :: .int v_scriptLets :: .int v_scriptQuestions :: .ref a_scriptCode :: .ref a_scriptLetBegin :: .ref a_scriptLetEnd :: .ref a_aSort :: .ref a_aColumn :: .ref a_aLow :: .ref a_aHigh :: .ref a_aBy :: .ref a_aTop :: .ref a_aBegin :: .ref a_anEnd :: .ref a_told :: .int v_toldCount :: .ref a_out :: .int v_outs :: .ref a_goals :: .ref a_withs :: .int v_goalCount :: .ref a_pile :: .ref a_letValue :: .ref a_one :: .ref a_two :: [])), (a_table, .inl (gI G, 366, .inl (upd f_table (6 * v_rows).toNatClampNeg x1)))] H := hP
    have hD : va_D A [(h, .inr (12, .int v_p :: .int v_q :: .ref a_table :: .int v_rows :: .ref a_tape :: .int v_cells :: .ref a_budget :: .ref a_spent :: .ref a_text :: .int v_signs :: .ref a_kinds :: .ref a_values :: .int v_tokens :: .ref a_scriptKinds :: .ref a_scriptValues :: .int v_scriptTokens :: .int v_at :: .int v_place :: .int v_kind :: .int v_value :: .int v_depth :: .int v_asked :: .int v_lets :: .int v_questions :: .int v_statements :: .ref a_isTold :: .ref a_letOf :: .ref a_code :: .int v_size :: .ref a_letEnd :: .ref a_letBegin :: .ref a_sort :: .ref a_column :: .ref a_low :: .ref a_high :: .ref a_by :: .ref a_top :: .ref a_begins :: .ref a_ends :: .int v_hasScript :: .int v_scriptLets :: .int v_scriptQuestions :: .ref a_scriptCode :: .ref a_scriptLetBegin :: .ref a_scriptLetEnd :: .ref a_aSort :: .ref a_aColumn :: .ref a_aLow :: .ref a_aHigh :: .ref a_aBy :: .ref a_aTop :: .ref a_aBegin :: .ref a_anEnd :: .ref a_told :: .int v_toldCount :: .ref a_out :: .int v_outs :: .ref a_goals :: .ref a_withs :: .int v_goalCount :: .ref a_pile :: .ref a_letValue :: .ref a_one :: .ref a_two :: [])), (a_table, .inl (gI G, 366, .inl (upd f_table (6 * v_rows).toNatClampNeg x1)))] := hD
    refine lv_aload_n hx hb d_Mo_row_29 rfl (lv_at hl 1 rfl) ?_
    refine va_get (D := G.1) (ci := 12) (C := R_Mo) (T := F_Mo) (N := 64) (v := .ref a_table) hx hb hts i_Mo hown hK hP 0 rfl rfl 2 (by decide) (hts (.fieldLink R_Mo 7 "PrivateQueriesModel" "table" "[I") k_173) (fun _ h9 => h9) rfl d_Mo_row_30 ?_
    refine lv_iload hx hb d_Mo_row_33 (lv_at hl 0 rfl) ?_
    refine lv_iconst (v := 1) hx hb d_Mo_row_35 (by decide) ?_
    refine lv_iadd hx hb d_Mo_row_36 ?_
    refine lv_iload_n hx hb d_Mo_row_37 rfl (lv_at hl 3 rfl) ?_
    refine va_iast hx hb hK hP hD hS 1 0 rfl rfl (mo_row hz_v_rows 1 (by decide)) d_Mo_row_38 (fun H locs hP hD hS => ?_)
    have hP : va_P G.1 classes [(h, .inr (12, .int v_p :: .int v_q :: .ref a_table :: .int v_rows :: .ref a_tape :: .int v_cells :: .ref a_budget :: .ref a_spent :: .ref a_text :: .int v_signs :: .ref a_kinds :: .ref a_values :: .int v_tokens :: .ref a_scriptKinds :: .ref a_scriptValues :: .int v_scriptTokens :: .int v_at :: .int v_place :: .int v_kind :: .int v_value :: .int v_depth :: .int v_asked :: .int v_lets :: .int v_questions :: .int v_statements :: .ref a_isTold :: .ref a_letOf :: .ref a_code :: .int v_size :: .ref a_letEnd :: .ref a_letBegin :: .ref a_sort :: .ref a_column :: .ref a_low :: .ref a_high :: .ref a_by :: .ref a_top :: .ref a_begins :: .ref a_ends :: .int v_hasScript :: .int v_scriptLets :: .int v_scriptQuestions :: .ref a_scriptCode :: .ref a_scriptLetBegin :: .ref a_scriptLetEnd :: .ref a_aSort :: .ref a_aColumn :: .ref a_aLow :: .ref a_aHigh :: .ref a_aBy :: .ref a_aTop :: .ref a_aBegin :: .ref a_anEnd :: .ref a_told :: .int v_toldCount :: .ref a_out :: .int v_outs :: .ref a_goals :: .ref a_withs :: .int v_goalCount :: .ref a_pile :: .ref a_letValue :: .ref a_one :: .ref a_two :: [])), (a_table, .inl (gI G, 366, .inl (upd (upd f_table (6 * v_rows).toNatClampNeg x1) ((6 * v_rows) + 1).toNatClampNeg x2)))] H := hP
    have hD : va_D A [(h, .inr (12, .int v_p :: .int v_q :: .ref a_table :: .int v_rows :: .ref a_tape :: .int v_cells :: .ref a_budget :: .ref a_spent :: .ref a_text :: .int v_signs :: .ref a_kinds :: .ref a_values :: .int v_tokens :: .ref a_scriptKinds :: .ref a_scriptValues :: .int v_scriptTokens :: .int v_at :: .int v_place :: .int v_kind :: .int v_value :: .int v_depth :: .int v_asked :: .int v_lets :: .int v_questions :: .int v_statements :: .ref a_isTold :: .ref a_letOf :: .ref a_code :: .int v_size :: .ref a_letEnd :: .ref a_letBegin :: .ref a_sort :: .ref a_column :: .ref a_low :: .ref a_high :: .ref a_by :: .ref a_top :: .ref a_begins :: .ref a_ends :: .int v_hasScript :: .int v_scriptLets :: .int v_scriptQuestions :: .ref a_scriptCode :: .ref a_scriptLetBegin :: .ref a_scriptLetEnd :: .ref a_aSort :: .ref a_aColumn :: .ref a_aLow :: .ref a_aHigh :: .ref a_aBy :: .ref a_aTop :: .ref a_aBegin :: .ref a_anEnd :: .ref a_told :: .int v_toldCount :: .ref a_out :: .int v_outs :: .ref a_goals :: .ref a_withs :: .int v_goalCount :: .ref a_pile :: .ref a_letValue :: .ref a_one :: .ref a_two :: [])), (a_table, .inl (gI G, 366, .inl (upd (upd f_table (6 * v_rows).toNatClampNeg x1) ((6 * v_rows) + 1).toNatClampNeg x2)))] := hD
    refine lv_aload_n hx hb d_Mo_row_39 rfl (lv_at hl 1 rfl) ?_
    refine va_get (D := G.1) (ci := 12) (C := R_Mo) (T := F_Mo) (N := 64) (v := .ref a_table) hx hb hts i_Mo hown hK hP 0 rfl rfl 2 (by decide) (hts (.fieldLink R_Mo 7 "PrivateQueriesModel" "table" "[I") k_173) (fun _ h9 => h9) rfl d_Mo_row_40 ?_
    refine lv_iload hx hb d_Mo_row_43 (lv_at hl 0 rfl) ?_
    refine lv_iconst (v := 2) hx hb d_Mo_row_45 (by decide) ?_
    refine lv_iadd hx hb d_Mo_row_46 ?_
    refine lv_iload_n hx hb d_Mo_row_47 rfl (lv_at hl 4 rfl) ?_
    refine va_iast hx hb hK hP hD hS 1 0 rfl rfl (mo_row hz_v_rows 2 (by decide)) d_Mo_row_48 (fun H locs hP hD hS => ?_)
    have hP : va_P G.1 classes [(h, .inr (12, .int v_p :: .int v_q :: .ref a_table :: .int v_rows :: .ref a_tape :: .int v_cells :: .ref a_budget :: .ref a_spent :: .ref a_text :: .int v_signs :: .ref a_kinds :: .ref a_values :: .int v_tokens :: .ref a_scriptKinds :: .ref a_scriptValues :: .int v_scriptTokens :: .int v_at :: .int v_place :: .int v_kind :: .int v_value :: .int v_depth :: .int v_asked :: .int v_lets :: .int v_questions :: .int v_statements :: .ref a_isTold :: .ref a_letOf :: .ref a_code :: .int v_size :: .ref a_letEnd :: .ref a_letBegin :: .ref a_sort :: .ref a_column :: .ref a_low :: .ref a_high :: .ref a_by :: .ref a_top :: .ref a_begins :: .ref a_ends :: .int v_hasScript :: .int v_scriptLets :: .int v_scriptQuestions :: .ref a_scriptCode :: .ref a_scriptLetBegin :: .ref a_scriptLetEnd :: .ref a_aSort :: .ref a_aColumn :: .ref a_aLow :: .ref a_aHigh :: .ref a_aBy :: .ref a_aTop :: .ref a_aBegin :: .ref a_anEnd :: .ref a_told :: .int v_toldCount :: .ref a_out :: .int v_outs :: .ref a_goals :: .ref a_withs :: .int v_goalCount :: .ref a_pile :: .ref a_letValue :: .ref a_one :: .ref a_two :: [])), (a_table, .inl (gI G, 366, .inl (upd (upd (upd f_table (6 * v_rows).toNatClampNeg x1) ((6 * v_rows) + 1).toNatClampNeg x2) ((6 * v_rows) + 2).toNatClampNeg x3)))] H := hP
    have hD : va_D A [(h, .inr (12, .int v_p :: .int v_q :: .ref a_table :: .int v_rows :: .ref a_tape :: .int v_cells :: .ref a_budget :: .ref a_spent :: .ref a_text :: .int v_signs :: .ref a_kinds :: .ref a_values :: .int v_tokens :: .ref a_scriptKinds :: .ref a_scriptValues :: .int v_scriptTokens :: .int v_at :: .int v_place :: .int v_kind :: .int v_value :: .int v_depth :: .int v_asked :: .int v_lets :: .int v_questions :: .int v_statements :: .ref a_isTold :: .ref a_letOf :: .ref a_code :: .int v_size :: .ref a_letEnd :: .ref a_letBegin :: .ref a_sort :: .ref a_column :: .ref a_low :: .ref a_high :: .ref a_by :: .ref a_top :: .ref a_begins :: .ref a_ends :: .int v_hasScript :: .int v_scriptLets :: .int v_scriptQuestions :: .ref a_scriptCode :: .ref a_scriptLetBegin :: .ref a_scriptLetEnd :: .ref a_aSort :: .ref a_aColumn :: .ref a_aLow :: .ref a_aHigh :: .ref a_aBy :: .ref a_aTop :: .ref a_aBegin :: .ref a_anEnd :: .ref a_told :: .int v_toldCount :: .ref a_out :: .int v_outs :: .ref a_goals :: .ref a_withs :: .int v_goalCount :: .ref a_pile :: .ref a_letValue :: .ref a_one :: .ref a_two :: [])), (a_table, .inl (gI G, 366, .inl (upd (upd (upd f_table (6 * v_rows).toNatClampNeg x1) ((6 * v_rows) + 1).toNatClampNeg x2) ((6 * v_rows) + 2).toNatClampNeg x3)))] := hD
    refine lv_aload_n hx hb d_Mo_row_49 rfl (lv_at hl 1 rfl) ?_
    refine va_get (D := G.1) (ci := 12) (C := R_Mo) (T := F_Mo) (N := 64) (v := .ref a_table) hx hb hts i_Mo hown hK hP 0 rfl rfl 2 (by decide) (hts (.fieldLink R_Mo 7 "PrivateQueriesModel" "table" "[I") k_173) (fun _ h9 => h9) rfl d_Mo_row_50 ?_
    refine lv_iload hx hb d_Mo_row_53 (lv_at hl 0 rfl) ?_
    refine lv_iconst (v := 3) hx hb d_Mo_row_55 (by decide) ?_
    refine lv_iadd hx hb d_Mo_row_56 ?_
    refine lv_iload hx hb d_Mo_row_57 (lv_at hl 5 rfl) ?_
    refine va_iast hx hb hK hP hD hS 1 0 rfl rfl (mo_row hz_v_rows 3 (by decide)) d_Mo_row_59 (fun H locs hP hD hS => ?_)
    have hP : va_P G.1 classes [(h, .inr (12, .int v_p :: .int v_q :: .ref a_table :: .int v_rows :: .ref a_tape :: .int v_cells :: .ref a_budget :: .ref a_spent :: .ref a_text :: .int v_signs :: .ref a_kinds :: .ref a_values :: .int v_tokens :: .ref a_scriptKinds :: .ref a_scriptValues :: .int v_scriptTokens :: .int v_at :: .int v_place :: .int v_kind :: .int v_value :: .int v_depth :: .int v_asked :: .int v_lets :: .int v_questions :: .int v_statements :: .ref a_isTold :: .ref a_letOf :: .ref a_code :: .int v_size :: .ref a_letEnd :: .ref a_letBegin :: .ref a_sort :: .ref a_column :: .ref a_low :: .ref a_high :: .ref a_by :: .ref a_top :: .ref a_begins :: .ref a_ends :: .int v_hasScript :: .int v_scriptLets :: .int v_scriptQuestions :: .ref a_scriptCode :: .ref a_scriptLetBegin :: .ref a_scriptLetEnd :: .ref a_aSort :: .ref a_aColumn :: .ref a_aLow :: .ref a_aHigh :: .ref a_aBy :: .ref a_aTop :: .ref a_aBegin :: .ref a_anEnd :: .ref a_told :: .int v_toldCount :: .ref a_out :: .int v_outs :: .ref a_goals :: .ref a_withs :: .int v_goalCount :: .ref a_pile :: .ref a_letValue :: .ref a_one :: .ref a_two :: [])), (a_table, .inl (gI G, 366, .inl (upd (upd (upd (upd f_table (6 * v_rows).toNatClampNeg x1) ((6 * v_rows) + 1).toNatClampNeg x2) ((6 * v_rows) + 2).toNatClampNeg x3) ((6 * v_rows) + 3).toNatClampNeg x4)))] H := hP
    have hD : va_D A [(h, .inr (12, .int v_p :: .int v_q :: .ref a_table :: .int v_rows :: .ref a_tape :: .int v_cells :: .ref a_budget :: .ref a_spent :: .ref a_text :: .int v_signs :: .ref a_kinds :: .ref a_values :: .int v_tokens :: .ref a_scriptKinds :: .ref a_scriptValues :: .int v_scriptTokens :: .int v_at :: .int v_place :: .int v_kind :: .int v_value :: .int v_depth :: .int v_asked :: .int v_lets :: .int v_questions :: .int v_statements :: .ref a_isTold :: .ref a_letOf :: .ref a_code :: .int v_size :: .ref a_letEnd :: .ref a_letBegin :: .ref a_sort :: .ref a_column :: .ref a_low :: .ref a_high :: .ref a_by :: .ref a_top :: .ref a_begins :: .ref a_ends :: .int v_hasScript :: .int v_scriptLets :: .int v_scriptQuestions :: .ref a_scriptCode :: .ref a_scriptLetBegin :: .ref a_scriptLetEnd :: .ref a_aSort :: .ref a_aColumn :: .ref a_aLow :: .ref a_aHigh :: .ref a_aBy :: .ref a_aTop :: .ref a_aBegin :: .ref a_anEnd :: .ref a_told :: .int v_toldCount :: .ref a_out :: .int v_outs :: .ref a_goals :: .ref a_withs :: .int v_goalCount :: .ref a_pile :: .ref a_letValue :: .ref a_one :: .ref a_two :: [])), (a_table, .inl (gI G, 366, .inl (upd (upd (upd (upd f_table (6 * v_rows).toNatClampNeg x1) ((6 * v_rows) + 1).toNatClampNeg x2) ((6 * v_rows) + 2).toNatClampNeg x3) ((6 * v_rows) + 3).toNatClampNeg x4)))] := hD
    refine lv_aload_n hx hb d_Mo_row_60 rfl (lv_at hl 1 rfl) ?_
    refine va_get (D := G.1) (ci := 12) (C := R_Mo) (T := F_Mo) (N := 64) (v := .ref a_table) hx hb hts i_Mo hown hK hP 0 rfl rfl 2 (by decide) (hts (.fieldLink R_Mo 7 "PrivateQueriesModel" "table" "[I") k_173) (fun _ h9 => h9) rfl d_Mo_row_61 ?_
    refine lv_iload hx hb d_Mo_row_64 (lv_at hl 0 rfl) ?_
    refine lv_iconst (v := 4) hx hb d_Mo_row_66 (by decide) ?_
    refine lv_iadd hx hb d_Mo_row_67 ?_
    refine lv_iload hx hb d_Mo_row_68 (lv_at hl 6 rfl) ?_
    refine va_iast hx hb hK hP hD hS 1 0 rfl rfl (mo_row hz_v_rows 4 (by decide)) d_Mo_row_70 (fun H locs hP hD hS => ?_)
    have hP : va_P G.1 classes [(h, .inr (12, .int v_p :: .int v_q :: .ref a_table :: .int v_rows :: .ref a_tape :: .int v_cells :: .ref a_budget :: .ref a_spent :: .ref a_text :: .int v_signs :: .ref a_kinds :: .ref a_values :: .int v_tokens :: .ref a_scriptKinds :: .ref a_scriptValues :: .int v_scriptTokens :: .int v_at :: .int v_place :: .int v_kind :: .int v_value :: .int v_depth :: .int v_asked :: .int v_lets :: .int v_questions :: .int v_statements :: .ref a_isTold :: .ref a_letOf :: .ref a_code :: .int v_size :: .ref a_letEnd :: .ref a_letBegin :: .ref a_sort :: .ref a_column :: .ref a_low :: .ref a_high :: .ref a_by :: .ref a_top :: .ref a_begins :: .ref a_ends :: .int v_hasScript :: .int v_scriptLets :: .int v_scriptQuestions :: .ref a_scriptCode :: .ref a_scriptLetBegin :: .ref a_scriptLetEnd :: .ref a_aSort :: .ref a_aColumn :: .ref a_aLow :: .ref a_aHigh :: .ref a_aBy :: .ref a_aTop :: .ref a_aBegin :: .ref a_anEnd :: .ref a_told :: .int v_toldCount :: .ref a_out :: .int v_outs :: .ref a_goals :: .ref a_withs :: .int v_goalCount :: .ref a_pile :: .ref a_letValue :: .ref a_one :: .ref a_two :: [])), (a_table, .inl (gI G, 366, .inl (upd (upd (upd (upd (upd f_table (6 * v_rows).toNatClampNeg x1) ((6 * v_rows) + 1).toNatClampNeg x2) ((6 * v_rows) + 2).toNatClampNeg x3) ((6 * v_rows) + 3).toNatClampNeg x4) ((6 * v_rows) + 4).toNatClampNeg x5)))] H := hP
    have hD : va_D A [(h, .inr (12, .int v_p :: .int v_q :: .ref a_table :: .int v_rows :: .ref a_tape :: .int v_cells :: .ref a_budget :: .ref a_spent :: .ref a_text :: .int v_signs :: .ref a_kinds :: .ref a_values :: .int v_tokens :: .ref a_scriptKinds :: .ref a_scriptValues :: .int v_scriptTokens :: .int v_at :: .int v_place :: .int v_kind :: .int v_value :: .int v_depth :: .int v_asked :: .int v_lets :: .int v_questions :: .int v_statements :: .ref a_isTold :: .ref a_letOf :: .ref a_code :: .int v_size :: .ref a_letEnd :: .ref a_letBegin :: .ref a_sort :: .ref a_column :: .ref a_low :: .ref a_high :: .ref a_by :: .ref a_top :: .ref a_begins :: .ref a_ends :: .int v_hasScript :: .int v_scriptLets :: .int v_scriptQuestions :: .ref a_scriptCode :: .ref a_scriptLetBegin :: .ref a_scriptLetEnd :: .ref a_aSort :: .ref a_aColumn :: .ref a_aLow :: .ref a_aHigh :: .ref a_aBy :: .ref a_aTop :: .ref a_aBegin :: .ref a_anEnd :: .ref a_told :: .int v_toldCount :: .ref a_out :: .int v_outs :: .ref a_goals :: .ref a_withs :: .int v_goalCount :: .ref a_pile :: .ref a_letValue :: .ref a_one :: .ref a_two :: [])), (a_table, .inl (gI G, 366, .inl (upd (upd (upd (upd (upd f_table (6 * v_rows).toNatClampNeg x1) ((6 * v_rows) + 1).toNatClampNeg x2) ((6 * v_rows) + 2).toNatClampNeg x3) ((6 * v_rows) + 3).toNatClampNeg x4) ((6 * v_rows) + 4).toNatClampNeg x5)))] := hD
    refine lv_aload_n hx hb d_Mo_row_71 rfl (lv_at hl 1 rfl) ?_
    refine va_get (D := G.1) (ci := 12) (C := R_Mo) (T := F_Mo) (N := 64) (v := .ref a_table) hx hb hts i_Mo hown hK hP 0 rfl rfl 2 (by decide) (hts (.fieldLink R_Mo 7 "PrivateQueriesModel" "table" "[I") k_173) (fun _ h9 => h9) rfl d_Mo_row_72 ?_
    refine lv_iload hx hb d_Mo_row_75 (lv_at hl 0 rfl) ?_
    refine lv_iconst (v := 5) hx hb d_Mo_row_77 (by decide) ?_
    refine lv_iadd hx hb d_Mo_row_78 ?_
    refine lv_iload hx hb d_Mo_row_79 (lv_at hl 7 rfl) ?_
    refine va_iast hx hb hK hP hD hS 1 0 rfl rfl (mo_row hz_v_rows 5 (by decide)) d_Mo_row_81 (fun H locs hP hD hS => ?_)
    have hP : va_P G.1 classes [(h, .inr (12, .int v_p :: .int v_q :: .ref a_table :: .int v_rows :: .ref a_tape :: .int v_cells :: .ref a_budget :: .ref a_spent :: .ref a_text :: .int v_signs :: .ref a_kinds :: .ref a_values :: .int v_tokens :: .ref a_scriptKinds :: .ref a_scriptValues :: .int v_scriptTokens :: .int v_at :: .int v_place :: .int v_kind :: .int v_value :: .int v_depth :: .int v_asked :: .int v_lets :: .int v_questions :: .int v_statements :: .ref a_isTold :: .ref a_letOf :: .ref a_code :: .int v_size :: .ref a_letEnd :: .ref a_letBegin :: .ref a_sort :: .ref a_column :: .ref a_low :: .ref a_high :: .ref a_by :: .ref a_top :: .ref a_begins :: .ref a_ends :: .int v_hasScript :: .int v_scriptLets :: .int v_scriptQuestions :: .ref a_scriptCode :: .ref a_scriptLetBegin :: .ref a_scriptLetEnd :: .ref a_aSort :: .ref a_aColumn :: .ref a_aLow :: .ref a_aHigh :: .ref a_aBy :: .ref a_aTop :: .ref a_aBegin :: .ref a_anEnd :: .ref a_told :: .int v_toldCount :: .ref a_out :: .int v_outs :: .ref a_goals :: .ref a_withs :: .int v_goalCount :: .ref a_pile :: .ref a_letValue :: .ref a_one :: .ref a_two :: [])), (a_table, .inl (gI G, 366, .inl (upd (upd (upd (upd (upd (upd f_table (6 * v_rows).toNatClampNeg x1) ((6 * v_rows) + 1).toNatClampNeg x2) ((6 * v_rows) + 2).toNatClampNeg x3) ((6 * v_rows) + 3).toNatClampNeg x4) ((6 * v_rows) + 4).toNatClampNeg x5) ((6 * v_rows) + 5).toNatClampNeg x6)))] H := hP
    have hD : va_D A [(h, .inr (12, .int v_p :: .int v_q :: .ref a_table :: .int v_rows :: .ref a_tape :: .int v_cells :: .ref a_budget :: .ref a_spent :: .ref a_text :: .int v_signs :: .ref a_kinds :: .ref a_values :: .int v_tokens :: .ref a_scriptKinds :: .ref a_scriptValues :: .int v_scriptTokens :: .int v_at :: .int v_place :: .int v_kind :: .int v_value :: .int v_depth :: .int v_asked :: .int v_lets :: .int v_questions :: .int v_statements :: .ref a_isTold :: .ref a_letOf :: .ref a_code :: .int v_size :: .ref a_letEnd :: .ref a_letBegin :: .ref a_sort :: .ref a_column :: .ref a_low :: .ref a_high :: .ref a_by :: .ref a_top :: .ref a_begins :: .ref a_ends :: .int v_hasScript :: .int v_scriptLets :: .int v_scriptQuestions :: .ref a_scriptCode :: .ref a_scriptLetBegin :: .ref a_scriptLetEnd :: .ref a_aSort :: .ref a_aColumn :: .ref a_aLow :: .ref a_aHigh :: .ref a_aBy :: .ref a_aTop :: .ref a_aBegin :: .ref a_anEnd :: .ref a_told :: .int v_toldCount :: .ref a_out :: .int v_outs :: .ref a_goals :: .ref a_withs :: .int v_goalCount :: .ref a_pile :: .ref a_letValue :: .ref a_one :: .ref a_two :: [])), (a_table, .inl (gI G, 366, .inl (upd (upd (upd (upd (upd (upd f_table (6 * v_rows).toNatClampNeg x1) ((6 * v_rows) + 1).toNatClampNeg x2) ((6 * v_rows) + 2).toNatClampNeg x3) ((6 * v_rows) + 3).toNatClampNeg x4) ((6 * v_rows) + 4).toNatClampNeg x5) ((6 * v_rows) + 5).toNatClampNeg x6)))] := hD
    refine lv_aload_n hx hb d_Mo_row_82 rfl (lv_at hl 1 rfl) ?_
    refine lv_dup hx hb d_Mo_row_83 rfl ?_
    refine va_get (D := G.1) (ci := 12) (C := R_Mo) (T := F_Mo) (N := 64) (v := .int v_rows) hx hb hts i_Mo hown hK hP 0 rfl rfl 3 (by decide) (hts (.fieldLink R_Mo 141 "PrivateQueriesModel" "rows" "I") k_172) (fun _ h9 => h9) rfl d_Mo_row_84 ?_
    refine lv_iconst (v := 1) hx hb d_Mo_row_87 (by decide) ?_
    refine lv_iadd hx hb d_Mo_row_88 ?_
    refine va_put (D := G.1) (ci := 12) (v := .int (v_rows + 1)) (ty := .int) (C := R_Mo) (T := F_Mo) (N := 64) hx hb hts i_Mo t_Mo t_Mo_ok n_Mo hown hK hP hD hS 0 rfl rfl 3 (by decide) (hts (.fieldLink R_Mo 141 "PrivateQueriesModel" "rows" "I") k_172) (fun _ h9 => h9) rfl (by decide +kernel) rfl rfl (Nat.le_of_ble_eq_true rfl) d_Mo_row_89 (fun H locs hP hD hS => ?_)
    have hP : va_P G.1 classes [(h, .inr (12, .int v_p :: .int v_q :: .ref a_table :: .int (v_rows + 1) :: .ref a_tape :: .int v_cells :: .ref a_budget :: .ref a_spent :: .ref a_text :: .int v_signs :: .ref a_kinds :: .ref a_values :: .int v_tokens :: .ref a_scriptKinds :: .ref a_scriptValues :: .int v_scriptTokens :: .int v_at :: .int v_place :: .int v_kind :: .int v_value :: .int v_depth :: .int v_asked :: .int v_lets :: .int v_questions :: .int v_statements :: .ref a_isTold :: .ref a_letOf :: .ref a_code :: .int v_size :: .ref a_letEnd :: .ref a_letBegin :: .ref a_sort :: .ref a_column :: .ref a_low :: .ref a_high :: .ref a_by :: .ref a_top :: .ref a_begins :: .ref a_ends :: .int v_hasScript :: .int v_scriptLets :: .int v_scriptQuestions :: .ref a_scriptCode :: .ref a_scriptLetBegin :: .ref a_scriptLetEnd :: .ref a_aSort :: .ref a_aColumn :: .ref a_aLow :: .ref a_aHigh :: .ref a_aBy :: .ref a_aTop :: .ref a_aBegin :: .ref a_anEnd :: .ref a_told :: .int v_toldCount :: .ref a_out :: .int v_outs :: .ref a_goals :: .ref a_withs :: .int v_goalCount :: .ref a_pile :: .ref a_letValue :: .ref a_one :: .ref a_two :: [])), (a_table, .inl (gI G, 366, .inl (upd (upd (upd (upd (upd (upd f_table (6 * v_rows).toNatClampNeg x1) ((6 * v_rows) + 1).toNatClampNeg x2) ((6 * v_rows) + 2).toNatClampNeg x3) ((6 * v_rows) + 3).toNatClampNeg x4) ((6 * v_rows) + 4).toNatClampNeg x5) ((6 * v_rows) + 5).toNatClampNeg x6)))] H := hP
    have hD : va_D A [(h, .inr (12, .int v_p :: .int v_q :: .ref a_table :: .int (v_rows + 1) :: .ref a_tape :: .int v_cells :: .ref a_budget :: .ref a_spent :: .ref a_text :: .int v_signs :: .ref a_kinds :: .ref a_values :: .int v_tokens :: .ref a_scriptKinds :: .ref a_scriptValues :: .int v_scriptTokens :: .int v_at :: .int v_place :: .int v_kind :: .int v_value :: .int v_depth :: .int v_asked :: .int v_lets :: .int v_questions :: .int v_statements :: .ref a_isTold :: .ref a_letOf :: .ref a_code :: .int v_size :: .ref a_letEnd :: .ref a_letBegin :: .ref a_sort :: .ref a_column :: .ref a_low :: .ref a_high :: .ref a_by :: .ref a_top :: .ref a_begins :: .ref a_ends :: .int v_hasScript :: .int v_scriptLets :: .int v_scriptQuestions :: .ref a_scriptCode :: .ref a_scriptLetBegin :: .ref a_scriptLetEnd :: .ref a_aSort :: .ref a_aColumn :: .ref a_aLow :: .ref a_aHigh :: .ref a_aBy :: .ref a_aTop :: .ref a_aBegin :: .ref a_anEnd :: .ref a_told :: .int v_toldCount :: .ref a_out :: .int v_outs :: .ref a_goals :: .ref a_withs :: .int v_goalCount :: .ref a_pile :: .ref a_letValue :: .ref a_one :: .ref a_two :: [])), (a_table, .inl (gI G, 366, .inl (upd (upd (upd (upd (upd (upd f_table (6 * v_rows).toNatClampNeg x1) ((6 * v_rows) + 1).toNatClampNeg x2) ((6 * v_rows) + 2).toNatClampNeg x3) ((6 * v_rows) + 3).toNatClampNeg x4) ((6 * v_rows) + 4).toNatClampNeg x5) ((6 * v_rows) + 5).toNatClampNeg x6)))] := hD
    refine lv_aload_n hx hb d_Mo_row_92 rfl (lv_at hl 1 rfl) ?_
    refine va_get (D := G.1) (ci := 12) (C := R_Mo) (T := F_Mo) (N := 64) (v := .int (v_rows + 1)) hx hb hts i_Mo hown hK hP 0 rfl rfl 3 (by decide) (hts (.fieldLink R_Mo 141 "PrivateQueriesModel" "rows" "I") k_172) (fun _ h9 => h9) rfl d_Mo_row_93 ?_
    refine lv_iconst (v := 1) hx hb d_Mo_row_96 (by decide) ?_
    refine lv_isub hx hb d_Mo_row_97 ?_
    exact ly_iret hx hb hr hlocks hP hD hS d_Mo_row_98 (by rw [s_Mo_row, if_neg c1]) (by rw [s_Mo_row, if_neg c1])
  refine lv_bipush (v := (-106)) hx hb d_Mo_row_9 (by decide) ?_
  exact ly_iret hx hb hr hlocks hP hD hS d_Mo_row_11 (by rw [s_Mo_row, if_pos c1]) (by rw [s_Mo_row, if_pos c1])

theorem z_Mo_isCell {v_p : Int32} {v_q : Int32} {x : Int32} : isB (s_Mo_isCell v_p v_q x) := by
  rw [s_Mo_isCell]
  by_cases ct1 : x < 0
  · rw [if_pos ct1]
    first | exact isB_0 | exact isB_1 | assumption
  rw [if_neg ct1]
  by_cases ct2 : (v_q * (v_p + v_q)) ≤ x
  · rw [if_pos ct2]
    first | exact isB_0 | exact isB_1 | assumption
  rw [if_neg ct2]
  first | exact isB_0 | exact isB_1 | assumption
set_option maxHeartbeats 4000000 in
set_option maxRecDepth 100000 in
theorem c_Mo_isCell (l : Launch) (G : GG) (h : Nat) (a_table : Nat) (a_tape : Nat) (a_budget : Nat) (a_spent : Nat) (a_text : Nat) (a_kinds : Nat) (a_values : Nat) (a_scriptKinds : Nat) (a_scriptValues : Nat) (a_isTold : Nat) (a_letOf : Nat) (a_code : Nat) (a_letEnd : Nat) (a_letBegin : Nat) (a_sort : Nat) (a_column : Nat) (a_low : Nat) (a_high : Nat) (a_by : Nat) (a_top : Nat) (a_begins : Nat) (a_ends : Nat) (a_scriptCode : Nat) (a_scriptLetBegin : Nat) (a_scriptLetEnd : Nat) (a_aSort : Nat) (a_aColumn : Nat) (a_aLow : Nat) (a_aHigh : Nat) (a_aBy : Nat) (a_aTop : Nat) (a_aBegin : Nat) (a_anEnd : Nat) (a_told : Nat) (a_out : Nat) (a_goals : Nat) (a_withs : Nat) (a_pile : Nat) (a_letValue : Nat) (a_one : Nat) (a_two : Nat) (v_p : Int32) (v_q : Int32) (v_rows : Int32) (v_cells : Int32) (v_signs : Int32) (v_tokens : Int32) (v_scriptTokens : Int32) (v_at : Int32) (v_place : Int32) (v_kind : Int32) (v_value : Int32) (v_depth : Int32) (v_asked : Int32) (v_lets : Int32) (v_questions : Int32) (v_statements : Int32) (v_size : Int32) (v_hasScript : Int32) (v_scriptLets : Int32) (v_scriptQuestions : Int32) (v_toldCount : Int32) (v_outs : Int32) (v_goalCount : Int32) (x : Int32) : Det l G y_Mo_isCell w_Mo_isCell (rmD 0) 0 0 [.ref h, .int x] [(h, .inr (12, .int v_p :: .int v_q :: .ref a_table :: .int v_rows :: .ref a_tape :: .int v_cells :: .ref a_budget :: .ref a_spent :: .ref a_text :: .int v_signs :: .ref a_kinds :: .ref a_values :: .int v_tokens :: .ref a_scriptKinds :: .ref a_scriptValues :: .int v_scriptTokens :: .int v_at :: .int v_place :: .int v_kind :: .int v_value :: .int v_depth :: .int v_asked :: .int v_lets :: .int v_questions :: .int v_statements :: .ref a_isTold :: .ref a_letOf :: .ref a_code :: .int v_size :: .ref a_letEnd :: .ref a_letBegin :: .ref a_sort :: .ref a_column :: .ref a_low :: .ref a_high :: .ref a_by :: .ref a_top :: .ref a_begins :: .ref a_ends :: .int v_hasScript :: .int v_scriptLets :: .int v_scriptQuestions :: .ref a_scriptCode :: .ref a_scriptLetBegin :: .ref a_scriptLetEnd :: .ref a_aSort :: .ref a_aColumn :: .ref a_aLow :: .ref a_aHigh :: .ref a_aBy :: .ref a_aTop :: .ref a_aBegin :: .ref a_anEnd :: .ref a_told :: .int v_toldCount :: .ref a_out :: .int v_outs :: .ref a_goals :: .ref a_withs :: .int v_goalCount :: .ref a_pile :: .ref a_letValue :: .ref a_one :: .ref a_two :: []))] (some (.int (s_Mo_isCell v_p v_q x))) [(h, .inr (12, .int v_p :: .int v_q :: .ref a_table :: .int v_rows :: .ref a_tape :: .int v_cells :: .ref a_budget :: .ref a_spent :: .ref a_text :: .int v_signs :: .ref a_kinds :: .ref a_values :: .int v_tokens :: .ref a_scriptKinds :: .ref a_scriptValues :: .int v_scriptTokens :: .int v_at :: .int v_place :: .int v_kind :: .int v_value :: .int v_depth :: .int v_asked :: .int v_lets :: .int v_questions :: .int v_statements :: .ref a_isTold :: .ref a_letOf :: .ref a_code :: .int v_size :: .ref a_letEnd :: .ref a_letBegin :: .ref a_sort :: .ref a_column :: .ref a_low :: .ref a_high :: .ref a_by :: .ref a_top :: .ref a_begins :: .ref a_ends :: .int v_hasScript :: .int v_scriptLets :: .int v_scriptQuestions :: .ref a_scriptCode :: .ref a_scriptLetBegin :: .ref a_scriptLetEnd :: .ref a_aSort :: .ref a_aColumn :: .ref a_aLow :: .ref a_aHigh :: .ref a_aBy :: .ref a_aTop :: .ref a_aBegin :: .ref a_anEnd :: .ref a_told :: .int v_toldCount :: .ref a_out :: .int v_outs :: .ref a_goals :: .ref a_withs :: .int v_goalCount :: .ref a_pile :: .ref a_letValue :: .ref a_one :: .ref a_two :: []))] := by
  refine Det.of (cc := b_Mo_isCell) (maxL := 2) (ret := (some .boolean)) (by decide) rfl (Nat.le_of_ble_eq_true rfl) ?_
  intro p e s m args below meth c A ls hx hb hr hml hown hts hlocks hin hA hK hZ hP hD hS hl
  have hts : ∀ w ∈ wG, w.before args s = true := fun w h => hts w (List.mem_cons_of_mem _ h)
  have hown : s.vm.findClass R_Mo = some m.cls := hown
  have hl : lv_has ls 2 [(0, .ref h), (1, .int x)] := hl
  refine lv_iload_n hx hb d_Mo_isCell_0 rfl (lv_at hl 1 rfl) ?_
  refine lv_if_lt (tgt := 26) hx hb d_Mo_isCell_1 (by decide) (fun c1 => ?_) (fun c1 => ?_)
  · skip
    refine lv_iconst (v := 0) hx hb d_Mo_isCell_26 (by decide) ?_
    exact ly_zret hx hb hr hlocks hP hD hS d_Mo_isCell_27 (by decide) (by rw [s_Mo_isCell, if_pos c1]) rfl
  refine lv_iload_n hx hb d_Mo_isCell_4 rfl (lv_at hl 1 rfl) ?_
  refine lv_aload_n hx hb d_Mo_isCell_5 rfl (lv_at hl 0 rfl) ?_
  refine va_get (D := G.1) (ci := 12) (C := R_Mo) (T := F_Mo) (N := 64) (v := .int v_q) hx hb hts i_Mo hown hK hP 0 rfl rfl 1 (by decide) (hts (.fieldLink R_Mo 138 "PrivateQueriesModel" "q" "I") k_174) (fun _ h9 => h9) rfl d_Mo_isCell_6 ?_
  refine lv_aload_n hx hb d_Mo_isCell_9 rfl (lv_at hl 0 rfl) ?_
  refine va_get (D := G.1) (ci := 12) (C := R_Mo) (T := F_Mo) (N := 64) (v := .int v_p) hx hb hts i_Mo hown hK hP 0 rfl rfl 0 (by decide) (hts (.fieldLink R_Mo 134 "PrivateQueriesModel" "p" "I") k_175) (fun _ h9 => h9) rfl d_Mo_isCell_10 ?_
  refine lv_aload_n hx hb d_Mo_isCell_13 rfl (lv_at hl 0 rfl) ?_
  refine va_get (D := G.1) (ci := 12) (C := R_Mo) (T := F_Mo) (N := 64) (v := .int v_q) hx hb hts i_Mo hown hK hP 0 rfl rfl 1 (by decide) (hts (.fieldLink R_Mo 138 "PrivateQueriesModel" "q" "I") k_174) (fun _ h9 => h9) rfl d_Mo_isCell_14 ?_
  refine lv_iadd hx hb d_Mo_isCell_17 ?_
  refine lv_imul hx hb d_Mo_isCell_18 ?_
  refine lv_icmp_ge (tgt := 26) hx hb d_Mo_isCell_19 (by decide) (fun c2 => ?_) (fun c2 => ?_)
  · skip
    refine lv_iconst (v := 0) hx hb d_Mo_isCell_26 (by decide) ?_
    exact ly_zret hx hb hr hlocks hP hD hS d_Mo_isCell_27 (by decide) (by rw [s_Mo_isCell, if_neg c1, if_pos c2]) rfl
  refine lv_iconst (v := 1) hx hb d_Mo_isCell_22 (by decide) ?_
  refine lv_goto (tgt := 27) hx hb d_Mo_isCell_23 (by decide) ?_
  exact ly_zret hx hb hr hlocks hP hD hS d_Mo_isCell_27 (by decide) (by rw [s_Mo_isCell, if_neg c1, if_neg c2]) rfl

set_option maxHeartbeats 4000000 in
set_option maxRecDepth 100000 in
theorem c_Mo_count (l : Launch) (G : GG) (h : Nat) (a_table : Nat) (a_tape : Nat) (a_budget : Nat) (a_spent : Nat) (a_text : Nat) (a_kinds : Nat) (a_values : Nat) (a_scriptKinds : Nat) (a_scriptValues : Nat) (a_isTold : Nat) (a_letOf : Nat) (a_code : Nat) (a_letEnd : Nat) (a_letBegin : Nat) (a_sort : Nat) (a_column : Nat) (a_low : Nat) (a_high : Nat) (a_by : Nat) (a_top : Nat) (a_begins : Nat) (a_ends : Nat) (a_scriptCode : Nat) (a_scriptLetBegin : Nat) (a_scriptLetEnd : Nat) (a_aSort : Nat) (a_aColumn : Nat) (a_aLow : Nat) (a_aHigh : Nat) (a_aBy : Nat) (a_aTop : Nat) (a_aBegin : Nat) (a_anEnd : Nat) (a_told : Nat) (a_out : Nat) (a_goals : Nat) (a_withs : Nat) (a_pile : Nat) (a_letValue : Nat) (a_one : Nat) (a_two : Nat) (v_p : Int32) (v_q : Int32) (v_rows : Int32) (v_cells : Int32) (v_signs : Int32) (v_tokens : Int32) (v_scriptTokens : Int32) (v_at : Int32) (v_place : Int32) (v_kind : Int32) (v_value : Int32) (v_depth : Int32) (v_asked : Int32) (v_lets : Int32) (v_questions : Int32) (v_statements : Int32) (v_size : Int32) (v_hasScript : Int32) (v_scriptLets : Int32) (v_scriptQuestions : Int32) (v_toldCount : Int32) (v_outs : Int32) (v_goalCount : Int32) (x : Int32) : Det l G y_Mo_count w_Mo_count (rmD 0) 0 0 [.ref h, .int x] [(h, .inr (12, .int v_p :: .int v_q :: .ref a_table :: .int v_rows :: .ref a_tape :: .int v_cells :: .ref a_budget :: .ref a_spent :: .ref a_text :: .int v_signs :: .ref a_kinds :: .ref a_values :: .int v_tokens :: .ref a_scriptKinds :: .ref a_scriptValues :: .int v_scriptTokens :: .int v_at :: .int v_place :: .int v_kind :: .int v_value :: .int v_depth :: .int v_asked :: .int v_lets :: .int v_questions :: .int v_statements :: .ref a_isTold :: .ref a_letOf :: .ref a_code :: .int v_size :: .ref a_letEnd :: .ref a_letBegin :: .ref a_sort :: .ref a_column :: .ref a_low :: .ref a_high :: .ref a_by :: .ref a_top :: .ref a_begins :: .ref a_ends :: .int v_hasScript :: .int v_scriptLets :: .int v_scriptQuestions :: .ref a_scriptCode :: .ref a_scriptLetBegin :: .ref a_scriptLetEnd :: .ref a_aSort :: .ref a_aColumn :: .ref a_aLow :: .ref a_aHigh :: .ref a_aBy :: .ref a_aTop :: .ref a_aBegin :: .ref a_anEnd :: .ref a_told :: .int v_toldCount :: .ref a_out :: .int v_outs :: .ref a_goals :: .ref a_withs :: .int v_goalCount :: .ref a_pile :: .ref a_letValue :: .ref a_one :: .ref a_two :: []))] (some (.int (s_Mo_count v_rows v_cells v_signs v_scriptLets v_scriptQuestions v_toldCount x))) [(h, .inr (12, .int v_p :: .int v_q :: .ref a_table :: .int v_rows :: .ref a_tape :: .int v_cells :: .ref a_budget :: .ref a_spent :: .ref a_text :: .int v_signs :: .ref a_kinds :: .ref a_values :: .int v_tokens :: .ref a_scriptKinds :: .ref a_scriptValues :: .int v_scriptTokens :: .int v_at :: .int v_place :: .int v_kind :: .int v_value :: .int v_depth :: .int v_asked :: .int v_lets :: .int v_questions :: .int v_statements :: .ref a_isTold :: .ref a_letOf :: .ref a_code :: .int v_size :: .ref a_letEnd :: .ref a_letBegin :: .ref a_sort :: .ref a_column :: .ref a_low :: .ref a_high :: .ref a_by :: .ref a_top :: .ref a_begins :: .ref a_ends :: .int v_hasScript :: .int v_scriptLets :: .int v_scriptQuestions :: .ref a_scriptCode :: .ref a_scriptLetBegin :: .ref a_scriptLetEnd :: .ref a_aSort :: .ref a_aColumn :: .ref a_aLow :: .ref a_aHigh :: .ref a_aBy :: .ref a_aTop :: .ref a_aBegin :: .ref a_anEnd :: .ref a_told :: .int v_toldCount :: .ref a_out :: .int v_outs :: .ref a_goals :: .ref a_withs :: .int v_goalCount :: .ref a_pile :: .ref a_letValue :: .ref a_one :: .ref a_two :: []))] := by
  refine Det.of (cc := b_Mo_count) (maxL := 2) (ret := (some .int)) (by decide) rfl (Nat.le_of_ble_eq_true rfl) ?_
  intro p e s m args below meth c A ls hx hb hr hml hown hts hlocks hin hA hK hZ hP hD hS hl
  have hts : ∀ w ∈ wG, w.before args s = true := fun w h => hts w (List.mem_cons_of_mem _ h)
  have hown : s.vm.findClass R_Mo = some m.cls := hown
  have hl : lv_has ls 2 [(0, .ref h), (1, .int x)] := hl
  refine lv_iload_n hx hb d_Mo_count_0 rfl (lv_at hl 1 rfl) ?_
  by_cases c1 : x = 0
  · skip
    refine lv_tableIn (off := 39) (tgt := 40) hx hb d_Mo_count_1 (by rw [c1]; decide) (by rw [c1]; decide) (by first | (rw [c1]; done) | (rw [c1]; rfl)) (by decide) ?_
    refine lv_aload_n hx hb d_Mo_count_40 rfl (lv_at hl 0 rfl) ?_
    refine va_get (D := G.1) (ci := 12) (C := R_Mo) (T := F_Mo) (N := 64) (v := .int v_rows) hx hb hts i_Mo hown hK hP 0 rfl rfl 3 (by decide) (hts (.fieldLink R_Mo 141 "PrivateQueriesModel" "rows" "I") k_172) (fun _ h9 => h9) rfl d_Mo_count_41 ?_
    exact ly_iret hx hb hr hlocks hP hD hS d_Mo_count_44 (by rw [s_Mo_count, if_pos c1]) rfl
  by_cases c2 : x = 1
  · skip
    refine lv_tableIn (off := 44) (tgt := 45) hx hb d_Mo_count_1 (by rw [c2]; decide) (by rw [c2]; decide) (by first | (rw [c2]; done) | (rw [c2]; rfl)) (by decide) ?_
    refine lv_aload_n hx hb d_Mo_count_45 rfl (lv_at hl 0 rfl) ?_
    refine va_get (D := G.1) (ci := 12) (C := R_Mo) (T := F_Mo) (N := 64) (v := .int v_cells) hx hb hts i_Mo hown hK hP 0 rfl rfl 5 (by decide) (hts (.fieldLink R_Mo 152 "PrivateQueriesModel" "cells" "I") k_176) (fun _ h9 => h9) rfl d_Mo_count_46 ?_
    exact ly_iret hx hb hr hlocks hP hD hS d_Mo_count_49 (by rw [s_Mo_count, if_neg c1, if_pos c2]) rfl
  by_cases c3 : x = 2
  · skip
    refine lv_tableIn (off := 49) (tgt := 50) hx hb d_Mo_count_1 (by rw [c3]; decide) (by rw [c3]; decide) (by first | (rw [c3]; done) | (rw [c3]; rfl)) (by decide) ?_
    refine lv_aload_n hx hb d_Mo_count_50 rfl (lv_at hl 0 rfl) ?_
    refine va_get (D := G.1) (ci := 12) (C := R_Mo) (T := F_Mo) (N := 64) (v := .int v_signs) hx hb hts i_Mo hown hK hP 0 rfl rfl 9 (by decide) (hts (.fieldLink R_Mo 155 "PrivateQueriesModel" "signs" "I") k_177) (fun _ h9 => h9) rfl d_Mo_count_51 ?_
    exact ly_iret hx hb hr hlocks hP hD hS d_Mo_count_54 (by rw [s_Mo_count, if_neg c1, if_neg c2, if_pos c3]) rfl
  by_cases c4 : x = 3
  · skip
    refine lv_tableIn (off := 54) (tgt := 55) hx hb d_Mo_count_1 (by rw [c4]; decide) (by rw [c4]; decide) (by first | (rw [c4]; done) | (rw [c4]; rfl)) (by decide) ?_
    refine lv_aload_n hx hb d_Mo_count_55 rfl (lv_at hl 0 rfl) ?_
    refine va_get (D := G.1) (ci := 12) (C := R_Mo) (T := F_Mo) (N := 64) (v := .int v_scriptQuestions) hx hb hts i_Mo hown hK hP 0 rfl rfl 41 (by decide) (hts (.fieldLink R_Mo 158 "PrivateQueriesModel" "scriptQuestions" "I") k_178) (fun _ h9 => h9) rfl d_Mo_count_56 ?_
    exact ly_iret hx hb hr hlocks hP hD hS d_Mo_count_59 (by rw [s_Mo_count, if_neg c1, if_neg c2, if_neg c3, if_pos c4]) rfl
  by_cases c5 : x = 4
  · skip
    refine lv_tableIn (off := 59) (tgt := 60) hx hb d_Mo_count_1 (by rw [c5]; decide) (by rw [c5]; decide) (by first | (rw [c5]; done) | (rw [c5]; rfl)) (by decide) ?_
    refine lv_aload_n hx hb d_Mo_count_60 rfl (lv_at hl 0 rfl) ?_
    refine va_get (D := G.1) (ci := 12) (C := R_Mo) (T := F_Mo) (N := 64) (v := .int v_scriptLets) hx hb hts i_Mo hown hK hP 0 rfl rfl 40 (by decide) (hts (.fieldLink R_Mo 161 "PrivateQueriesModel" "scriptLets" "I") k_179) (fun _ h9 => h9) rfl d_Mo_count_61 ?_
    exact ly_iret hx hb hr hlocks hP hD hS d_Mo_count_64 (by rw [s_Mo_count, if_neg c1, if_neg c2, if_neg c3, if_neg c4, if_pos c5]) rfl
  by_cases c6 : x = 5
  · skip
    refine lv_tableIn (off := 64) (tgt := 65) hx hb d_Mo_count_1 (by rw [c6]; decide) (by rw [c6]; decide) (by first | (rw [c6]; done) | (rw [c6]; rfl)) (by decide) ?_
    refine lv_aload_n hx hb d_Mo_count_65 rfl (lv_at hl 0 rfl) ?_
    refine va_get (D := G.1) (ci := 12) (C := R_Mo) (T := F_Mo) (N := 64) (v := .int v_toldCount) hx hb hts i_Mo hown hK hP 0 rfl rfl 54 (by decide) (hts (.fieldLink R_Mo 164 "PrivateQueriesModel" "toldCount" "I") k_180) (fun _ h9 => h9) rfl d_Mo_count_66 ?_
    exact ly_iret hx hb hr hlocks hP hD hS d_Mo_count_69 (by rw [s_Mo_count, if_neg c1, if_neg c2, if_neg c3, if_neg c4, if_neg c5, if_pos c6]) rfl
  refine lv_tableOut (tgt := 70) hx hb d_Mo_count_1 (by have gc1 := ly_ne c1 (by decide : (0 : Int32).toInt = 0); have gc2 := ly_ne c2 (by decide : (1 : Int32).toInt = 1); have gc3 := ly_ne c3 (by decide : (2 : Int32).toInt = 2); have gc4 := ly_ne c4 (by decide : (3 : Int32).toInt = 3); have gc5 := ly_ne c5 (by decide : (4 : Int32).toInt = 4); have gc6 := ly_ne c6 (by decide : (5 : Int32).toInt = 5); omega) (by decide) ?_
  refine lv_bipush (v := (-102)) hx hb d_Mo_count_70 (by decide) ?_
  exact ly_iret hx hb hr hlocks hP hD hS d_Mo_count_72 (by rw [s_Mo_count, if_neg c1, if_neg c2, if_neg c3, if_neg c4, if_neg c5, if_neg c6]) rfl

theorem z_Mo_isSmall {x : Int32} : isB (s_Mo_isSmall x) := by
  rw [s_Mo_isSmall]
  by_cases ct1 : x < 97
  · rw [if_pos ct1]
    first | exact isB_0 | exact isB_1 | assumption
  rw [if_neg ct1]
  by_cases ct2 : 122 < x
  · rw [if_pos ct2]
    first | exact isB_0 | exact isB_1 | assumption
  rw [if_neg ct2]
  first | exact isB_0 | exact isB_1 | assumption
set_option maxHeartbeats 4000000 in
set_option maxRecDepth 100000 in
theorem c_Mo_isSmall (l : Launch) (G : GG)  (x : Int32) : Det l G y_Mo_isSmall w_Mo_isSmall (rmD 0) 0 0 [.int x] [] (some (.int (s_Mo_isSmall x))) [] := by
  refine Det.of (cc := b_Mo_isSmall) (maxL := 1) (ret := (some .boolean)) (by decide) rfl (Nat.le_of_ble_eq_true rfl) ?_
  intro p e s m args below meth c A ls hx hb hr hml hown hts hlocks hin hA hK hZ hP hD hS hl
  have hts : ∀ w ∈ wG, w.before args s = true := fun w h => hts w (List.mem_cons_of_mem _ h)
  have hown : s.vm.findClass R_Mo = some m.cls := hown
  have hl : lv_has ls 1 [(0, .int x)] := hl
  refine lv_iload_n hx hb d_Mo_isSmall_0 rfl (lv_at hl 0 rfl) ?_
  refine lv_bipush (v := 97) hx hb d_Mo_isSmall_1 (by decide) ?_
  refine lv_icmp_lt (tgt := 16) hx hb d_Mo_isSmall_3 (by decide) (fun c1 => ?_) (fun c1 => ?_)
  · skip
    refine lv_iconst (v := 0) hx hb d_Mo_isSmall_16 (by decide) ?_
    exact ly_zret hx hb hr hlocks hP hD hS d_Mo_isSmall_17 (by decide) (by rw [s_Mo_isSmall, if_pos c1]) rfl
  refine lv_iload_n hx hb d_Mo_isSmall_6 rfl (lv_at hl 0 rfl) ?_
  refine lv_bipush (v := 122) hx hb d_Mo_isSmall_7 (by decide) ?_
  refine lv_icmp_gt (tgt := 16) hx hb d_Mo_isSmall_9 (by decide) (fun c2 => ?_) (fun c2 => ?_)
  · skip
    refine lv_iconst (v := 0) hx hb d_Mo_isSmall_16 (by decide) ?_
    exact ly_zret hx hb hr hlocks hP hD hS d_Mo_isSmall_17 (by decide) (by rw [s_Mo_isSmall, if_neg c1, if_pos c2]) rfl
  refine lv_iconst (v := 1) hx hb d_Mo_isSmall_12 (by decide) ?_
  refine lv_goto (tgt := 17) hx hb d_Mo_isSmall_13 (by decide) ?_
  exact ly_zret hx hb hr hlocks hP hD hS d_Mo_isSmall_17 (by decide) (by rw [s_Mo_isSmall, if_neg c1, if_neg c2]) rfl

theorem z_Mo_isDigit {x : Int32} : isB (s_Mo_isDigit x) := by
  rw [s_Mo_isDigit]
  by_cases ct1 : x < 48
  · rw [if_pos ct1]
    first | exact isB_0 | exact isB_1 | assumption
  rw [if_neg ct1]
  by_cases ct2 : 57 < x
  · rw [if_pos ct2]
    first | exact isB_0 | exact isB_1 | assumption
  rw [if_neg ct2]
  first | exact isB_0 | exact isB_1 | assumption
set_option maxHeartbeats 4000000 in
set_option maxRecDepth 100000 in
theorem c_Mo_isDigit (l : Launch) (G : GG)  (x : Int32) : Det l G y_Mo_isDigit w_Mo_isDigit (rmD 0) 0 0 [.int x] [] (some (.int (s_Mo_isDigit x))) [] := by
  refine Det.of (cc := b_Mo_isDigit) (maxL := 1) (ret := (some .boolean)) (by decide) rfl (Nat.le_of_ble_eq_true rfl) ?_
  intro p e s m args below meth c A ls hx hb hr hml hown hts hlocks hin hA hK hZ hP hD hS hl
  have hts : ∀ w ∈ wG, w.before args s = true := fun w h => hts w (List.mem_cons_of_mem _ h)
  have hown : s.vm.findClass R_Mo = some m.cls := hown
  have hl : lv_has ls 1 [(0, .int x)] := hl
  refine lv_iload_n hx hb d_Mo_isDigit_0 rfl (lv_at hl 0 rfl) ?_
  refine lv_bipush (v := 48) hx hb d_Mo_isDigit_1 (by decide) ?_
  refine lv_icmp_lt (tgt := 16) hx hb d_Mo_isDigit_3 (by decide) (fun c1 => ?_) (fun c1 => ?_)
  · skip
    refine lv_iconst (v := 0) hx hb d_Mo_isDigit_16 (by decide) ?_
    exact ly_zret hx hb hr hlocks hP hD hS d_Mo_isDigit_17 (by decide) (by rw [s_Mo_isDigit, if_pos c1]) rfl
  refine lv_iload_n hx hb d_Mo_isDigit_6 rfl (lv_at hl 0 rfl) ?_
  refine lv_bipush (v := 57) hx hb d_Mo_isDigit_7 (by decide) ?_
  refine lv_icmp_gt (tgt := 16) hx hb d_Mo_isDigit_9 (by decide) (fun c2 => ?_) (fun c2 => ?_)
  · skip
    refine lv_iconst (v := 0) hx hb d_Mo_isDigit_16 (by decide) ?_
    exact ly_zret hx hb hr hlocks hP hD hS d_Mo_isDigit_17 (by decide) (by rw [s_Mo_isDigit, if_neg c1, if_pos c2]) rfl
  refine lv_iconst (v := 1) hx hb d_Mo_isDigit_12 (by decide) ?_
  refine lv_goto (tgt := 17) hx hb d_Mo_isDigit_13 (by decide) ?_
  exact ly_zret hx hb hr hlocks hP hD hS d_Mo_isDigit_17 (by decide) (by rw [s_Mo_isDigit, if_neg c1, if_neg c2]) rfl

set_option maxHeartbeats 4000000 in
set_option maxRecDepth 100000 in
theorem c_Mo_signKind (l : Launch) (G : GG) (h : Nat) (x : Int32) : Det l G y_Mo_signKind w_Mo_signKind (rmD 0) 0 0 [.ref h, .int x] [] (some (.int (s_Mo_signKind x))) [] := by
  refine Det.of (cc := b_Mo_signKind) (maxL := 2) (ret := (some .int)) (by decide) rfl (Nat.le_of_ble_eq_true rfl) ?_
  intro p e s m args below meth c A ls hx hb hr hml hown hts hlocks hin hA hK hZ hP hD hS hl
  have hts : ∀ w ∈ wG, w.before args s = true := fun w h => hts w (List.mem_cons_of_mem _ h)
  have hown : s.vm.findClass R_Mo = some m.cls := hown
  have hl : lv_has ls 2 [(0, .ref h), (1, .int x)] := hl
  refine lv_iload_n hx hb d_Mo_signKind_0 rfl (lv_at hl 1 rfl) ?_
  refine lv_bipush (v := 59) hx hb d_Mo_signKind_1 (by decide) ?_
  refine lv_icmp_ne (tgt := 11) hx hb d_Mo_signKind_3 (by decide) (fun c1 => ?_) (fun c1 => ?_)
  · skip
    refine lv_iload_n hx hb d_Mo_signKind_11 rfl (lv_at hl 1 rfl) ?_
    refine lv_bipush (v := 61) hx hb d_Mo_signKind_12 (by decide) ?_
    refine lv_icmp_ne (tgt := 22) hx hb d_Mo_signKind_14 (by decide) (fun c2 => ?_) (fun c2 => ?_)
    · skip
      refine lv_iload_n hx hb d_Mo_signKind_22 rfl (lv_at hl 1 rfl) ?_
      refine lv_bipush (v := 43) hx hb d_Mo_signKind_23 (by decide) ?_
      refine lv_icmp_ne (tgt := 33) hx hb d_Mo_signKind_25 (by decide) (fun c3 => ?_) (fun c3 => ?_)
      · skip
        refine lv_iload_n hx hb d_Mo_signKind_33 rfl (lv_at hl 1 rfl) ?_
        refine lv_bipush (v := 45) hx hb d_Mo_signKind_34 (by decide) ?_
        refine lv_icmp_ne (tgt := 44) hx hb d_Mo_signKind_36 (by decide) (fun c4 => ?_) (fun c4 => ?_)
        · skip
          refine lv_iload_n hx hb d_Mo_signKind_44 rfl (lv_at hl 1 rfl) ?_
          refine lv_bipush (v := 42) hx hb d_Mo_signKind_45 (by decide) ?_
          refine lv_icmp_ne (tgt := 55) hx hb d_Mo_signKind_47 (by decide) (fun c5 => ?_) (fun c5 => ?_)
          · skip
            refine lv_iload_n hx hb d_Mo_signKind_55 rfl (lv_at hl 1 rfl) ?_
            refine lv_bipush (v := 40) hx hb d_Mo_signKind_56 (by decide) ?_
            refine lv_icmp_ne (tgt := 66) hx hb d_Mo_signKind_58 (by decide) (fun c6 => ?_) (fun c6 => ?_)
            · skip
              refine lv_iload_n hx hb d_Mo_signKind_66 rfl (lv_at hl 1 rfl) ?_
              refine lv_bipush (v := 41) hx hb d_Mo_signKind_67 (by decide) ?_
              refine lv_icmp_ne (tgt := 77) hx hb d_Mo_signKind_69 (by decide) (fun c7 => ?_) (fun c7 => ?_)
              · skip
                refine lv_iload_n hx hb d_Mo_signKind_77 rfl (lv_at hl 1 rfl) ?_
                refine lv_bipush (v := 91) hx hb d_Mo_signKind_78 (by decide) ?_
                refine lv_icmp_ne (tgt := 88) hx hb d_Mo_signKind_80 (by decide) (fun c8 => ?_) (fun c8 => ?_)
                · skip
                  refine lv_iload_n hx hb d_Mo_signKind_88 rfl (lv_at hl 1 rfl) ?_
                  refine lv_bipush (v := 93) hx hb d_Mo_signKind_89 (by decide) ?_
                  refine lv_icmp_ne (tgt := 99) hx hb d_Mo_signKind_91 (by decide) (fun c9 => ?_) (fun c9 => ?_)
                  · skip
                    refine lv_bipush (v := 31) hx hb d_Mo_signKind_99 (by decide) ?_
                    exact ly_iret hx hb hr hlocks hP hD hS d_Mo_signKind_101 (by rw [s_Mo_signKind, if_neg c1, if_neg c2, if_neg c3, if_neg c4, if_neg c5, if_neg c6, if_neg c7, if_neg c8, if_neg c9]) rfl
                  refine lv_bipush (v := 29) hx hb d_Mo_signKind_94 (by decide) ?_
                  refine lv_goto (tgt := 101) hx hb d_Mo_signKind_96 (by decide) ?_
                  exact ly_iret hx hb hr hlocks hP hD hS d_Mo_signKind_101 (by rw [s_Mo_signKind, if_neg c1, if_neg c2, if_neg c3, if_neg c4, if_neg c5, if_neg c6, if_neg c7, if_neg c8, if_pos c9]) rfl
                refine lv_bipush (v := 28) hx hb d_Mo_signKind_83 (by decide) ?_
                refine lv_goto (tgt := 101) hx hb d_Mo_signKind_85 (by decide) ?_
                exact ly_iret hx hb hr hlocks hP hD hS d_Mo_signKind_101 (by rw [s_Mo_signKind, if_neg c1, if_neg c2, if_neg c3, if_neg c4, if_neg c5, if_neg c6, if_neg c7, if_pos c8]) rfl
              refine lv_bipush (v := 27) hx hb d_Mo_signKind_72 (by decide) ?_
              refine lv_goto (tgt := 101) hx hb d_Mo_signKind_74 (by decide) ?_
              exact ly_iret hx hb hr hlocks hP hD hS d_Mo_signKind_101 (by rw [s_Mo_signKind, if_neg c1, if_neg c2, if_neg c3, if_neg c4, if_neg c5, if_neg c6, if_pos c7]) rfl
            refine lv_bipush (v := 26) hx hb d_Mo_signKind_61 (by decide) ?_
            refine lv_goto (tgt := 101) hx hb d_Mo_signKind_63 (by decide) ?_
            exact ly_iret hx hb hr hlocks hP hD hS d_Mo_signKind_101 (by rw [s_Mo_signKind, if_neg c1, if_neg c2, if_neg c3, if_neg c4, if_neg c5, if_pos c6]) rfl
          refine lv_bipush (v := 25) hx hb d_Mo_signKind_50 (by decide) ?_
          refine lv_goto (tgt := 101) hx hb d_Mo_signKind_52 (by decide) ?_
          exact ly_iret hx hb hr hlocks hP hD hS d_Mo_signKind_101 (by rw [s_Mo_signKind, if_neg c1, if_neg c2, if_neg c3, if_neg c4, if_pos c5]) rfl
        refine lv_bipush (v := 24) hx hb d_Mo_signKind_39 (by decide) ?_
        refine lv_goto (tgt := 101) hx hb d_Mo_signKind_41 (by decide) ?_
        exact ly_iret hx hb hr hlocks hP hD hS d_Mo_signKind_101 (by rw [s_Mo_signKind, if_neg c1, if_neg c2, if_neg c3, if_pos c4]) rfl
      refine lv_bipush (v := 23) hx hb d_Mo_signKind_28 (by decide) ?_
      refine lv_goto (tgt := 101) hx hb d_Mo_signKind_30 (by decide) ?_
      exact ly_iret hx hb hr hlocks hP hD hS d_Mo_signKind_101 (by rw [s_Mo_signKind, if_neg c1, if_neg c2, if_pos c3]) rfl
    refine lv_bipush (v := 17) hx hb d_Mo_signKind_17 (by decide) ?_
    refine lv_goto (tgt := 101) hx hb d_Mo_signKind_19 (by decide) ?_
    exact ly_iret hx hb hr hlocks hP hD hS d_Mo_signKind_101 (by rw [s_Mo_signKind, if_neg c1, if_pos c2]) rfl
  refine lv_bipush (v := 16) hx hb d_Mo_signKind_6 (by decide) ?_
  refine lv_goto (tgt := 101) hx hb d_Mo_signKind_8 (by decide) ?_
  exact ly_iret hx hb hr hlocks hP hD hS d_Mo_signKind_101 (by rw [s_Mo_signKind, if_pos c1]) rfl

set_option maxHeartbeats 4000000 in
set_option maxRecDepth 100000 in
theorem c_Mo_bring (l : Launch) (G : GG)  (x : Int32) (z : Int32) : Det l G y_Mo_bring w_Mo_bring (rmD 0) 0 0 [.int x, .int z] [] (some (.int (s_Mo_bring x z))) [] := by
  refine Det.of (cc := b_Mo_bring) (maxL := 2) (ret := (some .int)) (by decide) rfl (Nat.le_of_ble_eq_true rfl) ?_
  intro p e s m args below meth c A ls hx hb hr hml hown hts hlocks hin hA hK hZ hP hD hS hl
  have hts : ∀ w ∈ wG, w.before args s = true := fun w h => hts w (List.mem_cons_of_mem _ h)
  have hown : s.vm.findClass R_Mo = some m.cls := hown
  have hl : lv_has ls 2 [(0, .int x), (1, .int z)] := hl
  refine lv_iload_n hx hb d_Mo_bring_0 rfl (lv_at hl 0 rfl) ?_
  refine lv_if_ge (tgt := 8) hx hb d_Mo_bring_1 (by decide) (fun c1 => ?_) (fun c1 => ?_)
  · skip
    refine lv_iload_n hx hb d_Mo_bring_8 rfl (lv_at hl 0 rfl) ?_
    refine lv_iload_n hx hb d_Mo_bring_9 rfl (lv_at hl 1 rfl) ?_
    refine lv_icmp_le (tgt := 17) hx hb d_Mo_bring_10 (by decide) (fun c2 => ?_) (fun c2 => ?_)
    · skip
      refine lv_iload_n hx hb d_Mo_bring_17 rfl (lv_at hl 0 rfl) ?_
      exact ly_iret hx hb hr hlocks hP hD hS d_Mo_bring_18 (by rw [s_Mo_bring, if_pos c1, if_pos c2]) rfl
    refine lv_iload_n hx hb d_Mo_bring_13 rfl (lv_at hl 1 rfl) ?_
    refine lv_goto (tgt := 18) hx hb d_Mo_bring_14 (by decide) ?_
    exact ly_iret hx hb hr hlocks hP hD hS d_Mo_bring_18 (by rw [s_Mo_bring, if_pos c1, if_neg c2]) rfl
  refine lv_iconst (v := 0) hx hb d_Mo_bring_4 (by decide) ?_
  refine lv_goto (tgt := 18) hx hb d_Mo_bring_5 (by decide) ?_
  exact ly_iret hx hb hr hlocks hP hD hS d_Mo_bring_18 (by rw [s_Mo_bring, if_neg c1]) rfl

set_option maxHeartbeats 4000000 in
set_option maxRecDepth 100000 in
theorem c_Mo_judge (l : Launch) (G : GG)  (x : Int32) (z : Int32) (v : Int32) : Det l G y_Mo_judge w_Mo_judge (rmD 0) 0 0 [.int x, .int z, .int v] [] (some (.int (s_Mo_judge x z v))) [] := by
  refine Det.of (cc := b_Mo_judge) (maxL := 4) (ret := (some .int)) (by decide) rfl (Nat.le_of_ble_eq_true rfl) ?_
  intro p e s m args below meth c A ls hx hb hr hml hown hts hlocks hin hA hK hZ hP hD hS hl
  have hts : ∀ w ∈ wG, w.before args s = true := fun w h => hts w (List.mem_cons_of_mem _ h)
  have hown : s.vm.findClass R_Mo = some m.cls := hown
  have hl : lv_has ls 4 [(0, .int x), (1, .int z), (2, .int v)] := hl
  refine lv_iload_n hx hb d_Mo_judge_0 rfl (lv_at hl 0 rfl) ?_
  refine lv_bipush (v := 17) hx hb d_Mo_judge_1 (by decide) ?_
  refine lv_icmp_ne (tgt := 19) hx hb d_Mo_judge_3 (by decide) (fun c1 => ?_) (fun c1 => ?_)
  · skip
    refine lv_iload_n hx hb d_Mo_judge_19 rfl (lv_at hl 0 rfl) ?_
    refine lv_bipush (v := 18) hx hb d_Mo_judge_20 (by decide) ?_
    refine lv_icmp_ne (tgt := 38) hx hb d_Mo_judge_22 (by decide) (fun c2 => ?_) (fun c2 => ?_)
    · skip
      refine lv_iload_n hx hb d_Mo_judge_38 rfl (lv_at hl 0 rfl) ?_
      refine lv_bipush (v := 19) hx hb d_Mo_judge_39 (by decide) ?_
      refine lv_icmp_ne (tgt := 57) hx hb d_Mo_judge_41 (by decide) (fun c3 => ?_) (fun c3 => ?_)
      · skip
        refine lv_iload_n hx hb d_Mo_judge_57 rfl (lv_at hl 0 rfl) ?_
        refine lv_bipush (v := 20) hx hb d_Mo_judge_58 (by decide) ?_
        refine lv_icmp_ne (tgt := 76) hx hb d_Mo_judge_60 (by decide) (fun c4 => ?_) (fun c4 => ?_)
        · skip
          refine lv_iload_n hx hb d_Mo_judge_76 rfl (lv_at hl 0 rfl) ?_
          refine lv_bipush (v := 21) hx hb d_Mo_judge_77 (by decide) ?_
          refine lv_icmp_ne (tgt := 95) hx hb d_Mo_judge_79 (by decide) (fun c5 => ?_) (fun c5 => ?_)
          · skip
            refine lv_iload_n hx hb d_Mo_judge_95 rfl (lv_at hl 1 rfl) ?_
            refine lv_iload_n hx hb d_Mo_judge_96 rfl (lv_at hl 2 rfl) ?_
            refine lv_icmp_eq (tgt := 104) hx hb d_Mo_judge_97 (by decide) (fun c6 => ?_) (fun c6 => ?_)
            · skip
              refine lv_iconst (v := 0) hx hb d_Mo_judge_104 (by decide) ?_
              refine lv_istore_n (lv' := [(3, .int 0), (0, .int x), (1, .int z), (2, .int v)]) hx hb d_Mo_judge_105 rfl hl (by decide) rfl (fun ls hl => ?_)
              refine lv_iload_n hx hb d_Mo_judge_106 rfl (lv_at hl 0 rfl) ?_
              refine lv_if_eq (tgt := 114) hx hb d_Mo_judge_107 (by decide) (fun c7 => ?_) (fun c7 => ?_)
              rotate_left 1
              · exact absurd (by decide) c7
              refine lv_iconst (v := 0) hx hb d_Mo_judge_114 (by decide) ?_
              exact ly_iret hx hb hr hlocks hP hD hS d_Mo_judge_115 (by rw [s_Mo_judge, if_neg c1, if_neg c2, if_neg c3, if_neg c4, if_neg c5, if_pos c6]) rfl
            refine lv_iconst (v := 1) hx hb d_Mo_judge_100 (by decide) ?_
            refine lv_goto (tgt := 105) hx hb d_Mo_judge_101 (by decide) ?_
            refine lv_istore_n (lv' := [(3, .int 1), (0, .int x), (1, .int z), (2, .int v)]) hx hb d_Mo_judge_105 rfl hl (by decide) rfl (fun ls hl => ?_)
            refine lv_iload_n hx hb d_Mo_judge_106 rfl (lv_at hl 0 rfl) ?_
            refine lv_if_eq (tgt := 114) hx hb d_Mo_judge_107 (by decide) (fun c8 => ?_) (fun c8 => ?_)
            · exact absurd c8 (by decide)
            refine lv_iconst (v := 1) hx hb d_Mo_judge_110 (by decide) ?_
            refine lv_goto (tgt := 115) hx hb d_Mo_judge_111 (by decide) ?_
            exact ly_iret hx hb hr hlocks hP hD hS d_Mo_judge_115 (by rw [s_Mo_judge, if_neg c1, if_neg c2, if_neg c3, if_neg c4, if_neg c5, if_neg c6]) rfl
          refine lv_iload_n hx hb d_Mo_judge_82 rfl (lv_at hl 1 rfl) ?_
          refine lv_iload_n hx hb d_Mo_judge_83 rfl (lv_at hl 2 rfl) ?_
          refine lv_icmp_lt (tgt := 91) hx hb d_Mo_judge_84 (by decide) (fun c9 => ?_) (fun c9 => ?_)
          · skip
            refine lv_iconst (v := 0) hx hb d_Mo_judge_91 (by decide) ?_
            refine lv_goto (tgt := 105) hx hb d_Mo_judge_92 (by decide) ?_
            refine lv_istore_n (lv' := [(3, .int 0), (0, .int x), (1, .int z), (2, .int v)]) hx hb d_Mo_judge_105 rfl hl (by decide) rfl (fun ls hl => ?_)
            refine lv_iload_n hx hb d_Mo_judge_106 rfl (lv_at hl 0 rfl) ?_
            refine lv_if_eq (tgt := 114) hx hb d_Mo_judge_107 (by decide) (fun c10 => ?_) (fun c10 => ?_)
            rotate_left 1
            · exact absurd (by decide) c10
            refine lv_iconst (v := 0) hx hb d_Mo_judge_114 (by decide) ?_
            exact ly_iret hx hb hr hlocks hP hD hS d_Mo_judge_115 (by rw [s_Mo_judge, if_neg c1, if_neg c2, if_neg c3, if_neg c4, if_pos c5, if_pos c9]) rfl
          refine lv_iconst (v := 1) hx hb d_Mo_judge_87 (by decide) ?_
          refine lv_goto (tgt := 105) hx hb d_Mo_judge_88 (by decide) ?_
          refine lv_istore_n (lv' := [(3, .int 1), (0, .int x), (1, .int z), (2, .int v)]) hx hb d_Mo_judge_105 rfl hl (by decide) rfl (fun ls hl => ?_)
          refine lv_iload_n hx hb d_Mo_judge_106 rfl (lv_at hl 0 rfl) ?_
          refine lv_if_eq (tgt := 114) hx hb d_Mo_judge_107 (by decide) (fun c11 => ?_) (fun c11 => ?_)
          · exact absurd c11 (by decide)
          refine lv_iconst (v := 1) hx hb d_Mo_judge_110 (by decide) ?_
          refine lv_goto (tgt := 115) hx hb d_Mo_judge_111 (by decide) ?_
          exact ly_iret hx hb hr hlocks hP hD hS d_Mo_judge_115 (by rw [s_Mo_judge, if_neg c1, if_neg c2, if_neg c3, if_neg c4, if_pos c5, if_neg c9]) rfl
        refine lv_iload_n hx hb d_Mo_judge_63 rfl (lv_at hl 1 rfl) ?_
        refine lv_iload_n hx hb d_Mo_judge_64 rfl (lv_at hl 2 rfl) ?_
        refine lv_icmp_gt (tgt := 72) hx hb d_Mo_judge_65 (by decide) (fun c12 => ?_) (fun c12 => ?_)
        · skip
          refine lv_iconst (v := 0) hx hb d_Mo_judge_72 (by decide) ?_
          refine lv_goto (tgt := 105) hx hb d_Mo_judge_73 (by decide) ?_
          refine lv_istore_n (lv' := [(3, .int 0), (0, .int x), (1, .int z), (2, .int v)]) hx hb d_Mo_judge_105 rfl hl (by decide) rfl (fun ls hl => ?_)
          refine lv_iload_n hx hb d_Mo_judge_106 rfl (lv_at hl 0 rfl) ?_
          refine lv_if_eq (tgt := 114) hx hb d_Mo_judge_107 (by decide) (fun c13 => ?_) (fun c13 => ?_)
          rotate_left 1
          · exact absurd (by decide) c13
          refine lv_iconst (v := 0) hx hb d_Mo_judge_114 (by decide) ?_
          exact ly_iret hx hb hr hlocks hP hD hS d_Mo_judge_115 (by rw [s_Mo_judge, if_neg c1, if_neg c2, if_neg c3, if_pos c4, if_pos c12]) rfl
        refine lv_iconst (v := 1) hx hb d_Mo_judge_68 (by decide) ?_
        refine lv_goto (tgt := 105) hx hb d_Mo_judge_69 (by decide) ?_
        refine lv_istore_n (lv' := [(3, .int 1), (0, .int x), (1, .int z), (2, .int v)]) hx hb d_Mo_judge_105 rfl hl (by decide) rfl (fun ls hl => ?_)
        refine lv_iload_n hx hb d_Mo_judge_106 rfl (lv_at hl 0 rfl) ?_
        refine lv_if_eq (tgt := 114) hx hb d_Mo_judge_107 (by decide) (fun c14 => ?_) (fun c14 => ?_)
        · exact absurd c14 (by decide)
        refine lv_iconst (v := 1) hx hb d_Mo_judge_110 (by decide) ?_
        refine lv_goto (tgt := 115) hx hb d_Mo_judge_111 (by decide) ?_
        exact ly_iret hx hb hr hlocks hP hD hS d_Mo_judge_115 (by rw [s_Mo_judge, if_neg c1, if_neg c2, if_neg c3, if_pos c4, if_neg c12]) rfl
      refine lv_iload_n hx hb d_Mo_judge_44 rfl (lv_at hl 1 rfl) ?_
      refine lv_iload_n hx hb d_Mo_judge_45 rfl (lv_at hl 2 rfl) ?_
      refine lv_icmp_le (tgt := 53) hx hb d_Mo_judge_46 (by decide) (fun c15 => ?_) (fun c15 => ?_)
      · skip
        refine lv_iconst (v := 0) hx hb d_Mo_judge_53 (by decide) ?_
        refine lv_goto (tgt := 105) hx hb d_Mo_judge_54 (by decide) ?_
        refine lv_istore_n (lv' := [(3, .int 0), (0, .int x), (1, .int z), (2, .int v)]) hx hb d_Mo_judge_105 rfl hl (by decide) rfl (fun ls hl => ?_)
        refine lv_iload_n hx hb d_Mo_judge_106 rfl (lv_at hl 0 rfl) ?_
        refine lv_if_eq (tgt := 114) hx hb d_Mo_judge_107 (by decide) (fun c16 => ?_) (fun c16 => ?_)
        rotate_left 1
        · exact absurd (by decide) c16
        refine lv_iconst (v := 0) hx hb d_Mo_judge_114 (by decide) ?_
        exact ly_iret hx hb hr hlocks hP hD hS d_Mo_judge_115 (by rw [s_Mo_judge, if_neg c1, if_neg c2, if_pos c3, if_pos c15]) rfl
      refine lv_iconst (v := 1) hx hb d_Mo_judge_49 (by decide) ?_
      refine lv_goto (tgt := 105) hx hb d_Mo_judge_50 (by decide) ?_
      refine lv_istore_n (lv' := [(3, .int 1), (0, .int x), (1, .int z), (2, .int v)]) hx hb d_Mo_judge_105 rfl hl (by decide) rfl (fun ls hl => ?_)
      refine lv_iload_n hx hb d_Mo_judge_106 rfl (lv_at hl 0 rfl) ?_
      refine lv_if_eq (tgt := 114) hx hb d_Mo_judge_107 (by decide) (fun c17 => ?_) (fun c17 => ?_)
      · exact absurd c17 (by decide)
      refine lv_iconst (v := 1) hx hb d_Mo_judge_110 (by decide) ?_
      refine lv_goto (tgt := 115) hx hb d_Mo_judge_111 (by decide) ?_
      exact ly_iret hx hb hr hlocks hP hD hS d_Mo_judge_115 (by rw [s_Mo_judge, if_neg c1, if_neg c2, if_pos c3, if_neg c15]) rfl
    refine lv_iload_n hx hb d_Mo_judge_25 rfl (lv_at hl 1 rfl) ?_
    refine lv_iload_n hx hb d_Mo_judge_26 rfl (lv_at hl 2 rfl) ?_
    refine lv_icmp_ge (tgt := 34) hx hb d_Mo_judge_27 (by decide) (fun c18 => ?_) (fun c18 => ?_)
    · skip
      refine lv_iconst (v := 0) hx hb d_Mo_judge_34 (by decide) ?_
      refine lv_goto (tgt := 105) hx hb d_Mo_judge_35 (by decide) ?_
      refine lv_istore_n (lv' := [(3, .int 0), (0, .int x), (1, .int z), (2, .int v)]) hx hb d_Mo_judge_105 rfl hl (by decide) rfl (fun ls hl => ?_)
      refine lv_iload_n hx hb d_Mo_judge_106 rfl (lv_at hl 0 rfl) ?_
      refine lv_if_eq (tgt := 114) hx hb d_Mo_judge_107 (by decide) (fun c19 => ?_) (fun c19 => ?_)
      rotate_left 1
      · exact absurd (by decide) c19
      refine lv_iconst (v := 0) hx hb d_Mo_judge_114 (by decide) ?_
      exact ly_iret hx hb hr hlocks hP hD hS d_Mo_judge_115 (by rw [s_Mo_judge, if_neg c1, if_pos c2, if_pos c18]) rfl
    refine lv_iconst (v := 1) hx hb d_Mo_judge_30 (by decide) ?_
    refine lv_goto (tgt := 105) hx hb d_Mo_judge_31 (by decide) ?_
    refine lv_istore_n (lv' := [(3, .int 1), (0, .int x), (1, .int z), (2, .int v)]) hx hb d_Mo_judge_105 rfl hl (by decide) rfl (fun ls hl => ?_)
    refine lv_iload_n hx hb d_Mo_judge_106 rfl (lv_at hl 0 rfl) ?_
    refine lv_if_eq (tgt := 114) hx hb d_Mo_judge_107 (by decide) (fun c20 => ?_) (fun c20 => ?_)
    · exact absurd c20 (by decide)
    refine lv_iconst (v := 1) hx hb d_Mo_judge_110 (by decide) ?_
    refine lv_goto (tgt := 115) hx hb d_Mo_judge_111 (by decide) ?_
    exact ly_iret hx hb hr hlocks hP hD hS d_Mo_judge_115 (by rw [s_Mo_judge, if_neg c1, if_pos c2, if_neg c18]) rfl
  refine lv_iload_n hx hb d_Mo_judge_6 rfl (lv_at hl 1 rfl) ?_
  refine lv_iload_n hx hb d_Mo_judge_7 rfl (lv_at hl 2 rfl) ?_
  refine lv_icmp_ne (tgt := 15) hx hb d_Mo_judge_8 (by decide) (fun c21 => ?_) (fun c21 => ?_)
  · skip
    refine lv_iconst (v := 0) hx hb d_Mo_judge_15 (by decide) ?_
    refine lv_goto (tgt := 105) hx hb d_Mo_judge_16 (by decide) ?_
    refine lv_istore_n (lv' := [(3, .int 0), (0, .int x), (1, .int z), (2, .int v)]) hx hb d_Mo_judge_105 rfl hl (by decide) rfl (fun ls hl => ?_)
    refine lv_iload_n hx hb d_Mo_judge_106 rfl (lv_at hl 0 rfl) ?_
    refine lv_if_eq (tgt := 114) hx hb d_Mo_judge_107 (by decide) (fun c22 => ?_) (fun c22 => ?_)
    rotate_left 1
    · exact absurd (by decide) c22
    refine lv_iconst (v := 0) hx hb d_Mo_judge_114 (by decide) ?_
    exact ly_iret hx hb hr hlocks hP hD hS d_Mo_judge_115 (by rw [s_Mo_judge, if_pos c1, if_neg c21]) rfl
  refine lv_iconst (v := 1) hx hb d_Mo_judge_11 (by decide) ?_
  refine lv_goto (tgt := 105) hx hb d_Mo_judge_12 (by decide) ?_
  refine lv_istore_n (lv' := [(3, .int 1), (0, .int x), (1, .int z), (2, .int v)]) hx hb d_Mo_judge_105 rfl hl (by decide) rfl (fun ls hl => ?_)
  refine lv_iload_n hx hb d_Mo_judge_106 rfl (lv_at hl 0 rfl) ?_
  refine lv_if_eq (tgt := 114) hx hb d_Mo_judge_107 (by decide) (fun c23 => ?_) (fun c23 => ?_)
  · exact absurd c23 (by decide)
  refine lv_iconst (v := 1) hx hb d_Mo_judge_110 (by decide) ?_
  refine lv_goto (tgt := 115) hx hb d_Mo_judge_111 (by decide) ?_
  exact ly_iret hx hb hr hlocks hP hD hS d_Mo_judge_115 (by rw [s_Mo_judge, if_pos c1, if_pos c21]) rfl

theorem z_Mo_isSumStart {v_kind : Int32} : isB (s_Mo_isSumStart v_kind) := by
  rw [s_Mo_isSumStart]
  by_cases ct1 : v_kind = 15
  · rw [if_pos ct1]
    first | exact isB_0 | exact isB_1 | assumption
  rw [if_neg ct1]
  by_cases ct2 : v_kind = 13
  · rw [if_pos ct2]
    first | exact isB_0 | exact isB_1 | assumption
  rw [if_neg ct2]
  by_cases ct3 : v_kind = 24
  · rw [if_pos ct3]
    first | exact isB_0 | exact isB_1 | assumption
  rw [if_neg ct3]
  by_cases ct4 : v_kind = 26
  · rw [if_pos ct4]
    first | exact isB_0 | exact isB_1 | assumption
  rw [if_neg ct4]
  first | exact isB_0 | exact isB_1 | assumption
set_option maxHeartbeats 4000000 in
set_option maxRecDepth 100000 in
theorem c_Mo_isSumStart (l : Launch) (G : GG) (h : Nat) (a_table : Nat) (a_tape : Nat) (a_budget : Nat) (a_spent : Nat) (a_text : Nat) (a_kinds : Nat) (a_values : Nat) (a_scriptKinds : Nat) (a_scriptValues : Nat) (a_isTold : Nat) (a_letOf : Nat) (a_code : Nat) (a_letEnd : Nat) (a_letBegin : Nat) (a_sort : Nat) (a_column : Nat) (a_low : Nat) (a_high : Nat) (a_by : Nat) (a_top : Nat) (a_begins : Nat) (a_ends : Nat) (a_scriptCode : Nat) (a_scriptLetBegin : Nat) (a_scriptLetEnd : Nat) (a_aSort : Nat) (a_aColumn : Nat) (a_aLow : Nat) (a_aHigh : Nat) (a_aBy : Nat) (a_aTop : Nat) (a_aBegin : Nat) (a_anEnd : Nat) (a_told : Nat) (a_out : Nat) (a_goals : Nat) (a_withs : Nat) (a_pile : Nat) (a_letValue : Nat) (a_one : Nat) (a_two : Nat) (v_p : Int32) (v_q : Int32) (v_rows : Int32) (v_cells : Int32) (v_signs : Int32) (v_tokens : Int32) (v_scriptTokens : Int32) (v_at : Int32) (v_place : Int32) (v_kind : Int32) (v_value : Int32) (v_depth : Int32) (v_asked : Int32) (v_lets : Int32) (v_questions : Int32) (v_statements : Int32) (v_size : Int32) (v_hasScript : Int32) (v_scriptLets : Int32) (v_scriptQuestions : Int32) (v_toldCount : Int32) (v_outs : Int32) (v_goalCount : Int32) : Det l G y_Mo_isSumStart w_Mo_isSumStart (rmD 0) 0 0 [.ref h] [(h, .inr (12, .int v_p :: .int v_q :: .ref a_table :: .int v_rows :: .ref a_tape :: .int v_cells :: .ref a_budget :: .ref a_spent :: .ref a_text :: .int v_signs :: .ref a_kinds :: .ref a_values :: .int v_tokens :: .ref a_scriptKinds :: .ref a_scriptValues :: .int v_scriptTokens :: .int v_at :: .int v_place :: .int v_kind :: .int v_value :: .int v_depth :: .int v_asked :: .int v_lets :: .int v_questions :: .int v_statements :: .ref a_isTold :: .ref a_letOf :: .ref a_code :: .int v_size :: .ref a_letEnd :: .ref a_letBegin :: .ref a_sort :: .ref a_column :: .ref a_low :: .ref a_high :: .ref a_by :: .ref a_top :: .ref a_begins :: .ref a_ends :: .int v_hasScript :: .int v_scriptLets :: .int v_scriptQuestions :: .ref a_scriptCode :: .ref a_scriptLetBegin :: .ref a_scriptLetEnd :: .ref a_aSort :: .ref a_aColumn :: .ref a_aLow :: .ref a_aHigh :: .ref a_aBy :: .ref a_aTop :: .ref a_aBegin :: .ref a_anEnd :: .ref a_told :: .int v_toldCount :: .ref a_out :: .int v_outs :: .ref a_goals :: .ref a_withs :: .int v_goalCount :: .ref a_pile :: .ref a_letValue :: .ref a_one :: .ref a_two :: []))] (some (.int (s_Mo_isSumStart v_kind))) [(h, .inr (12, .int v_p :: .int v_q :: .ref a_table :: .int v_rows :: .ref a_tape :: .int v_cells :: .ref a_budget :: .ref a_spent :: .ref a_text :: .int v_signs :: .ref a_kinds :: .ref a_values :: .int v_tokens :: .ref a_scriptKinds :: .ref a_scriptValues :: .int v_scriptTokens :: .int v_at :: .int v_place :: .int v_kind :: .int v_value :: .int v_depth :: .int v_asked :: .int v_lets :: .int v_questions :: .int v_statements :: .ref a_isTold :: .ref a_letOf :: .ref a_code :: .int v_size :: .ref a_letEnd :: .ref a_letBegin :: .ref a_sort :: .ref a_column :: .ref a_low :: .ref a_high :: .ref a_by :: .ref a_top :: .ref a_begins :: .ref a_ends :: .int v_hasScript :: .int v_scriptLets :: .int v_scriptQuestions :: .ref a_scriptCode :: .ref a_scriptLetBegin :: .ref a_scriptLetEnd :: .ref a_aSort :: .ref a_aColumn :: .ref a_aLow :: .ref a_aHigh :: .ref a_aBy :: .ref a_aTop :: .ref a_aBegin :: .ref a_anEnd :: .ref a_told :: .int v_toldCount :: .ref a_out :: .int v_outs :: .ref a_goals :: .ref a_withs :: .int v_goalCount :: .ref a_pile :: .ref a_letValue :: .ref a_one :: .ref a_two :: []))] := by
  refine Det.of (cc := b_Mo_isSumStart) (maxL := 1) (ret := (some .boolean)) (by decide) rfl (Nat.le_of_ble_eq_true rfl) ?_
  intro p e s m args below meth c A ls hx hb hr hml hown hts hlocks hin hA hK hZ hP hD hS hl
  have hts : ∀ w ∈ wG, w.before args s = true := fun w h => hts w (List.mem_cons_of_mem _ h)
  have hown : s.vm.findClass R_Mo = some m.cls := hown
  have hl : lv_has ls 1 [(0, .ref h)] := hl
  refine lv_aload_n hx hb d_Mo_isSumStart_0 rfl (lv_at hl 0 rfl) ?_
  refine va_get (D := G.1) (ci := 12) (C := R_Mo) (T := F_Mo) (N := 64) (v := .int v_kind) hx hb hts i_Mo hown hK hP 0 rfl rfl 18 (by decide) (hts (.fieldLink R_Mo 188 "PrivateQueriesModel" "kind" "I") k_181) (fun _ h9 => h9) rfl d_Mo_isSumStart_1 ?_
  refine lv_bipush (v := 15) hx hb d_Mo_isSumStart_4 (by decide) ?_
  refine lv_icmp_eq (tgt := 36) hx hb d_Mo_isSumStart_6 (by decide) (fun c1 => ?_) (fun c1 => ?_)
  · skip
    refine lv_iconst (v := 1) hx hb d_Mo_isSumStart_36 (by decide) ?_
    refine lv_goto (tgt := 41) hx hb d_Mo_isSumStart_37 (by decide) ?_
    exact ly_zret hx hb hr hlocks hP hD hS d_Mo_isSumStart_41 (by decide) (by rw [s_Mo_isSumStart, if_pos c1]) rfl
  refine lv_aload_n hx hb d_Mo_isSumStart_9 rfl (lv_at hl 0 rfl) ?_
  refine va_get (D := G.1) (ci := 12) (C := R_Mo) (T := F_Mo) (N := 64) (v := .int v_kind) hx hb hts i_Mo hown hK hP 0 rfl rfl 18 (by decide) (hts (.fieldLink R_Mo 188 "PrivateQueriesModel" "kind" "I") k_181) (fun _ h9 => h9) rfl d_Mo_isSumStart_10 ?_
  refine lv_bipush (v := 13) hx hb d_Mo_isSumStart_13 (by decide) ?_
  refine lv_icmp_eq (tgt := 36) hx hb d_Mo_isSumStart_15 (by decide) (fun c2 => ?_) (fun c2 => ?_)
  · skip
    refine lv_iconst (v := 1) hx hb d_Mo_isSumStart_36 (by decide) ?_
    refine lv_goto (tgt := 41) hx hb d_Mo_isSumStart_37 (by decide) ?_
    exact ly_zret hx hb hr hlocks hP hD hS d_Mo_isSumStart_41 (by decide) (by rw [s_Mo_isSumStart, if_neg c1, if_pos c2]) rfl
  refine lv_aload_n hx hb d_Mo_isSumStart_18 rfl (lv_at hl 0 rfl) ?_
  refine va_get (D := G.1) (ci := 12) (C := R_Mo) (T := F_Mo) (N := 64) (v := .int v_kind) hx hb hts i_Mo hown hK hP 0 rfl rfl 18 (by decide) (hts (.fieldLink R_Mo 188 "PrivateQueriesModel" "kind" "I") k_181) (fun _ h9 => h9) rfl d_Mo_isSumStart_19 ?_
  refine lv_bipush (v := 24) hx hb d_Mo_isSumStart_22 (by decide) ?_
  refine lv_icmp_eq (tgt := 36) hx hb d_Mo_isSumStart_24 (by decide) (fun c3 => ?_) (fun c3 => ?_)
  · skip
    refine lv_iconst (v := 1) hx hb d_Mo_isSumStart_36 (by decide) ?_
    refine lv_goto (tgt := 41) hx hb d_Mo_isSumStart_37 (by decide) ?_
    exact ly_zret hx hb hr hlocks hP hD hS d_Mo_isSumStart_41 (by decide) (by rw [s_Mo_isSumStart, if_neg c1, if_neg c2, if_pos c3]) rfl
  refine lv_aload_n hx hb d_Mo_isSumStart_27 rfl (lv_at hl 0 rfl) ?_
  refine va_get (D := G.1) (ci := 12) (C := R_Mo) (T := F_Mo) (N := 64) (v := .int v_kind) hx hb hts i_Mo hown hK hP 0 rfl rfl 18 (by decide) (hts (.fieldLink R_Mo 188 "PrivateQueriesModel" "kind" "I") k_181) (fun _ h9 => h9) rfl d_Mo_isSumStart_28 ?_
  refine lv_bipush (v := 26) hx hb d_Mo_isSumStart_31 (by decide) ?_
  refine lv_icmp_ne (tgt := 40) hx hb d_Mo_isSumStart_33 (by decide) (fun c4 => ?_) (fun c4 => ?_)
  · skip
    refine lv_iconst (v := 0) hx hb d_Mo_isSumStart_40 (by decide) ?_
    exact ly_zret hx hb hr hlocks hP hD hS d_Mo_isSumStart_41 (by decide) (by rw [s_Mo_isSumStart, if_neg c1, if_neg c2, if_neg c3, if_neg c4]) rfl
  refine lv_iconst (v := 1) hx hb d_Mo_isSumStart_36 (by decide) ?_
  refine lv_goto (tgt := 41) hx hb d_Mo_isSumStart_37 (by decide) ?_
  exact ly_zret hx hb hr hlocks hP hD hS d_Mo_isSumStart_41 (by decide) (by rw [s_Mo_isSumStart, if_neg c1, if_neg c2, if_neg c3, if_pos c4]) rfl
